theorem dX0_init_0 : decode cX0_init 0 = .ok (.aload_n 0, 1) := by decide +kernel
theorem dX0_init_1 : decode cX0_init 1 = .ok (.invokespecial 3, 3) := by decide +kernel
theorem dX0_init_4 : decode cX0_init 4 = .ok (.aload_n 0, 1) := by decide +kernel
theorem dX0_init_5 : decode cX0_init 5 = .ok (.iconst 5, 1) := by decide +kernel
theorem dX0_init_6 : decode cX0_init 6 = .ok (.anewarray 9, 3) := by decide +kernel
theorem dX0_init_9 : decode cX0_init 9 = .ok (.putfield 11, 3) := by decide +kernel
theorem dX0_init_12 : decode cX0_init 12 = .ok (.iconst 0, 1) := by decide +kernel
theorem dX0_init_13 : decode cX0_init 13 = .ok (.istore_n 1, 1) := by decide +kernel
theorem dX0_init_14 : decode cX0_init 14 = .ok (.iload_n 1, 1) := by decide +kernel
theorem dX0_init_15 : decode cX0_init 15 = .ok (.aload_n 0, 1) := by decide +kernel
theorem dX0_init_16 : decode cX0_init 16 = .ok (.getfield 11, 3) := by decide +kernel
theorem dX0_init_19 : decode cX0_init 19 = .ok (.arraylength, 1) := by decide +kernel
theorem dX0_init_20 : decode cX0_init 20 = .ok (.if_icmp .ge 22, 3) := by decide +kernel
theorem dX0_init_23 : decode cX0_init 23 = .ok (.aload_n 0, 1) := by decide +kernel
theorem dX0_init_24 : decode cX0_init 24 = .ok (.getfield 11, 3) := by decide +kernel
theorem dX0_init_27 : decode cX0_init 27 = .ok (.iload_n 1, 1) := by decide +kernel
theorem dX0_init_28 : decode cX0_init 28 = .ok (.new 9, 3) := by decide +kernel
theorem dX0_init_31 : decode cX0_init 31 = .ok (.dup, 1) := by decide +kernel
theorem dX0_init_32 : decode cX0_init 32 = .ok (.invokespecial 17, 3) := by decide +kernel
theorem dX0_init_35 : decode cX0_init 35 = .ok (.aastore, 1) := by decide +kernel
theorem dX0_init_36 : decode cX0_init 36 = .ok (.iinc 1 1, 3) := by decide +kernel
theorem dX0_init_39 : decode cX0_init 39 = .ok (.goto (-25), 3) := by decide +kernel
theorem dX0_init_42 : decode cX0_init 42 = .ok (.return_, 1) := by decide +kernel
theorem dX0_keep_0 : decode cX0_keep 0 = .ok (.aload_n 0, 1) := by decide +kernel
theorem dX0_keep_1 : decode cX0_keep 1 = .ok (.getfield 18, 3) := by decide +kernel
theorem dX0_keep_4 : decode cX0_keep 4 = .ok (.iconst 5, 1) := by decide +kernel
theorem dX0_keep_5 : decode cX0_keep 5 = .ok (.if_icmp .ne 25, 3) := by decide +kernel
theorem dX0_keep_8 : decode cX0_keep 8 = .ok (.aload_n 0, 1) := by decide +kernel
theorem dX0_keep_9 : decode cX0_keep 9 = .ok (.aload_n 0, 1) := by decide +kernel
theorem dX0_keep_10 : decode cX0_keep 10 = .ok (.getfield 22, 3) := by decide +kernel
theorem dX0_keep_13 : decode cX0_keep 13 = .ok (.iconst 1, 1) := by decide +kernel
theorem dX0_keep_14 : decode cX0_keep 14 = .ok (.iadd, 1) := by decide +kernel
theorem dX0_keep_15 : decode cX0_keep 15 = .ok (.iconst 5, 1) := by decide +kernel
theorem dX0_keep_16 : decode cX0_keep 16 = .ok (.irem, 1) := by decide +kernel
theorem dX0_keep_17 : decode cX0_keep 17 = .ok (.putfield 22, 3) := by decide +kernel
theorem dX0_keep_20 : decode cX0_keep 20 = .ok (.aload_n 0, 1) := by decide +kernel
theorem dX0_keep_21 : decode cX0_keep 21 = .ok (.dup, 1) := by decide +kernel
theorem dX0_keep_22 : decode cX0_keep 22 = .ok (.getfield 18, 3) := by decide +kernel
theorem dX0_keep_25 : decode cX0_keep 25 = .ok (.iconst 1, 1) := by decide +kernel
theorem dX0_keep_26 : decode cX0_keep 26 = .ok (.isub, 1) := by decide +kernel
theorem dX0_keep_27 : decode cX0_keep 27 = .ok (.putfield 18, 3) := by decide +kernel
theorem dX0_keep_30 : decode cX0_keep 30 = .ok (.aload_n 0, 1) := by decide +kernel
theorem dX0_keep_31 : decode cX0_keep 31 = .ok (.aload_n 0, 1) := by decide +kernel
theorem dX0_keep_32 : decode cX0_keep 32 = .ok (.getfield 18, 3) := by decide +kernel
theorem dX0_keep_35 : decode cX0_keep 35 = .ok (.invokevirtual 25, 3) := by decide +kernel
theorem dX0_keep_38 : decode cX0_keep 38 = .ok (.astore_n 2, 1) := by decide +kernel
theorem dX0_keep_39 : decode cX0_keep 39 = .ok (.aload_n 2, 1) := by decide +kernel
theorem dX0_keep_40 : decode cX0_keep 40 = .ok (.ifnull 18, 3) := by decide +kernel
theorem dX0_keep_43 : decode cX0_keep 43 = .ok (.aload_n 2, 1) := by decide +kernel
theorem dX0_keep_44 : decode cX0_keep 44 = .ok (.aload_n 1, 1) := by decide +kernel
theorem dX0_keep_45 : decode cX0_keep 45 = .ok (.invokevirtual 29, 3) := by decide +kernel
theorem dX0_keep_48 : decode cX0_keep 48 = .ok (.aload_n 0, 1) := by decide +kernel
theorem dX0_keep_49 : decode cX0_keep 49 = .ok (.dup, 1) := by decide +kernel
theorem dX0_keep_50 : decode cX0_keep 50 = .ok (.getfield 18, 3) := by decide +kernel
theorem dX0_keep_53 : decode cX0_keep 53 = .ok (.iconst 1, 1) := by decide +kernel
theorem dX0_keep_54 : decode cX0_keep 54 = .ok (.iadd, 1) := by decide +kernel
theorem dX0_keep_55 : decode cX0_keep 55 = .ok (.putfield 18, 3) := by decide +kernel
theorem dX0_keep_58 : decode cX0_keep 58 = .ok (.return_, 1) := by decide +kernel
theorem dX0_restore_0 : decode cX0_restore 0 = .ok (.aload_n 0, 1) := by decide +kernel
theorem dX0_restore_1 : decode cX0_restore 1 = .ok (.aload_n 0, 1) := by decide +kernel
theorem dX0_restore_2 : decode cX0_restore 2 = .ok (.getfield 18, 3) := by decide +kernel
theorem dX0_restore_5 : decode cX0_restore 5 = .ok (.iconst 1, 1) := by decide +kernel
theorem dX0_restore_6 : decode cX0_restore 6 = .ok (.isub, 1) := by decide +kernel
theorem dX0_restore_7 : decode cX0_restore 7 = .ok (.invokevirtual 25, 3) := by decide +kernel
theorem dX0_restore_10 : decode cX0_restore 10 = .ok (.astore_n 2, 1) := by decide +kernel
theorem dX0_restore_11 : decode cX0_restore 11 = .ok (.aload_n 2, 1) := by decide +kernel
theorem dX0_restore_12 : decode cX0_restore 12 = .ok (.ifnull 18, 3) := by decide +kernel
theorem dX0_restore_15 : decode cX0_restore 15 = .ok (.aload_n 1, 1) := by decide +kernel
theorem dX0_restore_16 : decode cX0_restore 16 = .ok (.aload_n 2, 1) := by decide +kernel
theorem dX0_restore_17 : decode cX0_restore 17 = .ok (.invokevirtual 29, 3) := by decide +kernel
theorem dX0_restore_20 : decode cX0_restore 20 = .ok (.aload_n 0, 1) := by decide +kernel
theorem dX0_restore_21 : decode cX0_restore 21 = .ok (.dup, 1) := by decide +kernel
theorem dX0_restore_22 : decode cX0_restore 22 = .ok (.getfield 18, 3) := by decide +kernel
theorem dX0_restore_25 : decode cX0_restore 25 = .ok (.iconst 1, 1) := by decide +kernel
theorem dX0_restore_26 : decode cX0_restore 26 = .ok (.isub, 1) := by decide +kernel
theorem dX0_restore_27 : decode cX0_restore 27 = .ok (.putfield 18, 3) := by decide +kernel
theorem dX0_restore_30 : decode cX0_restore 30 = .ok (.return_, 1) := by decide +kernel
theorem dX0_stateAt_0 : decode cX0_stateAt 0 = .ok (.aload_n 0, 1) := by decide +kernel
theorem dX0_stateAt_1 : decode cX0_stateAt 1 = .ok (.getfield 22, 3) := by decide +kernel
theorem dX0_stateAt_4 : decode cX0_stateAt 4 = .ok (.iload_n 1, 1) := by decide +kernel
theorem dX0_stateAt_5 : decode cX0_stateAt 5 = .ok (.iadd, 1) := by decide +kernel
theorem dX0_stateAt_6 : decode cX0_stateAt 6 = .ok (.iconst 5, 1) := by decide +kernel
theorem dX0_stateAt_7 : decode cX0_stateAt 7 = .ok (.irem, 1) := by decide +kernel
theorem dX0_stateAt_8 : decode cX0_stateAt 8 = .ok (.istore_n 2, 1) := by decide +kernel
theorem dX0_stateAt_9 : decode cX0_stateAt 9 = .ok (.iload_n 2, 1) := by decide +kernel
theorem dX0_stateAt_10 : decode cX0_stateAt 10 = .ok (.ifCond .lt 21, 3) := by decide +kernel
theorem dX0_stateAt_13 : decode cX0_stateAt 13 = .ok (.iload_n 2, 1) := by decide +kernel
theorem dX0_stateAt_14 : decode cX0_stateAt 14 = .ok (.aload_n 0, 1) := by decide +kernel
theorem dX0_stateAt_15 : decode cX0_stateAt 15 = .ok (.getfield 11, 3) := by decide +kernel
theorem dX0_stateAt_18 : decode cX0_stateAt 18 = .ok (.arraylength, 1) := by decide +kernel
theorem dX0_stateAt_19 : decode cX0_stateAt 19 = .ok (.if_icmp .ge 12, 3) := by decide +kernel
theorem dX0_stateAt_22 : decode cX0_stateAt 22 = .ok (.aload_n 0, 1) := by decide +kernel
theorem dX0_stateAt_23 : decode cX0_stateAt 23 = .ok (.getfield 11, 3) := by decide +kernel
theorem dX0_stateAt_26 : decode cX0_stateAt 26 = .ok (.iload_n 2, 1) := by decide +kernel
theorem dX0_stateAt_27 : decode cX0_stateAt 27 = .ok (.aaload, 1) := by decide +kernel
theorem dX0_stateAt_28 : decode cX0_stateAt 28 = .ok (.goto 4, 3) := by decide +kernel
theorem dX0_stateAt_31 : decode cX0_stateAt 31 = .ok (.aconst_null, 1) := by decide +kernel
theorem dX0_stateAt_32 : decode cX0_stateAt 32 = .ok (.areturn, 1) := by decide +kernel
theorem dX1_init_0 : decode cX1_init 0 = .ok (.aload_n 0, 1) := by decide +kernel
theorem dX1_init_1 : decode cX1_init 1 = .ok (.invokespecial 3, 3) := by decide +kernel
theorem dX1_init_4 : decode cX1_init 4 = .ok (.aload_n 0, 1) := by decide +kernel
theorem dX1_init_5 : decode cX1_init 5 = .ok (.new 9, 3) := by decide +kernel
theorem dX1_init_8 : decode cX1_init 8 = .ok (.dup, 1) := by decide +kernel
theorem dX1_init_9 : decode cX1_init 9 = .ok (.bipush 20, 2) := by decide +kernel
theorem dX1_init_11 : decode cX1_init 11 = .ok (.invokespecial 11, 3) := by decide +kernel
theorem dX1_init_14 : decode cX1_init 14 = .ok (.putfield 14, 3) := by decide +kernel
theorem dX1_init_17 : decode cX1_init 17 = .ok (.aload_n 0, 1) := by decide +kernel
theorem dX1_init_18 : decode cX1_init 18 = .ok (.new 9, 3) := by decide +kernel
theorem dX1_init_21 : decode cX1_init 21 = .ok (.dup, 1) := by decide +kernel
theorem dX1_init_22 : decode cX1_init 22 = .ok (.bipush 20, 2) := by decide +kernel
theorem dX1_init_24 : decode cX1_init 24 = .ok (.invokespecial 11, 3) := by decide +kernel
theorem dX1_init_27 : decode cX1_init 27 = .ok (.putfield 20, 3) := by decide +kernel
theorem dX1_init_30 : decode cX1_init 30 = .ok (.aload_n 0, 1) := by decide +kernel
theorem dX1_init_31 : decode cX1_init 31 = .ok (.new 9, 3) := by decide +kernel
theorem dX1_init_34 : decode cX1_init 34 = .ok (.dup, 1) := by decide +kernel
theorem dX1_init_35 : decode cX1_init 35 = .ok (.bipush 20, 2) := by decide +kernel
theorem dX1_init_37 : decode cX1_init 37 = .ok (.invokespecial 11, 3) := by decide +kernel
theorem dX1_init_40 : decode cX1_init 40 = .ok (.putfield 23, 3) := by decide +kernel
theorem dX1_init_43 : decode cX1_init 43 = .ok (.aload_n 0, 1) := by decide +kernel
theorem dX1_init_44 : decode cX1_init 44 = .ok (.new 9, 3) := by decide +kernel
theorem dX1_init_47 : decode cX1_init 47 = .ok (.dup, 1) := by decide +kernel
theorem dX1_init_48 : decode cX1_init 48 = .ok (.bipush 20, 2) := by decide +kernel
theorem dX1_init_50 : decode cX1_init 50 = .ok (.invokespecial 11, 3) := by decide +kernel
theorem dX1_init_53 : decode cX1_init 53 = .ok (.putfield 26, 3) := by decide +kernel
theorem dX1_init_56 : decode cX1_init 56 = .ok (.aload_n 0, 1) := by decide +kernel
theorem dX1_init_57 : decode cX1_init 57 = .ok (.new 9, 3) := by decide +kernel
theorem dX1_init_60 : decode cX1_init 60 = .ok (.dup, 1) := by decide +kernel
theorem dX1_init_61 : decode cX1_init 61 = .ok (.bipush 20, 2) := by decide +kernel
theorem dX1_init_63 : decode cX1_init 63 = .ok (.invokespecial 11, 3) := by decide +kernel
theorem dX1_init_66 : decode cX1_init 66 = .ok (.putfield 29, 3) := by decide +kernel
theorem dX1_init_69 : decode cX1_init 69 = .ok (.return_, 1) := by decide +kernel
theorem dX1_lay_0 : decode cX1_lay 0 = .ok (.aload_n 0, 1) := by decide +kernel
theorem dX1_lay_1 : decode cX1_lay 1 = .ok (.aload_n 2, 1) := by decide +kernel
theorem dX1_lay_2 : decode cX1_lay 2 = .ok (.getfield 32, 3) := by decide +kernel
theorem dX1_lay_5 : decode cX1_lay 5 = .ok (.putfield 38, 3) := by decide +kernel
theorem dX1_lay_8 : decode cX1_lay 8 = .ok (.iconst 0, 1) := by decide +kernel
theorem dX1_lay_9 : decode cX1_lay 9 = .ok (.istore 4, 2) := by decide +kernel
theorem dX1_lay_11 : decode cX1_lay 11 = .ok (.iload 4, 2) := by decide +kernel
theorem dX1_lay_13 : decode cX1_lay 13 = .ok (.aload_n 0, 1) := by decide +kernel
theorem dX1_lay_14 : decode cX1_lay 14 = .ok (.getfield 38, 3) := by decide +kernel
theorem dX1_lay_17 : decode cX1_lay 17 = .ok (.if_icmp .ge 32, 3) := by decide +kernel
theorem dX1_lay_20 : decode cX1_lay 20 = .ok (.aload_n 0, 1) := by decide +kernel
theorem dX1_lay_21 : decode cX1_lay 21 = .ok (.getfield 14, 3) := by decide +kernel
theorem dX1_lay_24 : decode cX1_lay 24 = .ok (.iload 4, 2) := by decide +kernel
theorem dX1_lay_26 : decode cX1_lay 26 = .ok (.aload_n 1, 1) := by decide +kernel
theorem dX1_lay_27 : decode cX1_lay 27 = .ok (.aload_n 2, 1) := by decide +kernel
theorem dX1_lay_28 : decode cX1_lay 28 = .ok (.getfield 41, 3) := by decide +kernel
theorem dX1_lay_31 : decode cX1_lay 31 = .ok (.iload 4, 2) := by decide +kernel
theorem dX1_lay_33 : decode cX1_lay 33 = .ok (.invokevirtual 44, 3) := by decide +kernel
theorem dX1_lay_36 : decode cX1_lay 36 = .ok (.iconst 0, 1) := by decide +kernel
theorem dX1_lay_37 : decode cX1_lay 37 = .ok (.invokevirtual 48, 3) := by decide +kernel
theorem dX1_lay_40 : decode cX1_lay 40 = .ok (.invokevirtual 54, 3) := by decide +kernel
theorem dX1_lay_43 : decode cX1_lay 43 = .ok (.iinc 4 1, 3) := by decide +kernel
theorem dX1_lay_46 : decode cX1_lay 46 = .ok (.goto (-35), 3) := by decide +kernel
theorem dX1_lay_49 : decode cX1_lay 49 = .ok (.aload_n 0, 1) := by decide +kernel
theorem dX1_lay_50 : decode cX1_lay 50 = .ok (.aload_n 0, 1) := by decide +kernel
theorem dX1_lay_51 : decode cX1_lay 51 = .ok (.iconst 0, 1) := by decide +kernel
theorem dX1_lay_52 : decode cX1_lay 52 = .ok (.iload_n 3, 1) := by decide +kernel
theorem dX1_lay_53 : decode cX1_lay 53 = .ok (.invokevirtual 58, 3) := by decide +kernel
theorem dX1_lay_56 : decode cX1_lay 56 = .ok (.putfield 61, 3) := by decide +kernel
theorem dX1_lay_59 : decode cX1_lay 59 = .ok (.aload_n 0, 1) := by decide +kernel
theorem dX1_lay_60 : decode cX1_lay 60 = .ok (.iload_n 3, 1) := by decide +kernel
theorem dX1_lay_61 : decode cX1_lay 61 = .ok (.invokevirtual 64, 3) := by decide +kernel
theorem dX1_lay_64 : decode cX1_lay 64 = .ok (.istore 4, 2) := by decide +kernel
theorem dX1_lay_66 : decode cX1_lay 66 = .ok (.iconst 0, 1) := by decide +kernel
theorem dX1_lay_67 : decode cX1_lay 67 = .ok (.istore 5, 2) := by decide +kernel
theorem dX1_lay_69 : decode cX1_lay 69 = .ok (.iconst 0, 1) := by decide +kernel
theorem dX1_lay_70 : decode cX1_lay 70 = .ok (.istore 6, 2) := by decide +kernel
theorem dX1_lay_72 : decode cX1_lay 72 = .ok (.iload 6, 2) := by decide +kernel
theorem dX1_lay_74 : decode cX1_lay 74 = .ok (.aload_n 0, 1) := by decide +kernel
theorem dX1_lay_75 : decode cX1_lay 75 = .ok (.getfield 61, 3) := by decide +kernel
theorem dX1_lay_78 : decode cX1_lay 78 = .ok (.if_icmp .ge 42, 3) := by decide +kernel
theorem dX1_lay_81 : decode cX1_lay 81 = .ok (.aload_n 0, 1) := by decide +kernel
theorem dX1_lay_82 : decode cX1_lay 82 = .ok (.iload 5, 2) := by decide +kernel
theorem dX1_lay_84 : decode cX1_lay 84 = .ok (.aload_n 0, 1) := by decide +kernel
theorem dX1_lay_85 : decode cX1_lay 85 = .ok (.getfield 61, 3) := by decide +kernel
theorem dX1_lay_88 : decode cX1_lay 88 = .ok (.iload 6, 2) := by decide +kernel
theorem dX1_lay_90 : decode cX1_lay 90 = .ok (.isub, 1) := by decide +kernel
theorem dX1_lay_91 : decode cX1_lay 91 = .ok (.iconst 1, 1) := by decide +kernel
theorem dX1_lay_92 : decode cX1_lay 92 = .ok (.isub, 1) := by decide +kernel
theorem dX1_lay_93 : decode cX1_lay 93 = .ok (.iload 4, 2) := by decide +kernel
theorem dX1_lay_95 : decode cX1_lay 95 = .ok (.invokevirtual 67, 3) := by decide +kernel
theorem dX1_lay_98 : decode cX1_lay 98 = .ok (.istore 7, 2) := by decide +kernel
theorem dX1_lay_100 : decode cX1_lay 100 = .ok (.aload_n 0, 1) := by decide +kernel
theorem dX1_lay_101 : decode cX1_lay 101 = .ok (.iload 6, 2) := by decide +kernel
theorem dX1_lay_103 : decode cX1_lay 103 = .ok (.iload 5, 2) := by decide +kernel
theorem dX1_lay_105 : decode cX1_lay 105 = .ok (.iload 7, 2) := by decide +kernel
theorem dX1_lay_107 : decode cX1_lay 107 = .ok (.invokevirtual 71, 3) := by decide +kernel
theorem dX1_lay_110 : decode cX1_lay 110 = .ok (.iload 7, 2) := by decide +kernel
theorem dX1_lay_112 : decode cX1_lay 112 = .ok (.istore 5, 2) := by decide +kernel
theorem dX1_lay_114 : decode cX1_lay 114 = .ok (.iinc 6 1, 3) := by decide +kernel
theorem dX1_lay_117 : decode cX1_lay 117 = .ok (.goto (-45), 3) := by decide +kernel
theorem dX1_lay_120 : decode cX1_lay 120 = .ok (.return_, 1) := by decide +kernel
theorem dX1_pagesFrom_0 : decode cX1_pagesFrom 0 = .ok (.iconst 0, 1) := by decide +kernel
theorem dX1_pagesFrom_1 : decode cX1_pagesFrom 1 = .ok (.istore_n 3, 1) := by decide +kernel
theorem dX1_pagesFrom_2 : decode cX1_pagesFrom 2 = .ok (.iconst 0, 1) := by decide +kernel
theorem dX1_pagesFrom_3 : decode cX1_pagesFrom 3 = .ok (.istore 4, 2) := by decide +kernel
theorem dX1_pagesFrom_5 : decode cX1_pagesFrom 5 = .ok (.iload_n 1, 1) := by decide +kernel
theorem dX1_pagesFrom_6 : decode cX1_pagesFrom 6 = .ok (.istore 5, 2) := by decide +kernel
theorem dX1_pagesFrom_8 : decode cX1_pagesFrom 8 = .ok (.iload 5, 2) := by decide +kernel
theorem dX1_pagesFrom_10 : decode cX1_pagesFrom 10 = .ok (.aload_n 0, 1) := by decide +kernel
theorem dX1_pagesFrom_11 : decode cX1_pagesFrom 11 = .ok (.getfield 38, 3) := by decide +kernel
theorem dX1_pagesFrom_14 : decode cX1_pagesFrom 14 = .ok (.if_icmp .ge 40, 3) := by decide +kernel
theorem dX1_pagesFrom_17 : decode cX1_pagesFrom 17 = .ok (.aload_n 0, 1) := by decide +kernel
theorem dX1_pagesFrom_18 : decode cX1_pagesFrom 18 = .ok (.getfield 14, 3) := by decide +kernel
theorem dX1_pagesFrom_21 : decode cX1_pagesFrom 21 = .ok (.iload 5, 2) := by decide +kernel
theorem dX1_pagesFrom_23 : decode cX1_pagesFrom 23 = .ok (.invokevirtual 44, 3) := by decide +kernel
theorem dX1_pagesFrom_26 : decode cX1_pagesFrom 26 = .ok (.istore 6, 2) := by decide +kernel
theorem dX1_pagesFrom_28 : decode cX1_pagesFrom 28 = .ok (.iload 6, 2) := by decide +kernel
theorem dX1_pagesFrom_30 : decode cX1_pagesFrom 30 = .ok (.iload 4, 2) := by decide +kernel
theorem dX1_pagesFrom_32 : decode cX1_pagesFrom 32 = .ok (.if_icmp .le 9, 3) := by decide +kernel
theorem dX1_pagesFrom_35 : decode cX1_pagesFrom 35 = .ok (.iinc 3 1, 3) := by decide +kernel
theorem dX1_pagesFrom_38 : decode cX1_pagesFrom 38 = .ok (.iload_n 2, 1) := by decide +kernel
theorem dX1_pagesFrom_39 : decode cX1_pagesFrom 39 = .ok (.istore 4, 2) := by decide +kernel
theorem dX1_pagesFrom_41 : decode cX1_pagesFrom 41 = .ok (.iload 4, 2) := by decide +kernel
theorem dX1_pagesFrom_43 : decode cX1_pagesFrom 43 = .ok (.iload 6, 2) := by decide +kernel
theorem dX1_pagesFrom_45 : decode cX1_pagesFrom 45 = .ok (.isub, 1) := by decide +kernel
theorem dX1_pagesFrom_46 : decode cX1_pagesFrom 46 = .ok (.istore 4, 2) := by decide +kernel
theorem dX1_pagesFrom_48 : decode cX1_pagesFrom 48 = .ok (.iinc 5 1, 3) := by decide +kernel
theorem dX1_pagesFrom_51 : decode cX1_pagesFrom 51 = .ok (.goto (-43), 3) := by decide +kernel
theorem dX1_pagesFrom_54 : decode cX1_pagesFrom 54 = .ok (.iload_n 3, 1) := by decide +kernel
theorem dX1_pagesFrom_55 : decode cX1_pagesFrom 55 = .ok (.ireturn, 1) := by decide +kernel
theorem dX1_lowestLimit_0 : decode cX1_lowestLimit 0 = .ok (.iconst 0, 1) := by decide +kernel
theorem dX1_lowestLimit_1 : decode cX1_lowestLimit 1 = .ok (.istore_n 2, 1) := by decide +kernel
theorem dX1_lowestLimit_2 : decode cX1_lowestLimit 2 = .ok (.iconst 0, 1) := by decide +kernel
theorem dX1_lowestLimit_3 : decode cX1_lowestLimit 3 = .ok (.istore_n 3, 1) := by decide +kernel
theorem dX1_lowestLimit_4 : decode cX1_lowestLimit 4 = .ok (.iload_n 3, 1) := by decide +kernel
theorem dX1_lowestLimit_5 : decode cX1_lowestLimit 5 = .ok (.aload_n 0, 1) := by decide +kernel
theorem dX1_lowestLimit_6 : decode cX1_lowestLimit 6 = .ok (.getfield 38, 3) := by decide +kernel
theorem dX1_lowestLimit_9 : decode cX1_lowestLimit 9 = .ok (.if_icmp .ge 22, 3) := by decide +kernel
theorem dX1_lowestLimit_12 : decode cX1_lowestLimit 12 = .ok (.iload_n 2, 1) := by decide +kernel
theorem dX1_lowestLimit_13 : decode cX1_lowestLimit 13 = .ok (.aload_n 0, 1) := by decide +kernel
theorem dX1_lowestLimit_14 : decode cX1_lowestLimit 14 = .ok (.getfield 14, 3) := by decide +kernel
theorem dX1_lowestLimit_17 : decode cX1_lowestLimit 17 = .ok (.iload_n 3, 1) := by decide +kernel
theorem dX1_lowestLimit_18 : decode cX1_lowestLimit 18 = .ok (.invokevirtual 44, 3) := by decide +kernel
theorem dX1_lowestLimit_21 : decode cX1_lowestLimit 21 = .ok (.invokestatic 75, 3) := by decide +kernel
theorem dX1_lowestLimit_24 : decode cX1_lowestLimit 24 = .ok (.istore_n 2, 1) := by decide +kernel
theorem dX1_lowestLimit_25 : decode cX1_lowestLimit 25 = .ok (.iinc 3 1, 3) := by decide +kernel
theorem dX1_lowestLimit_28 : decode cX1_lowestLimit 28 = .ok (.goto (-24), 3) := by decide +kernel
theorem dX1_lowestLimit_31 : decode cX1_lowestLimit 31 = .ok (.iload_n 2, 1) := by decide +kernel
theorem dX1_lowestLimit_32 : decode cX1_lowestLimit 32 = .ok (.iload_n 1, 1) := by decide +kernel
theorem dX1_lowestLimit_33 : decode cX1_lowestLimit 33 = .ok (.if_icmp .ge 22, 3) := by decide +kernel
theorem dX1_lowestLimit_36 : decode cX1_lowestLimit 36 = .ok (.aload_n 0, 1) := by decide +kernel
theorem dX1_lowestLimit_37 : decode cX1_lowestLimit 37 = .ok (.iconst 0, 1) := by decide +kernel
theorem dX1_lowestLimit_38 : decode cX1_lowestLimit 38 = .ok (.iload_n 2, 1) := by decide +kernel
theorem dX1_lowestLimit_39 : decode cX1_lowestLimit 39 = .ok (.invokevirtual 58, 3) := by decide +kernel
theorem dX1_lowestLimit_42 : decode cX1_lowestLimit 42 = .ok (.aload_n 0, 1) := by decide +kernel
theorem dX1_lowestLimit_43 : decode cX1_lowestLimit 43 = .ok (.getfield 61, 3) := by decide +kernel
theorem dX1_lowestLimit_46 : decode cX1_lowestLimit 46 = .ok (.if_icmp .le 9, 3) := by decide +kernel
theorem dX1_lowestLimit_49 : decode cX1_lowestLimit 49 = .ok (.iinc 2 1, 3) := by decide +kernel
theorem dX1_lowestLimit_52 : decode cX1_lowestLimit 52 = .ok (.goto (-21), 3) := by decide +kernel
theorem dX1_lowestLimit_55 : decode cX1_lowestLimit 55 = .ok (.iload_n 2, 1) := by decide +kernel
theorem dX1_lowestLimit_56 : decode cX1_lowestLimit 56 = .ok (.ireturn, 1) := by decide +kernel
theorem dX1_earliestEnd_0 : decode cX1_earliestEnd 0 = .ok (.iload_n 1, 1) := by decide +kernel
theorem dX1_earliestEnd_1 : decode cX1_earliestEnd 1 = .ok (.iconst 1, 1) := by decide +kernel
theorem dX1_earliestEnd_2 : decode cX1_earliestEnd 2 = .ok (.iadd, 1) := by decide +kernel
theorem dX1_earliestEnd_3 : decode cX1_earliestEnd 3 = .ok (.istore 4, 2) := by decide +kernel
theorem dX1_earliestEnd_5 : decode cX1_earliestEnd 5 = .ok (.iload 4, 2) := by decide +kernel
theorem dX1_earliestEnd_7 : decode cX1_earliestEnd 7 = .ok (.aload_n 0, 1) := by decide +kernel
theorem dX1_earliestEnd_8 : decode cX1_earliestEnd 8 = .ok (.getfield 38, 3) := by decide +kernel
theorem dX1_earliestEnd_11 : decode cX1_earliestEnd 11 = .ok (.if_icmp .ge 20, 3) := by decide +kernel
theorem dX1_earliestEnd_14 : decode cX1_earliestEnd 14 = .ok (.aload_n 0, 1) := by decide +kernel
theorem dX1_earliestEnd_15 : decode cX1_earliestEnd 15 = .ok (.iload 4, 2) := by decide +kernel
theorem dX1_earliestEnd_17 : decode cX1_earliestEnd 17 = .ok (.iload_n 3, 1) := by decide +kernel
theorem dX1_earliestEnd_18 : decode cX1_earliestEnd 18 = .ok (.invokevirtual 58, 3) := by decide +kernel
theorem dX1_earliestEnd_21 : decode cX1_earliestEnd 21 = .ok (.iload_n 2, 1) := by decide +kernel
theorem dX1_earliestEnd_22 : decode cX1_earliestEnd 22 = .ok (.if_icmp .le 9, 3) := by decide +kernel
theorem dX1_earliestEnd_25 : decode cX1_earliestEnd 25 = .ok (.iinc 4 1, 3) := by decide +kernel
theorem dX1_earliestEnd_28 : decode cX1_earliestEnd 28 = .ok (.goto (-23), 3) := by decide +kernel
theorem dX1_earliestEnd_31 : decode cX1_earliestEnd 31 = .ok (.iload 4, 2) := by decide +kernel
theorem dX1_earliestEnd_33 : decode cX1_earliestEnd 33 = .ok (.ireturn, 1) := by decide +kernel
theorem dX1_fill_0 : decode cX1_fill 0 = .ok (.iconst 0, 1) := by decide +kernel
theorem dX1_fill_1 : decode cX1_fill 1 = .ok (.istore 4, 2) := by decide +kernel
theorem dX1_fill_3 : decode cX1_fill 3 = .ok (.iload_n 2, 1) := by decide +kernel
theorem dX1_fill_4 : decode cX1_fill 4 = .ok (.istore 5, 2) := by decide +kernel
theorem dX1_fill_6 : decode cX1_fill 6 = .ok (.iload 5, 2) := by decide +kernel
theorem dX1_fill_8 : decode cX1_fill 8 = .ok (.iload_n 3, 1) := by decide +kernel
theorem dX1_fill_9 : decode cX1_fill 9 = .ok (.if_icmp .ge 44, 3) := by decide +kernel
theorem dX1_fill_12 : decode cX1_fill 12 = .ok (.aload_n 0, 1) := by decide +kernel
theorem dX1_fill_13 : decode cX1_fill 13 = .ok (.getfield 20, 3) := by decide +kernel
theorem dX1_fill_16 : decode cX1_fill 16 = .ok (.iload 5, 2) := by decide +kernel
theorem dX1_fill_18 : decode cX1_fill 18 = .ok (.iload_n 1, 1) := by decide +kernel
theorem dX1_fill_19 : decode cX1_fill 19 = .ok (.invokevirtual 54, 3) := by decide +kernel
theorem dX1_fill_22 : decode cX1_fill 22 = .ok (.aload_n 0, 1) := by decide +kernel
theorem dX1_fill_23 : decode cX1_fill 23 = .ok (.getfield 23, 3) := by decide +kernel
theorem dX1_fill_26 : decode cX1_fill 26 = .ok (.iload 5, 2) := by decide +kernel
theorem dX1_fill_28 : decode cX1_fill 28 = .ok (.iload 4, 2) := by decide +kernel
theorem dX1_fill_30 : decode cX1_fill 30 = .ok (.invokevirtual 54, 3) := by decide +kernel
theorem dX1_fill_33 : decode cX1_fill 33 = .ok (.iload 4, 2) := by decide +kernel
theorem dX1_fill_35 : decode cX1_fill 35 = .ok (.aload_n 0, 1) := by decide +kernel
theorem dX1_fill_36 : decode cX1_fill 36 = .ok (.getfield 14, 3) := by decide +kernel
theorem dX1_fill_39 : decode cX1_fill 39 = .ok (.iload 5, 2) := by decide +kernel
theorem dX1_fill_41 : decode cX1_fill 41 = .ok (.invokevirtual 44, 3) := by decide +kernel
theorem dX1_fill_44 : decode cX1_fill 44 = .ok (.iadd, 1) := by decide +kernel
theorem dX1_fill_45 : decode cX1_fill 45 = .ok (.istore 4, 2) := by decide +kernel
theorem dX1_fill_47 : decode cX1_fill 47 = .ok (.iinc 5 1, 3) := by decide +kernel
theorem dX1_fill_50 : decode cX1_fill 50 = .ok (.goto (-44), 3) := by decide +kernel
theorem dX1_fill_53 : decode cX1_fill 53 = .ok (.aload_n 0, 1) := by decide +kernel
theorem dX1_fill_54 : decode cX1_fill 54 = .ok (.getfield 26, 3) := by decide +kernel
theorem dX1_fill_57 : decode cX1_fill 57 = .ok (.iload_n 1, 1) := by decide +kernel
theorem dX1_fill_58 : decode cX1_fill 58 = .ok (.iload_n 3, 1) := by decide +kernel
theorem dX1_fill_59 : decode cX1_fill 59 = .ok (.iload_n 2, 1) := by decide +kernel
theorem dX1_fill_60 : decode cX1_fill 60 = .ok (.isub, 1) := by decide +kernel
theorem dX1_fill_61 : decode cX1_fill 61 = .ok (.invokevirtual 54, 3) := by decide +kernel
theorem dX1_fill_64 : decode cX1_fill 64 = .ok (.aload_n 0, 1) := by decide +kernel
theorem dX1_fill_65 : decode cX1_fill 65 = .ok (.getfield 29, 3) := by decide +kernel
theorem dX1_fill_68 : decode cX1_fill 68 = .ok (.iload_n 1, 1) := by decide +kernel
theorem dX1_fill_69 : decode cX1_fill 69 = .ok (.iload 4, 2) := by decide +kernel
theorem dX1_fill_71 : decode cX1_fill 71 = .ok (.invokevirtual 54, 3) := by decide +kernel
theorem dX1_fill_74 : decode cX1_fill 74 = .ok (.return_, 1) := by decide +kernel
theorem dX2_init_0 : decode cX2_init 0 = .ok (.aload_n 0, 1) := by decide +kernel
theorem dX2_init_1 : decode cX2_init 1 = .ok (.invokespecial 1, 3) := by decide +kernel
theorem dX2_init_4 : decode cX2_init 4 = .ok (.return_, 1) := by decide +kernel
theorem dX2_begin_0 : decode cX2_begin 0 = .ok (.aload_n 0, 1) := by decide +kernel
theorem dX2_begin_1 : decode cX2_begin 1 = .ok (.iload_n 1, 1) := by decide +kernel
theorem dX2_begin_2 : decode cX2_begin 2 = .ok (.putfield 7, 3) := by decide +kernel
theorem dX2_begin_5 : decode cX2_begin 5 = .ok (.return_, 1) := by decide +kernel
theorem dX2_next_0 : decode cX2_next 0 = .ok (.aload_n 0, 1) := by decide +kernel
theorem dX2_next_1 : decode cX2_next 1 = .ok (.ldc 13, 2) := by decide +kernel
theorem dX2_next_3 : decode cX2_next 3 = .ok (.aload_n 0, 1) := by decide +kernel
theorem dX2_next_4 : decode cX2_next 4 = .ok (.getfield 7, 3) := by decide +kernel
theorem dX2_next_7 : decode cX2_next 7 = .ok (.imul, 1) := by decide +kernel
theorem dX2_next_8 : decode cX2_next 8 = .ok (.sipush 12345, 3) := by decide +kernel
theorem dX2_next_11 : decode cX2_next 11 = .ok (.iadd, 1) := by decide +kernel
theorem dX2_next_12 : decode cX2_next 12 = .ok (.putfield 7, 3) := by decide +kernel
theorem dX2_next_15 : decode cX2_next 15 = .ok (.iload_n 1, 1) := by decide +kernel
theorem dX2_next_16 : decode cX2_next 16 = .ok (.ifCond .le 15, 3) := by decide +kernel
theorem dX2_next_19 : decode cX2_next 19 = .ok (.aload_n 0, 1) := by decide +kernel
theorem dX2_next_20 : decode cX2_next 20 = .ok (.getfield 7, 3) := by decide +kernel
theorem dX2_next_23 : decode cX2_next 23 = .ok (.bipush 16, 2) := by decide +kernel
theorem dX2_next_25 : decode cX2_next 25 = .ok (.iushr, 1) := by decide +kernel
theorem dX2_next_26 : decode cX2_next 26 = .ok (.iload_n 1, 1) := by decide +kernel
theorem dX2_next_27 : decode cX2_next 27 = .ok (.irem, 1) := by decide +kernel
theorem dX2_next_28 : decode cX2_next 28 = .ok (.goto 4, 3) := by decide +kernel
theorem dX2_next_31 : decode cX2_next 31 = .ok (.iconst 0, 1) := by decide +kernel
theorem dX2_next_32 : decode cX2_next 32 = .ok (.ireturn, 1) := by decide +kernel
theorem dX2_mix_0 : decode cX2_mix 0 = .ok (.iload_n 2, 1) := by decide +kernel
theorem dX2_mix_1 : decode cX2_mix 1 = .ok (.iconst 1, 1) := by decide +kernel
theorem dX2_mix_2 : decode cX2_mix 2 = .ok (.isub, 1) := by decide +kernel
theorem dX2_mix_3 : decode cX2_mix 3 = .ok (.istore_n 3, 1) := by decide +kernel
theorem dX2_mix_4 : decode cX2_mix 4 = .ok (.iload_n 3, 1) := by decide +kernel
theorem dX2_mix_5 : decode cX2_mix 5 = .ok (.iconst 1, 1) := by decide +kernel
theorem dX2_mix_6 : decode cX2_mix 6 = .ok (.if_icmp .lt 21, 3) := by decide +kernel
theorem dX2_mix_9 : decode cX2_mix 9 = .ok (.aload_n 1, 1) := by decide +kernel
theorem dX2_mix_10 : decode cX2_mix 10 = .ok (.iload_n 3, 1) := by decide +kernel
theorem dX2_mix_11 : decode cX2_mix 11 = .ok (.aload_n 0, 1) := by decide +kernel
theorem dX2_mix_12 : decode cX2_mix 12 = .ok (.iload_n 3, 1) := by decide +kernel
theorem dX2_mix_13 : decode cX2_mix 13 = .ok (.iconst 1, 1) := by decide +kernel
theorem dX2_mix_14 : decode cX2_mix 14 = .ok (.iadd, 1) := by decide +kernel
theorem dX2_mix_15 : decode cX2_mix 15 = .ok (.invokevirtual 14, 3) := by decide +kernel
theorem dX2_mix_18 : decode cX2_mix 18 = .ok (.invokevirtual 18, 3) := by decide +kernel
theorem dX2_mix_21 : decode cX2_mix 21 = .ok (.iinc 3 (-1), 3) := by decide +kernel
theorem dX2_mix_24 : decode cX2_mix 24 = .ok (.goto (-20), 3) := by decide +kernel
theorem dX2_mix_27 : decode cX2_mix 27 = .ok (.return_, 1) := by decide +kernel
theorem dX3_init_0 : decode cX3_init 0 = .ok (.aload_n 0, 1) := by decide +kernel
theorem dX3_init_1 : decode cX3_init 1 = .ok (.invokespecial 3, 3) := by decide +kernel
theorem dX3_init_4 : decode cX3_init 4 = .ok (.aload_n 0, 1) := by decide +kernel
theorem dX3_init_5 : decode cX3_init 5 = .ok (.new 9, 3) := by decide +kernel
theorem dX3_init_8 : decode cX3_init 8 = .ok (.dup, 1) := by decide +kernel
theorem dX3_init_9 : decode cX3_init 9 = .ok (.invokespecial 11, 3) := by decide +kernel
theorem dX3_init_12 : decode cX3_init 12 = .ok (.putfield 12, 3) := by decide +kernel
theorem dX3_init_15 : decode cX3_init 15 = .ok (.aload_n 0, 1) := by decide +kernel
theorem dX3_init_16 : decode cX3_init 16 = .ok (.new 18, 3) := by decide +kernel
theorem dX3_init_19 : decode cX3_init 19 = .ok (.dup, 1) := by decide +kernel
theorem dX3_init_20 : decode cX3_init 20 = .ok (.bipush 20, 2) := by decide +kernel
theorem dX3_init_22 : decode cX3_init 22 = .ok (.invokespecial 20, 3) := by decide +kernel
theorem dX3_init_25 : decode cX3_init 25 = .ok (.putfield 23, 3) := by decide +kernel
theorem dX3_init_28 : decode cX3_init 28 = .ok (.aload_n 0, 1) := by decide +kernel
theorem dX3_init_29 : decode cX3_init 29 = .ok (.new 18, 3) := by decide +kernel
theorem dX3_init_32 : decode cX3_init 32 = .ok (.dup, 1) := by decide +kernel
theorem dX3_init_33 : decode cX3_init 33 = .ok (.bipush 20, 2) := by decide +kernel
theorem dX3_init_35 : decode cX3_init 35 = .ok (.invokespecial 20, 3) := by decide +kernel
theorem dX3_init_38 : decode cX3_init 38 = .ok (.putfield 27, 3) := by decide +kernel
theorem dX3_init_41 : decode cX3_init 41 = .ok (.aload_n 0, 1) := by decide +kernel
theorem dX3_init_42 : decode cX3_init 42 = .ok (.new 18, 3) := by decide +kernel
theorem dX3_init_45 : decode cX3_init 45 = .ok (.dup, 1) := by decide +kernel
theorem dX3_init_46 : decode cX3_init 46 = .ok (.iconst 5, 1) := by decide +kernel
theorem dX3_init_47 : decode cX3_init 47 = .ok (.invokespecial 20, 3) := by decide +kernel
theorem dX3_init_50 : decode cX3_init 50 = .ok (.putfield 30, 3) := by decide +kernel
theorem dX3_init_53 : decode cX3_init 53 = .ok (.return_, 1) := by decide +kernel
theorem dX3_mix_0 : decode cX3_mix 0 = .ok (.aload_n 0, 1) := by decide +kernel
theorem dX3_mix_1 : decode cX3_mix 1 = .ok (.getfield 12, 3) := by decide +kernel
theorem dX3_mix_4 : decode cX3_mix 4 = .ok (.iload_n 2, 1) := by decide +kernel
theorem dX3_mix_5 : decode cX3_mix 5 = .ok (.invokevirtual 33, 3) := by decide +kernel
theorem dX3_mix_8 : decode cX3_mix 8 = .ok (.aload_n 0, 1) := by decide +kernel
theorem dX3_mix_9 : decode cX3_mix 9 = .ok (.aload_n 1, 1) := by decide +kernel
theorem dX3_mix_10 : decode cX3_mix 10 = .ok (.invokevirtual 36, 3) := by decide +kernel
theorem dX3_mix_13 : decode cX3_mix 13 = .ok (.istore 4, 2) := by decide +kernel
theorem dX3_mix_15 : decode cX3_mix 15 = .ok (.aload_n 0, 1) := by decide +kernel
theorem dX3_mix_16 : decode cX3_mix 16 = .ok (.getfield 12, 3) := by decide +kernel
theorem dX3_mix_19 : decode cX3_mix 19 = .ok (.aload_n 0, 1) := by decide +kernel
theorem dX3_mix_20 : decode cX3_mix 20 = .ok (.getfield 23, 3) := by decide +kernel
theorem dX3_mix_23 : decode cX3_mix 23 = .ok (.iload 4, 2) := by decide +kernel
theorem dX3_mix_25 : decode cX3_mix 25 = .ok (.invokevirtual 40, 3) := by decide +kernel
theorem dX3_mix_28 : decode cX3_mix 28 = .ok (.aload_n 3, 1) := by decide +kernel
theorem dX3_mix_29 : decode cX3_mix 29 = .ok (.iconst 0, 1) := by decide +kernel
theorem dX3_mix_30 : decode cX3_mix 30 = .ok (.putfield 44, 3) := by decide +kernel
theorem dX3_mix_33 : decode cX3_mix 33 = .ok (.iconst 0, 1) := by decide +kernel
theorem dX3_mix_34 : decode cX3_mix 34 = .ok (.istore 5, 2) := by decide +kernel
theorem dX3_mix_36 : decode cX3_mix 36 = .ok (.iload 5, 2) := by decide +kernel
theorem dX3_mix_38 : decode cX3_mix 38 = .ok (.iload 4, 2) := by decide +kernel
theorem dX3_mix_40 : decode cX3_mix 40 = .ok (.if_icmp .ge 24, 3) := by decide +kernel
theorem dX3_mix_43 : decode cX3_mix 43 = .ok (.aload_n 0, 1) := by decide +kernel
theorem dX3_mix_44 : decode cX3_mix 44 = .ok (.aload_n 1, 1) := by decide +kernel
theorem dX3_mix_45 : decode cX3_mix 45 = .ok (.aload_n 0, 1) := by decide +kernel
theorem dX3_mix_46 : decode cX3_mix 46 = .ok (.getfield 23, 3) := by decide +kernel
theorem dX3_mix_49 : decode cX3_mix 49 = .ok (.iload 5, 2) := by decide +kernel
theorem dX3_mix_51 : decode cX3_mix 51 = .ok (.invokevirtual 50, 3) := by decide +kernel
theorem dX3_mix_54 : decode cX3_mix 54 = .ok (.aload_n 3, 1) := by decide +kernel
theorem dX3_mix_55 : decode cX3_mix 55 = .ok (.invokevirtual 54, 3) := by decide +kernel
theorem dX3_mix_58 : decode cX3_mix 58 = .ok (.iinc 5 1, 3) := by decide +kernel
theorem dX3_mix_61 : decode cX3_mix 61 = .ok (.goto (-25), 3) := by decide +kernel
theorem dX3_mix_64 : decode cX3_mix 64 = .ok (.iconst 0, 1) := by decide +kernel
theorem dX3_mix_65 : decode cX3_mix 65 = .ok (.istore 5, 2) := by decide +kernel
theorem dX3_mix_67 : decode cX3_mix 67 = .ok (.iload 5, 2) := by decide +kernel
theorem dX3_mix_69 : decode cX3_mix 69 = .ok (.aload_n 3, 1) := by decide +kernel
theorem dX3_mix_70 : decode cX3_mix 70 = .ok (.getfield 44, 3) := by decide +kernel
theorem dX3_mix_73 : decode cX3_mix 73 = .ok (.if_icmp .ge 17, 3) := by decide +kernel
theorem dX3_mix_76 : decode cX3_mix 76 = .ok (.aload_n 0, 1) := by decide +kernel
theorem dX3_mix_77 : decode cX3_mix 77 = .ok (.aload_n 1, 1) := by decide +kernel
theorem dX3_mix_78 : decode cX3_mix 78 = .ok (.iload 5, 2) := by decide +kernel
theorem dX3_mix_80 : decode cX3_mix 80 = .ok (.aload_n 3, 1) := by decide +kernel
theorem dX3_mix_81 : decode cX3_mix 81 = .ok (.invokevirtual 58, 3) := by decide +kernel
theorem dX3_mix_84 : decode cX3_mix 84 = .ok (.iinc 5 1, 3) := by decide +kernel
theorem dX3_mix_87 : decode cX3_mix 87 = .ok (.goto (-20), 3) := by decide +kernel
theorem dX3_mix_90 : decode cX3_mix 90 = .ok (.return_, 1) := by decide +kernel
theorem dX3_listUnits_0 : decode cX3_listUnits 0 = .ok (.iconst 0, 1) := by decide +kernel
theorem dX3_listUnits_1 : decode cX3_listUnits 1 = .ok (.istore_n 2, 1) := by decide +kernel
theorem dX3_listUnits_2 : decode cX3_listUnits 2 = .ok (.iconst 0, 1) := by decide +kernel
theorem dX3_listUnits_3 : decode cX3_listUnits 3 = .ok (.istore_n 3, 1) := by decide +kernel
theorem dX3_listUnits_4 : decode cX3_listUnits 4 = .ok (.iload_n 3, 1) := by decide +kernel
theorem dX3_listUnits_5 : decode cX3_listUnits 5 = .ok (.aload_n 1, 1) := by decide +kernel
theorem dX3_listUnits_6 : decode cX3_listUnits 6 = .ok (.getfield 61, 3) := by decide +kernel
theorem dX3_listUnits_9 : decode cX3_listUnits 9 = .ok (.if_icmp .ge 29, 3) := by decide +kernel
theorem dX3_listUnits_12 : decode cX3_listUnits 12 = .ok (.aload_n 1, 1) := by decide +kernel
theorem dX3_listUnits_13 : decode cX3_listUnits 13 = .ok (.iload_n 3, 1) := by decide +kernel
theorem dX3_listUnits_14 : decode cX3_listUnits 14 = .ok (.invokevirtual 64, 3) := by decide +kernel
theorem dX3_listUnits_17 : decode cX3_listUnits 17 = .ok (.ifCond .eq 15, 3) := by decide +kernel
theorem dX3_listUnits_20 : decode cX3_listUnits 20 = .ok (.aload_n 0, 1) := by decide +kernel
theorem dX3_listUnits_21 : decode cX3_listUnits 21 = .ok (.getfield 23, 3) := by decide +kernel
theorem dX3_listUnits_24 : decode cX3_listUnits 24 = .ok (.iload_n 2, 1) := by decide +kernel
theorem dX3_listUnits_25 : decode cX3_listUnits 25 = .ok (.iload_n 3, 1) := by decide +kernel
theorem dX3_listUnits_26 : decode cX3_listUnits 26 = .ok (.invokevirtual 68, 3) := by decide +kernel
theorem dX3_listUnits_29 : decode cX3_listUnits 29 = .ok (.iinc 2 1, 3) := by decide +kernel
theorem dX3_listUnits_32 : decode cX3_listUnits 32 = .ok (.iinc 3 1, 3) := by decide +kernel
theorem dX3_listUnits_35 : decode cX3_listUnits 35 = .ok (.goto (-31), 3) := by decide +kernel
theorem dX3_listUnits_38 : decode cX3_listUnits 38 = .ok (.iload_n 2, 1) := by decide +kernel
theorem dX3_listUnits_39 : decode cX3_listUnits 39 = .ok (.ireturn, 1) := by decide +kernel
theorem dX3_mixUnit_0 : decode cX3_mixUnit 0 = .ok (.iconst 0, 1) := by decide +kernel
theorem dX3_mixUnit_1 : decode cX3_mixUnit 1 = .ok (.istore 4, 2) := by decide +kernel
theorem dX3_mixUnit_3 : decode cX3_mixUnit 3 = .ok (.iload_n 2, 1) := by decide +kernel
theorem dX3_mixUnit_4 : decode cX3_mixUnit 4 = .ok (.istore 5, 2) := by decide +kernel
theorem dX3_mixUnit_6 : decode cX3_mixUnit 6 = .ok (.iload 5, 2) := by decide +kernel
theorem dX3_mixUnit_8 : decode cX3_mixUnit 8 = .ok (.aload_n 1, 1) := by decide +kernel
theorem dX3_mixUnit_9 : decode cX3_mixUnit 9 = .ok (.getfield 61, 3) := by decide +kernel
theorem dX3_mixUnit_12 : decode cX3_mixUnit 12 = .ok (.if_icmp .ge 33, 3) := by decide +kernel
theorem dX3_mixUnit_15 : decode cX3_mixUnit 15 = .ok (.aload_n 1, 1) := by decide +kernel
theorem dX3_mixUnit_16 : decode cX3_mixUnit 16 = .ok (.iload_n 2, 1) := by decide +kernel
theorem dX3_mixUnit_17 : decode cX3_mixUnit 17 = .ok (.iload 5, 2) := by decide +kernel
theorem dX3_mixUnit_19 : decode cX3_mixUnit 19 = .ok (.invokevirtual 72, 3) := by decide +kernel
theorem dX3_mixUnit_22 : decode cX3_mixUnit 22 = .ok (.ifCond .eq 17, 3) := by decide +kernel
theorem dX3_mixUnit_25 : decode cX3_mixUnit 25 = .ok (.aload_n 0, 1) := by decide +kernel
theorem dX3_mixUnit_26 : decode cX3_mixUnit 26 = .ok (.getfield 27, 3) := by decide +kernel
theorem dX3_mixUnit_29 : decode cX3_mixUnit 29 = .ok (.iload 4, 2) := by decide +kernel
theorem dX3_mixUnit_31 : decode cX3_mixUnit 31 = .ok (.iload 5, 2) := by decide +kernel
theorem dX3_mixUnit_33 : decode cX3_mixUnit 33 = .ok (.invokevirtual 68, 3) := by decide +kernel
theorem dX3_mixUnit_36 : decode cX3_mixUnit 36 = .ok (.iinc 4 1, 3) := by decide +kernel
theorem dX3_mixUnit_39 : decode cX3_mixUnit 39 = .ok (.iinc 5 1, 3) := by decide +kernel
theorem dX3_mixUnit_42 : decode cX3_mixUnit 42 = .ok (.goto (-36), 3) := by decide +kernel
theorem dX3_mixUnit_45 : decode cX3_mixUnit 45 = .ok (.aload_n 0, 1) := by decide +kernel
theorem dX3_mixUnit_46 : decode cX3_mixUnit 46 = .ok (.getfield 12, 3) := by decide +kernel
theorem dX3_mixUnit_49 : decode cX3_mixUnit 49 = .ok (.aload_n 0, 1) := by decide +kernel
theorem dX3_mixUnit_50 : decode cX3_mixUnit 50 = .ok (.getfield 27, 3) := by decide +kernel
theorem dX3_mixUnit_53 : decode cX3_mixUnit 53 = .ok (.iload 4, 2) := by decide +kernel
theorem dX3_mixUnit_55 : decode cX3_mixUnit 55 = .ok (.invokevirtual 40, 3) := by decide +kernel
theorem dX3_mixUnit_58 : decode cX3_mixUnit 58 = .ok (.iconst 0, 1) := by decide +kernel
theorem dX3_mixUnit_59 : decode cX3_mixUnit 59 = .ok (.istore 5, 2) := by decide +kernel
theorem dX3_mixUnit_61 : decode cX3_mixUnit 61 = .ok (.iload 5, 2) := by decide +kernel
theorem dX3_mixUnit_63 : decode cX3_mixUnit 63 = .ok (.iload 4, 2) := by decide +kernel
theorem dX3_mixUnit_65 : decode cX3_mixUnit 65 = .ok (.if_icmp .ge 22, 3) := by decide +kernel
theorem dX3_mixUnit_68 : decode cX3_mixUnit 68 = .ok (.aload_n 3, 1) := by decide +kernel
theorem dX3_mixUnit_69 : decode cX3_mixUnit 69 = .ok (.aload_n 0, 1) := by decide +kernel
theorem dX3_mixUnit_70 : decode cX3_mixUnit 70 = .ok (.getfield 27, 3) := by decide +kernel
theorem dX3_mixUnit_73 : decode cX3_mixUnit 73 = .ok (.iload 5, 2) := by decide +kernel
theorem dX3_mixUnit_75 : decode cX3_mixUnit 75 = .ok (.invokevirtual 50, 3) := by decide +kernel
theorem dX3_mixUnit_78 : decode cX3_mixUnit 78 = .ok (.invokevirtual 76, 3) := by decide +kernel
theorem dX3_mixUnit_81 : decode cX3_mixUnit 81 = .ok (.iinc 5 1, 3) := by decide +kernel
theorem dX3_mixUnit_84 : decode cX3_mixUnit 84 = .ok (.goto (-23), 3) := by decide +kernel
theorem dX3_mixUnit_87 : decode cX3_mixUnit 87 = .ok (.return_, 1) := by decide +kernel
theorem dX3_mixChoices_0 : decode cX3_mixChoices 0 = .ok (.aload_n 3, 1) := by decide +kernel
theorem dX3_mixChoices_1 : decode cX3_mixChoices 1 = .ok (.getfield 79, 3) := by decide +kernel
theorem dX3_mixChoices_4 : decode cX3_mixChoices 4 = .ok (.iload_n 2, 1) := by decide +kernel
theorem dX3_mixChoices_5 : decode cX3_mixChoices 5 = .ok (.invokevirtual 50, 3) := by decide +kernel
theorem dX3_mixChoices_8 : decode cX3_mixChoices 8 = .ok (.istore 4, 2) := by decide +kernel
theorem dX3_mixChoices_10 : decode cX3_mixChoices 10 = .ok (.aload_n 1, 1) := by decide +kernel
theorem dX3_mixChoices_11 : decode cX3_mixChoices 11 = .ok (.iload 4, 2) := by decide +kernel
theorem dX3_mixChoices_13 : decode cX3_mixChoices 13 = .ok (.iconst 4, 1) := by decide +kernel
theorem dX3_mixChoices_14 : decode cX3_mixChoices 14 = .ok (.invokevirtual 82, 3) := by decide +kernel
theorem dX3_mixChoices_17 : decode cX3_mixChoices 17 = .ok (.istore 5, 2) := by decide +kernel
theorem dX3_mixChoices_19 : decode cX3_mixChoices 19 = .ok (.aload_n 1, 1) := by decide +kernel
theorem dX3_mixChoices_20 : decode cX3_mixChoices 20 = .ok (.iload 4, 2) := by decide +kernel
theorem dX3_mixChoices_22 : decode cX3_mixChoices 22 = .ok (.iconst 2, 1) := by decide +kernel
theorem dX3_mixChoices_23 : decode cX3_mixChoices 23 = .ok (.invokevirtual 82, 3) := by decide +kernel
theorem dX3_mixChoices_26 : decode cX3_mixChoices 26 = .ok (.istore 6, 2) := by decide +kernel
theorem dX3_mixChoices_28 : decode cX3_mixChoices 28 = .ok (.aload_n 0, 1) := by decide +kernel
theorem dX3_mixChoices_29 : decode cX3_mixChoices 29 = .ok (.getfield 12, 3) := by decide +kernel
theorem dX3_mixChoices_32 : decode cX3_mixChoices 32 = .ok (.aload_n 0, 1) := by decide +kernel
theorem dX3_mixChoices_33 : decode cX3_mixChoices 33 = .ok (.getfield 30, 3) := by decide +kernel
theorem dX3_mixChoices_36 : decode cX3_mixChoices 36 = .ok (.aload_n 0, 1) := by decide +kernel
theorem dX3_mixChoices_37 : decode cX3_mixChoices 37 = .ok (.iload 5, 2) := by decide +kernel
theorem dX3_mixChoices_39 : decode cX3_mixChoices 39 = .ok (.iload 6, 2) := by decide +kernel
theorem dX3_mixChoices_41 : decode cX3_mixChoices 41 = .ok (.invokevirtual 86, 3) := by decide +kernel
theorem dX3_mixChoices_44 : decode cX3_mixChoices 44 = .ok (.invokevirtual 40, 3) := by decide +kernel
theorem dX3_mixChoices_47 : decode cX3_mixChoices 47 = .ok (.iconst 0, 1) := by decide +kernel
theorem dX3_mixChoices_48 : decode cX3_mixChoices 48 = .ok (.istore 7, 2) := by decide +kernel
theorem dX3_mixChoices_50 : decode cX3_mixChoices 50 = .ok (.iconst 0, 1) := by decide +kernel
theorem dX3_mixChoices_51 : decode cX3_mixChoices 51 = .ok (.istore 8, 2) := by decide +kernel
theorem dX3_mixChoices_53 : decode cX3_mixChoices 53 = .ok (.iload 8, 2) := by decide +kernel
theorem dX3_mixChoices_55 : decode cX3_mixChoices 55 = .ok (.iload 5, 2) := by decide +kernel
theorem dX3_mixChoices_57 : decode cX3_mixChoices 57 = .ok (.if_icmp .ge 68, 3) := by decide +kernel
theorem dX3_mixChoices_60 : decode cX3_mixChoices 60 = .ok (.iload 8, 2) := by decide +kernel
theorem dX3_mixChoices_62 : decode cX3_mixChoices 62 = .ok (.istore 9, 2) := by decide +kernel
theorem dX3_mixChoices_64 : decode cX3_mixChoices 64 = .ok (.iload 6, 2) := by decide +kernel
theorem dX3_mixChoices_66 : decode cX3_mixChoices 66 = .ok (.iload 8, 2) := by decide +kernel
theorem dX3_mixChoices_68 : decode cX3_mixChoices 68 = .ok (.ishr, 1) := by decide +kernel
theorem dX3_mixChoices_69 : decode cX3_mixChoices 69 = .ok (.iconst 1, 1) := by decide +kernel
theorem dX3_mixChoices_70 : decode cX3_mixChoices 70 = .ok (.iand, 1) := by decide +kernel
theorem dX3_mixChoices_71 : decode cX3_mixChoices 71 = .ok (.ifCond .ne 17, 3) := by decide +kernel
theorem dX3_mixChoices_74 : decode cX3_mixChoices 74 = .ok (.aload_n 0, 1) := by decide +kernel
theorem dX3_mixChoices_75 : decode cX3_mixChoices 75 = .ok (.getfield 30, 3) := by decide +kernel
theorem dX3_mixChoices_78 : decode cX3_mixChoices 78 = .ok (.iload 7, 2) := by decide +kernel
theorem dX3_mixChoices_80 : decode cX3_mixChoices 80 = .ok (.invokevirtual 50, 3) := by decide +kernel
theorem dX3_mixChoices_83 : decode cX3_mixChoices 83 = .ok (.istore 9, 2) := by decide +kernel
theorem dX3_mixChoices_85 : decode cX3_mixChoices 85 = .ok (.iinc 7 1, 3) := by decide +kernel
theorem dX3_mixChoices_88 : decode cX3_mixChoices 88 = .ok (.aload_n 3, 1) := by decide +kernel
theorem dX3_mixChoices_89 : decode cX3_mixChoices 89 = .ok (.iload_n 2, 1) := by decide +kernel
theorem dX3_mixChoices_90 : decode cX3_mixChoices 90 = .ok (.iload 8, 2) := by decide +kernel
theorem dX3_mixChoices_92 : decode cX3_mixChoices 92 = .ok (.iload 9, 2) := by decide +kernel
theorem dX3_mixChoices_94 : decode cX3_mixChoices 94 = .ok (.invokevirtual 89, 3) := by decide +kernel
theorem dX3_mixChoices_97 : decode cX3_mixChoices 97 = .ok (.iload 9, 2) := by decide +kernel
theorem dX3_mixChoices_99 : decode cX3_mixChoices 99 = .ok (.aload_n 1, 1) := by decide +kernel
theorem dX3_mixChoices_100 : decode cX3_mixChoices 100 = .ok (.iload 4, 2) := by decide +kernel
theorem dX3_mixChoices_102 : decode cX3_mixChoices 102 = .ok (.iconst 1, 1) := by decide +kernel
theorem dX3_mixChoices_103 : decode cX3_mixChoices 103 = .ok (.invokevirtual 82, 3) := by decide +kernel
theorem dX3_mixChoices_106 : decode cX3_mixChoices 106 = .ok (.if_icmp .ne 13, 3) := by decide +kernel
theorem dX3_mixChoices_109 : decode cX3_mixChoices 109 = .ok (.aload_n 3, 1) := by decide +kernel
theorem dX3_mixChoices_110 : decode cX3_mixChoices 110 = .ok (.getfield 93, 3) := by decide +kernel
theorem dX3_mixChoices_113 : decode cX3_mixChoices 113 = .ok (.iload_n 2, 1) := by decide +kernel
theorem dX3_mixChoices_114 : decode cX3_mixChoices 114 = .ok (.iload 8, 2) := by decide +kernel
theorem dX3_mixChoices_116 : decode cX3_mixChoices 116 = .ok (.invokevirtual 68, 3) := by decide +kernel
theorem dX3_mixChoices_119 : decode cX3_mixChoices 119 = .ok (.iinc 8 1, 3) := by decide +kernel
theorem dX3_mixChoices_122 : decode cX3_mixChoices 122 = .ok (.goto (-69), 3) := by decide +kernel
theorem dX3_mixChoices_125 : decode cX3_mixChoices 125 = .ok (.return_, 1) := by decide +kernel
theorem dX3_listLoose_0 : decode cX3_listLoose 0 = .ok (.iconst 0, 1) := by decide +kernel
theorem dX3_listLoose_1 : decode cX3_listLoose 1 = .ok (.istore_n 3, 1) := by decide +kernel
theorem dX3_listLoose_2 : decode cX3_listLoose 2 = .ok (.iconst 0, 1) := by decide +kernel
theorem dX3_listLoose_3 : decode cX3_listLoose 3 = .ok (.istore 4, 2) := by decide +kernel
theorem dX3_listLoose_5 : decode cX3_listLoose 5 = .ok (.iload 4, 2) := by decide +kernel
theorem dX3_listLoose_7 : decode cX3_listLoose 7 = .ok (.iload_n 1, 1) := by decide +kernel
theorem dX3_listLoose_8 : decode cX3_listLoose 8 = .ok (.if_icmp .ge 31, 3) := by decide +kernel
theorem dX3_listLoose_11 : decode cX3_listLoose 11 = .ok (.iload_n 2, 1) := by decide +kernel
theorem dX3_listLoose_12 : decode cX3_listLoose 12 = .ok (.iload 4, 2) := by decide +kernel
theorem dX3_listLoose_14 : decode cX3_listLoose 14 = .ok (.ishr, 1) := by decide +kernel
theorem dX3_listLoose_15 : decode cX3_listLoose 15 = .ok (.iconst 1, 1) := by decide +kernel
theorem dX3_listLoose_16 : decode cX3_listLoose 16 = .ok (.iand, 1) := by decide +kernel
theorem dX3_listLoose_17 : decode cX3_listLoose 17 = .ok (.ifCond .ne 16, 3) := by decide +kernel
theorem dX3_listLoose_20 : decode cX3_listLoose 20 = .ok (.aload_n 0, 1) := by decide +kernel
theorem dX3_listLoose_21 : decode cX3_listLoose 21 = .ok (.getfield 30, 3) := by decide +kernel
theorem dX3_listLoose_24 : decode cX3_listLoose 24 = .ok (.iload_n 3, 1) := by decide +kernel
theorem dX3_listLoose_25 : decode cX3_listLoose 25 = .ok (.iload 4, 2) := by decide +kernel
theorem dX3_listLoose_27 : decode cX3_listLoose 27 = .ok (.invokevirtual 68, 3) := by decide +kernel
theorem dX3_listLoose_30 : decode cX3_listLoose 30 = .ok (.iinc 3 1, 3) := by decide +kernel
theorem dX3_listLoose_33 : decode cX3_listLoose 33 = .ok (.iinc 4 1, 3) := by decide +kernel
theorem dX3_listLoose_36 : decode cX3_listLoose 36 = .ok (.goto (-31), 3) := by decide +kernel
theorem dX3_listLoose_39 : decode cX3_listLoose 39 = .ok (.iload_n 3, 1) := by decide +kernel
theorem dX3_listLoose_40 : decode cX3_listLoose 40 = .ok (.ireturn, 1) := by decide +kernel
theorem dX4_init_0 : decode cX4_init 0 = .ok (.aload_n 0, 1) := by decide +kernel
theorem dX4_init_1 : decode cX4_init 1 = .ok (.invokespecial 3, 3) := by decide +kernel
theorem dX4_init_4 : decode cX4_init 4 = .ok (.aload_n 0, 1) := by decide +kernel
theorem dX4_init_5 : decode cX4_init 5 = .ok (.new 9, 3) := by decide +kernel
theorem dX4_init_8 : decode cX4_init 8 = .ok (.dup, 1) := by decide +kernel
theorem dX4_init_9 : decode cX4_init 9 = .ok (.bipush 20, 2) := by decide +kernel
theorem dX4_init_11 : decode cX4_init 11 = .ok (.invokespecial 11, 3) := by decide +kernel
theorem dX4_init_14 : decode cX4_init 14 = .ok (.putfield 14, 3) := by decide +kernel
theorem dX4_init_17 : decode cX4_init 17 = .ok (.aload_n 0, 1) := by decide +kernel
theorem dX4_init_18 : decode cX4_init 18 = .ok (.new 9, 3) := by decide +kernel
theorem dX4_init_21 : decode cX4_init 21 = .ok (.dup, 1) := by decide +kernel
theorem dX4_init_22 : decode cX4_init 22 = .ok (.bipush 20, 2) := by decide +kernel
theorem dX4_init_24 : decode cX4_init 24 = .ok (.invokespecial 11, 3) := by decide +kernel
theorem dX4_init_27 : decode cX4_init 27 = .ok (.putfield 20, 3) := by decide +kernel
theorem dX4_init_30 : decode cX4_init 30 = .ok (.aload_n 0, 1) := by decide +kernel
theorem dX4_init_31 : decode cX4_init 31 = .ok (.new 9, 3) := by decide +kernel
theorem dX4_init_34 : decode cX4_init 34 = .ok (.dup, 1) := by decide +kernel
theorem dX4_init_35 : decode cX4_init 35 = .ok (.bipush 20, 2) := by decide +kernel
theorem dX4_init_37 : decode cX4_init 37 = .ok (.invokespecial 11, 3) := by decide +kernel
theorem dX4_init_40 : decode cX4_init 40 = .ok (.putfield 23, 3) := by decide +kernel
theorem dX4_init_43 : decode cX4_init 43 = .ok (.aload_n 0, 1) := by decide +kernel
theorem dX4_init_44 : decode cX4_init 44 = .ok (.new 9, 3) := by decide +kernel
theorem dX4_init_47 : decode cX4_init 47 = .ok (.dup, 1) := by decide +kernel
theorem dX4_init_48 : decode cX4_init 48 = .ok (.bipush 100, 2) := by decide +kernel
theorem dX4_init_50 : decode cX4_init 50 = .ok (.invokespecial 11, 3) := by decide +kernel
theorem dX4_init_53 : decode cX4_init 53 = .ok (.putfield 26, 3) := by decide +kernel
theorem dX4_init_56 : decode cX4_init 56 = .ok (.aload_n 0, 1) := by decide +kernel
theorem dX4_init_57 : decode cX4_init 57 = .ok (.new 29, 3) := by decide +kernel
theorem dX4_init_60 : decode cX4_init 60 = .ok (.dup, 1) := by decide +kernel
theorem dX4_init_61 : decode cX4_init 61 = .ok (.invokespecial 31, 3) := by decide +kernel
theorem dX4_init_64 : decode cX4_init 64 = .ok (.putfield 32, 3) := by decide +kernel
theorem dX4_init_67 : decode cX4_init 67 = .ok (.return_, 1) := by decide +kernel
theorem dX4_hasPlace_0 : decode cX4_hasPlace 0 = .ok (.iload_n 1, 1) := by decide +kernel
theorem dX4_hasPlace_1 : decode cX4_hasPlace 1 = .ok (.ifCond .lt 15, 3) := by decide +kernel
theorem dX4_hasPlace_4 : decode cX4_hasPlace 4 = .ok (.iload_n 1, 1) := by decide +kernel
theorem dX4_hasPlace_5 : decode cX4_hasPlace 5 = .ok (.aload_n 0, 1) := by decide +kernel
theorem dX4_hasPlace_6 : decode cX4_hasPlace 6 = .ok (.getfield 36, 3) := by decide +kernel
theorem dX4_hasPlace_9 : decode cX4_hasPlace 9 = .ok (.if_icmp .ge 7, 3) := by decide +kernel
theorem dX4_hasPlace_12 : decode cX4_hasPlace 12 = .ok (.iconst 1, 1) := by decide +kernel
theorem dX4_hasPlace_13 : decode cX4_hasPlace 13 = .ok (.goto 4, 3) := by decide +kernel
theorem dX4_hasPlace_16 : decode cX4_hasPlace 16 = .ok (.iconst 0, 1) := by decide +kernel
theorem dX4_hasPlace_17 : decode cX4_hasPlace 17 = .ok (.ireturn, 1) := by decide +kernel
theorem dX4_append_0 : decode cX4_append 0 = .ok (.aload_n 0, 1) := by decide +kernel
theorem dX4_append_1 : decode cX4_append 1 = .ok (.getfield 14, 3) := by decide +kernel
theorem dX4_append_4 : decode cX4_append 4 = .ok (.aload_n 0, 1) := by decide +kernel
theorem dX4_append_5 : decode cX4_append 5 = .ok (.getfield 36, 3) := by decide +kernel
theorem dX4_append_8 : decode cX4_append 8 = .ok (.iload_n 1, 1) := by decide +kernel
theorem dX4_append_9 : decode cX4_append 9 = .ok (.invokevirtual 40, 3) := by decide +kernel
theorem dX4_append_12 : decode cX4_append 12 = .ok (.aload_n 0, 1) := by decide +kernel
theorem dX4_append_13 : decode cX4_append 13 = .ok (.getfield 20, 3) := by decide +kernel
theorem dX4_append_16 : decode cX4_append 16 = .ok (.iload_n 1, 1) := by decide +kernel
theorem dX4_append_17 : decode cX4_append 17 = .ok (.aload_n 0, 1) := by decide +kernel
theorem dX4_append_18 : decode cX4_append 18 = .ok (.getfield 36, 3) := by decide +kernel
theorem dX4_append_21 : decode cX4_append 21 = .ok (.invokevirtual 40, 3) := by decide +kernel
theorem dX4_append_24 : decode cX4_append 24 = .ok (.aload_n 0, 1) := by decide +kernel
theorem dX4_append_25 : decode cX4_append 25 = .ok (.dup, 1) := by decide +kernel
theorem dX4_append_26 : decode cX4_append 26 = .ok (.getfield 36, 3) := by decide +kernel
theorem dX4_append_29 : decode cX4_append 29 = .ok (.iconst 1, 1) := by decide +kernel
theorem dX4_append_30 : decode cX4_append 30 = .ok (.iadd, 1) := by decide +kernel
theorem dX4_append_31 : decode cX4_append 31 = .ok (.putfield 36, 3) := by decide +kernel
theorem dX4_append_34 : decode cX4_append 34 = .ok (.return_, 1) := by decide +kernel
theorem dX4_choiceAt_0 : decode cX4_choiceAt 0 = .ok (.aload_n 0, 1) := by decide +kernel
theorem dX4_choiceAt_1 : decode cX4_choiceAt 1 = .ok (.getfield 26, 3) := by decide +kernel
theorem dX4_choiceAt_4 : decode cX4_choiceAt 4 = .ok (.iload_n 1, 1) := by decide +kernel
theorem dX4_choiceAt_5 : decode cX4_choiceAt 5 = .ok (.iconst 5, 1) := by decide +kernel
theorem dX4_choiceAt_6 : decode cX4_choiceAt 6 = .ok (.imul, 1) := by decide +kernel
theorem dX4_choiceAt_7 : decode cX4_choiceAt 7 = .ok (.iload_n 2, 1) := by decide +kernel
theorem dX4_choiceAt_8 : decode cX4_choiceAt 8 = .ok (.iadd, 1) := by decide +kernel
theorem dX4_choiceAt_9 : decode cX4_choiceAt 9 = .ok (.invokevirtual 44, 3) := by decide +kernel
theorem dX4_choiceAt_12 : decode cX4_choiceAt 12 = .ok (.ireturn, 1) := by decide +kernel
theorem dX4_putChoice_0 : decode cX4_putChoice 0 = .ok (.aload_n 0, 1) := by decide +kernel
theorem dX4_putChoice_1 : decode cX4_putChoice 1 = .ok (.getfield 26, 3) := by decide +kernel
theorem dX4_putChoice_4 : decode cX4_putChoice 4 = .ok (.iload_n 1, 1) := by decide +kernel
theorem dX4_putChoice_5 : decode cX4_putChoice 5 = .ok (.iconst 5, 1) := by decide +kernel
theorem dX4_putChoice_6 : decode cX4_putChoice 6 = .ok (.imul, 1) := by decide +kernel
theorem dX4_putChoice_7 : decode cX4_putChoice 7 = .ok (.iload_n 2, 1) := by decide +kernel
theorem dX4_putChoice_8 : decode cX4_putChoice 8 = .ok (.iadd, 1) := by decide +kernel
theorem dX4_putChoice_9 : decode cX4_putChoice 9 = .ok (.iload_n 3, 1) := by decide +kernel
theorem dX4_putChoice_10 : decode cX4_putChoice 10 = .ok (.invokevirtual 40, 3) := by decide +kernel
theorem dX4_putChoice_13 : decode cX4_putChoice 13 = .ok (.return_, 1) := by decide +kernel
theorem dX4_number_0 : decode cX4_number 0 = .ok (.iload_n 2, 1) := by decide +kernel
theorem dX4_number_1 : decode cX4_number 1 = .ok (.tableswitch 57 0 2 #[27, 36, 45], 27) := by decide +kernel
theorem dX4_number_28 : decode cX4_number 28 = .ok (.aload_n 0, 1) := by decide +kernel
theorem dX4_number_29 : decode cX4_number 29 = .ok (.getfield 14, 3) := by decide +kernel
theorem dX4_number_32 : decode cX4_number 32 = .ok (.iload_n 1, 1) := by decide +kernel
theorem dX4_number_33 : decode cX4_number 33 = .ok (.invokevirtual 44, 3) := by decide +kernel
theorem dX4_number_36 : decode cX4_number 36 = .ok (.ireturn, 1) := by decide +kernel
theorem dX4_number_37 : decode cX4_number 37 = .ok (.aload_n 0, 1) := by decide +kernel
theorem dX4_number_38 : decode cX4_number 38 = .ok (.getfield 23, 3) := by decide +kernel
theorem dX4_number_41 : decode cX4_number 41 = .ok (.iload_n 1, 1) := by decide +kernel
theorem dX4_number_42 : decode cX4_number 42 = .ok (.invokevirtual 44, 3) := by decide +kernel
theorem dX4_number_45 : decode cX4_number 45 = .ok (.ireturn, 1) := by decide +kernel
theorem dX4_number_46 : decode cX4_number 46 = .ok (.aload_n 0, 1) := by decide +kernel
theorem dX4_number_47 : decode cX4_number 47 = .ok (.getfield 32, 3) := by decide +kernel
theorem dX4_number_50 : decode cX4_number 50 = .ok (.getfield 48, 3) := by decide +kernel
theorem dX4_number_53 : decode cX4_number 53 = .ok (.iload_n 1, 1) := by decide +kernel
theorem dX4_number_54 : decode cX4_number 54 = .ok (.invokevirtual 44, 3) := by decide +kernel
theorem dX4_number_57 : decode cX4_number 57 = .ok (.ireturn, 1) := by decide +kernel
theorem dX4_number_58 : decode cX4_number 58 = .ok (.aload_n 0, 1) := by decide +kernel
theorem dX4_number_59 : decode cX4_number 59 = .ok (.getfield 32, 3) := by decide +kernel
theorem dX4_number_62 : decode cX4_number 62 = .ok (.getfield 51, 3) := by decide +kernel
theorem dX4_number_65 : decode cX4_number 65 = .ok (.iload_n 1, 1) := by decide +kernel
theorem dX4_number_66 : decode cX4_number 66 = .ok (.invokevirtual 44, 3) := by decide +kernel
theorem dX4_number_69 : decode cX4_number 69 = .ok (.ireturn, 1) := by decide +kernel
theorem dX4_neighborsIn_0 : decode cX4_neighborsIn 0 = .ok (.iconst 0, 1) := by decide +kernel
theorem dX4_neighborsIn_1 : decode cX4_neighborsIn 1 = .ok (.istore_n 2, 1) := by decide +kernel
theorem dX4_neighborsIn_2 : decode cX4_neighborsIn 2 = .ok (.iconst 1, 1) := by decide +kernel
theorem dX4_neighborsIn_3 : decode cX4_neighborsIn 3 = .ok (.istore_n 3, 1) := by decide +kernel
theorem dX4_neighborsIn_4 : decode cX4_neighborsIn 4 = .ok (.iload_n 3, 1) := by decide +kernel
theorem dX4_neighborsIn_5 : decode cX4_neighborsIn 5 = .ok (.aload_n 0, 1) := by decide +kernel
theorem dX4_neighborsIn_6 : decode cX4_neighborsIn 6 = .ok (.getfield 36, 3) := by decide +kernel
theorem dX4_neighborsIn_9 : decode cX4_neighborsIn 9 = .ok (.if_icmp .ge 53, 3) := by decide +kernel
theorem dX4_neighborsIn_12 : decode cX4_neighborsIn 12 = .ok (.aload_n 1, 1) := by decide +kernel
theorem dX4_neighborsIn_13 : decode cX4_neighborsIn 13 = .ok (.getfield 20, 3) := by decide +kernel
theorem dX4_neighborsIn_16 : decode cX4_neighborsIn 16 = .ok (.aload_n 0, 1) := by decide +kernel
theorem dX4_neighborsIn_17 : decode cX4_neighborsIn 17 = .ok (.getfield 14, 3) := by decide +kernel
theorem dX4_neighborsIn_20 : decode cX4_neighborsIn 20 = .ok (.iload_n 3, 1) := by decide +kernel
theorem dX4_neighborsIn_21 : decode cX4_neighborsIn 21 = .ok (.iconst 1, 1) := by decide +kernel
theorem dX4_neighborsIn_22 : decode cX4_neighborsIn 22 = .ok (.isub, 1) := by decide +kernel
theorem dX4_neighborsIn_23 : decode cX4_neighborsIn 23 = .ok (.invokevirtual 44, 3) := by decide +kernel
theorem dX4_neighborsIn_26 : decode cX4_neighborsIn 26 = .ok (.invokevirtual 44, 3) := by decide +kernel
theorem dX4_neighborsIn_29 : decode cX4_neighborsIn 29 = .ok (.istore 4, 2) := by decide +kernel
theorem dX4_neighborsIn_31 : decode cX4_neighborsIn 31 = .ok (.aload_n 1, 1) := by decide +kernel
theorem dX4_neighborsIn_32 : decode cX4_neighborsIn 32 = .ok (.getfield 20, 3) := by decide +kernel
theorem dX4_neighborsIn_35 : decode cX4_neighborsIn 35 = .ok (.aload_n 0, 1) := by decide +kernel
theorem dX4_neighborsIn_36 : decode cX4_neighborsIn 36 = .ok (.getfield 14, 3) := by decide +kernel
theorem dX4_neighborsIn_39 : decode cX4_neighborsIn 39 = .ok (.iload_n 3, 1) := by decide +kernel
theorem dX4_neighborsIn_40 : decode cX4_neighborsIn 40 = .ok (.invokevirtual 44, 3) := by decide +kernel
theorem dX4_neighborsIn_43 : decode cX4_neighborsIn 43 = .ok (.invokevirtual 44, 3) := by decide +kernel
theorem dX4_neighborsIn_46 : decode cX4_neighborsIn 46 = .ok (.iload 4, 2) := by decide +kernel
theorem dX4_neighborsIn_48 : decode cX4_neighborsIn 48 = .ok (.iconst 1, 1) := by decide +kernel
theorem dX4_neighborsIn_49 : decode cX4_neighborsIn 49 = .ok (.iadd, 1) := by decide +kernel
theorem dX4_neighborsIn_50 : decode cX4_neighborsIn 50 = .ok (.if_icmp .ne 6, 3) := by decide +kernel
theorem dX4_neighborsIn_53 : decode cX4_neighborsIn 53 = .ok (.iinc 2 1, 3) := by decide +kernel
theorem dX4_neighborsIn_56 : decode cX4_neighborsIn 56 = .ok (.iinc 3 1, 3) := by decide +kernel
theorem dX4_neighborsIn_59 : decode cX4_neighborsIn 59 = .ok (.goto (-55), 3) := by decide +kernel
theorem dX4_neighborsIn_62 : decode cX4_neighborsIn 62 = .ok (.iload_n 2, 1) := by decide +kernel
theorem dX4_neighborsIn_63 : decode cX4_neighborsIn 63 = .ok (.ireturn, 1) := by decide +kernel
theorem dX5_init_0 : decode cX5_init 0 = .ok (.aload_n 0, 1) := by decide +kernel
theorem dX5_init_1 : decode cX5_init 1 = .ok (.invokespecial 3, 3) := by decide +kernel
theorem dX5_init_4 : decode cX5_init 4 = .ok (.aload_n 0, 1) := by decide +kernel
theorem dX5_init_5 : decode cX5_init 5 = .ok (.new 9, 3) := by decide +kernel
theorem dX5_init_8 : decode cX5_init 8 = .ok (.dup, 1) := by decide +kernel
theorem dX5_init_9 : decode cX5_init 9 = .ok (.bipush 100, 2) := by decide +kernel
theorem dX5_init_11 : decode cX5_init 11 = .ok (.invokespecial 11, 3) := by decide +kernel
theorem dX5_init_14 : decode cX5_init 14 = .ok (.putfield 14, 3) := by decide +kernel
theorem dX5_init_17 : decode cX5_init 17 = .ok (.return_, 1) := by decide +kernel
theorem dX5_allows_0 : decode cX5_allows 0 = .ok (.iload_n 0, 1) := by decide +kernel
theorem dX5_allows_1 : decode cX5_allows 1 = .ok (.tableswitch 95 0 3 #[31, 48, 63, 80], 31) := by decide +kernel
theorem dX5_allows_32 : decode cX5_allows 32 = .ok (.iload_n 1, 1) := by decide +kernel
theorem dX5_allows_33 : decode cX5_allows 33 = .ok (.iconst 1, 1) := by decide +kernel
theorem dX5_allows_34 : decode cX5_allows 34 = .ok (.if_icmp .lt 13, 3) := by decide +kernel
theorem dX5_allows_37 : decode cX5_allows 37 = .ok (.iload_n 1, 1) := by decide +kernel
theorem dX5_allows_38 : decode cX5_allows 38 = .ok (.bipush 9, 2) := by decide +kernel
theorem dX5_allows_40 : decode cX5_allows 40 = .ok (.if_icmp .gt 7, 3) := by decide +kernel
theorem dX5_allows_43 : decode cX5_allows 43 = .ok (.iconst 1, 1) := by decide +kernel
theorem dX5_allows_44 : decode cX5_allows 44 = .ok (.goto 4, 3) := by decide +kernel
theorem dX5_allows_47 : decode cX5_allows 47 = .ok (.iconst 0, 1) := by decide +kernel
theorem dX5_allows_48 : decode cX5_allows 48 = .ok (.ireturn, 1) := by decide +kernel
theorem dX5_allows_49 : decode cX5_allows 49 = .ok (.iload_n 1, 1) := by decide +kernel
theorem dX5_allows_50 : decode cX5_allows 50 = .ok (.ifCond .lt 12, 3) := by decide +kernel
theorem dX5_allows_53 : decode cX5_allows 53 = .ok (.iload_n 1, 1) := by decide +kernel
theorem dX5_allows_54 : decode cX5_allows 54 = .ok (.iload_n 2, 1) := by decide +kernel
theorem dX5_allows_55 : decode cX5_allows 55 = .ok (.if_icmp .ge 7, 3) := by decide +kernel
theorem dX5_allows_58 : decode cX5_allows 58 = .ok (.iconst 1, 1) := by decide +kernel
theorem dX5_allows_59 : decode cX5_allows 59 = .ok (.goto 4, 3) := by decide +kernel
theorem dX5_allows_62 : decode cX5_allows 62 = .ok (.iconst 0, 1) := by decide +kernel
theorem dX5_allows_63 : decode cX5_allows 63 = .ok (.ireturn, 1) := by decide +kernel
theorem dX5_allows_64 : decode cX5_allows 64 = .ok (.iload_n 1, 1) := by decide +kernel
theorem dX5_allows_65 : decode cX5_allows 65 = .ok (.ifCond .lt 14, 3) := by decide +kernel
theorem dX5_allows_68 : decode cX5_allows 68 = .ok (.iload_n 1, 1) := by decide +kernel
theorem dX5_allows_69 : decode cX5_allows 69 = .ok (.iconst 1, 1) := by decide +kernel
theorem dX5_allows_70 : decode cX5_allows 70 = .ok (.iload_n 2, 1) := by decide +kernel
theorem dX5_allows_71 : decode cX5_allows 71 = .ok (.ishl, 1) := by decide +kernel
theorem dX5_allows_72 : decode cX5_allows 72 = .ok (.if_icmp .ge 7, 3) := by decide +kernel
theorem dX5_allows_75 : decode cX5_allows 75 = .ok (.iconst 1, 1) := by decide +kernel
theorem dX5_allows_76 : decode cX5_allows 76 = .ok (.goto 4, 3) := by decide +kernel
theorem dX5_allows_79 : decode cX5_allows 79 = .ok (.iconst 0, 1) := by decide +kernel
theorem dX5_allows_80 : decode cX5_allows 80 = .ok (.ireturn, 1) := by decide +kernel
theorem dX5_allows_81 : decode cX5_allows 81 = .ok (.iload_n 1, 1) := by decide +kernel
theorem dX5_allows_82 : decode cX5_allows 82 = .ok (.ifCond .lt 12, 3) := by decide +kernel
theorem dX5_allows_85 : decode cX5_allows 85 = .ok (.iload_n 1, 1) := by decide +kernel
theorem dX5_allows_86 : decode cX5_allows 86 = .ok (.iconst 5, 1) := by decide +kernel
theorem dX5_allows_87 : decode cX5_allows 87 = .ok (.if_icmp .gt 7, 3) := by decide +kernel
theorem dX5_allows_90 : decode cX5_allows 90 = .ok (.iconst 1, 1) := by decide +kernel
theorem dX5_allows_91 : decode cX5_allows 91 = .ok (.goto 4, 3) := by decide +kernel
theorem dX5_allows_94 : decode cX5_allows 94 = .ok (.iconst 0, 1) := by decide +kernel
theorem dX5_allows_95 : decode cX5_allows 95 = .ok (.ireturn, 1) := by decide +kernel
theorem dX5_allows_96 : decode cX5_allows 96 = .ok (.iconst 0, 1) := by decide +kernel
theorem dX5_allows_97 : decode cX5_allows 97 = .ok (.ireturn, 1) := by decide +kernel
theorem dX5_has_0 : decode cX5_has 0 = .ok (.iload_n 1, 1) := by decide +kernel
theorem dX5_has_1 : decode cX5_has 1 = .ok (.ifCond .lt 15, 3) := by decide +kernel
theorem dX5_has_4 : decode cX5_has 4 = .ok (.iload_n 1, 1) := by decide +kernel
theorem dX5_has_5 : decode cX5_has 5 = .ok (.aload_n 0, 1) := by decide +kernel
theorem dX5_has_6 : decode cX5_has 6 = .ok (.getfield 20, 3) := by decide +kernel
theorem dX5_has_9 : decode cX5_has 9 = .ok (.if_icmp .ge 7, 3) := by decide +kernel
theorem dX5_has_12 : decode cX5_has 12 = .ok (.iconst 1, 1) := by decide +kernel
theorem dX5_has_13 : decode cX5_has 13 = .ok (.goto 4, 3) := by decide +kernel
theorem dX5_has_16 : decode cX5_has 16 = .ok (.iconst 0, 1) := by decide +kernel
theorem dX5_has_17 : decode cX5_has 17 = .ok (.ireturn, 1) := by decide +kernel
theorem dX5_number_0 : decode cX5_number 0 = .ok (.aload_n 0, 1) := by decide +kernel
theorem dX5_number_1 : decode cX5_number 1 = .ok (.getfield 14, 3) := by decide +kernel
theorem dX5_number_4 : decode cX5_number 4 = .ok (.iload_n 1, 1) := by decide +kernel
theorem dX5_number_5 : decode cX5_number 5 = .ok (.iconst 5, 1) := by decide +kernel
theorem dX5_number_6 : decode cX5_number 6 = .ok (.imul, 1) := by decide +kernel
theorem dX5_number_7 : decode cX5_number 7 = .ok (.iload_n 2, 1) := by decide +kernel
theorem dX5_number_8 : decode cX5_number 8 = .ok (.iadd, 1) := by decide +kernel
theorem dX5_number_9 : decode cX5_number 9 = .ok (.invokevirtual 24, 3) := by decide +kernel
theorem dX5_number_12 : decode cX5_number 12 = .ok (.ireturn, 1) := by decide +kernel
theorem dX5_put_0 : decode cX5_put 0 = .ok (.aload_n 0, 1) := by decide +kernel
theorem dX5_put_1 : decode cX5_put 1 = .ok (.getfield 14, 3) := by decide +kernel
theorem dX5_put_4 : decode cX5_put 4 = .ok (.iload_n 1, 1) := by decide +kernel
theorem dX5_put_5 : decode cX5_put 5 = .ok (.iconst 5, 1) := by decide +kernel
theorem dX5_put_6 : decode cX5_put 6 = .ok (.imul, 1) := by decide +kernel
theorem dX5_put_7 : decode cX5_put 7 = .ok (.iload_n 2, 1) := by decide +kernel
theorem dX5_put_8 : decode cX5_put 8 = .ok (.iadd, 1) := by decide +kernel
theorem dX5_put_9 : decode cX5_put 9 = .ok (.iload_n 3, 1) := by decide +kernel
theorem dX5_put_10 : decode cX5_put 10 = .ok (.invokevirtual 28, 3) := by decide +kernel
theorem dX5_put_13 : decode cX5_put 13 = .ok (.return_, 1) := by decide +kernel
theorem dX5_append_0 : decode cX5_append 0 = .ok (.aload_n 0, 1) := by decide +kernel
theorem dX5_append_1 : decode cX5_append 1 = .ok (.getfield 20, 3) := by decide +kernel
theorem dX5_append_4 : decode cX5_append 4 = .ok (.istore 6, 2) := by decide +kernel
theorem dX5_append_6 : decode cX5_append 6 = .ok (.aload_n 0, 1) := by decide +kernel
theorem dX5_append_7 : decode cX5_append 7 = .ok (.dup, 1) := by decide +kernel
theorem dX5_append_8 : decode cX5_append 8 = .ok (.getfield 20, 3) := by decide +kernel
theorem dX5_append_11 : decode cX5_append 11 = .ok (.iconst 1, 1) := by decide +kernel
theorem dX5_append_12 : decode cX5_append 12 = .ok (.iadd, 1) := by decide +kernel
theorem dX5_append_13 : decode cX5_append 13 = .ok (.putfield 20, 3) := by decide +kernel
theorem dX5_append_16 : decode cX5_append 16 = .ok (.aload_n 0, 1) := by decide +kernel
theorem dX5_append_17 : decode cX5_append 17 = .ok (.iload 6, 2) := by decide +kernel
theorem dX5_append_19 : decode cX5_append 19 = .ok (.iconst 0, 1) := by decide +kernel
theorem dX5_append_20 : decode cX5_append 20 = .ok (.iload_n 1, 1) := by decide +kernel
theorem dX5_append_21 : decode cX5_append 21 = .ok (.invokevirtual 32, 3) := by decide +kernel
theorem dX5_append_24 : decode cX5_append 24 = .ok (.aload_n 0, 1) := by decide +kernel
theorem dX5_append_25 : decode cX5_append 25 = .ok (.iload 6, 2) := by decide +kernel
theorem dX5_append_27 : decode cX5_append 27 = .ok (.iconst 1, 1) := by decide +kernel
theorem dX5_append_28 : decode cX5_append 28 = .ok (.iload_n 3, 1) := by decide +kernel
theorem dX5_append_29 : decode cX5_append 29 = .ok (.invokevirtual 32, 3) := by decide +kernel
theorem dX5_append_32 : decode cX5_append 32 = .ok (.aload_n 0, 1) := by decide +kernel
theorem dX5_append_33 : decode cX5_append 33 = .ok (.iload 6, 2) := by decide +kernel
theorem dX5_append_35 : decode cX5_append 35 = .ok (.iconst 2, 1) := by decide +kernel
theorem dX5_append_36 : decode cX5_append 36 = .ok (.iload 4, 2) := by decide +kernel
theorem dX5_append_38 : decode cX5_append 38 = .ok (.invokevirtual 32, 3) := by decide +kernel
theorem dX5_append_41 : decode cX5_append 41 = .ok (.aload_n 0, 1) := by decide +kernel
theorem dX5_append_42 : decode cX5_append 42 = .ok (.iload 6, 2) := by decide +kernel
theorem dX5_append_44 : decode cX5_append 44 = .ok (.iconst 3, 1) := by decide +kernel
theorem dX5_append_45 : decode cX5_append 45 = .ok (.iload 5, 2) := by decide +kernel
theorem dX5_append_47 : decode cX5_append 47 = .ok (.invokevirtual 32, 3) := by decide +kernel
theorem dX5_append_50 : decode cX5_append 50 = .ok (.aload_n 0, 1) := by decide +kernel
theorem dX5_append_51 : decode cX5_append 51 = .ok (.iload 6, 2) := by decide +kernel
theorem dX5_append_53 : decode cX5_append 53 = .ok (.iconst 4, 1) := by decide +kernel
theorem dX5_append_54 : decode cX5_append 54 = .ok (.iload_n 2, 1) := by decide +kernel
theorem dX5_append_55 : decode cX5_append 55 = .ok (.invokevirtual 32, 3) := by decide +kernel
theorem dX5_append_58 : decode cX5_append 58 = .ok (.iload 6, 2) := by decide +kernel
theorem dX5_append_60 : decode cX5_append 60 = .ok (.ireturn, 1) := by decide +kernel
theorem dX5_delete_0 : decode cX5_delete 0 = .ok (.aload_n 0, 1) := by decide +kernel
theorem dX5_delete_1 : decode cX5_delete 1 = .ok (.dup, 1) := by decide +kernel
theorem dX5_delete_2 : decode cX5_delete 2 = .ok (.getfield 20, 3) := by decide +kernel
theorem dX5_delete_5 : decode cX5_delete 5 = .ok (.iconst 1, 1) := by decide +kernel
theorem dX5_delete_6 : decode cX5_delete 6 = .ok (.isub, 1) := by decide +kernel
theorem dX5_delete_7 : decode cX5_delete 7 = .ok (.putfield 20, 3) := by decide +kernel
theorem dX5_delete_10 : decode cX5_delete 10 = .ok (.iload_n 1, 1) := by decide +kernel
theorem dX5_delete_11 : decode cX5_delete 11 = .ok (.istore_n 2, 1) := by decide +kernel
theorem dX5_delete_12 : decode cX5_delete 12 = .ok (.iload_n 2, 1) := by decide +kernel
theorem dX5_delete_13 : decode cX5_delete 13 = .ok (.aload_n 0, 1) := by decide +kernel
theorem dX5_delete_14 : decode cX5_delete 14 = .ok (.getfield 20, 3) := by decide +kernel
theorem dX5_delete_17 : decode cX5_delete 17 = .ok (.if_icmp .ge 36, 3) := by decide +kernel
theorem dX5_delete_20 : decode cX5_delete 20 = .ok (.iconst 0, 1) := by decide +kernel
theorem dX5_delete_21 : decode cX5_delete 21 = .ok (.istore_n 3, 1) := by decide +kernel
theorem dX5_delete_22 : decode cX5_delete 22 = .ok (.iload_n 3, 1) := by decide +kernel
theorem dX5_delete_23 : decode cX5_delete 23 = .ok (.iconst 5, 1) := by decide +kernel
theorem dX5_delete_24 : decode cX5_delete 24 = .ok (.if_icmp .ge 23, 3) := by decide +kernel
theorem dX5_delete_27 : decode cX5_delete 27 = .ok (.aload_n 0, 1) := by decide +kernel
theorem dX5_delete_28 : decode cX5_delete 28 = .ok (.iload_n 2, 1) := by decide +kernel
theorem dX5_delete_29 : decode cX5_delete 29 = .ok (.iload_n 3, 1) := by decide +kernel
theorem dX5_delete_30 : decode cX5_delete 30 = .ok (.aload_n 0, 1) := by decide +kernel
theorem dX5_delete_31 : decode cX5_delete 31 = .ok (.iload_n 2, 1) := by decide +kernel
theorem dX5_delete_32 : decode cX5_delete 32 = .ok (.iconst 1, 1) := by decide +kernel
theorem dX5_delete_33 : decode cX5_delete 33 = .ok (.iadd, 1) := by decide +kernel
theorem dX5_delete_34 : decode cX5_delete 34 = .ok (.iload_n 3, 1) := by decide +kernel
theorem dX5_delete_35 : decode cX5_delete 35 = .ok (.invokevirtual 36, 3) := by decide +kernel
theorem dX5_delete_38 : decode cX5_delete 38 = .ok (.invokevirtual 32, 3) := by decide +kernel
theorem dX5_delete_41 : decode cX5_delete 41 = .ok (.iinc 3 1, 3) := by decide +kernel
theorem dX5_delete_44 : decode cX5_delete 44 = .ok (.goto (-22), 3) := by decide +kernel
theorem dX5_delete_47 : decode cX5_delete 47 = .ok (.iinc 2 1, 3) := by decide +kernel
theorem dX5_delete_50 : decode cX5_delete 50 = .ok (.goto (-38), 3) := by decide +kernel
theorem dX5_delete_53 : decode cX5_delete 53 = .ok (.return_, 1) := by decide +kernel
theorem dX5_together_0 : decode cX5_together 0 = .ok (.iload_n 1, 1) := by decide +kernel
theorem dX5_together_1 : decode cX5_together 1 = .ok (.iload_n 2, 1) := by decide +kernel
theorem dX5_together_2 : decode cX5_together 2 = .ok (.if_icmp .eq 27, 3) := by decide +kernel
theorem dX5_together_5 : decode cX5_together 5 = .ok (.aload_n 0, 1) := by decide +kernel
theorem dX5_together_6 : decode cX5_together 6 = .ok (.iload_n 1, 1) := by decide +kernel
theorem dX5_together_7 : decode cX5_together 7 = .ok (.iconst 3, 1) := by decide +kernel
theorem dX5_together_8 : decode cX5_together 8 = .ok (.invokevirtual 36, 3) := by decide +kernel
theorem dX5_together_11 : decode cX5_together 11 = .ok (.ifCond .eq 22, 3) := by decide +kernel
theorem dX5_together_14 : decode cX5_together 14 = .ok (.aload_n 0, 1) := by decide +kernel
theorem dX5_together_15 : decode cX5_together 15 = .ok (.iload_n 1, 1) := by decide +kernel
theorem dX5_together_16 : decode cX5_together 16 = .ok (.iconst 3, 1) := by decide +kernel
theorem dX5_together_17 : decode cX5_together 17 = .ok (.invokevirtual 36, 3) := by decide +kernel
theorem dX5_together_20 : decode cX5_together 20 = .ok (.aload_n 0, 1) := by decide +kernel
theorem dX5_together_21 : decode cX5_together 21 = .ok (.iload_n 2, 1) := by decide +kernel
theorem dX5_together_22 : decode cX5_together 22 = .ok (.iconst 3, 1) := by decide +kernel
theorem dX5_together_23 : decode cX5_together 23 = .ok (.invokevirtual 36, 3) := by decide +kernel
theorem dX5_together_26 : decode cX5_together 26 = .ok (.if_icmp .ne 7, 3) := by decide +kernel
theorem dX5_together_29 : decode cX5_together 29 = .ok (.iconst 1, 1) := by decide +kernel
theorem dX5_together_30 : decode cX5_together 30 = .ok (.goto 4, 3) := by decide +kernel
theorem dX5_together_33 : decode cX5_together 33 = .ok (.iconst 0, 1) := by decide +kernel
theorem dX5_together_34 : decode cX5_together 34 = .ok (.ireturn, 1) := by decide +kernel
theorem dX5_isFirstOfUnit_0 : decode cX5_isFirstOfUnit 0 = .ok (.aload_n 0, 1) := by decide +kernel
theorem dX5_isFirstOfUnit_1 : decode cX5_isFirstOfUnit 1 = .ok (.iload_n 1, 1) := by decide +kernel
theorem dX5_isFirstOfUnit_2 : decode cX5_isFirstOfUnit 2 = .ok (.iconst 3, 1) := by decide +kernel
theorem dX5_isFirstOfUnit_3 : decode cX5_isFirstOfUnit 3 = .ok (.invokevirtual 36, 3) := by decide +kernel
theorem dX5_isFirstOfUnit_6 : decode cX5_isFirstOfUnit 6 = .ok (.istore_n 2, 1) := by decide +kernel
theorem dX5_isFirstOfUnit_7 : decode cX5_isFirstOfUnit 7 = .ok (.iload_n 2, 1) := by decide +kernel
theorem dX5_isFirstOfUnit_8 : decode cX5_isFirstOfUnit 8 = .ok (.ifCond .ne 5, 3) := by decide +kernel
theorem dX5_isFirstOfUnit_11 : decode cX5_isFirstOfUnit 11 = .ok (.iconst 1, 1) := by decide +kernel
theorem dX5_isFirstOfUnit_12 : decode cX5_isFirstOfUnit 12 = .ok (.ireturn, 1) := by decide +kernel
theorem dX5_isFirstOfUnit_13 : decode cX5_isFirstOfUnit 13 = .ok (.iconst 0, 1) := by decide +kernel
theorem dX5_isFirstOfUnit_14 : decode cX5_isFirstOfUnit 14 = .ok (.istore_n 3, 1) := by decide +kernel
theorem dX5_isFirstOfUnit_15 : decode cX5_isFirstOfUnit 15 = .ok (.iload_n 3, 1) := by decide +kernel
theorem dX5_isFirstOfUnit_16 : decode cX5_isFirstOfUnit 16 = .ok (.iload_n 1, 1) := by decide +kernel
theorem dX5_isFirstOfUnit_17 : decode cX5_isFirstOfUnit 17 = .ok (.if_icmp .ge 21, 3) := by decide +kernel
theorem dX5_isFirstOfUnit_20 : decode cX5_isFirstOfUnit 20 = .ok (.aload_n 0, 1) := by decide +kernel
theorem dX5_isFirstOfUnit_21 : decode cX5_isFirstOfUnit 21 = .ok (.iload_n 3, 1) := by decide +kernel
theorem dX5_isFirstOfUnit_22 : decode cX5_isFirstOfUnit 22 = .ok (.iconst 3, 1) := by decide +kernel
theorem dX5_isFirstOfUnit_23 : decode cX5_isFirstOfUnit 23 = .ok (.invokevirtual 36, 3) := by decide +kernel
theorem dX5_isFirstOfUnit_26 : decode cX5_isFirstOfUnit 26 = .ok (.iload_n 2, 1) := by decide +kernel
theorem dX5_isFirstOfUnit_27 : decode cX5_isFirstOfUnit 27 = .ok (.if_icmp .ne 5, 3) := by decide +kernel
theorem dX5_isFirstOfUnit_30 : decode cX5_isFirstOfUnit 30 = .ok (.iconst 0, 1) := by decide +kernel
theorem dX5_isFirstOfUnit_31 : decode cX5_isFirstOfUnit 31 = .ok (.ireturn, 1) := by decide +kernel
theorem dX5_isFirstOfUnit_32 : decode cX5_isFirstOfUnit 32 = .ok (.iinc 3 1, 3) := by decide +kernel
theorem dX5_isFirstOfUnit_35 : decode cX5_isFirstOfUnit 35 = .ok (.goto (-20), 3) := by decide +kernel
theorem dX5_isFirstOfUnit_38 : decode cX5_isFirstOfUnit 38 = .ok (.iconst 1, 1) := by decide +kernel
theorem dX5_isFirstOfUnit_39 : decode cX5_isFirstOfUnit 39 = .ok (.ireturn, 1) := by decide +kernel
theorem dX5_copy_0 : decode cX5_copy 0 = .ok (.aload_n 0, 1) := by decide +kernel
theorem dX5_copy_1 : decode cX5_copy 1 = .ok (.getfield 14, 3) := by decide +kernel
theorem dX5_copy_4 : decode cX5_copy 4 = .ok (.aload_n 1, 1) := by decide +kernel
theorem dX5_copy_5 : decode cX5_copy 5 = .ok (.getfield 14, 3) := by decide +kernel
theorem dX5_copy_8 : decode cX5_copy 8 = .ok (.invokevirtual 40, 3) := by decide +kernel
theorem dX5_copy_11 : decode cX5_copy 11 = .ok (.aload_n 0, 1) := by decide +kernel
theorem dX5_copy_12 : decode cX5_copy 12 = .ok (.aload_n 1, 1) := by decide +kernel
theorem dX5_copy_13 : decode cX5_copy 13 = .ok (.getfield 20, 3) := by decide +kernel
theorem dX5_copy_16 : decode cX5_copy 16 = .ok (.putfield 20, 3) := by decide +kernel
theorem dX5_copy_19 : decode cX5_copy 19 = .ok (.return_, 1) := by decide +kernel
theorem dX6_init_0 : decode cX6_init 0 = .ok (.aload_n 0, 1) := by decide +kernel
theorem dX6_init_1 : decode cX6_init 1 = .ok (.invokespecial 1, 3) := by decide +kernel
theorem dX6_init_4 : decode cX6_init 4 = .ok (.aload_n 0, 1) := by decide +kernel
theorem dX6_init_5 : decode cX6_init 5 = .ok (.iload_n 1, 1) := by decide +kernel
theorem dX6_init_6 : decode cX6_init 6 = .ok (.ifCond .le 7, 3) := by decide +kernel
theorem dX6_init_9 : decode cX6_init 9 = .ok (.iload_n 1, 1) := by decide +kernel
theorem dX6_init_10 : decode cX6_init 10 = .ok (.goto 4, 3) := by decide +kernel
theorem dX6_init_13 : decode cX6_init 13 = .ok (.iconst 0, 1) := by decide +kernel
theorem dX6_init_14 : decode cX6_init 14 = .ok (.newarray .int, 2) := by decide +kernel
theorem dX6_init_16 : decode cX6_init 16 = .ok (.putfield 7, 3) := by decide +kernel
theorem dX6_init_19 : decode cX6_init 19 = .ok (.return_, 1) := by decide +kernel
theorem dX6_get_0 : decode cX6_get 0 = .ok (.iload_n 1, 1) := by decide +kernel
theorem dX6_get_1 : decode cX6_get 1 = .ok (.ifCond .lt 21, 3) := by decide +kernel
theorem dX6_get_4 : decode cX6_get 4 = .ok (.iload_n 1, 1) := by decide +kernel
theorem dX6_get_5 : decode cX6_get 5 = .ok (.aload_n 0, 1) := by decide +kernel
theorem dX6_get_6 : decode cX6_get 6 = .ok (.getfield 7, 3) := by decide +kernel
theorem dX6_get_9 : decode cX6_get 9 = .ok (.arraylength, 1) := by decide +kernel
theorem dX6_get_10 : decode cX6_get 10 = .ok (.if_icmp .ge 12, 3) := by decide +kernel
theorem dX6_get_13 : decode cX6_get 13 = .ok (.aload_n 0, 1) := by decide +kernel
theorem dX6_get_14 : decode cX6_get 14 = .ok (.getfield 7, 3) := by decide +kernel
theorem dX6_get_17 : decode cX6_get 17 = .ok (.iload_n 1, 1) := by decide +kernel
theorem dX6_get_18 : decode cX6_get 18 = .ok (.iaload, 1) := by decide +kernel
theorem dX6_get_19 : decode cX6_get 19 = .ok (.goto 4, 3) := by decide +kernel
theorem dX6_get_22 : decode cX6_get 22 = .ok (.iconst 0, 1) := by decide +kernel
theorem dX6_get_23 : decode cX6_get 23 = .ok (.ireturn, 1) := by decide +kernel
theorem dX6_set_0 : decode cX6_set 0 = .ok (.iload_n 1, 1) := by decide +kernel
theorem dX6_set_1 : decode cX6_set 1 = .ok (.ifCond .lt 19, 3) := by decide +kernel
theorem dX6_set_4 : decode cX6_set 4 = .ok (.iload_n 1, 1) := by decide +kernel
theorem dX6_set_5 : decode cX6_set 5 = .ok (.aload_n 0, 1) := by decide +kernel
theorem dX6_set_6 : decode cX6_set 6 = .ok (.getfield 7, 3) := by decide +kernel
theorem dX6_set_9 : decode cX6_set 9 = .ok (.arraylength, 1) := by decide +kernel
theorem dX6_set_10 : decode cX6_set 10 = .ok (.if_icmp .ge 10, 3) := by decide +kernel
theorem dX6_set_13 : decode cX6_set 13 = .ok (.aload_n 0, 1) := by decide +kernel
theorem dX6_set_14 : decode cX6_set 14 = .ok (.getfield 7, 3) := by decide +kernel
theorem dX6_set_17 : decode cX6_set 17 = .ok (.iload_n 1, 1) := by decide +kernel
theorem dX6_set_18 : decode cX6_set 18 = .ok (.iload_n 2, 1) := by decide +kernel
theorem dX6_set_19 : decode cX6_set 19 = .ok (.iastore, 1) := by decide +kernel
theorem dX6_set_20 : decode cX6_set 20 = .ok (.return_, 1) := by decide +kernel
theorem dX6_exchange_0 : decode cX6_exchange 0 = .ok (.iload_n 1, 1) := by decide +kernel
theorem dX6_exchange_1 : decode cX6_exchange 1 = .ok (.ifCond .lt 51, 3) := by decide +kernel
theorem dX6_exchange_4 : decode cX6_exchange 4 = .ok (.iload_n 1, 1) := by decide +kernel
theorem dX6_exchange_5 : decode cX6_exchange 5 = .ok (.aload_n 0, 1) := by decide +kernel
theorem dX6_exchange_6 : decode cX6_exchange 6 = .ok (.getfield 7, 3) := by decide +kernel
theorem dX6_exchange_9 : decode cX6_exchange 9 = .ok (.arraylength, 1) := by decide +kernel
theorem dX6_exchange_10 : decode cX6_exchange 10 = .ok (.if_icmp .ge 42, 3) := by decide +kernel
theorem dX6_exchange_13 : decode cX6_exchange 13 = .ok (.iload_n 2, 1) := by decide +kernel
theorem dX6_exchange_14 : decode cX6_exchange 14 = .ok (.ifCond .lt 38, 3) := by decide +kernel
theorem dX6_exchange_17 : decode cX6_exchange 17 = .ok (.iload_n 2, 1) := by decide +kernel
theorem dX6_exchange_18 : decode cX6_exchange 18 = .ok (.aload_n 0, 1) := by decide +kernel
theorem dX6_exchange_19 : decode cX6_exchange 19 = .ok (.getfield 7, 3) := by decide +kernel
theorem dX6_exchange_22 : decode cX6_exchange 22 = .ok (.arraylength, 1) := by decide +kernel
theorem dX6_exchange_23 : decode cX6_exchange 23 = .ok (.if_icmp .ge 29, 3) := by decide +kernel
theorem dX6_exchange_26 : decode cX6_exchange 26 = .ok (.aload_n 0, 1) := by decide +kernel
theorem dX6_exchange_27 : decode cX6_exchange 27 = .ok (.getfield 7, 3) := by decide +kernel
theorem dX6_exchange_30 : decode cX6_exchange 30 = .ok (.iload_n 1, 1) := by decide +kernel
theorem dX6_exchange_31 : decode cX6_exchange 31 = .ok (.iaload, 1) := by decide +kernel
theorem dX6_exchange_32 : decode cX6_exchange 32 = .ok (.istore_n 3, 1) := by decide +kernel
theorem dX6_exchange_33 : decode cX6_exchange 33 = .ok (.aload_n 0, 1) := by decide +kernel
theorem dX6_exchange_34 : decode cX6_exchange 34 = .ok (.getfield 7, 3) := by decide +kernel
theorem dX6_exchange_37 : decode cX6_exchange 37 = .ok (.iload_n 1, 1) := by decide +kernel
theorem dX6_exchange_38 : decode cX6_exchange 38 = .ok (.aload_n 0, 1) := by decide +kernel
theorem dX6_exchange_39 : decode cX6_exchange 39 = .ok (.getfield 7, 3) := by decide +kernel
theorem dX6_exchange_42 : decode cX6_exchange 42 = .ok (.iload_n 2, 1) := by decide +kernel
theorem dX6_exchange_43 : decode cX6_exchange 43 = .ok (.iaload, 1) := by decide +kernel
theorem dX6_exchange_44 : decode cX6_exchange 44 = .ok (.iastore, 1) := by decide +kernel
theorem dX6_exchange_45 : decode cX6_exchange 45 = .ok (.aload_n 0, 1) := by decide +kernel
theorem dX6_exchange_46 : decode cX6_exchange 46 = .ok (.getfield 7, 3) := by decide +kernel
theorem dX6_exchange_49 : decode cX6_exchange 49 = .ok (.iload_n 2, 1) := by decide +kernel
theorem dX6_exchange_50 : decode cX6_exchange 50 = .ok (.iload_n 3, 1) := by decide +kernel
theorem dX6_exchange_51 : decode cX6_exchange 51 = .ok (.iastore, 1) := by decide +kernel
theorem dX6_exchange_52 : decode cX6_exchange 52 = .ok (.return_, 1) := by decide +kernel
theorem dX6_copy_0 : decode cX6_copy 0 = .ok (.aload_n 1, 1) := by decide +kernel
theorem dX6_copy_1 : decode cX6_copy 1 = .ok (.getfield 7, 3) := by decide +kernel
theorem dX6_copy_4 : decode cX6_copy 4 = .ok (.iconst 0, 1) := by decide +kernel
theorem dX6_copy_5 : decode cX6_copy 5 = .ok (.aload_n 0, 1) := by decide +kernel
theorem dX6_copy_6 : decode cX6_copy 6 = .ok (.getfield 7, 3) := by decide +kernel
theorem dX6_copy_9 : decode cX6_copy 9 = .ok (.iconst 0, 1) := by decide +kernel
theorem dX6_copy_10 : decode cX6_copy 10 = .ok (.aload_n 1, 1) := by decide +kernel
theorem dX6_copy_11 : decode cX6_copy 11 = .ok (.getfield 7, 3) := by decide +kernel
theorem dX6_copy_14 : decode cX6_copy 14 = .ok (.arraylength, 1) := by decide +kernel
theorem dX6_copy_15 : decode cX6_copy 15 = .ok (.aload_n 0, 1) := by decide +kernel
theorem dX6_copy_16 : decode cX6_copy 16 = .ok (.getfield 7, 3) := by decide +kernel
theorem dX6_copy_19 : decode cX6_copy 19 = .ok (.arraylength, 1) := by decide +kernel
theorem dX6_copy_20 : decode cX6_copy 20 = .ok (.invokestatic 13, 3) := by decide +kernel
theorem dX6_copy_23 : decode cX6_copy 23 = .ok (.invokestatic 19, 3) := by decide +kernel
theorem dX6_copy_26 : decode cX6_copy 26 = .ok (.return_, 1) := by decide +kernel
theorem dX6_countSame_0 : decode cX6_countSame 0 = .ok (.iconst 0, 1) := by decide +kernel
theorem dX6_countSame_1 : decode cX6_countSame 1 = .ok (.istore_n 3, 1) := by decide +kernel
theorem dX6_countSame_2 : decode cX6_countSame 2 = .ok (.iconst 0, 1) := by decide +kernel
theorem dX6_countSame_3 : decode cX6_countSame 3 = .ok (.istore 4, 2) := by decide +kernel
theorem dX6_countSame_5 : decode cX6_countSame 5 = .ok (.iload 4, 2) := by decide +kernel
theorem dX6_countSame_7 : decode cX6_countSame 7 = .ok (.iload_n 2, 1) := by decide +kernel
theorem dX6_countSame_8 : decode cX6_countSame 8 = .ok (.if_icmp .ge 27, 3) := by decide +kernel
theorem dX6_countSame_11 : decode cX6_countSame 11 = .ok (.aload_n 0, 1) := by decide +kernel
theorem dX6_countSame_12 : decode cX6_countSame 12 = .ok (.iload 4, 2) := by decide +kernel
theorem dX6_countSame_14 : decode cX6_countSame 14 = .ok (.invokevirtual 25, 3) := by decide +kernel
theorem dX6_countSame_17 : decode cX6_countSame 17 = .ok (.aload_n 1, 1) := by decide +kernel
theorem dX6_countSame_18 : decode cX6_countSame 18 = .ok (.iload 4, 2) := by decide +kernel
theorem dX6_countSame_20 : decode cX6_countSame 20 = .ok (.invokevirtual 25, 3) := by decide +kernel
theorem dX6_countSame_23 : decode cX6_countSame 23 = .ok (.if_icmp .ne 6, 3) := by decide +kernel
theorem dX6_countSame_26 : decode cX6_countSame 26 = .ok (.iinc 3 1, 3) := by decide +kernel
theorem dX6_countSame_29 : decode cX6_countSame 29 = .ok (.iinc 4 1, 3) := by decide +kernel
theorem dX6_countSame_32 : decode cX6_countSame 32 = .ok (.goto (-27), 3) := by decide +kernel
theorem dX6_countSame_35 : decode cX6_countSame 35 = .ok (.iload_n 3, 1) := by decide +kernel
theorem dX6_countSame_36 : decode cX6_countSame 36 = .ok (.ireturn, 1) := by decide +kernel
theorem dX7_init_0 : decode cX7_init 0 = .ok (.aload_n 0, 1) := by decide +kernel
theorem dX7_init_1 : decode cX7_init 1 = .ok (.invokespecial 3, 3) := by decide +kernel
theorem dX7_init_4 : decode cX7_init 4 = .ok (.aload_n 0, 1) := by decide +kernel
theorem dX7_init_5 : decode cX7_init 5 = .ok (.new 9, 3) := by decide +kernel
theorem dX7_init_8 : decode cX7_init 8 = .ok (.dup, 1) := by decide +kernel
theorem dX7_init_9 : decode cX7_init 9 = .ok (.bipush 20, 2) := by decide +kernel
theorem dX7_init_11 : decode cX7_init 11 = .ok (.invokespecial 11, 3) := by decide +kernel
theorem dX7_init_14 : decode cX7_init 14 = .ok (.putfield 14, 3) := by decide +kernel
theorem dX7_init_17 : decode cX7_init 17 = .ok (.aload_n 0, 1) := by decide +kernel
theorem dX7_init_18 : decode cX7_init 18 = .ok (.new 9, 3) := by decide +kernel
theorem dX7_init_21 : decode cX7_init 21 = .ok (.dup, 1) := by decide +kernel
theorem dX7_init_22 : decode cX7_init 22 = .ok (.bipush 20, 2) := by decide +kernel
theorem dX7_init_24 : decode cX7_init 24 = .ok (.invokespecial 11, 3) := by decide +kernel
theorem dX7_init_27 : decode cX7_init 27 = .ok (.putfield 20, 3) := by decide +kernel
theorem dX7_init_30 : decode cX7_init 30 = .ok (.aload_n 0, 1) := by decide +kernel
theorem dX7_init_31 : decode cX7_init 31 = .ok (.new 9, 3) := by decide +kernel
theorem dX7_init_34 : decode cX7_init 34 = .ok (.dup, 1) := by decide +kernel
theorem dX7_init_35 : decode cX7_init 35 = .ok (.bipush 20, 2) := by decide +kernel
theorem dX7_init_37 : decode cX7_init 37 = .ok (.invokespecial 11, 3) := by decide +kernel
theorem dX7_init_40 : decode cX7_init 40 = .ok (.putfield 23, 3) := by decide +kernel
theorem dX7_init_43 : decode cX7_init 43 = .ok (.aload_n 0, 1) := by decide +kernel
theorem dX7_init_44 : decode cX7_init 44 = .ok (.new 9, 3) := by decide +kernel
theorem dX7_init_47 : decode cX7_init 47 = .ok (.dup, 1) := by decide +kernel
theorem dX7_init_48 : decode cX7_init 48 = .ok (.sipush 400, 3) := by decide +kernel
theorem dX7_init_51 : decode cX7_init 51 = .ok (.invokespecial 11, 3) := by decide +kernel
theorem dX7_init_54 : decode cX7_init 54 = .ok (.putfield 26, 3) := by decide +kernel
theorem dX7_init_57 : decode cX7_init 57 = .ok (.aload_n 0, 1) := by decide +kernel
theorem dX7_init_58 : decode cX7_init 58 = .ok (.new 9, 3) := by decide +kernel
theorem dX7_init_61 : decode cX7_init 61 = .ok (.dup, 1) := by decide +kernel
theorem dX7_init_62 : decode cX7_init 62 = .ok (.sipush 400, 3) := by decide +kernel
theorem dX7_init_65 : decode cX7_init 65 = .ok (.invokespecial 11, 3) := by decide +kernel
theorem dX7_init_68 : decode cX7_init 68 = .ok (.putfield 29, 3) := by decide +kernel
theorem dX7_init_71 : decode cX7_init 71 = .ok (.return_, 1) := by decide +kernel
theorem dX7_has_0 : decode cX7_has 0 = .ok (.iload_n 1, 1) := by decide +kernel
theorem dX7_has_1 : decode cX7_has 1 = .ok (.ifCond .lt 15, 3) := by decide +kernel
theorem dX7_has_4 : decode cX7_has 4 = .ok (.iload_n 1, 1) := by decide +kernel
theorem dX7_has_5 : decode cX7_has 5 = .ok (.aload_n 0, 1) := by decide +kernel
theorem dX7_has_6 : decode cX7_has 6 = .ok (.getfield 32, 3) := by decide +kernel
theorem dX7_has_9 : decode cX7_has 9 = .ok (.if_icmp .ge 7, 3) := by decide +kernel
theorem dX7_has_12 : decode cX7_has 12 = .ok (.iconst 1, 1) := by decide +kernel
theorem dX7_has_13 : decode cX7_has 13 = .ok (.goto 4, 3) := by decide +kernel
theorem dX7_has_16 : decode cX7_has 16 = .ok (.iconst 0, 1) := by decide +kernel
theorem dX7_has_17 : decode cX7_has 17 = .ok (.ireturn, 1) := by decide +kernel
theorem dX7_mark_0 : decode cX7_mark 0 = .ok (.aload_n 0, 1) := by decide +kernel
theorem dX7_mark_1 : decode cX7_mark 1 = .ok (.getfield 26, 3) := by decide +kernel
theorem dX7_mark_4 : decode cX7_mark 4 = .ok (.iload_n 1, 1) := by decide +kernel
theorem dX7_mark_5 : decode cX7_mark 5 = .ok (.bipush 20, 2) := by decide +kernel
theorem dX7_mark_7 : decode cX7_mark 7 = .ok (.imul, 1) := by decide +kernel
theorem dX7_mark_8 : decode cX7_mark 8 = .ok (.iload_n 2, 1) := by decide +kernel
theorem dX7_mark_9 : decode cX7_mark 9 = .ok (.iadd, 1) := by decide +kernel
theorem dX7_mark_10 : decode cX7_mark 10 = .ok (.invokevirtual 36, 3) := by decide +kernel
theorem dX7_mark_13 : decode cX7_mark 13 = .ok (.ireturn, 1) := by decide +kernel
theorem dX7_pick_0 : decode cX7_pick 0 = .ok (.aload_n 0, 1) := by decide +kernel
theorem dX7_pick_1 : decode cX7_pick 1 = .ok (.getfield 29, 3) := by decide +kernel
theorem dX7_pick_4 : decode cX7_pick 4 = .ok (.iload_n 1, 1) := by decide +kernel
theorem dX7_pick_5 : decode cX7_pick 5 = .ok (.bipush 20, 2) := by decide +kernel
theorem dX7_pick_7 : decode cX7_pick 7 = .ok (.imul, 1) := by decide +kernel
theorem dX7_pick_8 : decode cX7_pick 8 = .ok (.iload_n 2, 1) := by decide +kernel
theorem dX7_pick_9 : decode cX7_pick 9 = .ok (.iadd, 1) := by decide +kernel
theorem dX7_pick_10 : decode cX7_pick 10 = .ok (.invokevirtual 36, 3) := by decide +kernel
theorem dX7_pick_13 : decode cX7_pick 13 = .ok (.ireturn, 1) := by decide +kernel
theorem dX7_append_0 : decode cX7_append 0 = .ok (.aload_n 0, 1) := by decide +kernel
theorem dX7_append_1 : decode cX7_append 1 = .ok (.getfield 32, 3) := by decide +kernel
theorem dX7_append_4 : decode cX7_append 4 = .ok (.istore 4, 2) := by decide +kernel
theorem dX7_append_6 : decode cX7_append 6 = .ok (.iconst 0, 1) := by decide +kernel
theorem dX7_append_7 : decode cX7_append 7 = .ok (.istore 5, 2) := by decide +kernel
theorem dX7_append_9 : decode cX7_append 9 = .ok (.iconst 0, 1) := by decide +kernel
theorem dX7_append_10 : decode cX7_append 10 = .ok (.istore 6, 2) := by decide +kernel
theorem dX7_append_12 : decode cX7_append 12 = .ok (.iconst 0, 1) := by decide +kernel
theorem dX7_append_13 : decode cX7_append 13 = .ok (.istore 7, 2) := by decide +kernel
theorem dX7_append_15 : decode cX7_append 15 = .ok (.iload 7, 2) := by decide +kernel
theorem dX7_append_17 : decode cX7_append 17 = .ok (.aload_n 2, 1) := by decide +kernel
theorem dX7_append_18 : decode cX7_append 18 = .ok (.getfield 40, 3) := by decide +kernel
theorem dX7_append_21 : decode cX7_append 21 = .ok (.if_icmp .ge 107, 3) := by decide +kernel
theorem dX7_append_24 : decode cX7_append 24 = .ok (.aload_n 3, 1) := by decide +kernel
theorem dX7_append_25 : decode cX7_append 25 = .ok (.iload 7, 2) := by decide +kernel
theorem dX7_append_27 : decode cX7_append 27 = .ok (.invokevirtual 36, 3) := by decide +kernel
theorem dX7_append_30 : decode cX7_append 30 = .ok (.istore 8, 2) := by decide +kernel
theorem dX7_append_32 : decode cX7_append 32 = .ok (.iload 8, 2) := by decide +kernel
theorem dX7_append_34 : decode cX7_append 34 = .ok (.iconst (-1), 1) := by decide +kernel
theorem dX7_append_35 : decode cX7_append 35 = .ok (.if_icmp .ne 7, 3) := by decide +kernel
theorem dX7_append_38 : decode cX7_append 38 = .ok (.iconst (-1), 1) := by decide +kernel
theorem dX7_append_39 : decode cX7_append 39 = .ok (.goto 11, 3) := by decide +kernel
theorem dX7_append_42 : decode cX7_append 42 = .ok (.aload_n 2, 1) := by decide +kernel
theorem dX7_append_43 : decode cX7_append 43 = .ok (.iload 7, 2) := by decide +kernel
theorem dX7_append_45 : decode cX7_append 45 = .ok (.iload 8, 2) := by decide +kernel
theorem dX7_append_47 : decode cX7_append 47 = .ok (.invokevirtual 43, 3) := by decide +kernel
theorem dX7_append_50 : decode cX7_append 50 = .ok (.istore 9, 2) := by decide +kernel
theorem dX7_append_52 : decode cX7_append 52 = .ok (.aload_n 0, 1) := by decide +kernel
theorem dX7_append_53 : decode cX7_append 53 = .ok (.getfield 26, 3) := by decide +kernel
theorem dX7_append_56 : decode cX7_append 56 = .ok (.iload 4, 2) := by decide +kernel
theorem dX7_append_58 : decode cX7_append 58 = .ok (.bipush 20, 2) := by decide +kernel
theorem dX7_append_60 : decode cX7_append 60 = .ok (.imul, 1) := by decide +kernel
theorem dX7_append_61 : decode cX7_append 61 = .ok (.iload 7, 2) := by decide +kernel
theorem dX7_append_63 : decode cX7_append 63 = .ok (.iadd, 1) := by decide +kernel
theorem dX7_append_64 : decode cX7_append 64 = .ok (.iload 8, 2) := by decide +kernel
theorem dX7_append_66 : decode cX7_append 66 = .ok (.invokevirtual 47, 3) := by decide +kernel
theorem dX7_append_69 : decode cX7_append 69 = .ok (.aload_n 0, 1) := by decide +kernel
theorem dX7_append_70 : decode cX7_append 70 = .ok (.getfield 29, 3) := by decide +kernel
theorem dX7_append_73 : decode cX7_append 73 = .ok (.iload 4, 2) := by decide +kernel
theorem dX7_append_75 : decode cX7_append 75 = .ok (.bipush 20, 2) := by decide +kernel
theorem dX7_append_77 : decode cX7_append 77 = .ok (.imul, 1) := by decide +kernel
theorem dX7_append_78 : decode cX7_append 78 = .ok (.aload_n 2, 1) := by decide +kernel
theorem dX7_append_79 : decode cX7_append 79 = .ok (.getfield 51, 3) := by decide +kernel
theorem dX7_append_82 : decode cX7_append 82 = .ok (.iload 7, 2) := by decide +kernel
theorem dX7_append_84 : decode cX7_append 84 = .ok (.invokevirtual 36, 3) := by decide +kernel
theorem dX7_append_87 : decode cX7_append 87 = .ok (.iadd, 1) := by decide +kernel
theorem dX7_append_88 : decode cX7_append 88 = .ok (.iload 9, 2) := by decide +kernel
theorem dX7_append_90 : decode cX7_append 90 = .ok (.invokevirtual 47, 3) := by decide +kernel
theorem dX7_append_93 : decode cX7_append 93 = .ok (.iload 8, 2) := by decide +kernel
theorem dX7_append_95 : decode cX7_append 95 = .ok (.aload_n 2, 1) := by decide +kernel
theorem dX7_append_96 : decode cX7_append 96 = .ok (.getfield 54, 3) := by decide +kernel
theorem dX7_append_99 : decode cX7_append 99 = .ok (.iload 7, 2) := by decide +kernel
theorem dX7_append_101 : decode cX7_append 101 = .ok (.invokevirtual 36, 3) := by decide +kernel
theorem dX7_append_104 : decode cX7_append 104 = .ok (.if_icmp .ne 9, 3) := by decide +kernel
theorem dX7_append_107 : decode cX7_append 107 = .ok (.iinc 5 1, 3) := by decide +kernel
theorem dX7_append_110 : decode cX7_append 110 = .ok (.goto 12, 3) := by decide +kernel
theorem dX7_append_113 : decode cX7_append 113 = .ok (.iload 8, 2) := by decide +kernel
theorem dX7_append_115 : decode cX7_append 115 = .ok (.iconst (-1), 1) := by decide +kernel
theorem dX7_append_116 : decode cX7_append 116 = .ok (.if_icmp .eq 6, 3) := by decide +kernel
theorem dX7_append_119 : decode cX7_append 119 = .ok (.iinc 6 1, 3) := by decide +kernel
theorem dX7_append_122 : decode cX7_append 122 = .ok (.iinc 7 1, 3) := by decide +kernel
theorem dX7_append_125 : decode cX7_append 125 = .ok (.goto (-110), 3) := by decide +kernel
theorem dX7_append_128 : decode cX7_append 128 = .ok (.aload_n 0, 1) := by decide +kernel
theorem dX7_append_129 : decode cX7_append 129 = .ok (.getfield 14, 3) := by decide +kernel
theorem dX7_append_132 : decode cX7_append 132 = .ok (.iload 4, 2) := by decide +kernel
theorem dX7_append_134 : decode cX7_append 134 = .ok (.iload_n 1, 1) := by decide +kernel
theorem dX7_append_135 : decode cX7_append 135 = .ok (.invokevirtual 47, 3) := by decide +kernel
theorem dX7_append_138 : decode cX7_append 138 = .ok (.aload_n 0, 1) := by decide +kernel
theorem dX7_append_139 : decode cX7_append 139 = .ok (.getfield 20, 3) := by decide +kernel
theorem dX7_append_142 : decode cX7_append 142 = .ok (.iload 4, 2) := by decide +kernel
theorem dX7_append_144 : decode cX7_append 144 = .ok (.iload 5, 2) := by decide +kernel
theorem dX7_append_146 : decode cX7_append 146 = .ok (.invokevirtual 47, 3) := by decide +kernel
theorem dX7_append_149 : decode cX7_append 149 = .ok (.aload_n 0, 1) := by decide +kernel
theorem dX7_append_150 : decode cX7_append 150 = .ok (.getfield 23, 3) := by decide +kernel
theorem dX7_append_153 : decode cX7_append 153 = .ok (.iload 4, 2) := by decide +kernel
theorem dX7_append_155 : decode cX7_append 155 = .ok (.iload 6, 2) := by decide +kernel
theorem dX7_append_157 : decode cX7_append 157 = .ok (.invokevirtual 47, 3) := by decide +kernel
theorem dX7_append_160 : decode cX7_append 160 = .ok (.aload_n 0, 1) := by decide +kernel
theorem dX7_append_161 : decode cX7_append 161 = .ok (.dup, 1) := by decide +kernel
theorem dX7_append_162 : decode cX7_append 162 = .ok (.getfield 32, 3) := by decide +kernel
theorem dX7_append_165 : decode cX7_append 165 = .ok (.iconst 1, 1) := by decide +kernel
theorem dX7_append_166 : decode cX7_append 166 = .ok (.iadd, 1) := by decide +kernel
theorem dX7_append_167 : decode cX7_append 167 = .ok (.putfield 32, 3) := by decide +kernel
theorem dX7_append_170 : decode cX7_append 170 = .ok (.iload 4, 2) := by decide +kernel
theorem dX7_append_172 : decode cX7_append 172 = .ok (.ireturn, 1) := by decide +kernel
theorem dX7_points_0 : decode cX7_points 0 = .ok (.iconst 4, 1) := by decide +kernel
theorem dX7_points_1 : decode cX7_points 1 = .ok (.aload_n 0, 1) := by decide +kernel
theorem dX7_points_2 : decode cX7_points 2 = .ok (.getfield 20, 3) := by decide +kernel
theorem dX7_points_5 : decode cX7_points 5 = .ok (.iload_n 1, 1) := by decide +kernel
theorem dX7_points_6 : decode cX7_points 6 = .ok (.invokevirtual 36, 3) := by decide +kernel
theorem dX7_points_9 : decode cX7_points 9 = .ok (.imul, 1) := by decide +kernel
theorem dX7_points_10 : decode cX7_points 10 = .ok (.aload_n 0, 1) := by decide +kernel
theorem dX7_points_11 : decode cX7_points 11 = .ok (.getfield 23, 3) := by decide +kernel
theorem dX7_points_14 : decode cX7_points 14 = .ok (.iload_n 1, 1) := by decide +kernel
theorem dX7_points_15 : decode cX7_points 15 = .ok (.invokevirtual 36, 3) := by decide +kernel
theorem dX7_points_18 : decode cX7_points 18 = .ok (.isub, 1) := by decide +kernel
theorem dX7_points_19 : decode cX7_points 19 = .ok (.ireturn, 1) := by decide +kernel
theorem dX7_number_0 : decode cX7_number 0 = .ok (.iload_n 2, 1) := by decide +kernel
theorem dX7_number_1 : decode cX7_number 1 = .ok (.tableswitch 64 0 3 #[31, 40, 46, 55], 31) := by decide +kernel
theorem dX7_number_32 : decode cX7_number 32 = .ok (.aload_n 0, 1) := by decide +kernel
theorem dX7_number_33 : decode cX7_number 33 = .ok (.getfield 14, 3) := by decide +kernel
theorem dX7_number_36 : decode cX7_number 36 = .ok (.iload_n 1, 1) := by decide +kernel
theorem dX7_number_37 : decode cX7_number 37 = .ok (.invokevirtual 36, 3) := by decide +kernel
theorem dX7_number_40 : decode cX7_number 40 = .ok (.ireturn, 1) := by decide +kernel
theorem dX7_number_41 : decode cX7_number 41 = .ok (.aload_n 0, 1) := by decide +kernel
theorem dX7_number_42 : decode cX7_number 42 = .ok (.iload_n 1, 1) := by decide +kernel
theorem dX7_number_43 : decode cX7_number 43 = .ok (.invokevirtual 57, 3) := by decide +kernel
theorem dX7_number_46 : decode cX7_number 46 = .ok (.ireturn, 1) := by decide +kernel
theorem dX7_number_47 : decode cX7_number 47 = .ok (.aload_n 0, 1) := by decide +kernel
theorem dX7_number_48 : decode cX7_number 48 = .ok (.getfield 20, 3) := by decide +kernel
theorem dX7_number_51 : decode cX7_number 51 = .ok (.iload_n 1, 1) := by decide +kernel
theorem dX7_number_52 : decode cX7_number 52 = .ok (.invokevirtual 36, 3) := by decide +kernel
theorem dX7_number_55 : decode cX7_number 55 = .ok (.ireturn, 1) := by decide +kernel
theorem dX7_number_56 : decode cX7_number 56 = .ok (.aload_n 0, 1) := by decide +kernel
theorem dX7_number_57 : decode cX7_number 57 = .ok (.getfield 23, 3) := by decide +kernel
theorem dX7_number_60 : decode cX7_number 60 = .ok (.iload_n 1, 1) := by decide +kernel
theorem dX7_number_61 : decode cX7_number 61 = .ok (.invokevirtual 36, 3) := by decide +kernel
theorem dX7_number_64 : decode cX7_number 64 = .ok (.ireturn, 1) := by decide +kernel
theorem dX7_number_65 : decode cX7_number 65 = .ok (.iconst 1, 1) := by decide +kernel
theorem dX7_number_66 : decode cX7_number 66 = .ok (.aload_n 0, 1) := by decide +kernel
theorem dX7_number_67 : decode cX7_number 67 = .ok (.iload_n 1, 1) := by decide +kernel
theorem dX7_number_68 : decode cX7_number 68 = .ok (.invokevirtual 60, 3) := by decide +kernel
theorem dX7_number_71 : decode cX7_number 71 = .ok (.iadd, 1) := by decide +kernel
theorem dX7_number_72 : decode cX7_number 72 = .ok (.ireturn, 1) := by decide +kernel
theorem dX7_betterThan_0 : decode cX7_betterThan 0 = .ok (.aload_n 0, 1) := by decide +kernel
theorem dX7_betterThan_1 : decode cX7_betterThan 1 = .ok (.iload_n 1, 1) := by decide +kernel
theorem dX7_betterThan_2 : decode cX7_betterThan 2 = .ok (.invokevirtual 57, 3) := by decide +kernel
theorem dX7_betterThan_5 : decode cX7_betterThan 5 = .ok (.istore_n 2, 1) := by decide +kernel
theorem dX7_betterThan_6 : decode cX7_betterThan 6 = .ok (.iconst 0, 1) := by decide +kernel
theorem dX7_betterThan_7 : decode cX7_betterThan 7 = .ok (.istore_n 3, 1) := by decide +kernel
theorem dX7_betterThan_8 : decode cX7_betterThan 8 = .ok (.iconst 0, 1) := by decide +kernel
theorem dX7_betterThan_9 : decode cX7_betterThan 9 = .ok (.istore 4, 2) := by decide +kernel
theorem dX7_betterThan_11 : decode cX7_betterThan 11 = .ok (.iload 4, 2) := by decide +kernel
theorem dX7_betterThan_13 : decode cX7_betterThan 13 = .ok (.aload_n 0, 1) := by decide +kernel
theorem dX7_betterThan_14 : decode cX7_betterThan 14 = .ok (.getfield 32, 3) := by decide +kernel
theorem dX7_betterThan_17 : decode cX7_betterThan 17 = .ok (.if_icmp .ge 22, 3) := by decide +kernel
theorem dX7_betterThan_20 : decode cX7_betterThan 20 = .ok (.aload_n 0, 1) := by decide +kernel
theorem dX7_betterThan_21 : decode cX7_betterThan 21 = .ok (.iload 4, 2) := by decide +kernel
theorem dX7_betterThan_23 : decode cX7_betterThan 23 = .ok (.invokevirtual 57, 3) := by decide +kernel
theorem dX7_betterThan_26 : decode cX7_betterThan 26 = .ok (.iload_n 2, 1) := by decide +kernel
theorem dX7_betterThan_27 : decode cX7_betterThan 27 = .ok (.if_icmp .le 6, 3) := by decide +kernel
theorem dX7_betterThan_30 : decode cX7_betterThan 30 = .ok (.iinc 3 1, 3) := by decide +kernel
theorem dX7_betterThan_33 : decode cX7_betterThan 33 = .ok (.iinc 4 1, 3) := by decide +kernel
theorem dX7_betterThan_36 : decode cX7_betterThan 36 = .ok (.goto (-25), 3) := by decide +kernel
theorem dX7_betterThan_39 : decode cX7_betterThan 39 = .ok (.iload_n 3, 1) := by decide +kernel
theorem dX7_betterThan_40 : decode cX7_betterThan 40 = .ok (.ireturn, 1) := by decide +kernel
theorem dX7_standing_0 : decode cX7_standing 0 = .ok (.aload_n 0, 1) := by decide +kernel
theorem dX7_standing_1 : decode cX7_standing 1 = .ok (.iload_n 1, 1) := by decide +kernel
theorem dX7_standing_2 : decode cX7_standing 2 = .ok (.invokevirtual 57, 3) := by decide +kernel
theorem dX7_standing_5 : decode cX7_standing 5 = .ok (.istore_n 2, 1) := by decide +kernel
theorem dX7_standing_6 : decode cX7_standing 6 = .ok (.aload_n 0, 1) := by decide +kernel
theorem dX7_standing_7 : decode cX7_standing 7 = .ok (.iload_n 1, 1) := by decide +kernel
theorem dX7_standing_8 : decode cX7_standing 8 = .ok (.invokevirtual 60, 3) := by decide +kernel
theorem dX7_standing_11 : decode cX7_standing 11 = .ok (.istore_n 3, 1) := by decide +kernel
theorem dX7_standing_12 : decode cX7_standing 12 = .ok (.iconst 0, 1) := by decide +kernel
theorem dX7_standing_13 : decode cX7_standing 13 = .ok (.istore 4, 2) := by decide +kernel
theorem dX7_standing_15 : decode cX7_standing 15 = .ok (.iload 4, 2) := by decide +kernel
theorem dX7_standing_17 : decode cX7_standing 17 = .ok (.iload_n 1, 1) := by decide +kernel
theorem dX7_standing_18 : decode cX7_standing 18 = .ok (.if_icmp .ge 22, 3) := by decide +kernel
theorem dX7_standing_21 : decode cX7_standing 21 = .ok (.aload_n 0, 1) := by decide +kernel
theorem dX7_standing_22 : decode cX7_standing 22 = .ok (.iload 4, 2) := by decide +kernel
theorem dX7_standing_24 : decode cX7_standing 24 = .ok (.invokevirtual 57, 3) := by decide +kernel
theorem dX7_standing_27 : decode cX7_standing 27 = .ok (.iload_n 2, 1) := by decide +kernel
theorem dX7_standing_28 : decode cX7_standing 28 = .ok (.if_icmp .ne 6, 3) := by decide +kernel
theorem dX7_standing_31 : decode cX7_standing 31 = .ok (.iinc 3 1, 3) := by decide +kernel
theorem dX7_standing_34 : decode cX7_standing 34 = .ok (.iinc 4 1, 3) := by decide +kernel
theorem dX7_standing_37 : decode cX7_standing 37 = .ok (.goto (-22), 3) := by decide +kernel
theorem dX7_standing_40 : decode cX7_standing 40 = .ok (.iload_n 3, 1) := by decide +kernel
theorem dX7_standing_41 : decode cX7_standing 41 = .ok (.ireturn, 1) := by decide +kernel
theorem dX7_pickers_0 : decode cX7_pickers 0 = .ok (.iconst 0, 1) := by decide +kernel
theorem dX7_pickers_1 : decode cX7_pickers 1 = .ok (.istore_n 3, 1) := by decide +kernel
theorem dX7_pickers_2 : decode cX7_pickers 2 = .ok (.iconst 0, 1) := by decide +kernel
theorem dX7_pickers_3 : decode cX7_pickers 3 = .ok (.istore 4, 2) := by decide +kernel
theorem dX7_pickers_5 : decode cX7_pickers 5 = .ok (.iload 4, 2) := by decide +kernel
theorem dX7_pickers_7 : decode cX7_pickers 7 = .ok (.aload_n 0, 1) := by decide +kernel
theorem dX7_pickers_8 : decode cX7_pickers 8 = .ok (.getfield 32, 3) := by decide +kernel
theorem dX7_pickers_11 : decode cX7_pickers 11 = .ok (.if_icmp .ge 23, 3) := by decide +kernel
theorem dX7_pickers_14 : decode cX7_pickers 14 = .ok (.aload_n 0, 1) := by decide +kernel
theorem dX7_pickers_15 : decode cX7_pickers 15 = .ok (.iload 4, 2) := by decide +kernel
theorem dX7_pickers_17 : decode cX7_pickers 17 = .ok (.iload_n 1, 1) := by decide +kernel
theorem dX7_pickers_18 : decode cX7_pickers 18 = .ok (.invokevirtual 63, 3) := by decide +kernel
theorem dX7_pickers_21 : decode cX7_pickers 21 = .ok (.iload_n 2, 1) := by decide +kernel
theorem dX7_pickers_22 : decode cX7_pickers 22 = .ok (.if_icmp .ne 6, 3) := by decide +kernel
theorem dX7_pickers_25 : decode cX7_pickers 25 = .ok (.iinc 3 1, 3) := by decide +kernel
theorem dX7_pickers_28 : decode cX7_pickers 28 = .ok (.iinc 4 1, 3) := by decide +kernel
theorem dX7_pickers_31 : decode cX7_pickers 31 = .ok (.goto (-26), 3) := by decide +kernel
theorem dX7_pickers_34 : decode cX7_pickers 34 = .ok (.iload_n 3, 1) := by decide +kernel
theorem dX7_pickers_35 : decode cX7_pickers 35 = .ok (.ireturn, 1) := by decide +kernel
theorem dX7_copy_0 : decode cX7_copy 0 = .ok (.aload_n 0, 1) := by decide +kernel
theorem dX7_copy_1 : decode cX7_copy 1 = .ok (.getfield 14, 3) := by decide +kernel
theorem dX7_copy_4 : decode cX7_copy 4 = .ok (.aload_n 1, 1) := by decide +kernel
theorem dX7_copy_5 : decode cX7_copy 5 = .ok (.getfield 14, 3) := by decide +kernel
theorem dX7_copy_8 : decode cX7_copy 8 = .ok (.invokevirtual 66, 3) := by decide +kernel
theorem dX7_copy_11 : decode cX7_copy 11 = .ok (.aload_n 0, 1) := by decide +kernel
theorem dX7_copy_12 : decode cX7_copy 12 = .ok (.getfield 20, 3) := by decide +kernel
theorem dX7_copy_15 : decode cX7_copy 15 = .ok (.aload_n 1, 1) := by decide +kernel
theorem dX7_copy_16 : decode cX7_copy 16 = .ok (.getfield 20, 3) := by decide +kernel
theorem dX7_copy_19 : decode cX7_copy 19 = .ok (.invokevirtual 66, 3) := by decide +kernel
theorem dX7_copy_22 : decode cX7_copy 22 = .ok (.aload_n 0, 1) := by decide +kernel
theorem dX7_copy_23 : decode cX7_copy 23 = .ok (.getfield 23, 3) := by decide +kernel
theorem dX7_copy_26 : decode cX7_copy 26 = .ok (.aload_n 1, 1) := by decide +kernel
theorem dX7_copy_27 : decode cX7_copy 27 = .ok (.getfield 23, 3) := by decide +kernel
theorem dX7_copy_30 : decode cX7_copy 30 = .ok (.invokevirtual 66, 3) := by decide +kernel
theorem dX7_copy_33 : decode cX7_copy 33 = .ok (.aload_n 0, 1) := by decide +kernel
theorem dX7_copy_34 : decode cX7_copy 34 = .ok (.getfield 26, 3) := by decide +kernel
theorem dX7_copy_37 : decode cX7_copy 37 = .ok (.aload_n 1, 1) := by decide +kernel
theorem dX7_copy_38 : decode cX7_copy 38 = .ok (.getfield 26, 3) := by decide +kernel
theorem dX7_copy_41 : decode cX7_copy 41 = .ok (.invokevirtual 66, 3) := by decide +kernel
theorem dX7_copy_44 : decode cX7_copy 44 = .ok (.aload_n 0, 1) := by decide +kernel
theorem dX7_copy_45 : decode cX7_copy 45 = .ok (.getfield 29, 3) := by decide +kernel
theorem dX7_copy_48 : decode cX7_copy 48 = .ok (.aload_n 1, 1) := by decide +kernel
theorem dX7_copy_49 : decode cX7_copy 49 = .ok (.getfield 29, 3) := by decide +kernel
theorem dX7_copy_52 : decode cX7_copy 52 = .ok (.invokevirtual 66, 3) := by decide +kernel
theorem dX7_copy_55 : decode cX7_copy 55 = .ok (.aload_n 0, 1) := by decide +kernel
theorem dX7_copy_56 : decode cX7_copy 56 = .ok (.aload_n 1, 1) := by decide +kernel
theorem dX7_copy_57 : decode cX7_copy 57 = .ok (.getfield 32, 3) := by decide +kernel
theorem dX7_copy_60 : decode cX7_copy 60 = .ok (.putfield 32, 3) := by decide +kernel
theorem dX7_copy_63 : decode cX7_copy 63 = .ok (.return_, 1) := by decide +kernel
theorem dX8_init_0 : decode cX8_init 0 = .ok (.aload_n 0, 1) := by decide +kernel
theorem dX8_init_1 : decode cX8_init 1 = .ok (.invokespecial 3, 3) := by decide +kernel
theorem dX8_init_4 : decode cX8_init 4 = .ok (.aload_n 0, 1) := by decide +kernel
theorem dX8_init_5 : decode cX8_init 5 = .ok (.new 9, 3) := by decide +kernel
theorem dX8_init_8 : decode cX8_init 8 = .ok (.dup, 1) := by decide +kernel
theorem dX8_init_9 : decode cX8_init 9 = .ok (.invokespecial 11, 3) := by decide +kernel
theorem dX8_init_12 : decode cX8_init 12 = .ok (.putfield 12, 3) := by decide +kernel
theorem dX8_init_15 : decode cX8_init 15 = .ok (.aload_n 0, 1) := by decide +kernel
theorem dX8_init_16 : decode cX8_init 16 = .ok (.new 18, 3) := by decide +kernel
theorem dX8_init_19 : decode cX8_init 19 = .ok (.dup, 1) := by decide +kernel
theorem dX8_init_20 : decode cX8_init 20 = .ok (.bipush 6, 2) := by decide +kernel
theorem dX8_init_22 : decode cX8_init 22 = .ok (.invokespecial 20, 3) := by decide +kernel
theorem dX8_init_25 : decode cX8_init 25 = .ok (.putfield 23, 3) := by decide +kernel
theorem dX8_init_28 : decode cX8_init 28 = .ok (.aload_n 0, 1) := by decide +kernel
theorem dX8_init_29 : decode cX8_init 29 = .ok (.new 27, 3) := by decide +kernel
theorem dX8_init_32 : decode cX8_init 32 = .ok (.dup, 1) := by decide +kernel
theorem dX8_init_33 : decode cX8_init 33 = .ok (.invokespecial 29, 3) := by decide +kernel
theorem dX8_init_36 : decode cX8_init 36 = .ok (.putfield 30, 3) := by decide +kernel
theorem dX8_init_39 : decode cX8_init 39 = .ok (.aload_n 0, 1) := by decide +kernel
theorem dX8_init_40 : decode cX8_init 40 = .ok (.bipush 30, 2) := by decide +kernel
theorem dX8_init_42 : decode cX8_init 42 = .ok (.putfield 34, 3) := by decide +kernel
theorem dX8_init_45 : decode cX8_init 45 = .ok (.return_, 1) := by decide +kernel
theorem dX8_copy_0 : decode cX8_copy 0 = .ok (.aload_n 0, 1) := by decide +kernel
theorem dX8_copy_1 : decode cX8_copy 1 = .ok (.getfield 12, 3) := by decide +kernel
theorem dX8_copy_4 : decode cX8_copy 4 = .ok (.aload_n 1, 1) := by decide +kernel
theorem dX8_copy_5 : decode cX8_copy 5 = .ok (.getfield 12, 3) := by decide +kernel
theorem dX8_copy_8 : decode cX8_copy 8 = .ok (.invokevirtual 38, 3) := by decide +kernel
theorem dX8_copy_11 : decode cX8_copy 11 = .ok (.aload_n 0, 1) := by decide +kernel
theorem dX8_copy_12 : decode cX8_copy 12 = .ok (.getfield 23, 3) := by decide +kernel
theorem dX8_copy_15 : decode cX8_copy 15 = .ok (.aload_n 1, 1) := by decide +kernel
theorem dX8_copy_16 : decode cX8_copy 16 = .ok (.getfield 23, 3) := by decide +kernel
theorem dX8_copy_19 : decode cX8_copy 19 = .ok (.invokevirtual 42, 3) := by decide +kernel
theorem dX8_copy_22 : decode cX8_copy 22 = .ok (.aload_n 0, 1) := by decide +kernel
theorem dX8_copy_23 : decode cX8_copy 23 = .ok (.getfield 30, 3) := by decide +kernel
theorem dX8_copy_26 : decode cX8_copy 26 = .ok (.aload_n 1, 1) := by decide +kernel
theorem dX8_copy_27 : decode cX8_copy 27 = .ok (.getfield 30, 3) := by decide +kernel
theorem dX8_copy_30 : decode cX8_copy 30 = .ok (.invokevirtual 45, 3) := by decide +kernel
theorem dX8_copy_33 : decode cX8_copy 33 = .ok (.aload_n 0, 1) := by decide +kernel
theorem dX8_copy_34 : decode cX8_copy 34 = .ok (.aload_n 1, 1) := by decide +kernel
theorem dX8_copy_35 : decode cX8_copy 35 = .ok (.getfield 48, 3) := by decide +kernel
theorem dX8_copy_38 : decode cX8_copy 38 = .ok (.putfield 48, 3) := by decide +kernel
theorem dX8_copy_41 : decode cX8_copy 41 = .ok (.aload_n 0, 1) := by decide +kernel
theorem dX8_copy_42 : decode cX8_copy 42 = .ok (.aload_n 1, 1) := by decide +kernel
theorem dX8_copy_43 : decode cX8_copy 43 = .ok (.getfield 34, 3) := by decide +kernel
theorem dX8_copy_46 : decode cX8_copy 46 = .ok (.putfield 34, 3) := by decide +kernel
theorem dX8_copy_49 : decode cX8_copy 49 = .ok (.return_, 1) := by decide +kernel
theorem dX9_init_0 : decode cX9_init 0 = .ok (.aload_n 0, 1) := by decide +kernel
theorem dX9_init_1 : decode cX9_init 1 = .ok (.invokespecial 1, 3) := by decide +kernel
theorem dX9_init_4 : decode cX9_init 4 = .ok (.aload_n 0, 1) := by decide +kernel
theorem dX9_init_5 : decode cX9_init 5 = .ok (.new 7, 3) := by decide +kernel
theorem dX9_init_8 : decode cX9_init 8 = .ok (.dup, 1) := by decide +kernel
theorem dX9_init_9 : decode cX9_init 9 = .ok (.invokespecial 9, 3) := by decide +kernel
theorem dX9_init_12 : decode cX9_init 12 = .ok (.putfield 10, 3) := by decide +kernel
theorem dX9_init_15 : decode cX9_init 15 = .ok (.aload_n 0, 1) := by decide +kernel
theorem dX9_init_16 : decode cX9_init 16 = .ok (.new 16, 3) := by decide +kernel
theorem dX9_init_19 : decode cX9_init 19 = .ok (.dup, 1) := by decide +kernel
theorem dX9_init_20 : decode cX9_init 20 = .ok (.invokespecial 18, 3) := by decide +kernel
theorem dX9_init_23 : decode cX9_init 23 = .ok (.putfield 19, 3) := by decide +kernel
theorem dX9_init_26 : decode cX9_init 26 = .ok (.aload_n 0, 1) := by decide +kernel
theorem dX9_init_27 : decode cX9_init 27 = .ok (.new 23, 3) := by decide +kernel
theorem dX9_init_30 : decode cX9_init 30 = .ok (.dup, 1) := by decide +kernel
theorem dX9_init_31 : decode cX9_init 31 = .ok (.invokespecial 25, 3) := by decide +kernel
theorem dX9_init_34 : decode cX9_init 34 = .ok (.putfield 26, 3) := by decide +kernel
theorem dX9_init_37 : decode cX9_init 37 = .ok (.aload_n 0, 1) := by decide +kernel
theorem dX9_init_38 : decode cX9_init 38 = .ok (.bipush 6, 2) := by decide +kernel
theorem dX9_init_40 : decode cX9_init 40 = .ok (.anewarray 30, 3) := by decide +kernel
theorem dX9_init_43 : decode cX9_init 43 = .ok (.putfield 32, 3) := by decide +kernel
theorem dX9_init_46 : decode cX9_init 46 = .ok (.aload_n 0, 1) := by decide +kernel
theorem dX9_init_47 : decode cX9_init 47 = .ok (.new 30, 3) := by decide +kernel
theorem dX9_init_50 : decode cX9_init 50 = .ok (.dup, 1) := by decide +kernel
theorem dX9_init_51 : decode cX9_init 51 = .ok (.invokespecial 36, 3) := by decide +kernel
theorem dX9_init_54 : decode cX9_init 54 = .ok (.putfield 37, 3) := by decide +kernel
theorem dX9_init_57 : decode cX9_init 57 = .ok (.aload_n 0, 1) := by decide +kernel
theorem dX9_init_58 : decode cX9_init 58 = .ok (.new 41, 3) := by decide +kernel
theorem dX9_init_61 : decode cX9_init 61 = .ok (.dup, 1) := by decide +kernel
theorem dX9_init_62 : decode cX9_init 62 = .ok (.invokespecial 43, 3) := by decide +kernel
theorem dX9_init_65 : decode cX9_init 65 = .ok (.putfield 44, 3) := by decide +kernel
theorem dX9_init_68 : decode cX9_init 68 = .ok (.aload_n 0, 1) := by decide +kernel
theorem dX9_init_69 : decode cX9_init 69 = .ok (.new 48, 3) := by decide +kernel
theorem dX9_init_72 : decode cX9_init 72 = .ok (.dup, 1) := by decide +kernel
theorem dX9_init_73 : decode cX9_init 73 = .ok (.bipush 20, 2) := by decide +kernel
theorem dX9_init_75 : decode cX9_init 75 = .ok (.invokespecial 50, 3) := by decide +kernel
theorem dX9_init_78 : decode cX9_init 78 = .ok (.putfield 53, 3) := by decide +kernel
theorem dX9_init_81 : decode cX9_init 81 = .ok (.aload_n 0, 1) := by decide +kernel
theorem dX9_init_82 : decode cX9_init 82 = .ok (.new 48, 3) := by decide +kernel
theorem dX9_init_85 : decode cX9_init 85 = .ok (.dup, 1) := by decide +kernel
theorem dX9_init_86 : decode cX9_init 86 = .ok (.bipush 20, 2) := by decide +kernel
theorem dX9_init_88 : decode cX9_init 88 = .ok (.invokespecial 50, 3) := by decide +kernel
theorem dX9_init_91 : decode cX9_init 91 = .ok (.putfield 57, 3) := by decide +kernel
theorem dX9_init_94 : decode cX9_init 94 = .ok (.iconst 0, 1) := by decide +kernel
theorem dX9_init_95 : decode cX9_init 95 = .ok (.istore_n 1, 1) := by decide +kernel
theorem dX9_init_96 : decode cX9_init 96 = .ok (.iload_n 1, 1) := by decide +kernel
theorem dX9_init_97 : decode cX9_init 97 = .ok (.aload_n 0, 1) := by decide +kernel
theorem dX9_init_98 : decode cX9_init 98 = .ok (.getfield 32, 3) := by decide +kernel
theorem dX9_init_101 : decode cX9_init 101 = .ok (.arraylength, 1) := by decide +kernel
theorem dX9_init_102 : decode cX9_init 102 = .ok (.if_icmp .ge 22, 3) := by decide +kernel
theorem dX9_init_105 : decode cX9_init 105 = .ok (.aload_n 0, 1) := by decide +kernel
theorem dX9_init_106 : decode cX9_init 106 = .ok (.getfield 32, 3) := by decide +kernel
theorem dX9_init_109 : decode cX9_init 109 = .ok (.iload_n 1, 1) := by decide +kernel
theorem dX9_init_110 : decode cX9_init 110 = .ok (.new 30, 3) := by decide +kernel
theorem dX9_init_113 : decode cX9_init 113 = .ok (.dup, 1) := by decide +kernel
theorem dX9_init_114 : decode cX9_init 114 = .ok (.invokespecial 36, 3) := by decide +kernel
theorem dX9_init_117 : decode cX9_init 117 = .ok (.aastore, 1) := by decide +kernel
theorem dX9_init_118 : decode cX9_init 118 = .ok (.iinc 1 1, 3) := by decide +kernel
theorem dX9_init_121 : decode cX9_init 121 = .ok (.goto (-25), 3) := by decide +kernel
theorem dX9_init_124 : decode cX9_init 124 = .ok (.return_, 1) := by decide +kernel
theorem dX9_add_0 : decode cX9_add 0 = .ok (.iload_n 2, 1) := by decide +kernel
theorem dX9_add_1 : decode cX9_add 1 = .ok (.iconst 2, 1) := by decide +kernel
theorem dX9_add_2 : decode cX9_add 2 = .ok (.if_icmp .lt 46, 3) := by decide +kernel
theorem dX9_add_5 : decode cX9_add 5 = .ok (.iload_n 2, 1) := by decide +kernel
theorem dX9_add_6 : decode cX9_add 6 = .ok (.iconst 5, 1) := by decide +kernel
theorem dX9_add_7 : decode cX9_add 7 = .ok (.if_icmp .gt 41, 3) := by decide +kernel
theorem dX9_add_10 : decode cX9_add 10 = .ok (.iconst 0, 1) := by decide +kernel
theorem dX9_add_11 : decode cX9_add 11 = .ok (.iload_n 1, 1) := by decide +kernel
theorem dX9_add_12 : decode cX9_add 12 = .ok (.iload_n 2, 1) := by decide +kernel
theorem dX9_add_13 : decode cX9_add 13 = .ok (.invokestatic 60, 3) := by decide +kernel
theorem dX9_add_16 : decode cX9_add 16 = .ok (.ifCond .eq 32, 3) := by decide +kernel
theorem dX9_add_19 : decode cX9_add 19 = .ok (.iconst 1, 1) := by decide +kernel
theorem dX9_add_20 : decode cX9_add 20 = .ok (.iload_n 3, 1) := by decide +kernel
theorem dX9_add_21 : decode cX9_add 21 = .ok (.iload_n 2, 1) := by decide +kernel
theorem dX9_add_22 : decode cX9_add 22 = .ok (.invokestatic 60, 3) := by decide +kernel
theorem dX9_add_25 : decode cX9_add 25 = .ok (.ifCond .eq 23, 3) := by decide +kernel
theorem dX9_add_28 : decode cX9_add 28 = .ok (.iconst 2, 1) := by decide +kernel
theorem dX9_add_29 : decode cX9_add 29 = .ok (.iload 4, 2) := by decide +kernel
theorem dX9_add_31 : decode cX9_add 31 = .ok (.iload_n 2, 1) := by decide +kernel
theorem dX9_add_32 : decode cX9_add 32 = .ok (.invokestatic 60, 3) := by decide +kernel
theorem dX9_add_35 : decode cX9_add 35 = .ok (.ifCond .eq 13, 3) := by decide +kernel
theorem dX9_add_38 : decode cX9_add 38 = .ok (.iconst 3, 1) := by decide +kernel
theorem dX9_add_39 : decode cX9_add 39 = .ok (.iload 5, 2) := by decide +kernel
theorem dX9_add_41 : decode cX9_add 41 = .ok (.iload_n 2, 1) := by decide +kernel
theorem dX9_add_42 : decode cX9_add 42 = .ok (.invokestatic 60, 3) := by decide +kernel
theorem dX9_add_45 : decode cX9_add 45 = .ok (.ifCond .ne 7, 3) := by decide +kernel
theorem dX9_add_48 : decode cX9_add 48 = .ok (.sipush (-1001), 3) := by decide +kernel
theorem dX9_add_51 : decode cX9_add 51 = .ok (.ireturn, 1) := by decide +kernel
theorem dX9_add_52 : decode cX9_add 52 = .ok (.aload_n 0, 1) := by decide +kernel
theorem dX9_add_53 : decode cX9_add 53 = .ok (.getfield 10, 3) := by decide +kernel
theorem dX9_add_56 : decode cX9_add 56 = .ok (.getfield 66, 3) := by decide +kernel
theorem dX9_add_59 : decode cX9_add 59 = .ok (.getfield 70, 3) := by decide +kernel
theorem dX9_add_62 : decode cX9_add 62 = .ok (.ifCond .le 7, 3) := by decide +kernel
theorem dX9_add_65 : decode cX9_add 65 = .ok (.sipush (-1002), 3) := by decide +kernel
theorem dX9_add_68 : decode cX9_add 68 = .ok (.ireturn, 1) := by decide +kernel
theorem dX9_add_69 : decode cX9_add 69 = .ok (.aload_n 0, 1) := by decide +kernel
theorem dX9_add_70 : decode cX9_add 70 = .ok (.getfield 10, 3) := by decide +kernel
theorem dX9_add_73 : decode cX9_add 73 = .ok (.getfield 76, 3) := by decide +kernel
theorem dX9_add_76 : decode cX9_add 76 = .ok (.getfield 80, 3) := by decide +kernel
theorem dX9_add_79 : decode cX9_add 79 = .ok (.bipush 20, 2) := by decide +kernel
theorem dX9_add_81 : decode cX9_add 81 = .ok (.if_icmp .lt 7, 3) := by decide +kernel
theorem dX9_add_84 : decode cX9_add 84 = .ok (.sipush (-1003), 3) := by decide +kernel
theorem dX9_add_87 : decode cX9_add 87 = .ok (.ireturn, 1) := by decide +kernel
theorem dX9_add_88 : decode cX9_add 88 = .ok (.aload_n 0, 1) := by decide +kernel
theorem dX9_add_89 : decode cX9_add 89 = .ok (.invokevirtual 81, 3) := by decide +kernel
theorem dX9_add_92 : decode cX9_add 92 = .ok (.aload_n 0, 1) := by decide +kernel
theorem dX9_add_93 : decode cX9_add 93 = .ok (.getfield 10, 3) := by decide +kernel
theorem dX9_add_96 : decode cX9_add 96 = .ok (.getfield 76, 3) := by decide +kernel
theorem dX9_add_99 : decode cX9_add 99 = .ok (.iload_n 1, 1) := by decide +kernel
theorem dX9_add_100 : decode cX9_add 100 = .ok (.iload_n 2, 1) := by decide +kernel
theorem dX9_add_101 : decode cX9_add 101 = .ok (.iload_n 3, 1) := by decide +kernel
theorem dX9_add_102 : decode cX9_add 102 = .ok (.iload 4, 2) := by decide +kernel
theorem dX9_add_104 : decode cX9_add 104 = .ok (.iload 5, 2) := by decide +kernel
theorem dX9_add_106 : decode cX9_add 106 = .ok (.invokevirtual 84, 3) := by decide +kernel
theorem dX9_add_109 : decode cX9_add 109 = .ok (.ireturn, 1) := by decide +kernel
theorem dX9_remove_0 : decode cX9_remove 0 = .ok (.aload_n 0, 1) := by decide +kernel
theorem dX9_remove_1 : decode cX9_remove 1 = .ok (.getfield 10, 3) := by decide +kernel
theorem dX9_remove_4 : decode cX9_remove 4 = .ok (.getfield 76, 3) := by decide +kernel
theorem dX9_remove_7 : decode cX9_remove 7 = .ok (.iload_n 1, 1) := by decide +kernel
theorem dX9_remove_8 : decode cX9_remove 8 = .ok (.invokevirtual 88, 3) := by decide +kernel
theorem dX9_remove_11 : decode cX9_remove 11 = .ok (.ifCond .ne 7, 3) := by decide +kernel
theorem dX9_remove_14 : decode cX9_remove 14 = .ok (.sipush (-1001), 3) := by decide +kernel
theorem dX9_remove_17 : decode cX9_remove 17 = .ok (.ireturn, 1) := by decide +kernel
theorem dX9_remove_18 : decode cX9_remove 18 = .ok (.aload_n 0, 1) := by decide +kernel
theorem dX9_remove_19 : decode cX9_remove 19 = .ok (.getfield 10, 3) := by decide +kernel
theorem dX9_remove_22 : decode cX9_remove 22 = .ok (.getfield 66, 3) := by decide +kernel
theorem dX9_remove_25 : decode cX9_remove 25 = .ok (.getfield 70, 3) := by decide +kernel
theorem dX9_remove_28 : decode cX9_remove 28 = .ok (.ifCond .le 7, 3) := by decide +kernel
theorem dX9_remove_31 : decode cX9_remove 31 = .ok (.sipush (-1002), 3) := by decide +kernel
theorem dX9_remove_34 : decode cX9_remove 34 = .ok (.ireturn, 1) := by decide +kernel
theorem dX9_remove_35 : decode cX9_remove 35 = .ok (.aload_n 0, 1) := by decide +kernel
theorem dX9_remove_36 : decode cX9_remove 36 = .ok (.invokevirtual 81, 3) := by decide +kernel
theorem dX9_remove_39 : decode cX9_remove 39 = .ok (.aload_n 0, 1) := by decide +kernel
theorem dX9_remove_40 : decode cX9_remove 40 = .ok (.getfield 10, 3) := by decide +kernel
theorem dX9_remove_43 : decode cX9_remove 43 = .ok (.getfield 76, 3) := by decide +kernel
theorem dX9_remove_46 : decode cX9_remove 46 = .ok (.iload_n 1, 1) := by decide +kernel
theorem dX9_remove_47 : decode cX9_remove 47 = .ok (.invokevirtual 92, 3) := by decide +kernel
theorem dX9_remove_50 : decode cX9_remove 50 = .ok (.aload_n 0, 1) := by decide +kernel
theorem dX9_remove_51 : decode cX9_remove 51 = .ok (.getfield 10, 3) := by decide +kernel
theorem dX9_remove_54 : decode cX9_remove 54 = .ok (.getfield 76, 3) := by decide +kernel
theorem dX9_remove_57 : decode cX9_remove 57 = .ok (.getfield 80, 3) := by decide +kernel
theorem dX9_remove_60 : decode cX9_remove 60 = .ok (.ireturn, 1) := by decide +kernel
theorem dX9_change_0 : decode cX9_change 0 = .ok (.aload_n 0, 1) := by decide +kernel
theorem dX9_change_1 : decode cX9_change 1 = .ok (.getfield 10, 3) := by decide +kernel
theorem dX9_change_4 : decode cX9_change 4 = .ok (.getfield 76, 3) := by decide +kernel
theorem dX9_change_7 : decode cX9_change 7 = .ok (.iload_n 1, 1) := by decide +kernel
theorem dX9_change_8 : decode cX9_change 8 = .ok (.invokevirtual 88, 3) := by decide +kernel
theorem dX9_change_11 : decode cX9_change 11 = .ok (.ifCond .eq 23, 3) := by decide +kernel
theorem dX9_change_14 : decode cX9_change 14 = .ok (.iload_n 2, 1) := by decide +kernel
theorem dX9_change_15 : decode cX9_change 15 = .ok (.iload_n 3, 1) := by decide +kernel
theorem dX9_change_16 : decode cX9_change 16 = .ok (.aload_n 0, 1) := by decide +kernel
theorem dX9_change_17 : decode cX9_change 17 = .ok (.getfield 10, 3) := by decide +kernel
theorem dX9_change_20 : decode cX9_change 20 = .ok (.getfield 76, 3) := by decide +kernel
theorem dX9_change_23 : decode cX9_change 23 = .ok (.iload_n 1, 1) := by decide +kernel
theorem dX9_change_24 : decode cX9_change 24 = .ok (.iconst 4, 1) := by decide +kernel
theorem dX9_change_25 : decode cX9_change 25 = .ok (.invokevirtual 95, 3) := by decide +kernel
theorem dX9_change_28 : decode cX9_change 28 = .ok (.invokestatic 60, 3) := by decide +kernel
theorem dX9_change_31 : decode cX9_change 31 = .ok (.ifCond .ne 7, 3) := by decide +kernel
theorem dX9_change_34 : decode cX9_change 34 = .ok (.sipush (-1001), 3) := by decide +kernel
theorem dX9_change_37 : decode cX9_change 37 = .ok (.ireturn, 1) := by decide +kernel
theorem dX9_change_38 : decode cX9_change 38 = .ok (.aload_n 0, 1) := by decide +kernel
theorem dX9_change_39 : decode cX9_change 39 = .ok (.getfield 10, 3) := by decide +kernel
theorem dX9_change_42 : decode cX9_change 42 = .ok (.getfield 66, 3) := by decide +kernel
theorem dX9_change_45 : decode cX9_change 45 = .ok (.getfield 70, 3) := by decide +kernel
theorem dX9_change_48 : decode cX9_change 48 = .ok (.ifCond .le 7, 3) := by decide +kernel
theorem dX9_change_51 : decode cX9_change 51 = .ok (.sipush (-1002), 3) := by decide +kernel
theorem dX9_change_54 : decode cX9_change 54 = .ok (.ireturn, 1) := by decide +kernel
theorem dX9_change_55 : decode cX9_change 55 = .ok (.aload_n 0, 1) := by decide +kernel
theorem dX9_change_56 : decode cX9_change 56 = .ok (.invokevirtual 81, 3) := by decide +kernel
theorem dX9_change_59 : decode cX9_change 59 = .ok (.aload_n 0, 1) := by decide +kernel
theorem dX9_change_60 : decode cX9_change 60 = .ok (.getfield 10, 3) := by decide +kernel
theorem dX9_change_63 : decode cX9_change 63 = .ok (.getfield 76, 3) := by decide +kernel
theorem dX9_change_66 : decode cX9_change 66 = .ok (.iload_n 1, 1) := by decide +kernel
theorem dX9_change_67 : decode cX9_change 67 = .ok (.iload_n 2, 1) := by decide +kernel
theorem dX9_change_68 : decode cX9_change 68 = .ok (.invokevirtual 95, 3) := by decide +kernel
theorem dX9_change_71 : decode cX9_change 71 = .ok (.istore 4, 2) := by decide +kernel
theorem dX9_change_73 : decode cX9_change 73 = .ok (.aload_n 0, 1) := by decide +kernel
theorem dX9_change_74 : decode cX9_change 74 = .ok (.getfield 10, 3) := by decide +kernel
theorem dX9_change_77 : decode cX9_change 77 = .ok (.getfield 76, 3) := by decide +kernel
theorem dX9_change_80 : decode cX9_change 80 = .ok (.iload_n 1, 1) := by decide +kernel
theorem dX9_change_81 : decode cX9_change 81 = .ok (.iload_n 2, 1) := by decide +kernel
theorem dX9_change_82 : decode cX9_change 82 = .ok (.iload_n 3, 1) := by decide +kernel
theorem dX9_change_83 : decode cX9_change 83 = .ok (.invokevirtual 99, 3) := by decide +kernel
theorem dX9_change_86 : decode cX9_change 86 = .ok (.iload 4, 2) := by decide +kernel
theorem dX9_change_88 : decode cX9_change 88 = .ok (.ireturn, 1) := by decide +kernel
theorem dX9_question_0 : decode cX9_question 0 = .ok (.aload_n 0, 1) := by decide +kernel
theorem dX9_question_1 : decode cX9_question 1 = .ok (.getfield 10, 3) := by decide +kernel
theorem dX9_question_4 : decode cX9_question 4 = .ok (.getfield 76, 3) := by decide +kernel
theorem dX9_question_7 : decode cX9_question 7 = .ok (.iload_n 1, 1) := by decide +kernel
theorem dX9_question_8 : decode cX9_question 8 = .ok (.invokevirtual 88, 3) := by decide +kernel
theorem dX9_question_11 : decode cX9_question 11 = .ok (.ifCond .eq 12, 3) := by decide +kernel
theorem dX9_question_14 : decode cX9_question 14 = .ok (.iload_n 2, 1) := by decide +kernel
theorem dX9_question_15 : decode cX9_question 15 = .ok (.ifCond .lt 8, 3) := by decide +kernel
theorem dX9_question_18 : decode cX9_question 18 = .ok (.iload_n 2, 1) := by decide +kernel
theorem dX9_question_19 : decode cX9_question 19 = .ok (.iconst 5, 1) := by decide +kernel
theorem dX9_question_20 : decode cX9_question 20 = .ok (.if_icmp .lt 7, 3) := by decide +kernel
theorem dX9_question_23 : decode cX9_question 23 = .ok (.sipush (-1001), 3) := by decide +kernel
theorem dX9_question_26 : decode cX9_question 26 = .ok (.ireturn, 1) := by decide +kernel
theorem dX9_question_27 : decode cX9_question 27 = .ok (.aload_n 0, 1) := by decide +kernel
theorem dX9_question_28 : decode cX9_question 28 = .ok (.getfield 10, 3) := by decide +kernel
theorem dX9_question_31 : decode cX9_question 31 = .ok (.getfield 76, 3) := by decide +kernel
theorem dX9_question_34 : decode cX9_question 34 = .ok (.iload_n 1, 1) := by decide +kernel
theorem dX9_question_35 : decode cX9_question 35 = .ok (.iload_n 2, 1) := by decide +kernel
theorem dX9_question_36 : decode cX9_question 36 = .ok (.invokevirtual 95, 3) := by decide +kernel
theorem dX9_question_39 : decode cX9_question 39 = .ok (.ireturn, 1) := by decide +kernel
theorem dX9_questions_0 : decode cX9_questions 0 = .ok (.aload_n 0, 1) := by decide +kernel
theorem dX9_questions_1 : decode cX9_questions 1 = .ok (.getfield 10, 3) := by decide +kernel
theorem dX9_questions_4 : decode cX9_questions 4 = .ok (.getfield 76, 3) := by decide +kernel
theorem dX9_questions_7 : decode cX9_questions 7 = .ok (.getfield 80, 3) := by decide +kernel
theorem dX9_questions_10 : decode cX9_questions 10 = .ok (.ireturn, 1) := by decide +kernel
theorem dX9_version_0 : decode cX9_version 0 = .ok (.aload_n 0, 1) := by decide +kernel
theorem dX9_version_1 : decode cX9_version 1 = .ok (.getfield 10, 3) := by decide +kernel
theorem dX9_version_4 : decode cX9_version 4 = .ok (.getfield 66, 3) := by decide +kernel
theorem dX9_version_7 : decode cX9_version 7 = .ok (.getfield 70, 3) := by decide +kernel
theorem dX9_version_10 : decode cX9_version 10 = .ok (.ifCond .le 7, 3) := by decide +kernel
theorem dX9_version_13 : decode cX9_version 13 = .ok (.sipush (-1002), 3) := by decide +kernel
theorem dX9_version_16 : decode cX9_version 16 = .ok (.ireturn, 1) := by decide +kernel
theorem dX9_version_17 : decode cX9_version 17 = .ok (.aload_n 0, 1) := by decide +kernel
theorem dX9_version_18 : decode cX9_version 18 = .ok (.getfield 10, 3) := by decide +kernel
theorem dX9_version_21 : decode cX9_version 21 = .ok (.getfield 103, 3) := by decide +kernel
theorem dX9_version_24 : decode cX9_version 24 = .ok (.bipush 6, 2) := by decide +kernel
theorem dX9_version_26 : decode cX9_version 26 = .ok (.if_icmp .lt 7, 3) := by decide +kernel
theorem dX9_version_29 : decode cX9_version 29 = .ok (.sipush (-1003), 3) := by decide +kernel
theorem dX9_version_32 : decode cX9_version 32 = .ok (.ireturn, 1) := by decide +kernel
theorem dX9_version_33 : decode cX9_version 33 = .ok (.aload_n 0, 1) := by decide +kernel
theorem dX9_version_34 : decode cX9_version 34 = .ok (.invokevirtual 81, 3) := by decide +kernel
theorem dX9_version_37 : decode cX9_version 37 = .ok (.aload_n 0, 1) := by decide +kernel
theorem dX9_version_38 : decode cX9_version 38 = .ok (.getfield 10, 3) := by decide +kernel
theorem dX9_version_41 : decode cX9_version 41 = .ok (.getfield 103, 3) := by decide +kernel
theorem dX9_version_44 : decode cX9_version 44 = .ok (.istore_n 2, 1) := by decide +kernel
theorem dX9_version_45 : decode cX9_version 45 = .ok (.aload_n 0, 1) := by decide +kernel
theorem dX9_version_46 : decode cX9_version 46 = .ok (.getfield 10, 3) := by decide +kernel
theorem dX9_version_49 : decode cX9_version 49 = .ok (.getfield 106, 3) := by decide +kernel
theorem dX9_version_52 : decode cX9_version 52 = .ok (.iload_n 2, 1) := by decide +kernel
theorem dX9_version_53 : decode cX9_version 53 = .ok (.iload_n 1, 1) := by decide +kernel
theorem dX9_version_54 : decode cX9_version 54 = .ok (.invokevirtual 109, 3) := by decide +kernel
theorem dX9_version_57 : decode cX9_version 57 = .ok (.aload_n 0, 1) := by decide +kernel
theorem dX9_version_58 : decode cX9_version 58 = .ok (.getfield 10, 3) := by decide +kernel
theorem dX9_version_61 : decode cX9_version 61 = .ok (.dup, 1) := by decide +kernel
theorem dX9_version_62 : decode cX9_version 62 = .ok (.getfield 103, 3) := by decide +kernel
theorem dX9_version_65 : decode cX9_version 65 = .ok (.iconst 1, 1) := by decide +kernel
theorem dX9_version_66 : decode cX9_version 66 = .ok (.iadd, 1) := by decide +kernel
theorem dX9_version_67 : decode cX9_version 67 = .ok (.putfield 103, 3) := by decide +kernel
theorem dX9_version_70 : decode cX9_version 70 = .ok (.iload_n 2, 1) := by decide +kernel
theorem dX9_version_71 : decode cX9_version 71 = .ok (.ireturn, 1) := by decide +kernel
theorem dX9_drop_0 : decode cX9_drop 0 = .ok (.aload_n 0, 1) := by decide +kernel
theorem dX9_drop_1 : decode cX9_drop 1 = .ok (.getfield 10, 3) := by decide +kernel
theorem dX9_drop_4 : decode cX9_drop 4 = .ok (.getfield 66, 3) := by decide +kernel
theorem dX9_drop_7 : decode cX9_drop 7 = .ok (.getfield 70, 3) := by decide +kernel
theorem dX9_drop_10 : decode cX9_drop 10 = .ok (.ifCond .gt 13, 3) := by decide +kernel
theorem dX9_drop_13 : decode cX9_drop 13 = .ok (.aload_n 0, 1) := by decide +kernel
theorem dX9_drop_14 : decode cX9_drop 14 = .ok (.getfield 10, 3) := by decide +kernel
theorem dX9_drop_17 : decode cX9_drop 17 = .ok (.getfield 103, 3) := by decide +kernel
theorem dX9_drop_20 : decode cX9_drop 20 = .ok (.ifCond .ne 7, 3) := by decide +kernel
theorem dX9_drop_23 : decode cX9_drop 23 = .ok (.ldc2_w 113, 3) := by decide +kernel
theorem dX9_drop_26 : decode cX9_drop 26 = .ok (.lreturn, 1) := by decide +kernel
theorem dX9_drop_27 : decode cX9_drop 27 = .ok (.aload_n 0, 1) := by decide +kernel
theorem dX9_drop_28 : decode cX9_drop 28 = .ok (.invokevirtual 81, 3) := by decide +kernel
theorem dX9_drop_31 : decode cX9_drop 31 = .ok (.aload_n 0, 1) := by decide +kernel
theorem dX9_drop_32 : decode cX9_drop 32 = .ok (.getfield 10, 3) := by decide +kernel
theorem dX9_drop_35 : decode cX9_drop 35 = .ok (.dup, 1) := by decide +kernel
theorem dX9_drop_36 : decode cX9_drop 36 = .ok (.getfield 103, 3) := by decide +kernel
theorem dX9_drop_39 : decode cX9_drop 39 = .ok (.iconst 1, 1) := by decide +kernel
theorem dX9_drop_40 : decode cX9_drop 40 = .ok (.isub, 1) := by decide +kernel
theorem dX9_drop_41 : decode cX9_drop 41 = .ok (.putfield 103, 3) := by decide +kernel
theorem dX9_drop_44 : decode cX9_drop 44 = .ok (.aload_n 0, 1) := by decide +kernel
theorem dX9_drop_45 : decode cX9_drop 45 = .ok (.getfield 10, 3) := by decide +kernel
theorem dX9_drop_48 : decode cX9_drop 48 = .ok (.getfield 106, 3) := by decide +kernel
theorem dX9_drop_51 : decode cX9_drop 51 = .ok (.aload_n 0, 1) := by decide +kernel
theorem dX9_drop_52 : decode cX9_drop 52 = .ok (.getfield 10, 3) := by decide +kernel
theorem dX9_drop_55 : decode cX9_drop 55 = .ok (.getfield 103, 3) := by decide +kernel
theorem dX9_drop_58 : decode cX9_drop 58 = .ok (.invokevirtual 115, 3) := by decide +kernel
theorem dX9_drop_61 : decode cX9_drop 61 = .ok (.i2l, 1) := by decide +kernel
theorem dX9_drop_62 : decode cX9_drop 62 = .ok (.lreturn, 1) := by decide +kernel
theorem dX9_versions_0 : decode cX9_versions 0 = .ok (.aload_n 0, 1) := by decide +kernel
theorem dX9_versions_1 : decode cX9_versions 1 = .ok (.getfield 10, 3) := by decide +kernel
theorem dX9_versions_4 : decode cX9_versions 4 = .ok (.getfield 103, 3) := by decide +kernel
theorem dX9_versions_7 : decode cX9_versions 7 = .ok (.ireturn, 1) := by decide +kernel
theorem dX9_at_0 : decode cX9_at 0 = .ok (.aload_n 0, 1) := by decide +kernel
theorem dX9_at_1 : decode cX9_at 1 = .ok (.iload_n 1, 1) := by decide +kernel
theorem dX9_at_2 : decode cX9_at 2 = .ok (.invokevirtual 119, 3) := by decide +kernel
theorem dX9_at_5 : decode cX9_at 5 = .ok (.astore 4, 2) := by decide +kernel
theorem dX9_at_7 : decode cX9_at 7 = .ok (.aload 4, 2) := by decide +kernel
theorem dX9_at_9 : decode cX9_at 9 = .ok (.ifnull 21, 3) := by decide +kernel
theorem dX9_at_12 : decode cX9_at 12 = .ok (.aload 4, 2) := by decide +kernel
theorem dX9_at_14 : decode cX9_at 14 = .ok (.iload_n 2, 1) := by decide +kernel
theorem dX9_at_15 : decode cX9_at 15 = .ok (.invokevirtual 123, 3) := by decide +kernel
theorem dX9_at_18 : decode cX9_at 18 = .ok (.ifCond .eq 12, 3) := by decide +kernel
theorem dX9_at_21 : decode cX9_at 21 = .ok (.iload_n 3, 1) := by decide +kernel
theorem dX9_at_22 : decode cX9_at 22 = .ok (.ifCond .lt 8, 3) := by decide +kernel
theorem dX9_at_25 : decode cX9_at 25 = .ok (.iload_n 3, 1) := by decide +kernel
theorem dX9_at_26 : decode cX9_at 26 = .ok (.iconst 3, 1) := by decide +kernel
theorem dX9_at_27 : decode cX9_at 27 = .ok (.if_icmp .le 7, 3) := by decide +kernel
theorem dX9_at_30 : decode cX9_at 30 = .ok (.sipush (-1001), 3) := by decide +kernel
theorem dX9_at_33 : decode cX9_at 33 = .ok (.ireturn, 1) := by decide +kernel
theorem dX9_at_34 : decode cX9_at 34 = .ok (.aload 4, 2) := by decide +kernel
theorem dX9_at_36 : decode cX9_at 36 = .ok (.iload_n 2, 1) := by decide +kernel
theorem dX9_at_37 : decode cX9_at 37 = .ok (.iload_n 3, 1) := by decide +kernel
theorem dX9_at_38 : decode cX9_at 38 = .ok (.invokevirtual 126, 3) := by decide +kernel
theorem dX9_at_41 : decode cX9_at 41 = .ok (.ireturn, 1) := by decide +kernel
theorem dX9_where_0 : decode cX9_where 0 = .ok (.aload_n 0, 1) := by decide +kernel
theorem dX9_where_1 : decode cX9_where 1 = .ok (.iload_n 1, 1) := by decide +kernel
theorem dX9_where_2 : decode cX9_where 2 = .ok (.invokevirtual 119, 3) := by decide +kernel
theorem dX9_where_5 : decode cX9_where 5 = .ok (.astore_n 3, 1) := by decide +kernel
theorem dX9_where_6 : decode cX9_where 6 = .ok (.aload_n 3, 1) := by decide +kernel
theorem dX9_where_7 : decode cX9_where 7 = .ok (.ifnull 17, 3) := by decide +kernel
theorem dX9_where_10 : decode cX9_where 10 = .ok (.aload_n 0, 1) := by decide +kernel
theorem dX9_where_11 : decode cX9_where 11 = .ok (.getfield 10, 3) := by decide +kernel
theorem dX9_where_14 : decode cX9_where 14 = .ok (.getfield 76, 3) := by decide +kernel
theorem dX9_where_17 : decode cX9_where 17 = .ok (.iload_n 2, 1) := by decide +kernel
theorem dX9_where_18 : decode cX9_where 18 = .ok (.invokevirtual 88, 3) := by decide +kernel
theorem dX9_where_21 : decode cX9_where 21 = .ok (.ifCond .ne 7, 3) := by decide +kernel
theorem dX9_where_24 : decode cX9_where 24 = .ok (.sipush (-1001), 3) := by decide +kernel
theorem dX9_where_27 : decode cX9_where 27 = .ok (.ireturn, 1) := by decide +kernel
theorem dX9_where_28 : decode cX9_where 28 = .ok (.aload_n 3, 1) := by decide +kernel
theorem dX9_where_29 : decode cX9_where 29 = .ok (.getfield 127, 3) := by decide +kernel
theorem dX9_where_32 : decode cX9_where 32 = .ok (.iload_n 2, 1) := by decide +kernel
theorem dX9_where_33 : decode cX9_where 33 = .ok (.invokevirtual 115, 3) := by decide +kernel
theorem dX9_where_36 : decode cX9_where 36 = .ok (.ireturn, 1) := by decide +kernel
theorem dX9_choice_0 : decode cX9_choice 0 = .ok (.aload_n 0, 1) := by decide +kernel
theorem dX9_choice_1 : decode cX9_choice 1 = .ok (.iload_n 1, 1) := by decide +kernel
theorem dX9_choice_2 : decode cX9_choice 2 = .ok (.invokevirtual 119, 3) := by decide +kernel
theorem dX9_choice_5 : decode cX9_choice 5 = .ok (.astore 4, 2) := by decide +kernel
theorem dX9_choice_7 : decode cX9_choice 7 = .ok (.aload 4, 2) := by decide +kernel
theorem dX9_choice_9 : decode cX9_choice 9 = .ok (.ifnull 27, 3) := by decide +kernel
theorem dX9_choice_12 : decode cX9_choice 12 = .ok (.aload 4, 2) := by decide +kernel
theorem dX9_choice_14 : decode cX9_choice 14 = .ok (.iload_n 2, 1) := by decide +kernel
theorem dX9_choice_15 : decode cX9_choice 15 = .ok (.invokevirtual 123, 3) := by decide +kernel
theorem dX9_choice_18 : decode cX9_choice 18 = .ok (.ifCond .eq 18, 3) := by decide +kernel
theorem dX9_choice_21 : decode cX9_choice 21 = .ok (.iload_n 3, 1) := by decide +kernel
theorem dX9_choice_22 : decode cX9_choice 22 = .ok (.ifCond .lt 14, 3) := by decide +kernel
theorem dX9_choice_25 : decode cX9_choice 25 = .ok (.iload_n 3, 1) := by decide +kernel
theorem dX9_choice_26 : decode cX9_choice 26 = .ok (.aload_n 0, 1) := by decide +kernel
theorem dX9_choice_27 : decode cX9_choice 27 = .ok (.aload 4, 2) := by decide +kernel
theorem dX9_choice_29 : decode cX9_choice 29 = .ok (.iload_n 2, 1) := by decide +kernel
theorem dX9_choice_30 : decode cX9_choice 30 = .ok (.invokevirtual 130, 3) := by decide +kernel
theorem dX9_choice_33 : decode cX9_choice 33 = .ok (.if_icmp .lt 7, 3) := by decide +kernel
theorem dX9_choice_36 : decode cX9_choice 36 = .ok (.sipush (-1001), 3) := by decide +kernel
theorem dX9_choice_39 : decode cX9_choice 39 = .ok (.ireturn, 1) := by decide +kernel
theorem dX9_choice_40 : decode cX9_choice 40 = .ok (.aload 4, 2) := by decide +kernel
theorem dX9_choice_42 : decode cX9_choice 42 = .ok (.iload_n 2, 1) := by decide +kernel
theorem dX9_choice_43 : decode cX9_choice 43 = .ok (.iload_n 3, 1) := by decide +kernel
theorem dX9_choice_44 : decode cX9_choice 44 = .ok (.invokevirtual 134, 3) := by decide +kernel
theorem dX9_choice_47 : decode cX9_choice 47 = .ok (.ireturn, 1) := by decide +kernel
theorem dX9_alike_0 : decode cX9_alike 0 = .ok (.aload_n 0, 1) := by decide +kernel
theorem dX9_alike_1 : decode cX9_alike 1 = .ok (.iload_n 1, 1) := by decide +kernel
theorem dX9_alike_2 : decode cX9_alike 2 = .ok (.invokevirtual 119, 3) := by decide +kernel
theorem dX9_alike_5 : decode cX9_alike 5 = .ok (.astore 4, 2) := by decide +kernel
theorem dX9_alike_7 : decode cX9_alike 7 = .ok (.aload_n 0, 1) := by decide +kernel
theorem dX9_alike_8 : decode cX9_alike 8 = .ok (.iload_n 2, 1) := by decide +kernel
theorem dX9_alike_9 : decode cX9_alike 9 = .ok (.invokevirtual 119, 3) := by decide +kernel
theorem dX9_alike_12 : decode cX9_alike 12 = .ok (.astore 5, 2) := by decide +kernel
theorem dX9_alike_14 : decode cX9_alike 14 = .ok (.aload 4, 2) := by decide +kernel
theorem dX9_alike_16 : decode cX9_alike 16 = .ok (.ifnull 8, 3) := by decide +kernel
theorem dX9_alike_19 : decode cX9_alike 19 = .ok (.aload 5, 2) := by decide +kernel
theorem dX9_alike_21 : decode cX9_alike 21 = .ok (.ifnonnull 7, 3) := by decide +kernel
theorem dX9_alike_24 : decode cX9_alike 24 = .ok (.sipush (-1001), 3) := by decide +kernel
theorem dX9_alike_27 : decode cX9_alike 27 = .ok (.ireturn, 1) := by decide +kernel
theorem dX9_alike_28 : decode cX9_alike 28 = .ok (.iload_n 3, 1) := by decide +kernel
theorem dX9_alike_29 : decode cX9_alike 29 = .ok (.tableswitch 73 0 2 #[27, 46, 65], 27) := by decide +kernel
theorem dX9_alike_56 : decode cX9_alike 56 = .ok (.aload 4, 2) := by decide +kernel
theorem dX9_alike_58 : decode cX9_alike 58 = .ok (.getfield 137, 3) := by decide +kernel
theorem dX9_alike_61 : decode cX9_alike 61 = .ok (.aload 5, 2) := by decide +kernel
theorem dX9_alike_63 : decode cX9_alike 63 = .ok (.getfield 137, 3) := by decide +kernel
theorem dX9_alike_66 : decode cX9_alike 66 = .ok (.aload 4, 2) := by decide +kernel
theorem dX9_alike_68 : decode cX9_alike 68 = .ok (.getfield 140, 3) := by decide +kernel
theorem dX9_alike_71 : decode cX9_alike 71 = .ok (.invokevirtual 141, 3) := by decide +kernel
theorem dX9_alike_74 : decode cX9_alike 74 = .ok (.ireturn, 1) := by decide +kernel
theorem dX9_alike_75 : decode cX9_alike 75 = .ok (.aload 4, 2) := by decide +kernel
theorem dX9_alike_77 : decode cX9_alike 77 = .ok (.getfield 145, 3) := by decide +kernel
theorem dX9_alike_80 : decode cX9_alike 80 = .ok (.aload 5, 2) := by decide +kernel
theorem dX9_alike_82 : decode cX9_alike 82 = .ok (.getfield 145, 3) := by decide +kernel
theorem dX9_alike_85 : decode cX9_alike 85 = .ok (.aload 4, 2) := by decide +kernel
theorem dX9_alike_87 : decode cX9_alike 87 = .ok (.getfield 140, 3) := by decide +kernel
theorem dX9_alike_90 : decode cX9_alike 90 = .ok (.invokevirtual 141, 3) := by decide +kernel
theorem dX9_alike_93 : decode cX9_alike 93 = .ok (.ireturn, 1) := by decide +kernel
theorem dX9_alike_94 : decode cX9_alike 94 = .ok (.aload 4, 2) := by decide +kernel
theorem dX9_alike_96 : decode cX9_alike 96 = .ok (.aload 5, 2) := by decide +kernel
theorem dX9_alike_98 : decode cX9_alike 98 = .ok (.invokevirtual 148, 3) := by decide +kernel
theorem dX9_alike_101 : decode cX9_alike 101 = .ok (.ireturn, 1) := by decide +kernel
theorem dX9_alike_102 : decode cX9_alike 102 = .ok (.sipush (-1001), 3) := by decide +kernel
theorem dX9_alike_105 : decode cX9_alike 105 = .ok (.ireturn, 1) := by decide +kernel
theorem dX9_unlike_0 : decode cX9_unlike 0 = .ok (.iload_n 2, 1) := by decide +kernel
theorem dX9_unlike_1 : decode cX9_unlike 1 = .ok (.iconst 1, 1) := by decide +kernel
theorem dX9_unlike_2 : decode cX9_unlike 2 = .ok (.if_icmp .lt 9, 3) := by decide +kernel
theorem dX9_unlike_5 : decode cX9_unlike 5 = .ok (.iload_n 2, 1) := by decide +kernel
theorem dX9_unlike_6 : decode cX9_unlike 6 = .ok (.bipush 40, 2) := by decide +kernel
theorem dX9_unlike_8 : decode cX9_unlike 8 = .ok (.if_icmp .le 7, 3) := by decide +kernel
theorem dX9_unlike_11 : decode cX9_unlike 11 = .ok (.ldc2_w 152, 3) := by decide +kernel
theorem dX9_unlike_14 : decode cX9_unlike 14 = .ok (.lreturn, 1) := by decide +kernel
theorem dX9_unlike_15 : decode cX9_unlike 15 = .ok (.iload_n 1, 1) := by decide +kernel
theorem dX9_unlike_16 : decode cX9_unlike 16 = .ok (.istore_n 3, 1) := by decide +kernel
theorem dX9_unlike_17 : decode cX9_unlike 17 = .ok (.bipush 21, 2) := by decide +kernel
theorem dX9_unlike_19 : decode cX9_unlike 19 = .ok (.istore 4, 2) := by decide +kernel
theorem dX9_unlike_21 : decode cX9_unlike 21 = .ok (.iconst 0, 1) := by decide +kernel
theorem dX9_unlike_22 : decode cX9_unlike 22 = .ok (.istore 5, 2) := by decide +kernel
theorem dX9_unlike_24 : decode cX9_unlike 24 = .ok (.iload 5, 2) := by decide +kernel
theorem dX9_unlike_26 : decode cX9_unlike 26 = .ok (.iload_n 2, 1) := by decide +kernel
theorem dX9_unlike_27 : decode cX9_unlike 27 = .ok (.if_icmp .ge 35, 3) := by decide +kernel
theorem dX9_unlike_30 : decode cX9_unlike 30 = .ok (.aload_n 0, 1) := by decide +kernel
theorem dX9_unlike_31 : decode cX9_unlike 31 = .ok (.iload_n 1, 1) := by decide +kernel
theorem dX9_unlike_32 : decode cX9_unlike 32 = .ok (.iload 5, 2) := by decide +kernel
theorem dX9_unlike_34 : decode cX9_unlike 34 = .ok (.iadd, 1) := by decide +kernel
theorem dX9_unlike_35 : decode cX9_unlike 35 = .ok (.invokevirtual 154, 3) := by decide +kernel
theorem dX9_unlike_38 : decode cX9_unlike 38 = .ok (.istore 6, 2) := by decide +kernel
theorem dX9_unlike_40 : decode cX9_unlike 40 = .ok (.iload 6, 2) := by decide +kernel
theorem dX9_unlike_42 : decode cX9_unlike 42 = .ok (.iload 4, 2) := by decide +kernel
theorem dX9_unlike_44 : decode cX9_unlike 44 = .ok (.if_icmp .ge 12, 3) := by decide +kernel
theorem dX9_unlike_47 : decode cX9_unlike 47 = .ok (.iload 6, 2) := by decide +kernel
theorem dX9_unlike_49 : decode cX9_unlike 49 = .ok (.istore 4, 2) := by decide +kernel
theorem dX9_unlike_51 : decode cX9_unlike 51 = .ok (.iload_n 1, 1) := by decide +kernel
theorem dX9_unlike_52 : decode cX9_unlike 52 = .ok (.iload 5, 2) := by decide +kernel
theorem dX9_unlike_54 : decode cX9_unlike 54 = .ok (.iadd, 1) := by decide +kernel
theorem dX9_unlike_55 : decode cX9_unlike 55 = .ok (.istore_n 3, 1) := by decide +kernel
theorem dX9_unlike_56 : decode cX9_unlike 56 = .ok (.iinc 5 1, 3) := by decide +kernel
theorem dX9_unlike_59 : decode cX9_unlike 59 = .ok (.goto (-35), 3) := by decide +kernel
theorem dX9_unlike_62 : decode cX9_unlike 62 = .ok (.iload_n 3, 1) := by decide +kernel
theorem dX9_unlike_63 : decode cX9_unlike 63 = .ok (.i2l, 1) := by decide +kernel
theorem dX9_unlike_64 : decode cX9_unlike 64 = .ok (.lreturn, 1) := by decide +kernel
theorem dX9_setLines_0 : decode cX9_setLines 0 = .ok (.iload_n 1, 1) := by decide +kernel
theorem dX9_setLines_1 : decode cX9_setLines 1 = .ok (.bipush 9, 2) := by decide +kernel
theorem dX9_setLines_3 : decode cX9_setLines 3 = .ok (.if_icmp .lt 9, 3) := by decide +kernel
theorem dX9_setLines_6 : decode cX9_setLines 6 = .ok (.iload_n 1, 1) := by decide +kernel
theorem dX9_setLines_7 : decode cX9_setLines 7 = .ok (.bipush 60, 2) := by decide +kernel
theorem dX9_setLines_9 : decode cX9_setLines 9 = .ok (.if_icmp .le 7, 3) := by decide +kernel
theorem dX9_setLines_12 : decode cX9_setLines 12 = .ok (.sipush (-1001), 3) := by decide +kernel
theorem dX9_setLines_15 : decode cX9_setLines 15 = .ok (.ireturn, 1) := by decide +kernel
theorem dX9_setLines_16 : decode cX9_setLines 16 = .ok (.aload_n 0, 1) := by decide +kernel
theorem dX9_setLines_17 : decode cX9_setLines 17 = .ok (.invokevirtual 81, 3) := by decide +kernel
theorem dX9_setLines_20 : decode cX9_setLines 20 = .ok (.aload_n 0, 1) := by decide +kernel
theorem dX9_setLines_21 : decode cX9_setLines 21 = .ok (.getfield 10, 3) := by decide +kernel
theorem dX9_setLines_24 : decode cX9_setLines 24 = .ok (.getfield 157, 3) := by decide +kernel
theorem dX9_setLines_27 : decode cX9_setLines 27 = .ok (.istore_n 2, 1) := by decide +kernel
theorem dX9_setLines_28 : decode cX9_setLines 28 = .ok (.aload_n 0, 1) := by decide +kernel
theorem dX9_setLines_29 : decode cX9_setLines 29 = .ok (.getfield 10, 3) := by decide +kernel
theorem dX9_setLines_32 : decode cX9_setLines 32 = .ok (.iload_n 1, 1) := by decide +kernel
theorem dX9_setLines_33 : decode cX9_setLines 33 = .ok (.putfield 157, 3) := by decide +kernel
theorem dX9_setLines_36 : decode cX9_setLines 36 = .ok (.iload_n 2, 1) := by decide +kernel
theorem dX9_setLines_37 : decode cX9_setLines 37 = .ok (.ireturn, 1) := by decide +kernel
theorem dX9_pages_0 : decode cX9_pages 0 = .ok (.aload_n 0, 1) := by decide +kernel
theorem dX9_pages_1 : decode cX9_pages 1 = .ok (.iload_n 1, 1) := by decide +kernel
theorem dX9_pages_2 : decode cX9_pages 2 = .ok (.invokevirtual 119, 3) := by decide +kernel
theorem dX9_pages_5 : decode cX9_pages 5 = .ok (.astore_n 2, 1) := by decide +kernel
theorem dX9_pages_6 : decode cX9_pages 6 = .ok (.aload_n 2, 1) := by decide +kernel
theorem dX9_pages_7 : decode cX9_pages 7 = .ok (.ifnonnull 9, 3) := by decide +kernel
theorem dX9_pages_10 : decode cX9_pages 10 = .ok (.sipush (-1001), 3) := by decide +kernel
theorem dX9_pages_13 : decode cX9_pages 13 = .ok (.goto 10, 3) := by decide +kernel
theorem dX9_pages_16 : decode cX9_pages 16 = .ok (.aload_n 2, 1) := by decide +kernel
theorem dX9_pages_17 : decode cX9_pages 17 = .ok (.getfield 160, 3) := by decide +kernel
theorem dX9_pages_20 : decode cX9_pages 20 = .ok (.getfield 164, 3) := by decide +kernel
theorem dX9_pages_23 : decode cX9_pages 23 = .ok (.ireturn, 1) := by decide +kernel
theorem dX9_page_0 : decode cX9_page 0 = .ok (.aload_n 0, 1) := by decide +kernel
theorem dX9_page_1 : decode cX9_page 1 = .ok (.iload_n 1, 1) := by decide +kernel
theorem dX9_page_2 : decode cX9_page 2 = .ok (.invokevirtual 119, 3) := by decide +kernel
theorem dX9_page_5 : decode cX9_page 5 = .ok (.astore 4, 2) := by decide +kernel
theorem dX9_page_7 : decode cX9_page 7 = .ok (.aload 4, 2) := by decide +kernel
theorem dX9_page_9 : decode cX9_page 9 = .ok (.ifnull 28, 3) := by decide +kernel
theorem dX9_page_12 : decode cX9_page 12 = .ok (.iload_n 2, 1) := by decide +kernel
theorem dX9_page_13 : decode cX9_page 13 = .ok (.ifCond .lt 24, 3) := by decide +kernel
theorem dX9_page_16 : decode cX9_page 16 = .ok (.iload_n 2, 1) := by decide +kernel
theorem dX9_page_17 : decode cX9_page 17 = .ok (.aload 4, 2) := by decide +kernel
theorem dX9_page_19 : decode cX9_page 19 = .ok (.getfield 160, 3) := by decide +kernel
theorem dX9_page_22 : decode cX9_page 22 = .ok (.getfield 164, 3) := by decide +kernel
theorem dX9_page_25 : decode cX9_page 25 = .ok (.if_icmp .ge 12, 3) := by decide +kernel
theorem dX9_page_28 : decode cX9_page 28 = .ok (.iload_n 3, 1) := by decide +kernel
theorem dX9_page_29 : decode cX9_page 29 = .ok (.ifCond .lt 8, 3) := by decide +kernel
theorem dX9_page_32 : decode cX9_page 32 = .ok (.iload_n 3, 1) := by decide +kernel
theorem dX9_page_33 : decode cX9_page 33 = .ok (.iconst 1, 1) := by decide +kernel
theorem dX9_page_34 : decode cX9_page 34 = .ok (.if_icmp .le 7, 3) := by decide +kernel
theorem dX9_page_37 : decode cX9_page 37 = .ok (.sipush (-1001), 3) := by decide +kernel
theorem dX9_page_40 : decode cX9_page 40 = .ok (.ireturn, 1) := by decide +kernel
theorem dX9_page_41 : decode cX9_page 41 = .ok (.iload_n 3, 1) := by decide +kernel
theorem dX9_page_42 : decode cX9_page 42 = .ok (.ifCond .ne 18, 3) := by decide +kernel
theorem dX9_page_45 : decode cX9_page 45 = .ok (.aload 4, 2) := by decide +kernel
theorem dX9_page_47 : decode cX9_page 47 = .ok (.getfield 160, 3) := by decide +kernel
theorem dX9_page_50 : decode cX9_page 50 = .ok (.getfield 169, 3) := by decide +kernel
theorem dX9_page_53 : decode cX9_page 53 = .ok (.iload_n 2, 1) := by decide +kernel
theorem dX9_page_54 : decode cX9_page 54 = .ok (.invokevirtual 115, 3) := by decide +kernel
theorem dX9_page_57 : decode cX9_page 57 = .ok (.goto 15, 3) := by decide +kernel
theorem dX9_page_60 : decode cX9_page 60 = .ok (.aload 4, 2) := by decide +kernel
theorem dX9_page_62 : decode cX9_page 62 = .ok (.getfield 160, 3) := by decide +kernel
theorem dX9_page_65 : decode cX9_page 65 = .ok (.getfield 172, 3) := by decide +kernel
theorem dX9_page_68 : decode cX9_page 68 = .ok (.iload_n 2, 1) := by decide +kernel
theorem dX9_page_69 : decode cX9_page 69 = .ok (.invokevirtual 115, 3) := by decide +kernel
theorem dX9_page_72 : decode cX9_page 72 = .ok (.ireturn, 1) := by decide +kernel
theorem dX9_type_0 : decode cX9_type 0 = .ok (.iload_n 1, 1) := by decide +kernel
theorem dX9_type_1 : decode cX9_type 1 = .ok (.bipush 32, 2) := by decide +kernel
theorem dX9_type_3 : decode cX9_type 3 = .ok (.if_icmp .lt 9, 3) := by decide +kernel
theorem dX9_type_6 : decode cX9_type 6 = .ok (.iload_n 1, 1) := by decide +kernel
theorem dX9_type_7 : decode cX9_type 7 = .ok (.bipush 126, 2) := by decide +kernel
theorem dX9_type_9 : decode cX9_type 9 = .ok (.if_icmp .le 7, 3) := by decide +kernel
theorem dX9_type_12 : decode cX9_type 12 = .ok (.sipush (-1001), 3) := by decide +kernel
theorem dX9_type_15 : decode cX9_type 15 = .ok (.ireturn, 1) := by decide +kernel
theorem dX9_type_16 : decode cX9_type 16 = .ok (.aload_n 0, 1) := by decide +kernel
theorem dX9_type_17 : decode cX9_type 17 = .ok (.getfield 175, 3) := by decide +kernel
theorem dX9_type_20 : decode cX9_type 20 = .ok (.bipush 20, 2) := by decide +kernel
theorem dX9_type_22 : decode cX9_type 22 = .ok (.if_icmp .lt 7, 3) := by decide +kernel
theorem dX9_type_25 : decode cX9_type 25 = .ok (.sipush (-1003), 3) := by decide +kernel
theorem dX9_type_28 : decode cX9_type 28 = .ok (.ireturn, 1) := by decide +kernel
theorem dX9_type_29 : decode cX9_type 29 = .ok (.aload_n 0, 1) := by decide +kernel
theorem dX9_type_30 : decode cX9_type 30 = .ok (.getfield 57, 3) := by decide +kernel
theorem dX9_type_33 : decode cX9_type 33 = .ok (.aload_n 0, 1) := by decide +kernel
theorem dX9_type_34 : decode cX9_type 34 = .ok (.getfield 175, 3) := by decide +kernel
theorem dX9_type_37 : decode cX9_type 37 = .ok (.iload_n 1, 1) := by decide +kernel
theorem dX9_type_38 : decode cX9_type 38 = .ok (.invokevirtual 109, 3) := by decide +kernel
theorem dX9_type_41 : decode cX9_type 41 = .ok (.aload_n 0, 1) := by decide +kernel
theorem dX9_type_42 : decode cX9_type 42 = .ok (.dup, 1) := by decide +kernel
theorem dX9_type_43 : decode cX9_type 43 = .ok (.getfield 175, 3) := by decide +kernel
theorem dX9_type_46 : decode cX9_type 46 = .ok (.iconst 1, 1) := by decide +kernel
theorem dX9_type_47 : decode cX9_type 47 = .ok (.iadd, 1) := by decide +kernel
theorem dX9_type_48 : decode cX9_type 48 = .ok (.putfield 175, 3) := by decide +kernel
theorem dX9_type_51 : decode cX9_type 51 = .ok (.aload_n 0, 1) := by decide +kernel
theorem dX9_type_52 : decode cX9_type 52 = .ok (.getfield 175, 3) := by decide +kernel
theorem dX9_type_55 : decode cX9_type 55 = .ok (.ireturn, 1) := by decide +kernel
theorem dX9_clear_0 : decode cX9_clear 0 = .ok (.aload_n 0, 1) := by decide +kernel
theorem dX9_clear_1 : decode cX9_clear 1 = .ok (.getfield 175, 3) := by decide +kernel
theorem dX9_clear_4 : decode cX9_clear 4 = .ok (.istore_n 1, 1) := by decide +kernel
theorem dX9_clear_5 : decode cX9_clear 5 = .ok (.aload_n 0, 1) := by decide +kernel
theorem dX9_clear_6 : decode cX9_clear 6 = .ok (.iconst 0, 1) := by decide +kernel
theorem dX9_clear_7 : decode cX9_clear 7 = .ok (.putfield 175, 3) := by decide +kernel
theorem dX9_clear_10 : decode cX9_clear 10 = .ok (.iload_n 1, 1) := by decide +kernel
theorem dX9_clear_11 : decode cX9_clear 11 = .ok (.ireturn, 1) := by decide +kernel
theorem dX9_sheet_0 : decode cX9_sheet 0 = .ok (.aload_n 0, 1) := by decide +kernel
theorem dX9_sheet_1 : decode cX9_sheet 1 = .ok (.iload_n 1, 1) := by decide +kernel
theorem dX9_sheet_2 : decode cX9_sheet 2 = .ok (.invokevirtual 119, 3) := by decide +kernel
theorem dX9_sheet_5 : decode cX9_sheet 5 = .ok (.astore_n 2, 1) := by decide +kernel
theorem dX9_sheet_6 : decode cX9_sheet 6 = .ok (.aload_n 2, 1) := by decide +kernel
theorem dX9_sheet_7 : decode cX9_sheet 7 = .ok (.ifnonnull 7, 3) := by decide +kernel
theorem dX9_sheet_10 : decode cX9_sheet 10 = .ok (.sipush (-1001), 3) := by decide +kernel
theorem dX9_sheet_13 : decode cX9_sheet 13 = .ok (.ireturn, 1) := by decide +kernel
theorem dX9_sheet_14 : decode cX9_sheet 14 = .ok (.aload_n 0, 1) := by decide +kernel
theorem dX9_sheet_15 : decode cX9_sheet 15 = .ok (.getfield 10, 3) := by decide +kernel
theorem dX9_sheet_18 : decode cX9_sheet 18 = .ok (.getfield 66, 3) := by decide +kernel
theorem dX9_sheet_21 : decode cX9_sheet 21 = .ok (.getfield 70, 3) := by decide +kernel
theorem dX9_sheet_24 : decode cX9_sheet 24 = .ok (.bipush 20, 2) := by decide +kernel
theorem dX9_sheet_26 : decode cX9_sheet 26 = .ok (.if_icmp .lt 7, 3) := by decide +kernel
theorem dX9_sheet_29 : decode cX9_sheet 29 = .ok (.sipush (-1003), 3) := by decide +kernel
theorem dX9_sheet_32 : decode cX9_sheet 32 = .ok (.ireturn, 1) := by decide +kernel
theorem dX9_sheet_33 : decode cX9_sheet 33 = .ok (.aload_n 0, 1) := by decide +kernel
theorem dX9_sheet_34 : decode cX9_sheet 34 = .ok (.aload_n 2, 1) := by decide +kernel
theorem dX9_sheet_35 : decode cX9_sheet 35 = .ok (.invokevirtual 178, 3) := by decide +kernel
theorem dX9_sheet_38 : decode cX9_sheet 38 = .ok (.istore_n 3, 1) := by decide +kernel
theorem dX9_sheet_39 : decode cX9_sheet 39 = .ok (.iload_n 3, 1) := by decide +kernel
theorem dX9_sheet_40 : decode cX9_sheet 40 = .ok (.aload_n 2, 1) := by decide +kernel
theorem dX9_sheet_41 : decode cX9_sheet 41 = .ok (.getfield 140, 3) := by decide +kernel
theorem dX9_sheet_44 : decode cX9_sheet 44 = .ok (.if_icmp .lt 11, 3) := by decide +kernel
theorem dX9_sheet_47 : decode cX9_sheet 47 = .ok (.iload_n 3, 1) := by decide +kernel
theorem dX9_sheet_48 : decode cX9_sheet 48 = .ok (.aload_n 0, 1) := by decide +kernel
theorem dX9_sheet_49 : decode cX9_sheet 49 = .ok (.getfield 175, 3) := by decide +kernel
theorem dX9_sheet_52 : decode cX9_sheet 52 = .ok (.if_icmp .ge 8, 3) := by decide +kernel
theorem dX9_sheet_55 : decode cX9_sheet 55 = .ok (.bipush (-100), 2) := by decide +kernel
theorem dX9_sheet_57 : decode cX9_sheet 57 = .ok (.iload_n 3, 1) := by decide +kernel
theorem dX9_sheet_58 : decode cX9_sheet 58 = .ok (.isub, 1) := by decide +kernel
theorem dX9_sheet_59 : decode cX9_sheet 59 = .ok (.ireturn, 1) := by decide +kernel
theorem dX9_sheet_60 : decode cX9_sheet 60 = .ok (.aload_n 0, 1) := by decide +kernel
theorem dX9_sheet_61 : decode cX9_sheet 61 = .ok (.iconst 0, 1) := by decide +kernel
theorem dX9_sheet_62 : decode cX9_sheet 62 = .ok (.putfield 175, 3) := by decide +kernel
theorem dX9_sheet_65 : decode cX9_sheet 65 = .ok (.aload_n 0, 1) := by decide +kernel
theorem dX9_sheet_66 : decode cX9_sheet 66 = .ok (.iload_n 1, 1) := by decide +kernel
theorem dX9_sheet_67 : decode cX9_sheet 67 = .ok (.aload_n 2, 1) := by decide +kernel
theorem dX9_sheet_68 : decode cX9_sheet 68 = .ok (.invokevirtual 181, 3) := by decide +kernel
theorem dX9_sheet_71 : decode cX9_sheet 71 = .ok (.ireturn, 1) := by decide +kernel
theorem dX9_guess_0 : decode cX9_guess 0 = .ok (.aload_n 0, 1) := by decide +kernel
theorem dX9_guess_1 : decode cX9_guess 1 = .ok (.iload_n 1, 1) := by decide +kernel
theorem dX9_guess_2 : decode cX9_guess 2 = .ok (.invokevirtual 119, 3) := by decide +kernel
theorem dX9_guess_5 : decode cX9_guess 5 = .ok (.astore 4, 2) := by decide +kernel
theorem dX9_guess_7 : decode cX9_guess 7 = .ok (.aload 4, 2) := by decide +kernel
theorem dX9_guess_9 : decode cX9_guess 9 = .ok (.ifnull 13, 3) := by decide +kernel
theorem dX9_guess_12 : decode cX9_guess 12 = .ok (.iload_n 3, 1) := by decide +kernel
theorem dX9_guess_13 : decode cX9_guess 13 = .ok (.ifCond .lt 9, 3) := by decide +kernel
theorem dX9_guess_16 : decode cX9_guess 16 = .ok (.iload_n 3, 1) := by decide +kernel
theorem dX9_guess_17 : decode cX9_guess 17 = .ok (.bipush 10, 2) := by decide +kernel
theorem dX9_guess_19 : decode cX9_guess 19 = .ok (.if_icmp .le 7, 3) := by decide +kernel
theorem dX9_guess_22 : decode cX9_guess 22 = .ok (.sipush (-1001), 3) := by decide +kernel
theorem dX9_guess_25 : decode cX9_guess 25 = .ok (.ireturn, 1) := by decide +kernel
theorem dX9_guess_26 : decode cX9_guess 26 = .ok (.aload_n 0, 1) := by decide +kernel
theorem dX9_guess_27 : decode cX9_guess 27 = .ok (.getfield 10, 3) := by decide +kernel
theorem dX9_guess_30 : decode cX9_guess 30 = .ok (.getfield 66, 3) := by decide +kernel
theorem dX9_guess_33 : decode cX9_guess 33 = .ok (.getfield 70, 3) := by decide +kernel
theorem dX9_guess_36 : decode cX9_guess 36 = .ok (.bipush 20, 2) := by decide +kernel
theorem dX9_guess_38 : decode cX9_guess 38 = .ok (.if_icmp .lt 7, 3) := by decide +kernel
theorem dX9_guess_41 : decode cX9_guess 41 = .ok (.sipush (-1003), 3) := by decide +kernel
theorem dX9_guess_44 : decode cX9_guess 44 = .ok (.ireturn, 1) := by decide +kernel
theorem dX9_guess_45 : decode cX9_guess 45 = .ok (.aload_n 0, 1) := by decide +kernel
theorem dX9_guess_46 : decode cX9_guess 46 = .ok (.getfield 44, 3) := by decide +kernel
theorem dX9_guess_49 : decode cX9_guess 49 = .ok (.iload_n 2, 1) := by decide +kernel
theorem dX9_guess_50 : decode cX9_guess 50 = .ok (.invokevirtual 185, 3) := by decide +kernel
theorem dX9_guess_53 : decode cX9_guess 53 = .ok (.iconst 0, 1) := by decide +kernel
theorem dX9_guess_54 : decode cX9_guess 54 = .ok (.istore 5, 2) := by decide +kernel
theorem dX9_guess_56 : decode cX9_guess 56 = .ok (.iload 5, 2) := by decide +kernel
theorem dX9_guess_58 : decode cX9_guess 58 = .ok (.aload 4, 2) := by decide +kernel
theorem dX9_guess_60 : decode cX9_guess 60 = .ok (.getfield 140, 3) := by decide +kernel
theorem dX9_guess_63 : decode cX9_guess 63 = .ok (.if_icmp .ge 71, 3) := by decide +kernel
theorem dX9_guess_66 : decode cX9_guess 66 = .ok (.aload_n 0, 1) := by decide +kernel
theorem dX9_guess_67 : decode cX9_guess 67 = .ok (.getfield 44, 3) := by decide +kernel
theorem dX9_guess_70 : decode cX9_guess 70 = .ok (.bipush 10, 2) := by decide +kernel
theorem dX9_guess_72 : decode cX9_guess 72 = .ok (.invokevirtual 188, 3) := by decide +kernel
theorem dX9_guess_75 : decode cX9_guess 75 = .ok (.iload_n 3, 1) := by decide +kernel
theorem dX9_guess_76 : decode cX9_guess 76 = .ok (.if_icmp .ge 7, 3) := by decide +kernel
theorem dX9_guess_79 : decode cX9_guess 79 = .ok (.iconst 1, 1) := by decide +kernel
theorem dX9_guess_80 : decode cX9_guess 80 = .ok (.goto 4, 3) := by decide +kernel
theorem dX9_guess_83 : decode cX9_guess 83 = .ok (.iconst 0, 1) := by decide +kernel
theorem dX9_guess_84 : decode cX9_guess 84 = .ok (.istore 6, 2) := by decide +kernel
theorem dX9_guess_86 : decode cX9_guess 86 = .ok (.aload_n 0, 1) := by decide +kernel
theorem dX9_guess_87 : decode cX9_guess 87 = .ok (.getfield 53, 3) := by decide +kernel
theorem dX9_guess_90 : decode cX9_guess 90 = .ok (.iload 5, 2) := by decide +kernel
theorem dX9_guess_92 : decode cX9_guess 92 = .ok (.iload 6, 2) := by decide +kernel
theorem dX9_guess_94 : decode cX9_guess 94 = .ok (.ifCond .eq 16, 3) := by decide +kernel
theorem dX9_guess_97 : decode cX9_guess 97 = .ok (.aload 4, 2) := by decide +kernel
theorem dX9_guess_99 : decode cX9_guess 99 = .ok (.getfield 145, 3) := by decide +kernel
theorem dX9_guess_102 : decode cX9_guess 102 = .ok (.iload 5, 2) := by decide +kernel
theorem dX9_guess_104 : decode cX9_guess 104 = .ok (.invokevirtual 115, 3) := by decide +kernel
theorem dX9_guess_107 : decode cX9_guess 107 = .ok (.goto 18, 3) := by decide +kernel
theorem dX9_guess_110 : decode cX9_guess 110 = .ok (.aload_n 0, 1) := by decide +kernel
theorem dX9_guess_111 : decode cX9_guess 111 = .ok (.getfield 44, 3) := by decide +kernel
theorem dX9_guess_114 : decode cX9_guess 114 = .ok (.aload_n 0, 1) := by decide +kernel
theorem dX9_guess_115 : decode cX9_guess 115 = .ok (.aload 4, 2) := by decide +kernel
theorem dX9_guess_117 : decode cX9_guess 117 = .ok (.iload 5, 2) := by decide +kernel
theorem dX9_guess_119 : decode cX9_guess 119 = .ok (.invokevirtual 130, 3) := by decide +kernel
theorem dX9_guess_122 : decode cX9_guess 122 = .ok (.invokevirtual 188, 3) := by decide +kernel
theorem dX9_guess_125 : decode cX9_guess 125 = .ok (.invokevirtual 109, 3) := by decide +kernel
theorem dX9_guess_128 : decode cX9_guess 128 = .ok (.iinc 5 1, 3) := by decide +kernel
theorem dX9_guess_131 : decode cX9_guess 131 = .ok (.goto (-75), 3) := by decide +kernel
theorem dX9_guess_134 : decode cX9_guess 134 = .ok (.aload_n 0, 1) := by decide +kernel
theorem dX9_guess_135 : decode cX9_guess 135 = .ok (.iload_n 1, 1) := by decide +kernel
theorem dX9_guess_136 : decode cX9_guess 136 = .ok (.aload 4, 2) := by decide +kernel
theorem dX9_guess_138 : decode cX9_guess 138 = .ok (.invokevirtual 181, 3) := by decide +kernel
theorem dX9_guess_141 : decode cX9_guess 141 = .ok (.ireturn, 1) := by decide +kernel
theorem dX9_forget_0 : decode cX9_forget 0 = .ok (.aload_n 0, 1) := by decide +kernel
theorem dX9_forget_1 : decode cX9_forget 1 = .ok (.getfield 19, 3) := by decide +kernel
theorem dX9_forget_4 : decode cX9_forget 4 = .ok (.aload_n 0, 1) := by decide +kernel
theorem dX9_forget_5 : decode cX9_forget 5 = .ok (.getfield 10, 3) := by decide +kernel
theorem dX9_forget_8 : decode cX9_forget 8 = .ok (.invokevirtual 191, 3) := by decide +kernel
theorem dX9_forget_11 : decode cX9_forget 11 = .ok (.aload_n 0, 1) := by decide +kernel
theorem dX9_forget_12 : decode cX9_forget 12 = .ok (.getfield 10, 3) := by decide +kernel
theorem dX9_forget_15 : decode cX9_forget 15 = .ok (.getfield 66, 3) := by decide +kernel
theorem dX9_forget_18 : decode cX9_forget 18 = .ok (.getfield 70, 3) := by decide +kernel
theorem dX9_forget_21 : decode cX9_forget 21 = .ok (.istore_n 1, 1) := by decide +kernel
theorem dX9_forget_22 : decode cX9_forget 22 = .ok (.aload_n 0, 1) := by decide +kernel
theorem dX9_forget_23 : decode cX9_forget 23 = .ok (.getfield 10, 3) := by decide +kernel
theorem dX9_forget_26 : decode cX9_forget 26 = .ok (.getfield 66, 3) := by decide +kernel
theorem dX9_forget_29 : decode cX9_forget 29 = .ok (.iconst 0, 1) := by decide +kernel
theorem dX9_forget_30 : decode cX9_forget 30 = .ok (.putfield 70, 3) := by decide +kernel
theorem dX9_forget_33 : decode cX9_forget 33 = .ok (.iload_n 1, 1) := by decide +kernel
theorem dX9_forget_34 : decode cX9_forget 34 = .ok (.ireturn, 1) := by decide +kernel
theorem dX9_result_0 : decode cX9_result 0 = .ok (.aload_n 0, 1) := by decide +kernel
theorem dX9_result_1 : decode cX9_result 1 = .ok (.getfield 10, 3) := by decide +kernel
theorem dX9_result_4 : decode cX9_result 4 = .ok (.getfield 66, 3) := by decide +kernel
theorem dX9_result_7 : decode cX9_result 7 = .ok (.iload_n 1, 1) := by decide +kernel
theorem dX9_result_8 : decode cX9_result 8 = .ok (.invokevirtual 195, 3) := by decide +kernel
theorem dX9_result_11 : decode cX9_result 11 = .ok (.ifCond .eq 12, 3) := by decide +kernel
theorem dX9_result_14 : decode cX9_result 14 = .ok (.iload_n 2, 1) := by decide +kernel
theorem dX9_result_15 : decode cX9_result 15 = .ok (.ifCond .lt 8, 3) := by decide +kernel
theorem dX9_result_18 : decode cX9_result 18 = .ok (.iload_n 2, 1) := by decide +kernel
theorem dX9_result_19 : decode cX9_result 19 = .ok (.iconst 4, 1) := by decide +kernel
theorem dX9_result_20 : decode cX9_result 20 = .ok (.if_icmp .le 7, 3) := by decide +kernel
theorem dX9_result_23 : decode cX9_result 23 = .ok (.sipush (-1001), 3) := by decide +kernel
theorem dX9_result_26 : decode cX9_result 26 = .ok (.ireturn, 1) := by decide +kernel
theorem dX9_result_27 : decode cX9_result 27 = .ok (.aload_n 0, 1) := by decide +kernel
theorem dX9_result_28 : decode cX9_result 28 = .ok (.getfield 10, 3) := by decide +kernel
theorem dX9_result_31 : decode cX9_result 31 = .ok (.getfield 66, 3) := by decide +kernel
theorem dX9_result_34 : decode cX9_result 34 = .ok (.iload_n 1, 1) := by decide +kernel
theorem dX9_result_35 : decode cX9_result 35 = .ok (.iload_n 2, 1) := by decide +kernel
theorem dX9_result_36 : decode cX9_result 36 = .ok (.invokevirtual 196, 3) := by decide +kernel
theorem dX9_result_39 : decode cX9_result 39 = .ok (.ireturn, 1) := by decide +kernel
theorem dX9_answer_0 : decode cX9_answer 0 = .ok (.aload_n 0, 1) := by decide +kernel
theorem dX9_answer_1 : decode cX9_answer 1 = .ok (.getfield 10, 3) := by decide +kernel
theorem dX9_answer_4 : decode cX9_answer 4 = .ok (.getfield 66, 3) := by decide +kernel
theorem dX9_answer_7 : decode cX9_answer 7 = .ok (.iload_n 1, 1) := by decide +kernel
theorem dX9_answer_8 : decode cX9_answer 8 = .ok (.invokevirtual 195, 3) := by decide +kernel
theorem dX9_answer_11 : decode cX9_answer 11 = .ok (.ifCond .eq 17, 3) := by decide +kernel
theorem dX9_answer_14 : decode cX9_answer 14 = .ok (.aload_n 0, 1) := by decide +kernel
theorem dX9_answer_15 : decode cX9_answer 15 = .ok (.getfield 10, 3) := by decide +kernel
theorem dX9_answer_18 : decode cX9_answer 18 = .ok (.getfield 76, 3) := by decide +kernel
theorem dX9_answer_21 : decode cX9_answer 21 = .ok (.iload_n 2, 1) := by decide +kernel
theorem dX9_answer_22 : decode cX9_answer 22 = .ok (.invokevirtual 88, 3) := by decide +kernel
theorem dX9_answer_25 : decode cX9_answer 25 = .ok (.ifCond .ne 7, 3) := by decide +kernel
theorem dX9_answer_28 : decode cX9_answer 28 = .ok (.sipush (-1001), 3) := by decide +kernel
theorem dX9_answer_31 : decode cX9_answer 31 = .ok (.ireturn, 1) := by decide +kernel
theorem dX9_answer_32 : decode cX9_answer 32 = .ok (.aload_n 0, 1) := by decide +kernel
theorem dX9_answer_33 : decode cX9_answer 33 = .ok (.getfield 10, 3) := by decide +kernel
theorem dX9_answer_36 : decode cX9_answer 36 = .ok (.getfield 66, 3) := by decide +kernel
theorem dX9_answer_39 : decode cX9_answer 39 = .ok (.iload_n 1, 1) := by decide +kernel
theorem dX9_answer_40 : decode cX9_answer 40 = .ok (.iload_n 2, 1) := by decide +kernel
theorem dX9_answer_41 : decode cX9_answer 41 = .ok (.invokevirtual 197, 3) := by decide +kernel
theorem dX9_answer_44 : decode cX9_answer 44 = .ok (.istore_n 3, 1) := by decide +kernel
theorem dX9_answer_45 : decode cX9_answer 45 = .ok (.iload_n 3, 1) := by decide +kernel
theorem dX9_answer_46 : decode cX9_answer 46 = .ok (.iconst (-1), 1) := by decide +kernel
theorem dX9_answer_47 : decode cX9_answer 47 = .ok (.if_icmp .ne 9, 3) := by decide +kernel
theorem dX9_answer_50 : decode cX9_answer 50 = .ok (.sipush (-1009), 3) := by decide +kernel
theorem dX9_answer_53 : decode cX9_answer 53 = .ok (.goto 4, 3) := by decide +kernel
theorem dX9_answer_56 : decode cX9_answer 56 = .ok (.iload_n 3, 1) := by decide +kernel
theorem dX9_answer_57 : decode cX9_answer 57 = .ok (.ireturn, 1) := by decide +kernel
theorem dX9_about_0 : decode cX9_about 0 = .ok (.aload_n 0, 1) := by decide +kernel
theorem dX9_about_1 : decode cX9_about 1 = .ok (.getfield 10, 3) := by decide +kernel
theorem dX9_about_4 : decode cX9_about 4 = .ok (.getfield 76, 3) := by decide +kernel
theorem dX9_about_7 : decode cX9_about 7 = .ok (.iload_n 1, 1) := by decide +kernel
theorem dX9_about_8 : decode cX9_about 8 = .ok (.invokevirtual 88, 3) := by decide +kernel
theorem dX9_about_11 : decode cX9_about 11 = .ok (.ifCond .ne 7, 3) := by decide +kernel
theorem dX9_about_14 : decode cX9_about 14 = .ok (.sipush (-1001), 3) := by decide +kernel
theorem dX9_about_17 : decode cX9_about 17 = .ok (.ireturn, 1) := by decide +kernel
theorem dX9_about_18 : decode cX9_about 18 = .ok (.aload_n 0, 1) := by decide +kernel
theorem dX9_about_19 : decode cX9_about 19 = .ok (.getfield 10, 3) := by decide +kernel
theorem dX9_about_22 : decode cX9_about 22 = .ok (.getfield 76, 3) := by decide +kernel
theorem dX9_about_25 : decode cX9_about 25 = .ok (.iload_n 1, 1) := by decide +kernel
theorem dX9_about_26 : decode cX9_about 26 = .ok (.iconst 1, 1) := by decide +kernel
theorem dX9_about_27 : decode cX9_about 27 = .ok (.invokevirtual 95, 3) := by decide +kernel
theorem dX9_about_30 : decode cX9_about 30 = .ok (.istore_n 3, 1) := by decide +kernel
theorem dX9_about_31 : decode cX9_about 31 = .ok (.aload_n 0, 1) := by decide +kernel
theorem dX9_about_32 : decode cX9_about 32 = .ok (.getfield 10, 3) := by decide +kernel
theorem dX9_about_35 : decode cX9_about 35 = .ok (.getfield 66, 3) := by decide +kernel
theorem dX9_about_38 : decode cX9_about 38 = .ok (.iload_n 1, 1) := by decide +kernel
theorem dX9_about_39 : decode cX9_about 39 = .ok (.iload_n 3, 1) := by decide +kernel
theorem dX9_about_40 : decode cX9_about 40 = .ok (.invokevirtual 200, 3) := by decide +kernel
theorem dX9_about_43 : decode cX9_about 43 = .ok (.istore 4, 2) := by decide +kernel
theorem dX9_about_45 : decode cX9_about 45 = .ok (.aload_n 0, 1) := by decide +kernel
theorem dX9_about_46 : decode cX9_about 46 = .ok (.getfield 10, 3) := by decide +kernel
theorem dX9_about_49 : decode cX9_about 49 = .ok (.getfield 66, 3) := by decide +kernel
theorem dX9_about_52 : decode cX9_about 52 = .ok (.iload_n 1, 1) := by decide +kernel
theorem dX9_about_53 : decode cX9_about 53 = .ok (.iconst (-1), 1) := by decide +kernel
theorem dX9_about_54 : decode cX9_about 54 = .ok (.invokevirtual 200, 3) := by decide +kernel
theorem dX9_about_57 : decode cX9_about 57 = .ok (.istore 5, 2) := by decide +kernel
theorem dX9_about_59 : decode cX9_about 59 = .ok (.iload_n 2, 1) := by decide +kernel
theorem dX9_about_60 : decode cX9_about 60 = .ok (.tableswitch 62 0 3 #[32, 35, 52, 55], 32) := by decide +kernel
theorem dX9_about_92 : decode cX9_about 92 = .ok (.iload 4, 2) := by decide +kernel
theorem dX9_about_94 : decode cX9_about 94 = .ok (.ireturn, 1) := by decide +kernel
theorem dX9_about_95 : decode cX9_about 95 = .ok (.aload_n 0, 1) := by decide +kernel
theorem dX9_about_96 : decode cX9_about 96 = .ok (.getfield 10, 3) := by decide +kernel
theorem dX9_about_99 : decode cX9_about 99 = .ok (.getfield 66, 3) := by decide +kernel
theorem dX9_about_102 : decode cX9_about 102 = .ok (.getfield 70, 3) := by decide +kernel
theorem dX9_about_105 : decode cX9_about 105 = .ok (.iload 4, 2) := by decide +kernel
theorem dX9_about_107 : decode cX9_about 107 = .ok (.isub, 1) := by decide +kernel
theorem dX9_about_108 : decode cX9_about 108 = .ok (.iload 5, 2) := by decide +kernel
theorem dX9_about_110 : decode cX9_about 110 = .ok (.isub, 1) := by decide +kernel
theorem dX9_about_111 : decode cX9_about 111 = .ok (.ireturn, 1) := by decide +kernel
theorem dX9_about_112 : decode cX9_about 112 = .ok (.iload 5, 2) := by decide +kernel
theorem dX9_about_114 : decode cX9_about 114 = .ok (.ireturn, 1) := by decide +kernel
theorem dX9_about_115 : decode cX9_about 115 = .ok (.aload_n 0, 1) := by decide +kernel
theorem dX9_about_116 : decode cX9_about 116 = .ok (.iload_n 1, 1) := by decide +kernel
theorem dX9_about_117 : decode cX9_about 117 = .ok (.iload_n 3, 1) := by decide +kernel
theorem dX9_about_118 : decode cX9_about 118 = .ok (.invokevirtual 203, 3) := by decide +kernel
theorem dX9_about_121 : decode cX9_about 121 = .ok (.ireturn, 1) := by decide +kernel
theorem dX9_about_122 : decode cX9_about 122 = .ok (.sipush (-1001), 3) := by decide +kernel
theorem dX9_about_125 : decode cX9_about 125 = .ok (.ireturn, 1) := by decide +kernel
theorem dX9_parting_0 : decode cX9_parting 0 = .ok (.aload_n 0, 1) := by decide +kernel
theorem dX9_parting_1 : decode cX9_parting 1 = .ok (.getfield 10, 3) := by decide +kernel
theorem dX9_parting_4 : decode cX9_parting 4 = .ok (.getfield 76, 3) := by decide +kernel
theorem dX9_parting_7 : decode cX9_parting 7 = .ok (.iload_n 1, 1) := by decide +kernel
theorem dX9_parting_8 : decode cX9_parting 8 = .ok (.invokevirtual 88, 3) := by decide +kernel
theorem dX9_parting_11 : decode cX9_parting 11 = .ok (.ifCond .ne 6, 3) := by decide +kernel
theorem dX9_parting_14 : decode cX9_parting 14 = .ok (.ldc 206, 2) := by decide +kernel
theorem dX9_parting_16 : decode cX9_parting 16 = .ok (.freturn, 1) := by decide +kernel
theorem dX9_parting_17 : decode cX9_parting 17 = .ok (.aload_n 0, 1) := by decide +kernel
theorem dX9_parting_18 : decode cX9_parting 18 = .ok (.getfield 10, 3) := by decide +kernel
theorem dX9_parting_21 : decode cX9_parting 21 = .ok (.getfield 66, 3) := by decide +kernel
theorem dX9_parting_24 : decode cX9_parting 24 = .ok (.getfield 70, 3) := by decide +kernel
theorem dX9_parting_27 : decode cX9_parting 27 = .ok (.iconst 2, 1) := by decide +kernel
theorem dX9_parting_28 : decode cX9_parting 28 = .ok (.idiv, 1) := by decide +kernel
theorem dX9_parting_29 : decode cX9_parting 29 = .ok (.istore_n 2, 1) := by decide +kernel
theorem dX9_parting_30 : decode cX9_parting 30 = .ok (.iload_n 2, 1) := by decide +kernel
theorem dX9_parting_31 : decode cX9_parting 31 = .ok (.ifCond .ne 5, 3) := by decide +kernel
theorem dX9_parting_34 : decode cX9_parting 34 = .ok (.fconst 0, 1) := by decide +kernel
theorem dX9_parting_35 : decode cX9_parting 35 = .ok (.freturn, 1) := by decide +kernel
theorem dX9_parting_36 : decode cX9_parting 36 = .ok (.aload_n 0, 1) := by decide +kernel
theorem dX9_parting_37 : decode cX9_parting 37 = .ok (.getfield 10, 3) := by decide +kernel
theorem dX9_parting_40 : decode cX9_parting 40 = .ok (.getfield 76, 3) := by decide +kernel
theorem dX9_parting_43 : decode cX9_parting 43 = .ok (.iload_n 1, 1) := by decide +kernel
theorem dX9_parting_44 : decode cX9_parting 44 = .ok (.iconst 1, 1) := by decide +kernel
theorem dX9_parting_45 : decode cX9_parting 45 = .ok (.invokevirtual 95, 3) := by decide +kernel
theorem dX9_parting_48 : decode cX9_parting 48 = .ok (.istore_n 3, 1) := by decide +kernel
theorem dX9_parting_49 : decode cX9_parting 49 = .ok (.iconst 0, 1) := by decide +kernel
theorem dX9_parting_50 : decode cX9_parting 50 = .ok (.istore 4, 2) := by decide +kernel
theorem dX9_parting_52 : decode cX9_parting 52 = .ok (.iconst 0, 1) := by decide +kernel
theorem dX9_parting_53 : decode cX9_parting 53 = .ok (.istore 5, 2) := by decide +kernel
theorem dX9_parting_55 : decode cX9_parting 55 = .ok (.iload 5, 2) := by decide +kernel
theorem dX9_parting_57 : decode cX9_parting 57 = .ok (.aload_n 0, 1) := by decide +kernel
theorem dX9_parting_58 : decode cX9_parting 58 = .ok (.getfield 10, 3) := by decide +kernel
theorem dX9_parting_61 : decode cX9_parting 61 = .ok (.getfield 66, 3) := by decide +kernel
theorem dX9_parting_64 : decode cX9_parting 64 = .ok (.getfield 70, 3) := by decide +kernel
theorem dX9_parting_67 : decode cX9_parting 67 = .ok (.if_icmp .ge 83, 3) := by decide +kernel
theorem dX9_parting_70 : decode cX9_parting 70 = .ok (.aload_n 0, 1) := by decide +kernel
theorem dX9_parting_71 : decode cX9_parting 71 = .ok (.getfield 10, 3) := by decide +kernel
theorem dX9_parting_74 : decode cX9_parting 74 = .ok (.getfield 66, 3) := by decide +kernel
theorem dX9_parting_77 : decode cX9_parting 77 = .ok (.iload 5, 2) := by decide +kernel
theorem dX9_parting_79 : decode cX9_parting 79 = .ok (.iload_n 1, 1) := by decide +kernel
theorem dX9_parting_80 : decode cX9_parting 80 = .ok (.invokevirtual 197, 3) := by decide +kernel
theorem dX9_parting_83 : decode cX9_parting 83 = .ok (.iload_n 3, 1) := by decide +kernel
theorem dX9_parting_84 : decode cX9_parting 84 = .ok (.if_icmp .ne 60, 3) := by decide +kernel
theorem dX9_parting_87 : decode cX9_parting 87 = .ok (.aload_n 0, 1) := by decide +kernel
theorem dX9_parting_88 : decode cX9_parting 88 = .ok (.getfield 10, 3) := by decide +kernel
theorem dX9_parting_91 : decode cX9_parting 91 = .ok (.getfield 66, 3) := by decide +kernel
theorem dX9_parting_94 : decode cX9_parting 94 = .ok (.iload 5, 2) := by decide +kernel
theorem dX9_parting_96 : decode cX9_parting 96 = .ok (.invokevirtual 207, 3) := by decide +kernel
theorem dX9_parting_99 : decode cX9_parting 99 = .ok (.istore 6, 2) := by decide +kernel
theorem dX9_parting_101 : decode cX9_parting 101 = .ok (.iload 4, 2) := by decide +kernel
theorem dX9_parting_103 : decode cX9_parting 103 = .ok (.iload 6, 2) := by decide +kernel
theorem dX9_parting_105 : decode cX9_parting 105 = .ok (.iload_n 2, 1) := by decide +kernel
theorem dX9_parting_106 : decode cX9_parting 106 = .ok (.if_icmp .ge 7, 3) := by decide +kernel
theorem dX9_parting_109 : decode cX9_parting 109 = .ok (.iconst 1, 1) := by decide +kernel
theorem dX9_parting_110 : decode cX9_parting 110 = .ok (.goto 4, 3) := by decide +kernel
theorem dX9_parting_113 : decode cX9_parting 113 = .ok (.iconst 0, 1) := by decide +kernel
theorem dX9_parting_114 : decode cX9_parting 114 = .ok (.iadd, 1) := by decide +kernel
theorem dX9_parting_115 : decode cX9_parting 115 = .ok (.istore 4, 2) := by decide +kernel
theorem dX9_parting_117 : decode cX9_parting 117 = .ok (.iload 4, 2) := by decide +kernel
theorem dX9_parting_119 : decode cX9_parting 119 = .ok (.iload 6, 2) := by decide +kernel
theorem dX9_parting_121 : decode cX9_parting 121 = .ok (.aload_n 0, 1) := by decide +kernel
theorem dX9_parting_122 : decode cX9_parting 122 = .ok (.getfield 10, 3) := by decide +kernel
theorem dX9_parting_125 : decode cX9_parting 125 = .ok (.getfield 66, 3) := by decide +kernel
theorem dX9_parting_128 : decode cX9_parting 128 = .ok (.getfield 70, 3) := by decide +kernel
theorem dX9_parting_131 : decode cX9_parting 131 = .ok (.iload_n 2, 1) := by decide +kernel
theorem dX9_parting_132 : decode cX9_parting 132 = .ok (.isub, 1) := by decide +kernel
theorem dX9_parting_133 : decode cX9_parting 133 = .ok (.if_icmp .lt 7, 3) := by decide +kernel
theorem dX9_parting_136 : decode cX9_parting 136 = .ok (.iconst 1, 1) := by decide +kernel
theorem dX9_parting_137 : decode cX9_parting 137 = .ok (.goto 4, 3) := by decide +kernel
theorem dX9_parting_140 : decode cX9_parting 140 = .ok (.iconst 0, 1) := by decide +kernel
theorem dX9_parting_141 : decode cX9_parting 141 = .ok (.isub, 1) := by decide +kernel
theorem dX9_parting_142 : decode cX9_parting 142 = .ok (.istore 4, 2) := by decide +kernel
theorem dX9_parting_144 : decode cX9_parting 144 = .ok (.iinc 5 1, 3) := by decide +kernel
theorem dX9_parting_147 : decode cX9_parting 147 = .ok (.goto (-92), 3) := by decide +kernel
theorem dX9_parting_150 : decode cX9_parting 150 = .ok (.iload 4, 2) := by decide +kernel
theorem dX9_parting_152 : decode cX9_parting 152 = .ok (.i2f, 1) := by decide +kernel
theorem dX9_parting_153 : decode cX9_parting 153 = .ok (.iload_n 2, 1) := by decide +kernel
theorem dX9_parting_154 : decode cX9_parting 154 = .ok (.i2f, 1) := by decide +kernel
theorem dX9_parting_155 : decode cX9_parting 155 = .ok (.fdiv, 1) := by decide +kernel
theorem dX9_parting_156 : decode cX9_parting 156 = .ok (.freturn, 1) := by decide +kernel
theorem dX9_mean_0 : decode cX9_mean 0 = .ok (.aload_n 0, 1) := by decide +kernel
theorem dX9_mean_1 : decode cX9_mean 1 = .ok (.getfield 10, 3) := by decide +kernel
theorem dX9_mean_4 : decode cX9_mean 4 = .ok (.getfield 66, 3) := by decide +kernel
theorem dX9_mean_7 : decode cX9_mean 7 = .ok (.getfield 70, 3) := by decide +kernel
theorem dX9_mean_10 : decode cX9_mean 10 = .ok (.ifCond .gt 5, 3) := by decide +kernel
theorem dX9_mean_13 : decode cX9_mean 13 = .ok (.fconst 0, 1) := by decide +kernel
theorem dX9_mean_14 : decode cX9_mean 14 = .ok (.freturn, 1) := by decide +kernel
theorem dX9_mean_15 : decode cX9_mean 15 = .ok (.iconst 0, 1) := by decide +kernel
theorem dX9_mean_16 : decode cX9_mean 16 = .ok (.istore_n 1, 1) := by decide +kernel
theorem dX9_mean_17 : decode cX9_mean 17 = .ok (.iconst 0, 1) := by decide +kernel
theorem dX9_mean_18 : decode cX9_mean 18 = .ok (.istore_n 2, 1) := by decide +kernel
theorem dX9_mean_19 : decode cX9_mean 19 = .ok (.iload_n 2, 1) := by decide +kernel
theorem dX9_mean_20 : decode cX9_mean 20 = .ok (.aload_n 0, 1) := by decide +kernel
theorem dX9_mean_21 : decode cX9_mean 21 = .ok (.getfield 10, 3) := by decide +kernel
theorem dX9_mean_24 : decode cX9_mean 24 = .ok (.getfield 66, 3) := by decide +kernel
theorem dX9_mean_27 : decode cX9_mean 27 = .ok (.getfield 70, 3) := by decide +kernel
theorem dX9_mean_30 : decode cX9_mean 30 = .ok (.if_icmp .ge 23, 3) := by decide +kernel
theorem dX9_mean_33 : decode cX9_mean 33 = .ok (.iload_n 1, 1) := by decide +kernel
theorem dX9_mean_34 : decode cX9_mean 34 = .ok (.aload_n 0, 1) := by decide +kernel
theorem dX9_mean_35 : decode cX9_mean 35 = .ok (.getfield 10, 3) := by decide +kernel
theorem dX9_mean_38 : decode cX9_mean 38 = .ok (.getfield 66, 3) := by decide +kernel
theorem dX9_mean_41 : decode cX9_mean 41 = .ok (.iload_n 2, 1) := by decide +kernel
theorem dX9_mean_42 : decode cX9_mean 42 = .ok (.invokevirtual 210, 3) := by decide +kernel
theorem dX9_mean_45 : decode cX9_mean 45 = .ok (.iadd, 1) := by decide +kernel
theorem dX9_mean_46 : decode cX9_mean 46 = .ok (.istore_n 1, 1) := by decide +kernel
theorem dX9_mean_47 : decode cX9_mean 47 = .ok (.iinc 2 1, 3) := by decide +kernel
theorem dX9_mean_50 : decode cX9_mean 50 = .ok (.goto (-31), 3) := by decide +kernel
theorem dX9_mean_53 : decode cX9_mean 53 = .ok (.iload_n 1, 1) := by decide +kernel
theorem dX9_mean_54 : decode cX9_mean 54 = .ok (.i2f, 1) := by decide +kernel
theorem dX9_mean_55 : decode cX9_mean 55 = .ok (.aload_n 0, 1) := by decide +kernel
theorem dX9_mean_56 : decode cX9_mean 56 = .ok (.getfield 10, 3) := by decide +kernel
theorem dX9_mean_59 : decode cX9_mean 59 = .ok (.getfield 66, 3) := by decide +kernel
theorem dX9_mean_62 : decode cX9_mean 62 = .ok (.getfield 70, 3) := by decide +kernel
theorem dX9_mean_65 : decode cX9_mean 65 = .ok (.i2f, 1) := by decide +kernel
theorem dX9_mean_66 : decode cX9_mean 66 = .ok (.fdiv, 1) := by decide +kernel
theorem dX9_mean_67 : decode cX9_mean 67 = .ok (.freturn, 1) := by decide +kernel
theorem dX9_sameWrong_0 : decode cX9_sameWrong 0 = .ok (.aload_n 0, 1) := by decide +kernel
theorem dX9_sameWrong_1 : decode cX9_sameWrong 1 = .ok (.getfield 10, 3) := by decide +kernel
theorem dX9_sameWrong_4 : decode cX9_sameWrong 4 = .ok (.getfield 66, 3) := by decide +kernel
theorem dX9_sameWrong_7 : decode cX9_sameWrong 7 = .ok (.iload_n 1, 1) := by decide +kernel
theorem dX9_sameWrong_8 : decode cX9_sameWrong 8 = .ok (.invokevirtual 195, 3) := by decide +kernel
theorem dX9_sameWrong_11 : decode cX9_sameWrong 11 = .ok (.ifCond .eq 17, 3) := by decide +kernel
theorem dX9_sameWrong_14 : decode cX9_sameWrong 14 = .ok (.aload_n 0, 1) := by decide +kernel
theorem dX9_sameWrong_15 : decode cX9_sameWrong 15 = .ok (.getfield 10, 3) := by decide +kernel
theorem dX9_sameWrong_18 : decode cX9_sameWrong 18 = .ok (.getfield 66, 3) := by decide +kernel
theorem dX9_sameWrong_21 : decode cX9_sameWrong 21 = .ok (.iload_n 2, 1) := by decide +kernel
theorem dX9_sameWrong_22 : decode cX9_sameWrong 22 = .ok (.invokevirtual 195, 3) := by decide +kernel
theorem dX9_sameWrong_25 : decode cX9_sameWrong 25 = .ok (.ifCond .ne 7, 3) := by decide +kernel
theorem dX9_sameWrong_28 : decode cX9_sameWrong 28 = .ok (.sipush (-1001), 3) := by decide +kernel
theorem dX9_sameWrong_31 : decode cX9_sameWrong 31 = .ok (.ireturn, 1) := by decide +kernel
theorem dX9_sameWrong_32 : decode cX9_sameWrong 32 = .ok (.aload_n 0, 1) := by decide +kernel
theorem dX9_sameWrong_33 : decode cX9_sameWrong 33 = .ok (.iload_n 1, 1) := by decide +kernel
theorem dX9_sameWrong_34 : decode cX9_sameWrong 34 = .ok (.iload_n 2, 1) := by decide +kernel
theorem dX9_sameWrong_35 : decode cX9_sameWrong 35 = .ok (.invokevirtual 213, 3) := by decide +kernel
theorem dX9_sameWrong_38 : decode cX9_sameWrong 38 = .ok (.ireturn, 1) := by decide +kernel
theorem dX9_suspects_0 : decode cX9_suspects 0 = .ok (.sipush (-1009), 3) := by decide +kernel
theorem dX9_suspects_3 : decode cX9_suspects 3 = .ok (.istore_n 1, 1) := by decide +kernel
theorem dX9_suspects_4 : decode cX9_suspects 4 = .ok (.iconst (-1), 1) := by decide +kernel
theorem dX9_suspects_5 : decode cX9_suspects 5 = .ok (.istore_n 2, 1) := by decide +kernel
theorem dX9_suspects_6 : decode cX9_suspects 6 = .ok (.iconst 0, 1) := by decide +kernel
theorem dX9_suspects_7 : decode cX9_suspects 7 = .ok (.istore_n 3, 1) := by decide +kernel
theorem dX9_suspects_8 : decode cX9_suspects 8 = .ok (.iload_n 3, 1) := by decide +kernel
theorem dX9_suspects_9 : decode cX9_suspects 9 = .ok (.aload_n 0, 1) := by decide +kernel
theorem dX9_suspects_10 : decode cX9_suspects 10 = .ok (.getfield 10, 3) := by decide +kernel
theorem dX9_suspects_13 : decode cX9_suspects 13 = .ok (.getfield 66, 3) := by decide +kernel
theorem dX9_suspects_16 : decode cX9_suspects 16 = .ok (.getfield 70, 3) := by decide +kernel
theorem dX9_suspects_19 : decode cX9_suspects 19 = .ok (.if_icmp .ge 61, 3) := by decide +kernel
theorem dX9_suspects_22 : decode cX9_suspects 22 = .ok (.iload_n 3, 1) := by decide +kernel
theorem dX9_suspects_23 : decode cX9_suspects 23 = .ok (.iconst 1, 1) := by decide +kernel
theorem dX9_suspects_24 : decode cX9_suspects 24 = .ok (.iadd, 1) := by decide +kernel
theorem dX9_suspects_25 : decode cX9_suspects 25 = .ok (.istore 4, 2) := by decide +kernel
theorem dX9_suspects_27 : decode cX9_suspects 27 = .ok (.iload 4, 2) := by decide +kernel
theorem dX9_suspects_29 : decode cX9_suspects 29 = .ok (.aload_n 0, 1) := by decide +kernel
theorem dX9_suspects_30 : decode cX9_suspects 30 = .ok (.getfield 10, 3) := by decide +kernel
theorem dX9_suspects_33 : decode cX9_suspects 33 = .ok (.getfield 66, 3) := by decide +kernel
theorem dX9_suspects_36 : decode cX9_suspects 36 = .ok (.getfield 70, 3) := by decide +kernel
theorem dX9_suspects_39 : decode cX9_suspects 39 = .ok (.if_icmp .ge 35, 3) := by decide +kernel
theorem dX9_suspects_42 : decode cX9_suspects 42 = .ok (.aload_n 0, 1) := by decide +kernel
theorem dX9_suspects_43 : decode cX9_suspects 43 = .ok (.iload_n 3, 1) := by decide +kernel
theorem dX9_suspects_44 : decode cX9_suspects 44 = .ok (.iload 4, 2) := by decide +kernel
theorem dX9_suspects_46 : decode cX9_suspects 46 = .ok (.invokevirtual 213, 3) := by decide +kernel
theorem dX9_suspects_49 : decode cX9_suspects 49 = .ok (.istore 5, 2) := by decide +kernel
theorem dX9_suspects_51 : decode cX9_suspects 51 = .ok (.iload 5, 2) := by decide +kernel
theorem dX9_suspects_53 : decode cX9_suspects 53 = .ok (.iload_n 2, 1) := by decide +kernel
theorem dX9_suspects_54 : decode cX9_suspects 54 = .ok (.if_icmp .le 14, 3) := by decide +kernel
theorem dX9_suspects_57 : decode cX9_suspects 57 = .ok (.iload 5, 2) := by decide +kernel
theorem dX9_suspects_59 : decode cX9_suspects 59 = .ok (.istore_n 2, 1) := by decide +kernel
theorem dX9_suspects_60 : decode cX9_suspects 60 = .ok (.bipush 100, 2) := by decide +kernel
theorem dX9_suspects_62 : decode cX9_suspects 62 = .ok (.iload_n 3, 1) := by decide +kernel
theorem dX9_suspects_63 : decode cX9_suspects 63 = .ok (.imul, 1) := by decide +kernel
theorem dX9_suspects_64 : decode cX9_suspects 64 = .ok (.iload 4, 2) := by decide +kernel
theorem dX9_suspects_66 : decode cX9_suspects 66 = .ok (.iadd, 1) := by decide +kernel
theorem dX9_suspects_67 : decode cX9_suspects 67 = .ok (.istore_n 1, 1) := by decide +kernel
theorem dX9_suspects_68 : decode cX9_suspects 68 = .ok (.iinc 4 1, 3) := by decide +kernel
theorem dX9_suspects_71 : decode cX9_suspects 71 = .ok (.goto (-44), 3) := by decide +kernel
theorem dX9_suspects_74 : decode cX9_suspects 74 = .ok (.iinc 3 1, 3) := by decide +kernel
theorem dX9_suspects_77 : decode cX9_suspects 77 = .ok (.goto (-69), 3) := by decide +kernel
theorem dX9_suspects_80 : decode cX9_suspects 80 = .ok (.iload_n 1, 1) := by decide +kernel
theorem dX9_suspects_81 : decode cX9_suspects 81 = .ok (.ireturn, 1) := by decide +kernel
theorem dX9_mistaken_0 : decode cX9_mistaken 0 = .ok (.aload_n 0, 1) := by decide +kernel
theorem dX9_mistaken_1 : decode cX9_mistaken 1 = .ok (.iload_n 2, 1) := by decide +kernel
theorem dX9_mistaken_2 : decode cX9_mistaken 2 = .ok (.invokevirtual 119, 3) := by decide +kernel
theorem dX9_mistaken_5 : decode cX9_mistaken 5 = .ok (.astore_n 3, 1) := by decide +kernel
theorem dX9_mistaken_6 : decode cX9_mistaken 6 = .ok (.aload_n 3, 1) := by decide +kernel
theorem dX9_mistaken_7 : decode cX9_mistaken 7 = .ok (.ifnull 17, 3) := by decide +kernel
theorem dX9_mistaken_10 : decode cX9_mistaken 10 = .ok (.aload_n 0, 1) := by decide +kernel
theorem dX9_mistaken_11 : decode cX9_mistaken 11 = .ok (.getfield 10, 3) := by decide +kernel
theorem dX9_mistaken_14 : decode cX9_mistaken 14 = .ok (.getfield 66, 3) := by decide +kernel
theorem dX9_mistaken_17 : decode cX9_mistaken 17 = .ok (.iload_n 1, 1) := by decide +kernel
theorem dX9_mistaken_18 : decode cX9_mistaken 18 = .ok (.invokevirtual 195, 3) := by decide +kernel
theorem dX9_mistaken_21 : decode cX9_mistaken 21 = .ok (.ifCond .ne 7, 3) := by decide +kernel
theorem dX9_mistaken_24 : decode cX9_mistaken 24 = .ok (.sipush (-1001), 3) := by decide +kernel
theorem dX9_mistaken_27 : decode cX9_mistaken 27 = .ok (.ireturn, 1) := by decide +kernel
theorem dX9_mistaken_28 : decode cX9_mistaken 28 = .ok (.iconst 0, 1) := by decide +kernel
theorem dX9_mistaken_29 : decode cX9_mistaken 29 = .ok (.istore 4, 2) := by decide +kernel
theorem dX9_mistaken_31 : decode cX9_mistaken 31 = .ok (.iconst 0, 1) := by decide +kernel
theorem dX9_mistaken_32 : decode cX9_mistaken 32 = .ok (.istore 5, 2) := by decide +kernel
theorem dX9_mistaken_34 : decode cX9_mistaken 34 = .ok (.iload 5, 2) := by decide +kernel
theorem dX9_mistaken_36 : decode cX9_mistaken 36 = .ok (.aload_n 3, 1) := by decide +kernel
theorem dX9_mistaken_37 : decode cX9_mistaken 37 = .ok (.getfield 140, 3) := by decide +kernel
theorem dX9_mistaken_40 : decode cX9_mistaken 40 = .ok (.if_icmp .ge 53, 3) := by decide +kernel
theorem dX9_mistaken_43 : decode cX9_mistaken 43 = .ok (.aload_n 0, 1) := by decide +kernel
theorem dX9_mistaken_44 : decode cX9_mistaken 44 = .ok (.getfield 10, 3) := by decide +kernel
theorem dX9_mistaken_47 : decode cX9_mistaken 47 = .ok (.getfield 66, 3) := by decide +kernel
theorem dX9_mistaken_50 : decode cX9_mistaken 50 = .ok (.iload_n 1, 1) := by decide +kernel
theorem dX9_mistaken_51 : decode cX9_mistaken 51 = .ok (.iload 5, 2) := by decide +kernel
theorem dX9_mistaken_53 : decode cX9_mistaken 53 = .ok (.invokevirtual 216, 3) := by decide +kernel
theorem dX9_mistaken_56 : decode cX9_mistaken 56 = .ok (.istore 6, 2) := by decide +kernel
theorem dX9_mistaken_58 : decode cX9_mistaken 58 = .ok (.iload 6, 2) := by decide +kernel
theorem dX9_mistaken_60 : decode cX9_mistaken 60 = .ok (.aload_n 3, 1) := by decide +kernel
theorem dX9_mistaken_61 : decode cX9_mistaken 61 = .ok (.getfield 145, 3) := by decide +kernel
theorem dX9_mistaken_64 : decode cX9_mistaken 64 = .ok (.iload 5, 2) := by decide +kernel
theorem dX9_mistaken_66 : decode cX9_mistaken 66 = .ok (.invokevirtual 115, 3) := by decide +kernel
theorem dX9_mistaken_69 : decode cX9_mistaken 69 = .ok (.if_icmp .ne 9, 3) := by decide +kernel
theorem dX9_mistaken_72 : decode cX9_mistaken 72 = .ok (.iinc 4 4, 3) := by decide +kernel
theorem dX9_mistaken_75 : decode cX9_mistaken 75 = .ok (.goto 12, 3) := by decide +kernel
theorem dX9_mistaken_78 : decode cX9_mistaken 78 = .ok (.iload 6, 2) := by decide +kernel
theorem dX9_mistaken_80 : decode cX9_mistaken 80 = .ok (.iconst (-1), 1) := by decide +kernel
theorem dX9_mistaken_81 : decode cX9_mistaken 81 = .ok (.if_icmp .eq 6, 3) := by decide +kernel
theorem dX9_mistaken_84 : decode cX9_mistaken 84 = .ok (.iinc 4 (-1), 3) := by decide +kernel
theorem dX9_mistaken_87 : decode cX9_mistaken 87 = .ok (.iinc 5 1, 3) := by decide +kernel
theorem dX9_mistaken_90 : decode cX9_mistaken 90 = .ok (.goto (-56), 3) := by decide +kernel
theorem dX9_mistaken_93 : decode cX9_mistaken 93 = .ok (.iload 4, 2) := by decide +kernel
theorem dX9_mistaken_95 : decode cX9_mistaken 95 = .ok (.ireturn, 1) := by decide +kernel
theorem dX9_undo_0 : decode cX9_undo 0 = .ok (.aload_n 0, 1) := by decide +kernel
theorem dX9_undo_1 : decode cX9_undo 1 = .ok (.getfield 19, 3) := by decide +kernel
theorem dX9_undo_4 : decode cX9_undo 4 = .ok (.getfield 219, 3) := by decide +kernel
theorem dX9_undo_7 : decode cX9_undo 7 = .ok (.ifCond .gt 7, 3) := by decide +kernel
theorem dX9_undo_10 : decode cX9_undo 10 = .ok (.sipush (-1009), 3) := by decide +kernel
theorem dX9_undo_13 : decode cX9_undo 13 = .ok (.ireturn, 1) := by decide +kernel
theorem dX9_undo_14 : decode cX9_undo 14 = .ok (.aload_n 0, 1) := by decide +kernel
theorem dX9_undo_15 : decode cX9_undo 15 = .ok (.getfield 19, 3) := by decide +kernel
theorem dX9_undo_18 : decode cX9_undo 18 = .ok (.aload_n 0, 1) := by decide +kernel
theorem dX9_undo_19 : decode cX9_undo 19 = .ok (.getfield 10, 3) := by decide +kernel
theorem dX9_undo_22 : decode cX9_undo 22 = .ok (.invokevirtual 220, 3) := by decide +kernel
theorem dX9_undo_25 : decode cX9_undo 25 = .ok (.aload_n 0, 1) := by decide +kernel
theorem dX9_undo_26 : decode cX9_undo 26 = .ok (.invokevirtual 223, 3) := by decide +kernel
theorem dX9_undo_29 : decode cX9_undo 29 = .ok (.aload_n 0, 1) := by decide +kernel
theorem dX9_undo_30 : decode cX9_undo 30 = .ok (.getfield 19, 3) := by decide +kernel
theorem dX9_undo_33 : decode cX9_undo 33 = .ok (.getfield 219, 3) := by decide +kernel
theorem dX9_undo_36 : decode cX9_undo 36 = .ok (.ireturn, 1) := by decide +kernel
theorem dX9_fingerprint_0 : decode cX9_fingerprint 0 = .ok (.ldc2_w 226, 3) := by decide +kernel
theorem dX9_fingerprint_3 : decode cX9_fingerprint 3 = .ok (.lstore_n 1, 1) := by decide +kernel
theorem dX9_fingerprint_4 : decode cX9_fingerprint 4 = .ok (.aload_n 0, 1) := by decide +kernel
theorem dX9_fingerprint_5 : decode cX9_fingerprint 5 = .ok (.lload_n 1, 1) := by decide +kernel
theorem dX9_fingerprint_6 : decode cX9_fingerprint 6 = .ok (.invokevirtual 228, 3) := by decide +kernel
theorem dX9_fingerprint_9 : decode cX9_fingerprint 9 = .ok (.lstore_n 1, 1) := by decide +kernel
theorem dX9_fingerprint_10 : decode cX9_fingerprint 10 = .ok (.aload_n 0, 1) := by decide +kernel
theorem dX9_fingerprint_11 : decode cX9_fingerprint 11 = .ok (.lload_n 1, 1) := by decide +kernel
theorem dX9_fingerprint_12 : decode cX9_fingerprint 12 = .ok (.invokevirtual 232, 3) := by decide +kernel
theorem dX9_fingerprint_15 : decode cX9_fingerprint 15 = .ok (.lstore_n 1, 1) := by decide +kernel
theorem dX9_fingerprint_16 : decode cX9_fingerprint 16 = .ok (.aload_n 0, 1) := by decide +kernel
theorem dX9_fingerprint_17 : decode cX9_fingerprint 17 = .ok (.lload_n 1, 1) := by decide +kernel
theorem dX9_fingerprint_18 : decode cX9_fingerprint 18 = .ok (.invokevirtual 235, 3) := by decide +kernel
theorem dX9_fingerprint_21 : decode cX9_fingerprint 21 = .ok (.lreturn, 1) := by decide +kernel
theorem dX9_beginChange_0 : decode cX9_beginChange 0 = .ok (.aload_n 0, 1) := by decide +kernel
theorem dX9_beginChange_1 : decode cX9_beginChange 1 = .ok (.getfield 19, 3) := by decide +kernel
theorem dX9_beginChange_4 : decode cX9_beginChange 4 = .ok (.aload_n 0, 1) := by decide +kernel
theorem dX9_beginChange_5 : decode cX9_beginChange 5 = .ok (.getfield 10, 3) := by decide +kernel
theorem dX9_beginChange_8 : decode cX9_beginChange 8 = .ok (.invokevirtual 191, 3) := by decide +kernel
theorem dX9_beginChange_11 : decode cX9_beginChange 11 = .ok (.aload_n 0, 1) := by decide +kernel
theorem dX9_beginChange_12 : decode cX9_beginChange 12 = .ok (.invokevirtual 223, 3) := by decide +kernel
theorem dX9_beginChange_15 : decode cX9_beginChange 15 = .ok (.return_, 1) := by decide +kernel
theorem dX9_outdatePapers_0 : decode cX9_outdatePapers 0 = .ok (.iconst 0, 1) := by decide +kernel
theorem dX9_outdatePapers_1 : decode cX9_outdatePapers 1 = .ok (.istore_n 1, 1) := by decide +kernel
theorem dX9_outdatePapers_2 : decode cX9_outdatePapers 2 = .ok (.iload_n 1, 1) := by decide +kernel
theorem dX9_outdatePapers_3 : decode cX9_outdatePapers 3 = .ok (.aload_n 0, 1) := by decide +kernel
theorem dX9_outdatePapers_4 : decode cX9_outdatePapers 4 = .ok (.getfield 32, 3) := by decide +kernel
theorem dX9_outdatePapers_7 : decode cX9_outdatePapers 7 = .ok (.arraylength, 1) := by decide +kernel
theorem dX9_outdatePapers_8 : decode cX9_outdatePapers 8 = .ok (.if_icmp .ge 25, 3) := by decide +kernel
theorem dX9_outdatePapers_11 : decode cX9_outdatePapers 11 = .ok (.aload_n 0, 1) := by decide +kernel
theorem dX9_outdatePapers_12 : decode cX9_outdatePapers 12 = .ok (.getfield 32, 3) := by decide +kernel
theorem dX9_outdatePapers_15 : decode cX9_outdatePapers 15 = .ok (.iload_n 1, 1) := by decide +kernel
theorem dX9_outdatePapers_16 : decode cX9_outdatePapers 16 = .ok (.aaload, 1) := by decide +kernel
theorem dX9_outdatePapers_17 : decode cX9_outdatePapers 17 = .ok (.astore_n 2, 1) := by decide +kernel
theorem dX9_outdatePapers_18 : decode cX9_outdatePapers 18 = .ok (.aload_n 2, 1) := by decide +kernel
theorem dX9_outdatePapers_19 : decode cX9_outdatePapers 19 = .ok (.ifnull 8, 3) := by decide +kernel
theorem dX9_outdatePapers_22 : decode cX9_outdatePapers 22 = .ok (.aload_n 2, 1) := by decide +kernel
theorem dX9_outdatePapers_23 : decode cX9_outdatePapers 23 = .ok (.iconst 0, 1) := by decide +kernel
theorem dX9_outdatePapers_24 : decode cX9_outdatePapers 24 = .ok (.putfield 238, 3) := by decide +kernel
theorem dX9_outdatePapers_27 : decode cX9_outdatePapers 27 = .ok (.iinc 1 1, 3) := by decide +kernel
theorem dX9_outdatePapers_30 : decode cX9_outdatePapers 30 = .ok (.goto (-28), 3) := by decide +kernel
theorem dX9_outdatePapers_33 : decode cX9_outdatePapers 33 = .ok (.return_, 1) := by decide +kernel
theorem dX9_paperOf_0 : decode cX9_paperOf 0 = .ok (.iload_n 1, 1) := by decide +kernel
theorem dX9_paperOf_1 : decode cX9_paperOf 1 = .ok (.ifCond .lt 23, 3) := by decide +kernel
theorem dX9_paperOf_4 : decode cX9_paperOf 4 = .ok (.iload_n 1, 1) := by decide +kernel
theorem dX9_paperOf_5 : decode cX9_paperOf 5 = .ok (.aload_n 0, 1) := by decide +kernel
theorem dX9_paperOf_6 : decode cX9_paperOf 6 = .ok (.getfield 10, 3) := by decide +kernel
theorem dX9_paperOf_9 : decode cX9_paperOf 9 = .ok (.getfield 103, 3) := by decide +kernel
theorem dX9_paperOf_12 : decode cX9_paperOf 12 = .ok (.if_icmp .ge 12, 3) := by decide +kernel
theorem dX9_paperOf_15 : decode cX9_paperOf 15 = .ok (.iload_n 1, 1) := by decide +kernel
theorem dX9_paperOf_16 : decode cX9_paperOf 16 = .ok (.aload_n 0, 1) := by decide +kernel
theorem dX9_paperOf_17 : decode cX9_paperOf 17 = .ok (.getfield 32, 3) := by decide +kernel
theorem dX9_paperOf_20 : decode cX9_paperOf 20 = .ok (.arraylength, 1) := by decide +kernel
theorem dX9_paperOf_21 : decode cX9_paperOf 21 = .ok (.if_icmp .lt 5, 3) := by decide +kernel
theorem dX9_paperOf_24 : decode cX9_paperOf 24 = .ok (.aconst_null, 1) := by decide +kernel
theorem dX9_paperOf_25 : decode cX9_paperOf 25 = .ok (.areturn, 1) := by decide +kernel
theorem dX9_paperOf_26 : decode cX9_paperOf 26 = .ok (.aload_n 0, 1) := by decide +kernel
theorem dX9_paperOf_27 : decode cX9_paperOf 27 = .ok (.getfield 32, 3) := by decide +kernel
theorem dX9_paperOf_30 : decode cX9_paperOf 30 = .ok (.iload_n 1, 1) := by decide +kernel
theorem dX9_paperOf_31 : decode cX9_paperOf 31 = .ok (.aaload, 1) := by decide +kernel
theorem dX9_paperOf_32 : decode cX9_paperOf 32 = .ok (.astore_n 2, 1) := by decide +kernel
theorem dX9_paperOf_33 : decode cX9_paperOf 33 = .ok (.aload_n 2, 1) := by decide +kernel
theorem dX9_paperOf_34 : decode cX9_paperOf 34 = .ok (.ifnull 63, 3) := by decide +kernel
theorem dX9_paperOf_37 : decode cX9_paperOf 37 = .ok (.aload_n 2, 1) := by decide +kernel
theorem dX9_paperOf_38 : decode cX9_paperOf 38 = .ok (.getfield 238, 3) := by decide +kernel
theorem dX9_paperOf_41 : decode cX9_paperOf 41 = .ok (.ifCond .ne 56, 3) := by decide +kernel
theorem dX9_paperOf_44 : decode cX9_paperOf 44 = .ok (.aload_n 0, 1) := by decide +kernel
theorem dX9_paperOf_45 : decode cX9_paperOf 45 = .ok (.getfield 26, 3) := by decide +kernel
theorem dX9_paperOf_48 : decode cX9_paperOf 48 = .ok (.aload_n 0, 1) := by decide +kernel
theorem dX9_paperOf_49 : decode cX9_paperOf 49 = .ok (.getfield 10, 3) := by decide +kernel
theorem dX9_paperOf_52 : decode cX9_paperOf 52 = .ok (.getfield 76, 3) := by decide +kernel
theorem dX9_paperOf_55 : decode cX9_paperOf 55 = .ok (.aload_n 0, 1) := by decide +kernel
theorem dX9_paperOf_56 : decode cX9_paperOf 56 = .ok (.getfield 10, 3) := by decide +kernel
theorem dX9_paperOf_59 : decode cX9_paperOf 59 = .ok (.getfield 106, 3) := by decide +kernel
theorem dX9_paperOf_62 : decode cX9_paperOf 62 = .ok (.iload_n 1, 1) := by decide +kernel
theorem dX9_paperOf_63 : decode cX9_paperOf 63 = .ok (.invokevirtual 115, 3) := by decide +kernel
theorem dX9_paperOf_66 : decode cX9_paperOf 66 = .ok (.aload_n 2, 1) := by decide +kernel
theorem dX9_paperOf_67 : decode cX9_paperOf 67 = .ok (.invokevirtual 242, 3) := by decide +kernel
theorem dX9_paperOf_70 : decode cX9_paperOf 70 = .ok (.aload_n 2, 1) := by decide +kernel
theorem dX9_paperOf_71 : decode cX9_paperOf 71 = .ok (.getfield 160, 3) := by decide +kernel
theorem dX9_paperOf_74 : decode cX9_paperOf 74 = .ok (.aload_n 0, 1) := by decide +kernel
theorem dX9_paperOf_75 : decode cX9_paperOf 75 = .ok (.getfield 10, 3) := by decide +kernel
theorem dX9_paperOf_78 : decode cX9_paperOf 78 = .ok (.getfield 76, 3) := by decide +kernel
theorem dX9_paperOf_81 : decode cX9_paperOf 81 = .ok (.aload_n 2, 1) := by decide +kernel
theorem dX9_paperOf_82 : decode cX9_paperOf 82 = .ok (.aload_n 0, 1) := by decide +kernel
theorem dX9_paperOf_83 : decode cX9_paperOf 83 = .ok (.getfield 10, 3) := by decide +kernel
theorem dX9_paperOf_86 : decode cX9_paperOf 86 = .ok (.getfield 157, 3) := by decide +kernel
theorem dX9_paperOf_89 : decode cX9_paperOf 89 = .ok (.invokevirtual 246, 3) := by decide +kernel
theorem dX9_paperOf_92 : decode cX9_paperOf 92 = .ok (.aload_n 2, 1) := by decide +kernel
theorem dX9_paperOf_93 : decode cX9_paperOf 93 = .ok (.iconst 1, 1) := by decide +kernel
theorem dX9_paperOf_94 : decode cX9_paperOf 94 = .ok (.putfield 238, 3) := by decide +kernel
theorem dX9_paperOf_97 : decode cX9_paperOf 97 = .ok (.aload_n 2, 1) := by decide +kernel
theorem dX9_paperOf_98 : decode cX9_paperOf 98 = .ok (.areturn, 1) := by decide +kernel
theorem dX9_choicesAt_0 : decode cX9_choicesAt 0 = .ok (.aload_n 0, 1) := by decide +kernel
theorem dX9_choicesAt_1 : decode cX9_choicesAt 1 = .ok (.getfield 10, 3) := by decide +kernel
theorem dX9_choicesAt_4 : decode cX9_choicesAt 4 = .ok (.getfield 76, 3) := by decide +kernel
theorem dX9_choicesAt_7 : decode cX9_choicesAt 7 = .ok (.aload_n 1, 1) := by decide +kernel
theorem dX9_choicesAt_8 : decode cX9_choicesAt 8 = .ok (.getfield 137, 3) := by decide +kernel
theorem dX9_choicesAt_11 : decode cX9_choicesAt 11 = .ok (.iload_n 2, 1) := by decide +kernel
theorem dX9_choicesAt_12 : decode cX9_choicesAt 12 = .ok (.invokevirtual 115, 3) := by decide +kernel
theorem dX9_choicesAt_15 : decode cX9_choicesAt 15 = .ok (.iconst 4, 1) := by decide +kernel
theorem dX9_choicesAt_16 : decode cX9_choicesAt 16 = .ok (.invokevirtual 95, 3) := by decide +kernel
theorem dX9_choicesAt_19 : decode cX9_choicesAt 19 = .ok (.ireturn, 1) := by decide +kernel
theorem dX9_mostSameKeys_0 : decode cX9_mostSameKeys 0 = .ok (.aload_n 0, 1) := by decide +kernel
theorem dX9_mostSameKeys_1 : decode cX9_mostSameKeys 1 = .ok (.getfield 26, 3) := by decide +kernel
theorem dX9_mostSameKeys_4 : decode cX9_mostSameKeys 4 = .ok (.aload_n 0, 1) := by decide +kernel
theorem dX9_mostSameKeys_5 : decode cX9_mostSameKeys 5 = .ok (.getfield 10, 3) := by decide +kernel
theorem dX9_mostSameKeys_8 : decode cX9_mostSameKeys 8 = .ok (.getfield 76, 3) := by decide +kernel
theorem dX9_mostSameKeys_11 : decode cX9_mostSameKeys 11 = .ok (.iload_n 1, 1) := by decide +kernel
theorem dX9_mostSameKeys_12 : decode cX9_mostSameKeys 12 = .ok (.aload_n 0, 1) := by decide +kernel
theorem dX9_mostSameKeys_13 : decode cX9_mostSameKeys 13 = .ok (.getfield 37, 3) := by decide +kernel
theorem dX9_mostSameKeys_16 : decode cX9_mostSameKeys 16 = .ok (.invokevirtual 242, 3) := by decide +kernel
theorem dX9_mostSameKeys_19 : decode cX9_mostSameKeys 19 = .ok (.iconst 0, 1) := by decide +kernel
theorem dX9_mostSameKeys_20 : decode cX9_mostSameKeys 20 = .ok (.istore_n 2, 1) := by decide +kernel
theorem dX9_mostSameKeys_21 : decode cX9_mostSameKeys 21 = .ok (.iconst 0, 1) := by decide +kernel
theorem dX9_mostSameKeys_22 : decode cX9_mostSameKeys 22 = .ok (.istore_n 3, 1) := by decide +kernel
theorem dX9_mostSameKeys_23 : decode cX9_mostSameKeys 23 = .ok (.iload_n 3, 1) := by decide +kernel
theorem dX9_mostSameKeys_24 : decode cX9_mostSameKeys 24 = .ok (.aload_n 0, 1) := by decide +kernel
theorem dX9_mostSameKeys_25 : decode cX9_mostSameKeys 25 = .ok (.getfield 10, 3) := by decide +kernel
theorem dX9_mostSameKeys_28 : decode cX9_mostSameKeys 28 = .ok (.getfield 103, 3) := by decide +kernel
theorem dX9_mostSameKeys_31 : decode cX9_mostSameKeys 31 = .ok (.if_icmp .ge 48, 3) := by decide +kernel
theorem dX9_mostSameKeys_34 : decode cX9_mostSameKeys 34 = .ok (.aload_n 0, 1) := by decide +kernel
theorem dX9_mostSameKeys_35 : decode cX9_mostSameKeys 35 = .ok (.iload_n 3, 1) := by decide +kernel
theorem dX9_mostSameKeys_36 : decode cX9_mostSameKeys 36 = .ok (.invokevirtual 119, 3) := by decide +kernel
theorem dX9_mostSameKeys_39 : decode cX9_mostSameKeys 39 = .ok (.astore 4, 2) := by decide +kernel
theorem dX9_mostSameKeys_41 : decode cX9_mostSameKeys 41 = .ok (.aload 4, 2) := by decide +kernel
theorem dX9_mostSameKeys_43 : decode cX9_mostSameKeys 43 = .ok (.ifnull 30, 3) := by decide +kernel
theorem dX9_mostSameKeys_46 : decode cX9_mostSameKeys 46 = .ok (.iload_n 2, 1) := by decide +kernel
theorem dX9_mostSameKeys_47 : decode cX9_mostSameKeys 47 = .ok (.aload 4, 2) := by decide +kernel
theorem dX9_mostSameKeys_49 : decode cX9_mostSameKeys 49 = .ok (.getfield 145, 3) := by decide +kernel
theorem dX9_mostSameKeys_52 : decode cX9_mostSameKeys 52 = .ok (.aload_n 0, 1) := by decide +kernel
theorem dX9_mostSameKeys_53 : decode cX9_mostSameKeys 53 = .ok (.getfield 37, 3) := by decide +kernel
theorem dX9_mostSameKeys_56 : decode cX9_mostSameKeys 56 = .ok (.getfield 145, 3) := by decide +kernel
theorem dX9_mostSameKeys_59 : decode cX9_mostSameKeys 59 = .ok (.aload_n 0, 1) := by decide +kernel
theorem dX9_mostSameKeys_60 : decode cX9_mostSameKeys 60 = .ok (.getfield 37, 3) := by decide +kernel
theorem dX9_mostSameKeys_63 : decode cX9_mostSameKeys 63 = .ok (.getfield 140, 3) := by decide +kernel
theorem dX9_mostSameKeys_66 : decode cX9_mostSameKeys 66 = .ok (.invokevirtual 141, 3) := by decide +kernel
theorem dX9_mostSameKeys_69 : decode cX9_mostSameKeys 69 = .ok (.invokestatic 250, 3) := by decide +kernel
theorem dX9_mostSameKeys_72 : decode cX9_mostSameKeys 72 = .ok (.istore_n 2, 1) := by decide +kernel
theorem dX9_mostSameKeys_73 : decode cX9_mostSameKeys 73 = .ok (.iinc 3 1, 3) := by decide +kernel
theorem dX9_mostSameKeys_76 : decode cX9_mostSameKeys 76 = .ok (.goto (-53), 3) := by decide +kernel
theorem dX9_mostSameKeys_79 : decode cX9_mostSameKeys 79 = .ok (.iload_n 2, 1) := by decide +kernel
theorem dX9_mostSameKeys_80 : decode cX9_mostSameKeys 80 = .ok (.ireturn, 1) := by decide +kernel
theorem dX9_readTyped_0 : decode cX9_readTyped 0 = .ok (.iconst 0, 1) := by decide +kernel
theorem dX9_readTyped_1 : decode cX9_readTyped 1 = .ok (.istore_n 2, 1) := by decide +kernel
theorem dX9_readTyped_2 : decode cX9_readTyped 2 = .ok (.iload_n 2, 1) := by decide +kernel
theorem dX9_readTyped_3 : decode cX9_readTyped 3 = .ok (.aload_n 0, 1) := by decide +kernel
theorem dX9_readTyped_4 : decode cX9_readTyped 4 = .ok (.getfield 175, 3) := by decide +kernel
theorem dX9_readTyped_7 : decode cX9_readTyped 7 = .ok (.if_icmp .ge 53, 3) := by decide +kernel
theorem dX9_readTyped_10 : decode cX9_readTyped 10 = .ok (.iload_n 2, 1) := by decide +kernel
theorem dX9_readTyped_11 : decode cX9_readTyped 11 = .ok (.aload_n 1, 1) := by decide +kernel
theorem dX9_readTyped_12 : decode cX9_readTyped 12 = .ok (.getfield 140, 3) := by decide +kernel
theorem dX9_readTyped_15 : decode cX9_readTyped 15 = .ok (.if_icmp .ge 45, 3) := by decide +kernel
theorem dX9_readTyped_18 : decode cX9_readTyped 18 = .ok (.aload_n 0, 1) := by decide +kernel
theorem dX9_readTyped_19 : decode cX9_readTyped 19 = .ok (.getfield 57, 3) := by decide +kernel
theorem dX9_readTyped_22 : decode cX9_readTyped 22 = .ok (.iload_n 2, 1) := by decide +kernel
theorem dX9_readTyped_23 : decode cX9_readTyped 23 = .ok (.invokevirtual 115, 3) := by decide +kernel
theorem dX9_readTyped_26 : decode cX9_readTyped 26 = .ok (.aload_n 0, 1) := by decide +kernel
theorem dX9_readTyped_27 : decode cX9_readTyped 27 = .ok (.aload_n 1, 1) := by decide +kernel
theorem dX9_readTyped_28 : decode cX9_readTyped 28 = .ok (.iload_n 2, 1) := by decide +kernel
theorem dX9_readTyped_29 : decode cX9_readTyped 29 = .ok (.invokevirtual 130, 3) := by decide +kernel
theorem dX9_readTyped_32 : decode cX9_readTyped 32 = .ok (.invokestatic 255, 3) := by decide +kernel
theorem dX9_readTyped_35 : decode cX9_readTyped 35 = .ok (.istore_n 3, 1) := by decide +kernel
theorem dX9_readTyped_36 : decode cX9_readTyped 36 = .ok (.iload_n 3, 1) := by decide +kernel
theorem dX9_readTyped_37 : decode cX9_readTyped 37 = .ok (.sipush (-1001), 3) := by decide +kernel
theorem dX9_readTyped_40 : decode cX9_readTyped 40 = .ok (.if_icmp .ne 5, 3) := by decide +kernel
theorem dX9_readTyped_43 : decode cX9_readTyped 43 = .ok (.iload_n 2, 1) := by decide +kernel
theorem dX9_readTyped_44 : decode cX9_readTyped 44 = .ok (.ireturn, 1) := by decide +kernel
theorem dX9_readTyped_45 : decode cX9_readTyped 45 = .ok (.aload_n 0, 1) := by decide +kernel
theorem dX9_readTyped_46 : decode cX9_readTyped 46 = .ok (.getfield 53, 3) := by decide +kernel
theorem dX9_readTyped_49 : decode cX9_readTyped 49 = .ok (.iload_n 2, 1) := by decide +kernel
theorem dX9_readTyped_50 : decode cX9_readTyped 50 = .ok (.iload_n 3, 1) := by decide +kernel
theorem dX9_readTyped_51 : decode cX9_readTyped 51 = .ok (.invokevirtual 109, 3) := by decide +kernel
theorem dX9_readTyped_54 : decode cX9_readTyped 54 = .ok (.iinc 2 1, 3) := by decide +kernel
theorem dX9_readTyped_57 : decode cX9_readTyped 57 = .ok (.goto (-55), 3) := by decide +kernel
theorem dX9_readTyped_60 : decode cX9_readTyped 60 = .ok (.iload_n 2, 1) := by decide +kernel
theorem dX9_readTyped_61 : decode cX9_readTyped 61 = .ok (.ireturn, 1) := by decide +kernel
theorem dX9_markOf_0 : decode cX9_markOf 0 = .ok (.iload_n 0, 1) := by decide +kernel
theorem dX9_markOf_1 : decode cX9_markOf 1 = .ok (.bipush 45, 2) := by decide +kernel
theorem dX9_markOf_3 : decode cX9_markOf 3 = .ok (.if_icmp .ne 5, 3) := by decide +kernel
theorem dX9_markOf_6 : decode cX9_markOf 6 = .ok (.iconst (-1), 1) := by decide +kernel
theorem dX9_markOf_7 : decode cX9_markOf 7 = .ok (.ireturn, 1) := by decide +kernel
theorem dX9_markOf_8 : decode cX9_markOf 8 = .ok (.iload_n 0, 1) := by decide +kernel
theorem dX9_markOf_9 : decode cX9_markOf 9 = .ok (.bipush 65, 2) := by decide +kernel
theorem dX9_markOf_11 : decode cX9_markOf 11 = .ok (.if_icmp .lt 18, 3) := by decide +kernel
theorem dX9_markOf_14 : decode cX9_markOf 14 = .ok (.iload_n 0, 1) := by decide +kernel
theorem dX9_markOf_15 : decode cX9_markOf 15 = .ok (.bipush 65, 2) := by decide +kernel
theorem dX9_markOf_17 : decode cX9_markOf 17 = .ok (.iload_n 1, 1) := by decide +kernel
theorem dX9_markOf_18 : decode cX9_markOf 18 = .ok (.iadd, 1) := by decide +kernel
theorem dX9_markOf_19 : decode cX9_markOf 19 = .ok (.if_icmp .ge 10, 3) := by decide +kernel
theorem dX9_markOf_22 : decode cX9_markOf 22 = .ok (.iload_n 0, 1) := by decide +kernel
theorem dX9_markOf_23 : decode cX9_markOf 23 = .ok (.bipush 65, 2) := by decide +kernel
theorem dX9_markOf_25 : decode cX9_markOf 25 = .ok (.isub, 1) := by decide +kernel
theorem dX9_markOf_26 : decode cX9_markOf 26 = .ok (.goto 6, 3) := by decide +kernel
theorem dX9_markOf_29 : decode cX9_markOf 29 = .ok (.sipush (-1001), 3) := by decide +kernel
theorem dX9_markOf_32 : decode cX9_markOf 32 = .ok (.ireturn, 1) := by decide +kernel
theorem dX9_handIn_0 : decode cX9_handIn 0 = .ok (.aload_n 0, 1) := by decide +kernel
theorem dX9_handIn_1 : decode cX9_handIn 1 = .ok (.getfield 19, 3) := by decide +kernel
theorem dX9_handIn_4 : decode cX9_handIn 4 = .ok (.aload_n 0, 1) := by decide +kernel
theorem dX9_handIn_5 : decode cX9_handIn 5 = .ok (.getfield 10, 3) := by decide +kernel
theorem dX9_handIn_8 : decode cX9_handIn 8 = .ok (.invokevirtual 191, 3) := by decide +kernel
theorem dX9_handIn_11 : decode cX9_handIn 11 = .ok (.aload_n 0, 1) := by decide +kernel
theorem dX9_handIn_12 : decode cX9_handIn 12 = .ok (.getfield 10, 3) := by decide +kernel
theorem dX9_handIn_15 : decode cX9_handIn 15 = .ok (.getfield 66, 3) := by decide +kernel
theorem dX9_handIn_18 : decode cX9_handIn 18 = .ok (.iload_n 1, 1) := by decide +kernel
theorem dX9_handIn_19 : decode cX9_handIn 19 = .ok (.aload_n 2, 1) := by decide +kernel
theorem dX9_handIn_20 : decode cX9_handIn 20 = .ok (.aload_n 0, 1) := by decide +kernel
theorem dX9_handIn_21 : decode cX9_handIn 21 = .ok (.getfield 53, 3) := by decide +kernel
theorem dX9_handIn_24 : decode cX9_handIn 24 = .ok (.invokevirtual 258, 3) := by decide +kernel
theorem dX9_handIn_27 : decode cX9_handIn 27 = .ok (.ireturn, 1) := by decide +kernel
theorem dX9_favoriteWrong_0 : decode cX9_favoriteWrong 0 = .ok (.sipush (-1009), 3) := by decide +kernel
theorem dX9_favoriteWrong_3 : decode cX9_favoriteWrong 3 = .ok (.istore_n 3, 1) := by decide +kernel
theorem dX9_favoriteWrong_4 : decode cX9_favoriteWrong 4 = .ok (.iconst 0, 1) := by decide +kernel
theorem dX9_favoriteWrong_5 : decode cX9_favoriteWrong 5 = .ok (.istore 4, 2) := by decide +kernel
theorem dX9_favoriteWrong_7 : decode cX9_favoriteWrong 7 = .ok (.iconst 0, 1) := by decide +kernel
theorem dX9_favoriteWrong_8 : decode cX9_favoriteWrong 8 = .ok (.istore 5, 2) := by decide +kernel
theorem dX9_favoriteWrong_10 : decode cX9_favoriteWrong 10 = .ok (.iload 5, 2) := by decide +kernel
theorem dX9_favoriteWrong_12 : decode cX9_favoriteWrong 12 = .ok (.aload_n 0, 1) := by decide +kernel
theorem dX9_favoriteWrong_13 : decode cX9_favoriteWrong 13 = .ok (.getfield 10, 3) := by decide +kernel
theorem dX9_favoriteWrong_16 : decode cX9_favoriteWrong 16 = .ok (.getfield 76, 3) := by decide +kernel
theorem dX9_favoriteWrong_19 : decode cX9_favoriteWrong 19 = .ok (.iload_n 1, 1) := by decide +kernel
theorem dX9_favoriteWrong_20 : decode cX9_favoriteWrong 20 = .ok (.iconst 4, 1) := by decide +kernel
theorem dX9_favoriteWrong_21 : decode cX9_favoriteWrong 21 = .ok (.invokevirtual 95, 3) := by decide +kernel
theorem dX9_favoriteWrong_24 : decode cX9_favoriteWrong 24 = .ok (.if_icmp .ge 44, 3) := by decide +kernel
theorem dX9_favoriteWrong_27 : decode cX9_favoriteWrong 27 = .ok (.aload_n 0, 1) := by decide +kernel
theorem dX9_favoriteWrong_28 : decode cX9_favoriteWrong 28 = .ok (.getfield 10, 3) := by decide +kernel
theorem dX9_favoriteWrong_31 : decode cX9_favoriteWrong 31 = .ok (.getfield 66, 3) := by decide +kernel
theorem dX9_favoriteWrong_34 : decode cX9_favoriteWrong 34 = .ok (.iload_n 1, 1) := by decide +kernel
theorem dX9_favoriteWrong_35 : decode cX9_favoriteWrong 35 = .ok (.iload 5, 2) := by decide +kernel
theorem dX9_favoriteWrong_37 : decode cX9_favoriteWrong 37 = .ok (.invokevirtual 200, 3) := by decide +kernel
theorem dX9_favoriteWrong_40 : decode cX9_favoriteWrong 40 = .ok (.istore 6, 2) := by decide +kernel
theorem dX9_favoriteWrong_42 : decode cX9_favoriteWrong 42 = .ok (.iload 5, 2) := by decide +kernel
theorem dX9_favoriteWrong_44 : decode cX9_favoriteWrong 44 = .ok (.iload_n 2, 1) := by decide +kernel
theorem dX9_favoriteWrong_45 : decode cX9_favoriteWrong 45 = .ok (.if_icmp .eq 17, 3) := by decide +kernel
theorem dX9_favoriteWrong_48 : decode cX9_favoriteWrong 48 = .ok (.iload 6, 2) := by decide +kernel
theorem dX9_favoriteWrong_50 : decode cX9_favoriteWrong 50 = .ok (.iload 4, 2) := by decide +kernel
theorem dX9_favoriteWrong_52 : decode cX9_favoriteWrong 52 = .ok (.if_icmp .le 10, 3) := by decide +kernel
theorem dX9_favoriteWrong_55 : decode cX9_favoriteWrong 55 = .ok (.iload 6, 2) := by decide +kernel
theorem dX9_favoriteWrong_57 : decode cX9_favoriteWrong 57 = .ok (.istore 4, 2) := by decide +kernel
theorem dX9_favoriteWrong_59 : decode cX9_favoriteWrong 59 = .ok (.iload 5, 2) := by decide +kernel
theorem dX9_favoriteWrong_61 : decode cX9_favoriteWrong 61 = .ok (.istore_n 3, 1) := by decide +kernel
theorem dX9_favoriteWrong_62 : decode cX9_favoriteWrong 62 = .ok (.iinc 5 1, 3) := by decide +kernel
theorem dX9_favoriteWrong_65 : decode cX9_favoriteWrong 65 = .ok (.goto (-55), 3) := by decide +kernel
theorem dX9_favoriteWrong_68 : decode cX9_favoriteWrong 68 = .ok (.iload_n 3, 1) := by decide +kernel
theorem dX9_favoriteWrong_69 : decode cX9_favoriteWrong 69 = .ok (.ireturn, 1) := by decide +kernel
theorem dX9_countSameWrong_0 : decode cX9_countSameWrong 0 = .ok (.iconst 0, 1) := by decide +kernel
theorem dX9_countSameWrong_1 : decode cX9_countSameWrong 1 = .ok (.istore_n 3, 1) := by decide +kernel
theorem dX9_countSameWrong_2 : decode cX9_countSameWrong 2 = .ok (.iconst 0, 1) := by decide +kernel
theorem dX9_countSameWrong_3 : decode cX9_countSameWrong 3 = .ok (.istore 4, 2) := by decide +kernel
theorem dX9_countSameWrong_5 : decode cX9_countSameWrong 5 = .ok (.iload 4, 2) := by decide +kernel
theorem dX9_countSameWrong_7 : decode cX9_countSameWrong 7 = .ok (.aload_n 0, 1) := by decide +kernel
theorem dX9_countSameWrong_8 : decode cX9_countSameWrong 8 = .ok (.getfield 10, 3) := by decide +kernel
theorem dX9_countSameWrong_11 : decode cX9_countSameWrong 11 = .ok (.getfield 76, 3) := by decide +kernel
theorem dX9_countSameWrong_14 : decode cX9_countSameWrong 14 = .ok (.getfield 80, 3) := by decide +kernel
theorem dX9_countSameWrong_17 : decode cX9_countSameWrong 17 = .ok (.if_icmp .ge 69, 3) := by decide +kernel
theorem dX9_countSameWrong_20 : decode cX9_countSameWrong 20 = .ok (.aload_n 0, 1) := by decide +kernel
theorem dX9_countSameWrong_21 : decode cX9_countSameWrong 21 = .ok (.getfield 10, 3) := by decide +kernel
theorem dX9_countSameWrong_24 : decode cX9_countSameWrong 24 = .ok (.getfield 66, 3) := by decide +kernel
theorem dX9_countSameWrong_27 : decode cX9_countSameWrong 27 = .ok (.iload_n 1, 1) := by decide +kernel
theorem dX9_countSameWrong_28 : decode cX9_countSameWrong 28 = .ok (.iload 4, 2) := by decide +kernel
theorem dX9_countSameWrong_30 : decode cX9_countSameWrong 30 = .ok (.invokevirtual 197, 3) := by decide +kernel
theorem dX9_countSameWrong_33 : decode cX9_countSameWrong 33 = .ok (.istore 5, 2) := by decide +kernel
theorem dX9_countSameWrong_35 : decode cX9_countSameWrong 35 = .ok (.iload 5, 2) := by decide +kernel
theorem dX9_countSameWrong_37 : decode cX9_countSameWrong 37 = .ok (.iconst (-1), 1) := by decide +kernel
theorem dX9_countSameWrong_38 : decode cX9_countSameWrong 38 = .ok (.if_icmp .eq 42, 3) := by decide +kernel
theorem dX9_countSameWrong_41 : decode cX9_countSameWrong 41 = .ok (.iload 5, 2) := by decide +kernel
theorem dX9_countSameWrong_43 : decode cX9_countSameWrong 43 = .ok (.aload_n 0, 1) := by decide +kernel
theorem dX9_countSameWrong_44 : decode cX9_countSameWrong 44 = .ok (.getfield 10, 3) := by decide +kernel
theorem dX9_countSameWrong_47 : decode cX9_countSameWrong 47 = .ok (.getfield 66, 3) := by decide +kernel
theorem dX9_countSameWrong_50 : decode cX9_countSameWrong 50 = .ok (.iload_n 2, 1) := by decide +kernel
theorem dX9_countSameWrong_51 : decode cX9_countSameWrong 51 = .ok (.iload 4, 2) := by decide +kernel
theorem dX9_countSameWrong_53 : decode cX9_countSameWrong 53 = .ok (.invokevirtual 197, 3) := by decide +kernel
theorem dX9_countSameWrong_56 : decode cX9_countSameWrong 56 = .ok (.if_icmp .ne 24, 3) := by decide +kernel
theorem dX9_countSameWrong_59 : decode cX9_countSameWrong 59 = .ok (.iload 5, 2) := by decide +kernel
theorem dX9_countSameWrong_61 : decode cX9_countSameWrong 61 = .ok (.aload_n 0, 1) := by decide +kernel
theorem dX9_countSameWrong_62 : decode cX9_countSameWrong 62 = .ok (.getfield 10, 3) := by decide +kernel
theorem dX9_countSameWrong_65 : decode cX9_countSameWrong 65 = .ok (.getfield 76, 3) := by decide +kernel
theorem dX9_countSameWrong_68 : decode cX9_countSameWrong 68 = .ok (.iload 4, 2) := by decide +kernel
theorem dX9_countSameWrong_70 : decode cX9_countSameWrong 70 = .ok (.iconst 1, 1) := by decide +kernel
theorem dX9_countSameWrong_71 : decode cX9_countSameWrong 71 = .ok (.invokevirtual 95, 3) := by decide +kernel
theorem dX9_countSameWrong_74 : decode cX9_countSameWrong 74 = .ok (.if_icmp .eq 6, 3) := by decide +kernel
theorem dX9_countSameWrong_77 : decode cX9_countSameWrong 77 = .ok (.iinc 3 1, 3) := by decide +kernel
theorem dX9_countSameWrong_80 : decode cX9_countSameWrong 80 = .ok (.iinc 4 1, 3) := by decide +kernel
theorem dX9_countSameWrong_83 : decode cX9_countSameWrong 83 = .ok (.goto (-78), 3) := by decide +kernel
theorem dX9_countSameWrong_86 : decode cX9_countSameWrong 86 = .ok (.iload_n 3, 1) := by decide +kernel
theorem dX9_countSameWrong_87 : decode cX9_countSameWrong 87 = .ok (.ireturn, 1) := by decide +kernel
theorem dX9_printQuestions_0 : decode cX9_printQuestions 0 = .ok (.ldc2_w 261, 3) := by decide +kernel
theorem dX9_printQuestions_3 : decode cX9_printQuestions 3 = .ok (.lload_n 1, 1) := by decide +kernel
theorem dX9_printQuestions_4 : decode cX9_printQuestions 4 = .ok (.lmul, 1) := by decide +kernel
theorem dX9_printQuestions_5 : decode cX9_printQuestions 5 = .ok (.aload_n 0, 1) := by decide +kernel
theorem dX9_printQuestions_6 : decode cX9_printQuestions 6 = .ok (.getfield 10, 3) := by decide +kernel
theorem dX9_printQuestions_9 : decode cX9_printQuestions 9 = .ok (.getfield 76, 3) := by decide +kernel
theorem dX9_printQuestions_12 : decode cX9_printQuestions 12 = .ok (.getfield 80, 3) := by decide +kernel
theorem dX9_printQuestions_15 : decode cX9_printQuestions 15 = .ok (.i2l, 1) := by decide +kernel
theorem dX9_printQuestions_16 : decode cX9_printQuestions 16 = .ok (.ladd, 1) := by decide +kernel
theorem dX9_printQuestions_17 : decode cX9_printQuestions 17 = .ok (.lstore_n 3, 1) := by decide +kernel
theorem dX9_printQuestions_18 : decode cX9_printQuestions 18 = .ok (.iconst 0, 1) := by decide +kernel
theorem dX9_printQuestions_19 : decode cX9_printQuestions 19 = .ok (.istore 5, 2) := by decide +kernel
theorem dX9_printQuestions_21 : decode cX9_printQuestions 21 = .ok (.iload 5, 2) := by decide +kernel
theorem dX9_printQuestions_23 : decode cX9_printQuestions 23 = .ok (.aload_n 0, 1) := by decide +kernel
theorem dX9_printQuestions_24 : decode cX9_printQuestions 24 = .ok (.getfield 10, 3) := by decide +kernel
theorem dX9_printQuestions_27 : decode cX9_printQuestions 27 = .ok (.getfield 76, 3) := by decide +kernel
theorem dX9_printQuestions_30 : decode cX9_printQuestions 30 = .ok (.getfield 80, 3) := by decide +kernel
theorem dX9_printQuestions_33 : decode cX9_printQuestions 33 = .ok (.if_icmp .ge 46, 3) := by decide +kernel
theorem dX9_printQuestions_36 : decode cX9_printQuestions 36 = .ok (.iconst 0, 1) := by decide +kernel
theorem dX9_printQuestions_37 : decode cX9_printQuestions 37 = .ok (.istore 6, 2) := by decide +kernel
theorem dX9_printQuestions_39 : decode cX9_printQuestions 39 = .ok (.iload 6, 2) := by decide +kernel
theorem dX9_printQuestions_41 : decode cX9_printQuestions 41 = .ok (.iconst 5, 1) := by decide +kernel
theorem dX9_printQuestions_42 : decode cX9_printQuestions 42 = .ok (.if_icmp .ge 31, 3) := by decide +kernel
theorem dX9_printQuestions_45 : decode cX9_printQuestions 45 = .ok (.ldc2_w 261, 3) := by decide +kernel
theorem dX9_printQuestions_48 : decode cX9_printQuestions 48 = .ok (.lload_n 3, 1) := by decide +kernel
theorem dX9_printQuestions_49 : decode cX9_printQuestions 49 = .ok (.lmul, 1) := by decide +kernel
theorem dX9_printQuestions_50 : decode cX9_printQuestions 50 = .ok (.aload_n 0, 1) := by decide +kernel
theorem dX9_printQuestions_51 : decode cX9_printQuestions 51 = .ok (.getfield 10, 3) := by decide +kernel
theorem dX9_printQuestions_54 : decode cX9_printQuestions 54 = .ok (.getfield 76, 3) := by decide +kernel
theorem dX9_printQuestions_57 : decode cX9_printQuestions 57 = .ok (.iload 5, 2) := by decide +kernel
theorem dX9_printQuestions_59 : decode cX9_printQuestions 59 = .ok (.iload 6, 2) := by decide +kernel
theorem dX9_printQuestions_61 : decode cX9_printQuestions 61 = .ok (.invokevirtual 95, 3) := by decide +kernel
theorem dX9_printQuestions_64 : decode cX9_printQuestions 64 = .ok (.i2l, 1) := by decide +kernel
theorem dX9_printQuestions_65 : decode cX9_printQuestions 65 = .ok (.ladd, 1) := by decide +kernel
theorem dX9_printQuestions_66 : decode cX9_printQuestions 66 = .ok (.lstore_n 3, 1) := by decide +kernel
theorem dX9_printQuestions_67 : decode cX9_printQuestions 67 = .ok (.iinc 6 1, 3) := by decide +kernel
theorem dX9_printQuestions_70 : decode cX9_printQuestions 70 = .ok (.goto (-31), 3) := by decide +kernel
theorem dX9_printQuestions_73 : decode cX9_printQuestions 73 = .ok (.iinc 5 1, 3) := by decide +kernel
theorem dX9_printQuestions_76 : decode cX9_printQuestions 76 = .ok (.goto (-55), 3) := by decide +kernel
theorem dX9_printQuestions_79 : decode cX9_printQuestions 79 = .ok (.lload_n 3, 1) := by decide +kernel
theorem dX9_printQuestions_80 : decode cX9_printQuestions 80 = .ok (.lreturn, 1) := by decide +kernel
theorem dX9_printVersions_0 : decode cX9_printVersions 0 = .ok (.ldc2_w 261, 3) := by decide +kernel
theorem dX9_printVersions_3 : decode cX9_printVersions 3 = .ok (.lload_n 1, 1) := by decide +kernel
theorem dX9_printVersions_4 : decode cX9_printVersions 4 = .ok (.lmul, 1) := by decide +kernel
theorem dX9_printVersions_5 : decode cX9_printVersions 5 = .ok (.aload_n 0, 1) := by decide +kernel
theorem dX9_printVersions_6 : decode cX9_printVersions 6 = .ok (.getfield 10, 3) := by decide +kernel
theorem dX9_printVersions_9 : decode cX9_printVersions 9 = .ok (.getfield 103, 3) := by decide +kernel
theorem dX9_printVersions_12 : decode cX9_printVersions 12 = .ok (.i2l, 1) := by decide +kernel
theorem dX9_printVersions_13 : decode cX9_printVersions 13 = .ok (.ladd, 1) := by decide +kernel
theorem dX9_printVersions_14 : decode cX9_printVersions 14 = .ok (.lstore_n 3, 1) := by decide +kernel
theorem dX9_printVersions_15 : decode cX9_printVersions 15 = .ok (.iconst 0, 1) := by decide +kernel
theorem dX9_printVersions_16 : decode cX9_printVersions 16 = .ok (.istore 5, 2) := by decide +kernel
theorem dX9_printVersions_18 : decode cX9_printVersions 18 = .ok (.iload 5, 2) := by decide +kernel
theorem dX9_printVersions_20 : decode cX9_printVersions 20 = .ok (.aload_n 0, 1) := by decide +kernel
theorem dX9_printVersions_21 : decode cX9_printVersions 21 = .ok (.getfield 10, 3) := by decide +kernel
theorem dX9_printVersions_24 : decode cX9_printVersions 24 = .ok (.getfield 103, 3) := by decide +kernel
theorem dX9_printVersions_27 : decode cX9_printVersions 27 = .ok (.if_icmp .ge 89, 3) := by decide +kernel
theorem dX9_printVersions_30 : decode cX9_printVersions 30 = .ok (.aload_n 0, 1) := by decide +kernel
theorem dX9_printVersions_31 : decode cX9_printVersions 31 = .ok (.iload 5, 2) := by decide +kernel
theorem dX9_printVersions_33 : decode cX9_printVersions 33 = .ok (.invokevirtual 119, 3) := by decide +kernel
theorem dX9_printVersions_36 : decode cX9_printVersions 36 = .ok (.astore 6, 2) := by decide +kernel
theorem dX9_printVersions_38 : decode cX9_printVersions 38 = .ok (.aload 6, 2) := by decide +kernel
theorem dX9_printVersions_40 : decode cX9_printVersions 40 = .ok (.ifnull 70, 3) := by decide +kernel
theorem dX9_printVersions_43 : decode cX9_printVersions 43 = .ok (.iconst 0, 1) := by decide +kernel
theorem dX9_printVersions_44 : decode cX9_printVersions 44 = .ok (.istore 7, 2) := by decide +kernel
theorem dX9_printVersions_46 : decode cX9_printVersions 46 = .ok (.iload 7, 2) := by decide +kernel
theorem dX9_printVersions_48 : decode cX9_printVersions 48 = .ok (.aload 6, 2) := by decide +kernel
theorem dX9_printVersions_50 : decode cX9_printVersions 50 = .ok (.getfield 140, 3) := by decide +kernel
theorem dX9_printVersions_53 : decode cX9_printVersions 53 = .ok (.if_icmp .ge 41, 3) := by decide +kernel
theorem dX9_printVersions_56 : decode cX9_printVersions 56 = .ok (.iconst 0, 1) := by decide +kernel
theorem dX9_printVersions_57 : decode cX9_printVersions 57 = .ok (.istore 8, 2) := by decide +kernel
theorem dX9_printVersions_59 : decode cX9_printVersions 59 = .ok (.iload 8, 2) := by decide +kernel
theorem dX9_printVersions_61 : decode cX9_printVersions 61 = .ok (.iconst 3, 1) := by decide +kernel
theorem dX9_printVersions_62 : decode cX9_printVersions 62 = .ok (.if_icmp .gt 26, 3) := by decide +kernel
theorem dX9_printVersions_65 : decode cX9_printVersions 65 = .ok (.ldc2_w 261, 3) := by decide +kernel
theorem dX9_printVersions_68 : decode cX9_printVersions 68 = .ok (.lload_n 3, 1) := by decide +kernel
theorem dX9_printVersions_69 : decode cX9_printVersions 69 = .ok (.lmul, 1) := by decide +kernel
theorem dX9_printVersions_70 : decode cX9_printVersions 70 = .ok (.aload 6, 2) := by decide +kernel
theorem dX9_printVersions_72 : decode cX9_printVersions 72 = .ok (.iload 7, 2) := by decide +kernel
theorem dX9_printVersions_74 : decode cX9_printVersions 74 = .ok (.iload 8, 2) := by decide +kernel
theorem dX9_printVersions_76 : decode cX9_printVersions 76 = .ok (.invokevirtual 126, 3) := by decide +kernel
theorem dX9_printVersions_79 : decode cX9_printVersions 79 = .ok (.i2l, 1) := by decide +kernel
theorem dX9_printVersions_80 : decode cX9_printVersions 80 = .ok (.ladd, 1) := by decide +kernel
theorem dX9_printVersions_81 : decode cX9_printVersions 81 = .ok (.lstore_n 3, 1) := by decide +kernel
theorem dX9_printVersions_82 : decode cX9_printVersions 82 = .ok (.iinc 8 1, 3) := by decide +kernel
theorem dX9_printVersions_85 : decode cX9_printVersions 85 = .ok (.goto (-26), 3) := by decide +kernel
theorem dX9_printVersions_88 : decode cX9_printVersions 88 = .ok (.iinc 7 1, 3) := by decide +kernel
theorem dX9_printVersions_91 : decode cX9_printVersions 91 = .ok (.goto (-45), 3) := by decide +kernel
theorem dX9_printVersions_94 : decode cX9_printVersions 94 = .ok (.ldc2_w 261, 3) := by decide +kernel
theorem dX9_printVersions_97 : decode cX9_printVersions 97 = .ok (.lload_n 3, 1) := by decide +kernel
theorem dX9_printVersions_98 : decode cX9_printVersions 98 = .ok (.lmul, 1) := by decide +kernel
theorem dX9_printVersions_99 : decode cX9_printVersions 99 = .ok (.aload 6, 2) := by decide +kernel
theorem dX9_printVersions_101 : decode cX9_printVersions 101 = .ok (.getfield 160, 3) := by decide +kernel
theorem dX9_printVersions_104 : decode cX9_printVersions 104 = .ok (.getfield 164, 3) := by decide +kernel
theorem dX9_printVersions_107 : decode cX9_printVersions 107 = .ok (.i2l, 1) := by decide +kernel
theorem dX9_printVersions_108 : decode cX9_printVersions 108 = .ok (.ladd, 1) := by decide +kernel
theorem dX9_printVersions_109 : decode cX9_printVersions 109 = .ok (.lstore_n 3, 1) := by decide +kernel
theorem dX9_printVersions_110 : decode cX9_printVersions 110 = .ok (.iinc 5 1, 3) := by decide +kernel
theorem dX9_printVersions_113 : decode cX9_printVersions 113 = .ok (.goto (-95), 3) := by decide +kernel
theorem dX9_printVersions_116 : decode cX9_printVersions 116 = .ok (.lload_n 3, 1) := by decide +kernel
theorem dX9_printVersions_117 : decode cX9_printVersions 117 = .ok (.lreturn, 1) := by decide +kernel
theorem dX9_printSheets_0 : decode cX9_printSheets 0 = .ok (.ldc2_w 261, 3) := by decide +kernel
theorem dX9_printSheets_3 : decode cX9_printSheets 3 = .ok (.lload_n 1, 1) := by decide +kernel
theorem dX9_printSheets_4 : decode cX9_printSheets 4 = .ok (.lmul, 1) := by decide +kernel
theorem dX9_printSheets_5 : decode cX9_printSheets 5 = .ok (.aload_n 0, 1) := by decide +kernel
theorem dX9_printSheets_6 : decode cX9_printSheets 6 = .ok (.getfield 10, 3) := by decide +kernel
theorem dX9_printSheets_9 : decode cX9_printSheets 9 = .ok (.getfield 66, 3) := by decide +kernel
theorem dX9_printSheets_12 : decode cX9_printSheets 12 = .ok (.getfield 70, 3) := by decide +kernel
theorem dX9_printSheets_15 : decode cX9_printSheets 15 = .ok (.i2l, 1) := by decide +kernel
theorem dX9_printSheets_16 : decode cX9_printSheets 16 = .ok (.ladd, 1) := by decide +kernel
theorem dX9_printSheets_17 : decode cX9_printSheets 17 = .ok (.lstore_n 3, 1) := by decide +kernel
theorem dX9_printSheets_18 : decode cX9_printSheets 18 = .ok (.iconst 0, 1) := by decide +kernel
theorem dX9_printSheets_19 : decode cX9_printSheets 19 = .ok (.istore 5, 2) := by decide +kernel
theorem dX9_printSheets_21 : decode cX9_printSheets 21 = .ok (.iload 5, 2) := by decide +kernel
theorem dX9_printSheets_23 : decode cX9_printSheets 23 = .ok (.aload_n 0, 1) := by decide +kernel
theorem dX9_printSheets_24 : decode cX9_printSheets 24 = .ok (.getfield 10, 3) := by decide +kernel
theorem dX9_printSheets_27 : decode cX9_printSheets 27 = .ok (.getfield 66, 3) := by decide +kernel
theorem dX9_printSheets_30 : decode cX9_printSheets 30 = .ok (.getfield 70, 3) := by decide +kernel
theorem dX9_printSheets_33 : decode cX9_printSheets 33 = .ok (.if_icmp .ge 108, 3) := by decide +kernel
theorem dX9_printSheets_36 : decode cX9_printSheets 36 = .ok (.iconst 0, 1) := by decide +kernel
theorem dX9_printSheets_37 : decode cX9_printSheets 37 = .ok (.istore 6, 2) := by decide +kernel
theorem dX9_printSheets_39 : decode cX9_printSheets 39 = .ok (.iload 6, 2) := by decide +kernel
theorem dX9_printSheets_41 : decode cX9_printSheets 41 = .ok (.iconst 4, 1) := by decide +kernel
theorem dX9_printSheets_42 : decode cX9_printSheets 42 = .ok (.if_icmp .gt 31, 3) := by decide +kernel
theorem dX9_printSheets_45 : decode cX9_printSheets 45 = .ok (.ldc2_w 261, 3) := by decide +kernel
theorem dX9_printSheets_48 : decode cX9_printSheets 48 = .ok (.lload_n 3, 1) := by decide +kernel
theorem dX9_printSheets_49 : decode cX9_printSheets 49 = .ok (.lmul, 1) := by decide +kernel
theorem dX9_printSheets_50 : decode cX9_printSheets 50 = .ok (.aload_n 0, 1) := by decide +kernel
theorem dX9_printSheets_51 : decode cX9_printSheets 51 = .ok (.getfield 10, 3) := by decide +kernel
theorem dX9_printSheets_54 : decode cX9_printSheets 54 = .ok (.getfield 66, 3) := by decide +kernel
theorem dX9_printSheets_57 : decode cX9_printSheets 57 = .ok (.iload 5, 2) := by decide +kernel
theorem dX9_printSheets_59 : decode cX9_printSheets 59 = .ok (.iload 6, 2) := by decide +kernel
theorem dX9_printSheets_61 : decode cX9_printSheets 61 = .ok (.invokevirtual 196, 3) := by decide +kernel
theorem dX9_printSheets_64 : decode cX9_printSheets 64 = .ok (.i2l, 1) := by decide +kernel
theorem dX9_printSheets_65 : decode cX9_printSheets 65 = .ok (.ladd, 1) := by decide +kernel
theorem dX9_printSheets_66 : decode cX9_printSheets 66 = .ok (.lstore_n 3, 1) := by decide +kernel
theorem dX9_printSheets_67 : decode cX9_printSheets 67 = .ok (.iinc 6 1, 3) := by decide +kernel
theorem dX9_printSheets_70 : decode cX9_printSheets 70 = .ok (.goto (-31), 3) := by decide +kernel
theorem dX9_printSheets_73 : decode cX9_printSheets 73 = .ok (.iconst 0, 1) := by decide +kernel
theorem dX9_printSheets_74 : decode cX9_printSheets 74 = .ok (.istore 6, 2) := by decide +kernel
theorem dX9_printSheets_76 : decode cX9_printSheets 76 = .ok (.iload 6, 2) := by decide +kernel
theorem dX9_printSheets_78 : decode cX9_printSheets 78 = .ok (.aload_n 0, 1) := by decide +kernel
theorem dX9_printSheets_79 : decode cX9_printSheets 79 = .ok (.getfield 10, 3) := by decide +kernel
theorem dX9_printSheets_82 : decode cX9_printSheets 82 = .ok (.getfield 76, 3) := by decide +kernel
theorem dX9_printSheets_85 : decode cX9_printSheets 85 = .ok (.getfield 80, 3) := by decide +kernel
theorem dX9_printSheets_88 : decode cX9_printSheets 88 = .ok (.if_icmp .ge 47, 3) := by decide +kernel
theorem dX9_printSheets_91 : decode cX9_printSheets 91 = .ok (.aload_n 0, 1) := by decide +kernel
theorem dX9_printSheets_92 : decode cX9_printSheets 92 = .ok (.getfield 10, 3) := by decide +kernel
theorem dX9_printSheets_95 : decode cX9_printSheets 95 = .ok (.getfield 66, 3) := by decide +kernel
theorem dX9_printSheets_98 : decode cX9_printSheets 98 = .ok (.iload 5, 2) := by decide +kernel
theorem dX9_printSheets_100 : decode cX9_printSheets 100 = .ok (.iload 6, 2) := by decide +kernel
theorem dX9_printSheets_102 : decode cX9_printSheets 102 = .ok (.invokevirtual 197, 3) := by decide +kernel
theorem dX9_printSheets_105 : decode cX9_printSheets 105 = .ok (.istore 7, 2) := by decide +kernel
theorem dX9_printSheets_107 : decode cX9_printSheets 107 = .ok (.ldc2_w 261, 3) := by decide +kernel
theorem dX9_printSheets_110 : decode cX9_printSheets 110 = .ok (.lload_n 3, 1) := by decide +kernel
theorem dX9_printSheets_111 : decode cX9_printSheets 111 = .ok (.lmul, 1) := by decide +kernel
theorem dX9_printSheets_112 : decode cX9_printSheets 112 = .ok (.iload 7, 2) := by decide +kernel
theorem dX9_printSheets_114 : decode cX9_printSheets 114 = .ok (.iconst (-1), 1) := by decide +kernel
theorem dX9_printSheets_115 : decode cX9_printSheets 115 = .ok (.if_icmp .ne 9, 3) := by decide +kernel
theorem dX9_printSheets_118 : decode cX9_printSheets 118 = .ok (.sipush (-1009), 3) := by decide +kernel
theorem dX9_printSheets_121 : decode cX9_printSheets 121 = .ok (.goto 5, 3) := by decide +kernel
theorem dX9_printSheets_124 : decode cX9_printSheets 124 = .ok (.iload 7, 2) := by decide +kernel
theorem dX9_printSheets_126 : decode cX9_printSheets 126 = .ok (.i2l, 1) := by decide +kernel
theorem dX9_printSheets_127 : decode cX9_printSheets 127 = .ok (.ladd, 1) := by decide +kernel
theorem dX9_printSheets_128 : decode cX9_printSheets 128 = .ok (.lstore_n 3, 1) := by decide +kernel
theorem dX9_printSheets_129 : decode cX9_printSheets 129 = .ok (.iinc 6 1, 3) := by decide +kernel
theorem dX9_printSheets_132 : decode cX9_printSheets 132 = .ok (.goto (-56), 3) := by decide +kernel
theorem dX9_printSheets_135 : decode cX9_printSheets 135 = .ok (.iinc 5 1, 3) := by decide +kernel
theorem dX9_printSheets_138 : decode cX9_printSheets 138 = .ok (.goto (-117), 3) := by decide +kernel
theorem dX9_printSheets_141 : decode cX9_printSheets 141 = .ok (.lload_n 3, 1) := by decide +kernel
theorem dX9_printSheets_142 : decode cX9_printSheets 142 = .ok (.lreturn, 1) := by decide +kernel
