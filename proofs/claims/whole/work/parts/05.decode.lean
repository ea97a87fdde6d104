/-! decode rows -/
theorem dX3_init_0 : decode cX3_init 0 = .ok (.aload_n 0, 1) := by decide +kernel
theorem dX3_init_1 : decode cX3_init 1 = .ok (.invokespecial 1, 3) := by decide +kernel
theorem dX3_init_4 : decode cX3_init 4 = .ok (.aload_n 0, 1) := by decide +kernel
theorem dX3_init_5 : decode cX3_init 5 = .ok (.iconst 4, 1) := by decide +kernel
theorem dX3_init_6 : decode cX3_init 6 = .ok (.anewarray 9, 3) := by decide +kernel
theorem dX3_init_9 : decode cX3_init 9 = .ok (.putfield 11, 3) := by decide +kernel
theorem dX3_init_12 : decode cX3_init 12 = .ok (.iconst 0, 1) := by decide +kernel
theorem dX3_init_13 : decode cX3_init 13 = .ok (.istore_n 1, 1) := by decide +kernel
theorem dX3_init_14 : decode cX3_init 14 = .ok (.iload_n 1, 1) := by decide +kernel
theorem dX3_init_15 : decode cX3_init 15 = .ok (.iconst 4, 1) := by decide +kernel
theorem dX3_init_16 : decode cX3_init 16 = .ok (.if_icmp .ge 24, 3) := by decide +kernel
theorem dX3_init_19 : decode cX3_init 19 = .ok (.aload_n 0, 1) := by decide +kernel
theorem dX3_init_20 : decode cX3_init 20 = .ok (.getfield 11, 3) := by decide +kernel
theorem dX3_init_23 : decode cX3_init 23 = .ok (.iload_n 1, 1) := by decide +kernel
theorem dX3_init_24 : decode cX3_init 24 = .ok (.new 9, 3) := by decide +kernel
theorem dX3_init_27 : decode cX3_init 27 = .ok (.dup, 1) := by decide +kernel
theorem dX3_init_28 : decode cX3_init 28 = .ok (.iconst 0, 1) := by decide +kernel
theorem dX3_init_29 : decode cX3_init 29 = .ok (.iconst 1, 1) := by decide +kernel
theorem dX3_init_30 : decode cX3_init 30 = .ok (.invokespecial 15, 3) := by decide +kernel
theorem dX3_init_33 : decode cX3_init 33 = .ok (.aastore, 1) := by decide +kernel
theorem dX3_init_34 : decode cX3_init 34 = .ok (.iinc 1 1, 3) := by decide +kernel
theorem dX3_init_37 : decode cX3_init 37 = .ok (.goto (-23), 3) := by decide +kernel
theorem dX3_init_40 : decode cX3_init 40 = .ok (.aload_n 0, 1) := by decide +kernel
theorem dX3_init_41 : decode cX3_init 41 = .ok (.bipush 80, 2) := by decide +kernel
theorem dX3_init_43 : decode cX3_init 43 = .ok (.anewarray 9, 3) := by decide +kernel
theorem dX3_init_46 : decode cX3_init 46 = .ok (.putfield 18, 3) := by decide +kernel
theorem dX3_init_49 : decode cX3_init 49 = .ok (.aload_n 0, 1) := by decide +kernel
theorem dX3_init_50 : decode cX3_init 50 = .ok (.bipush 80, 2) := by decide +kernel
theorem dX3_init_52 : decode cX3_init 52 = .ok (.anewarray 9, 3) := by decide +kernel
theorem dX3_init_55 : decode cX3_init 55 = .ok (.putfield 21, 3) := by decide +kernel
theorem dX3_init_58 : decode cX3_init 58 = .ok (.aload_n 0, 1) := by decide +kernel
theorem dX3_init_59 : decode cX3_init 59 = .ok (.iconst 3, 1) := by decide +kernel
theorem dX3_init_60 : decode cX3_init 60 = .ok (.anewarray 24, 3) := by decide +kernel
theorem dX3_init_63 : decode cX3_init 63 = .ok (.putfield 26, 3) := by decide +kernel
theorem dX3_init_66 : decode cX3_init 66 = .ok (.iconst 0, 1) := by decide +kernel
theorem dX3_init_67 : decode cX3_init 67 = .ok (.istore_n 1, 1) := by decide +kernel
theorem dX3_init_68 : decode cX3_init 68 = .ok (.iload_n 1, 1) := by decide +kernel
theorem dX3_init_69 : decode cX3_init 69 = .ok (.iconst 3, 1) := by decide +kernel
theorem dX3_init_70 : decode cX3_init 70 = .ok (.if_icmp .ge 22, 3) := by decide +kernel
theorem dX3_init_73 : decode cX3_init 73 = .ok (.aload_n 0, 1) := by decide +kernel
theorem dX3_init_74 : decode cX3_init 74 = .ok (.getfield 26, 3) := by decide +kernel
theorem dX3_init_77 : decode cX3_init 77 = .ok (.iload_n 1, 1) := by decide +kernel
theorem dX3_init_78 : decode cX3_init 78 = .ok (.new 24, 3) := by decide +kernel
theorem dX3_init_81 : decode cX3_init 81 = .ok (.dup, 1) := by decide +kernel
theorem dX3_init_82 : decode cX3_init 82 = .ok (.invokespecial 30, 3) := by decide +kernel
theorem dX3_init_85 : decode cX3_init 85 = .ok (.aastore, 1) := by decide +kernel
theorem dX3_init_86 : decode cX3_init 86 = .ok (.iinc 1 1, 3) := by decide +kernel
theorem dX3_init_89 : decode cX3_init 89 = .ok (.goto (-21), 3) := by decide +kernel
theorem dX3_init_92 : decode cX3_init 92 = .ok (.return_, 1) := by decide +kernel
theorem dX3_begin_0 : decode cX3_begin 0 = .ok (.aload_n 0, 1) := by decide +kernel
theorem dX3_begin_1 : decode cX3_begin 1 = .ok (.invokevirtual 31, 3) := by decide +kernel
theorem dX3_begin_4 : decode cX3_begin 4 = .ok (.astore_n 1, 1) := by decide +kernel
theorem dX3_begin_5 : decode cX3_begin 5 = .ok (.aload_n 0, 1) := by decide +kernel
theorem dX3_begin_6 : decode cX3_begin 6 = .ok (.aload_n 1, 1) := by decide +kernel
theorem dX3_begin_7 : decode cX3_begin 7 = .ok (.iconst 1, 1) := by decide +kernel
theorem dX3_begin_8 : decode cX3_begin 8 = .ok (.invokevirtual 35, 3) := by decide +kernel
theorem dX3_begin_11 : decode cX3_begin 11 = .ok (.aload_n 0, 1) := by decide +kernel
theorem dX3_begin_12 : decode cX3_begin 12 = .ok (.dup, 1) := by decide +kernel
theorem dX3_begin_13 : decode cX3_begin 13 = .ok (.getfield 39, 3) := by decide +kernel
theorem dX3_begin_16 : decode cX3_begin 16 = .ok (.iconst 1, 1) := by decide +kernel
theorem dX3_begin_17 : decode cX3_begin 17 = .ok (.iadd, 1) := by decide +kernel
theorem dX3_begin_18 : decode cX3_begin 18 = .ok (.putfield 39, 3) := by decide +kernel
theorem dX3_begin_21 : decode cX3_begin 21 = .ok (.aload_n 1, 1) := by decide +kernel
theorem dX3_begin_22 : decode cX3_begin 22 = .ok (.aload_n 0, 1) := by decide +kernel
theorem dX3_begin_23 : decode cX3_begin 23 = .ok (.getfield 39, 3) := by decide +kernel
theorem dX3_begin_26 : decode cX3_begin 26 = .ok (.putfield 43, 3) := by decide +kernel
theorem dX3_begin_29 : decode cX3_begin 29 = .ok (.aload_n 0, 1) := by decide +kernel
theorem dX3_begin_30 : decode cX3_begin 30 = .ok (.getfield 39, 3) := by decide +kernel
theorem dX3_begin_33 : decode cX3_begin 33 = .ok (.ireturn, 1) := by decide +kernel
theorem dX3_make_0 : decode cX3_make 0 = .ok (.aload_n 0, 1) := by decide +kernel
theorem dX3_make_1 : decode cX3_make 1 = .ok (.iload_n 1, 1) := by decide +kernel
theorem dX3_make_2 : decode cX3_make 2 = .ok (.invokevirtual 46, 3) := by decide +kernel
theorem dX3_make_5 : decode cX3_make 5 = .ok (.astore_n 3, 1) := by decide +kernel
theorem dX3_make_6 : decode cX3_make 6 = .ok (.iload_n 2, 1) := by decide +kernel
theorem dX3_make_7 : decode cX3_make 7 = .ok (.ifCond .lt 8, 3) := by decide +kernel
theorem dX3_make_10 : decode cX3_make 10 = .ok (.iload_n 2, 1) := by decide +kernel
theorem dX3_make_11 : decode cX3_make 11 = .ok (.iconst 4, 1) := by decide +kernel
theorem dX3_make_12 : decode cX3_make 12 = .ok (.if_icmp .le 13, 3) := by decide +kernel
theorem dX3_make_15 : decode cX3_make 15 = .ok (.new 50, 3) := by decide +kernel
theorem dX3_make_18 : decode cX3_make 18 = .ok (.dup, 1) := by decide +kernel
theorem dX3_make_19 : decode cX3_make 19 = .ok (.ldc 52, 2) := by decide +kernel
theorem dX3_make_21 : decode cX3_make 21 = .ok (.invokespecial 54, 3) := by decide +kernel
theorem dX3_make_24 : decode cX3_make 24 = .ok (.athrow, 1) := by decide +kernel
theorem dX3_make_25 : decode cX3_make 25 = .ok (.aload_n 0, 1) := by decide +kernel
theorem dX3_make_26 : decode cX3_make 26 = .ok (.getfield 57, 3) := by decide +kernel
theorem dX3_make_29 : decode cX3_make 29 = .ok (.iconst 1, 1) := by decide +kernel
theorem dX3_make_30 : decode cX3_make 30 = .ok (.iadd, 1) := by decide +kernel
theorem dX3_make_31 : decode cX3_make 31 = .ok (.iload_n 2, 1) := by decide +kernel
theorem dX3_make_32 : decode cX3_make 32 = .ok (.iadd, 1) := by decide +kernel
theorem dX3_make_33 : decode cX3_make 33 = .ok (.bipush 80, 2) := by decide +kernel
theorem dX3_make_35 : decode cX3_make 35 = .ok (.if_icmp .gt 15, 3) := by decide +kernel
theorem dX3_make_38 : decode cX3_make 38 = .ok (.aload_n 0, 1) := by decide +kernel
theorem dX3_make_39 : decode cX3_make 39 = .ok (.getfield 60, 3) := by decide +kernel
theorem dX3_make_42 : decode cX3_make 42 = .ok (.aload_n 0, 1) := by decide +kernel
theorem dX3_make_43 : decode cX3_make 43 = .ok (.getfield 18, 3) := by decide +kernel
theorem dX3_make_46 : decode cX3_make 46 = .ok (.arraylength, 1) := by decide +kernel
theorem dX3_make_47 : decode cX3_make 47 = .ok (.if_icmp .lt 13, 3) := by decide +kernel
theorem dX3_make_50 : decode cX3_make 50 = .ok (.new 63, 3) := by decide +kernel
theorem dX3_make_53 : decode cX3_make 53 = .ok (.dup, 1) := by decide +kernel
theorem dX3_make_54 : decode cX3_make 54 = .ok (.ldc 65, 2) := by decide +kernel
theorem dX3_make_56 : decode cX3_make 56 = .ok (.invokespecial 67, 3) := by decide +kernel
theorem dX3_make_59 : decode cX3_make 59 = .ok (.athrow, 1) := by decide +kernel
theorem dX3_make_60 : decode cX3_make 60 = .ok (.aload_n 0, 1) := by decide +kernel
theorem dX3_make_61 : decode cX3_make 61 = .ok (.aload_n 3, 1) := by decide +kernel
theorem dX3_make_62 : decode cX3_make 62 = .ok (.iconst 2, 1) := by decide +kernel
theorem dX3_make_63 : decode cX3_make 63 = .ok (.invokevirtual 35, 3) := by decide +kernel
theorem dX3_make_66 : decode cX3_make 66 = .ok (.aload_n 0, 1) := by decide +kernel
theorem dX3_make_67 : decode cX3_make 67 = .ok (.dup, 1) := by decide +kernel
theorem dX3_make_68 : decode cX3_make 68 = .ok (.getfield 68, 3) := by decide +kernel
theorem dX3_make_71 : decode cX3_make 71 = .ok (.iconst 1, 1) := by decide +kernel
theorem dX3_make_72 : decode cX3_make 72 = .ok (.iadd, 1) := by decide +kernel
theorem dX3_make_73 : decode cX3_make 73 = .ok (.putfield 68, 3) := by decide +kernel
theorem dX3_make_76 : decode cX3_make 76 = .ok (.new 9, 3) := by decide +kernel
theorem dX3_make_79 : decode cX3_make 79 = .ok (.dup, 1) := by decide +kernel
theorem dX3_make_80 : decode cX3_make 80 = .ok (.aload_n 0, 1) := by decide +kernel
theorem dX3_make_81 : decode cX3_make 81 = .ok (.getfield 68, 3) := by decide +kernel
theorem dX3_make_84 : decode cX3_make 84 = .ok (.iload_n 2, 1) := by decide +kernel
theorem dX3_make_85 : decode cX3_make 85 = .ok (.invokespecial 15, 3) := by decide +kernel
theorem dX3_make_88 : decode cX3_make 88 = .ok (.astore 4, 2) := by decide +kernel
theorem dX3_make_90 : decode cX3_make 90 = .ok (.aload 4, 2) := by decide +kernel
theorem dX3_make_92 : decode cX3_make 92 = .ok (.aload_n 3, 1) := by decide +kernel
theorem dX3_make_93 : decode cX3_make 93 = .ok (.getfield 43, 3) := by decide +kernel
theorem dX3_make_96 : decode cX3_make 96 = .ok (.putfield 71, 3) := by decide +kernel
theorem dX3_make_99 : decode cX3_make 99 = .ok (.aload_n 0, 1) := by decide +kernel
theorem dX3_make_100 : decode cX3_make 100 = .ok (.getfield 18, 3) := by decide +kernel
theorem dX3_make_103 : decode cX3_make 103 = .ok (.aload_n 0, 1) := by decide +kernel
theorem dX3_make_104 : decode cX3_make 104 = .ok (.getfield 60, 3) := by decide +kernel
theorem dX3_make_107 : decode cX3_make 107 = .ok (.aload 4, 2) := by decide +kernel
theorem dX3_make_109 : decode cX3_make 109 = .ok (.aastore, 1) := by decide +kernel
theorem dX3_make_110 : decode cX3_make 110 = .ok (.aload_n 0, 1) := by decide +kernel
theorem dX3_make_111 : decode cX3_make 111 = .ok (.dup, 1) := by decide +kernel
theorem dX3_make_112 : decode cX3_make 112 = .ok (.getfield 60, 3) := by decide +kernel
theorem dX3_make_115 : decode cX3_make 115 = .ok (.iconst 1, 1) := by decide +kernel
theorem dX3_make_116 : decode cX3_make 116 = .ok (.iadd, 1) := by decide +kernel
theorem dX3_make_117 : decode cX3_make 117 = .ok (.putfield 60, 3) := by decide +kernel
theorem dX3_make_120 : decode cX3_make 120 = .ok (.aload_n 0, 1) := by decide +kernel
theorem dX3_make_121 : decode cX3_make 121 = .ok (.dup, 1) := by decide +kernel
theorem dX3_make_122 : decode cX3_make 122 = .ok (.getfield 57, 3) := by decide +kernel
theorem dX3_make_125 : decode cX3_make 125 = .ok (.aload 4, 2) := by decide +kernel
theorem dX3_make_127 : decode cX3_make 127 = .ok (.invokevirtual 74, 3) := by decide +kernel
theorem dX3_make_130 : decode cX3_make 130 = .ok (.iadd, 1) := by decide +kernel
theorem dX3_make_131 : decode cX3_make 131 = .ok (.putfield 57, 3) := by decide +kernel
theorem dX3_make_134 : decode cX3_make 134 = .ok (.aload_n 0, 1) := by decide +kernel
theorem dX3_make_135 : decode cX3_make 135 = .ok (.getfield 68, 3) := by decide +kernel
theorem dX3_make_138 : decode cX3_make 138 = .ok (.ireturn, 1) := by decide +kernel
theorem dX3_setInt_0 : decode cX3_setInt 0 = .ok (.aload_n 0, 1) := by decide +kernel
theorem dX3_setInt_1 : decode cX3_setInt 1 = .ok (.iload_n 1, 1) := by decide +kernel
theorem dX3_setInt_2 : decode cX3_setInt 2 = .ok (.invokevirtual 46, 3) := by decide +kernel
theorem dX3_setInt_5 : decode cX3_setInt 5 = .ok (.astore 5, 2) := by decide +kernel
theorem dX3_setInt_7 : decode cX3_setInt 7 = .ok (.aload_n 0, 1) := by decide +kernel
theorem dX3_setInt_8 : decode cX3_setInt 8 = .ok (.iload_n 2, 1) := by decide +kernel
theorem dX3_setInt_9 : decode cX3_setInt 9 = .ok (.invokevirtual 78, 3) := by decide +kernel
theorem dX3_setInt_12 : decode cX3_setInt 12 = .ok (.astore 6, 2) := by decide +kernel
theorem dX3_setInt_14 : decode cX3_setInt 14 = .ok (.aload 6, 2) := by decide +kernel
theorem dX3_setInt_16 : decode cX3_setInt 16 = .ok (.iload_n 3, 1) := by decide +kernel
theorem dX3_setInt_17 : decode cX3_setInt 17 = .ok (.invokestatic 82, 3) := by decide +kernel
theorem dX3_setInt_20 : decode cX3_setInt 20 = .ok (.astore 7, 2) := by decide +kernel
theorem dX3_setInt_22 : decode cX3_setInt 22 = .ok (.aload 6, 2) := by decide +kernel
theorem dX3_setInt_24 : decode cX3_setInt 24 = .ok (.aload 5, 2) := by decide +kernel
theorem dX3_setInt_26 : decode cX3_setInt 26 = .ok (.invokestatic 86, 3) := by decide +kernel
theorem dX3_setInt_29 : decode cX3_setInt 29 = .ok (.aload_n 0, 1) := by decide +kernel
theorem dX3_setInt_30 : decode cX3_setInt 30 = .ok (.aload 5, 2) := by decide +kernel
theorem dX3_setInt_32 : decode cX3_setInt 32 = .ok (.iconst 3, 1) := by decide +kernel
theorem dX3_setInt_33 : decode cX3_setInt 33 = .ok (.invokevirtual 35, 3) := by decide +kernel
theorem dX3_setInt_36 : decode cX3_setInt 36 = .ok (.aload 6, 2) := by decide +kernel
theorem dX3_setInt_38 : decode cX3_setInt 38 = .ok (.aload 5, 2) := by decide +kernel
theorem dX3_setInt_40 : decode cX3_setInt 40 = .ok (.getfield 43, 3) := by decide +kernel
theorem dX3_setInt_43 : decode cX3_setInt 43 = .ok (.putfield 71, 3) := by decide +kernel
theorem dX3_setInt_46 : decode cX3_setInt 46 = .ok (.aload 7, 2) := by decide +kernel
theorem dX3_setInt_48 : decode cX3_setInt 48 = .ok (.iload 4, 2) := by decide +kernel
theorem dX3_setInt_50 : decode cX3_setInt 50 = .ok (.invokevirtual 90, 3) := by decide +kernel
theorem dX3_setInt_53 : decode cX3_setInt 53 = .ok (.iconst 1, 1) := by decide +kernel
theorem dX3_setInt_54 : decode cX3_setInt 54 = .ok (.ireturn, 1) := by decide +kernel
theorem dX3_setReference_0 : decode cX3_setReference 0 = .ok (.aload_n 0, 1) := by decide +kernel
theorem dX3_setReference_1 : decode cX3_setReference 1 = .ok (.iload_n 1, 1) := by decide +kernel
theorem dX3_setReference_2 : decode cX3_setReference 2 = .ok (.invokevirtual 46, 3) := by decide +kernel
theorem dX3_setReference_5 : decode cX3_setReference 5 = .ok (.astore 5, 2) := by decide +kernel
theorem dX3_setReference_7 : decode cX3_setReference 7 = .ok (.aload_n 0, 1) := by decide +kernel
theorem dX3_setReference_8 : decode cX3_setReference 8 = .ok (.iload_n 2, 1) := by decide +kernel
theorem dX3_setReference_9 : decode cX3_setReference 9 = .ok (.invokevirtual 78, 3) := by decide +kernel
theorem dX3_setReference_12 : decode cX3_setReference 12 = .ok (.astore 6, 2) := by decide +kernel
theorem dX3_setReference_14 : decode cX3_setReference 14 = .ok (.aload 6, 2) := by decide +kernel
theorem dX3_setReference_16 : decode cX3_setReference 16 = .ok (.iload_n 3, 1) := by decide +kernel
theorem dX3_setReference_17 : decode cX3_setReference 17 = .ok (.invokestatic 82, 3) := by decide +kernel
theorem dX3_setReference_20 : decode cX3_setReference 20 = .ok (.astore 7, 2) := by decide +kernel
theorem dX3_setReference_22 : decode cX3_setReference 22 = .ok (.aload_n 0, 1) := by decide +kernel
theorem dX3_setReference_23 : decode cX3_setReference 23 = .ok (.aload 5, 2) := by decide +kernel
theorem dX3_setReference_25 : decode cX3_setReference 25 = .ok (.aload 6, 2) := by decide +kernel
theorem dX3_setReference_27 : decode cX3_setReference 27 = .ok (.aload 7, 2) := by decide +kernel
theorem dX3_setReference_29 : decode cX3_setReference 29 = .ok (.iload 4, 2) := by decide +kernel
theorem dX3_setReference_31 : decode cX3_setReference 31 = .ok (.invokevirtual 96, 3) := by decide +kernel
theorem dX3_setReference_34 : decode cX3_setReference 34 = .ok (.iconst 1, 1) := by decide +kernel
theorem dX3_setReference_35 : decode cX3_setReference 35 = .ok (.ireturn, 1) := by decide +kernel
theorem dX3_setRoot_0 : decode cX3_setRoot 0 = .ok (.aload_n 0, 1) := by decide +kernel
theorem dX3_setRoot_1 : decode cX3_setRoot 1 = .ok (.iload_n 1, 1) := by decide +kernel
theorem dX3_setRoot_2 : decode cX3_setRoot 2 = .ok (.invokevirtual 46, 3) := by decide +kernel
theorem dX3_setRoot_5 : decode cX3_setRoot 5 = .ok (.astore 4, 2) := by decide +kernel
theorem dX3_setRoot_7 : decode cX3_setRoot 7 = .ok (.aload_n 0, 1) := by decide +kernel
theorem dX3_setRoot_8 : decode cX3_setRoot 8 = .ok (.iload_n 2, 1) := by decide +kernel
theorem dX3_setRoot_9 : decode cX3_setRoot 9 = .ok (.invokevirtual 100, 3) := by decide +kernel
theorem dX3_setRoot_12 : decode cX3_setRoot 12 = .ok (.astore 5, 2) := by decide +kernel
theorem dX3_setRoot_14 : decode cX3_setRoot 14 = .ok (.aload_n 0, 1) := by decide +kernel
theorem dX3_setRoot_15 : decode cX3_setRoot 15 = .ok (.aload 4, 2) := by decide +kernel
theorem dX3_setRoot_17 : decode cX3_setRoot 17 = .ok (.aload 5, 2) := by decide +kernel
theorem dX3_setRoot_19 : decode cX3_setRoot 19 = .ok (.aload 5, 2) := by decide +kernel
theorem dX3_setRoot_21 : decode cX3_setRoot 21 = .ok (.getfield 103, 3) := by decide +kernel
theorem dX3_setRoot_24 : decode cX3_setRoot 24 = .ok (.iconst 0, 1) := by decide +kernel
theorem dX3_setRoot_25 : decode cX3_setRoot 25 = .ok (.aaload, 1) := by decide +kernel
theorem dX3_setRoot_26 : decode cX3_setRoot 26 = .ok (.iload_n 3, 1) := by decide +kernel
theorem dX3_setRoot_27 : decode cX3_setRoot 27 = .ok (.invokevirtual 96, 3) := by decide +kernel
theorem dX3_setRoot_30 : decode cX3_setRoot 30 = .ok (.iconst 1, 1) := by decide +kernel
theorem dX3_setRoot_31 : decode cX3_setRoot 31 = .ok (.ireturn, 1) := by decide +kernel
theorem dX3_getInt_0 : decode cX3_getInt 0 = .ok (.aload_n 0, 1) := by decide +kernel
theorem dX3_getInt_1 : decode cX3_getInt 1 = .ok (.iload_n 1, 1) := by decide +kernel
theorem dX3_getInt_2 : decode cX3_getInt 2 = .ok (.iload_n 2, 1) := by decide +kernel
theorem dX3_getInt_3 : decode cX3_getInt 3 = .ok (.iload_n 3, 1) := by decide +kernel
theorem dX3_getInt_4 : decode cX3_getInt 4 = .ok (.invokevirtual 107, 3) := by decide +kernel
theorem dX3_getInt_7 : decode cX3_getInt 7 = .ok (.astore 4, 2) := by decide +kernel
theorem dX3_getInt_9 : decode cX3_getInt 9 = .ok (.aload 4, 2) := by decide +kernel
theorem dX3_getInt_11 : decode cX3_getInt 11 = .ok (.getfield 111, 3) := by decide +kernel
theorem dX3_getInt_14 : decode cX3_getInt 14 = .ok (.ifCond .eq 13, 3) := by decide +kernel
theorem dX3_getInt_17 : decode cX3_getInt 17 = .ok (.new 115, 3) := by decide +kernel
theorem dX3_getInt_20 : decode cX3_getInt 20 = .ok (.dup, 1) := by decide +kernel
theorem dX3_getInt_21 : decode cX3_getInt 21 = .ok (.ldc 117, 2) := by decide +kernel
theorem dX3_getInt_23 : decode cX3_getInt 23 = .ok (.invokespecial 119, 3) := by decide +kernel
theorem dX3_getInt_26 : decode cX3_getInt 26 = .ok (.athrow, 1) := by decide +kernel
theorem dX3_getInt_27 : decode cX3_getInt 27 = .ok (.aload 4, 2) := by decide +kernel
theorem dX3_getInt_29 : decode cX3_getInt 29 = .ok (.getfield 120, 3) := by decide +kernel
theorem dX3_getInt_32 : decode cX3_getInt 32 = .ok (.ireturn, 1) := by decide +kernel
theorem dX3_getReference_0 : decode cX3_getReference 0 = .ok (.aload_n 0, 1) := by decide +kernel
theorem dX3_getReference_1 : decode cX3_getReference 1 = .ok (.iload_n 1, 1) := by decide +kernel
theorem dX3_getReference_2 : decode cX3_getReference 2 = .ok (.iload_n 2, 1) := by decide +kernel
theorem dX3_getReference_3 : decode cX3_getReference 3 = .ok (.iload_n 3, 1) := by decide +kernel
theorem dX3_getReference_4 : decode cX3_getReference 4 = .ok (.invokevirtual 107, 3) := by decide +kernel
theorem dX3_getReference_7 : decode cX3_getReference 7 = .ok (.astore 4, 2) := by decide +kernel
theorem dX3_getReference_9 : decode cX3_getReference 9 = .ok (.aload 4, 2) := by decide +kernel
theorem dX3_getReference_11 : decode cX3_getReference 11 = .ok (.getfield 111, 3) := by decide +kernel
theorem dX3_getReference_14 : decode cX3_getReference 14 = .ok (.ifCond .ne 13, 3) := by decide +kernel
theorem dX3_getReference_17 : decode cX3_getReference 17 = .ok (.new 115, 3) := by decide +kernel
theorem dX3_getReference_20 : decode cX3_getReference 20 = .ok (.dup, 1) := by decide +kernel
theorem dX3_getReference_21 : decode cX3_getReference 21 = .ok (.ldc 121, 2) := by decide +kernel
theorem dX3_getReference_23 : decode cX3_getReference 23 = .ok (.invokespecial 119, 3) := by decide +kernel
theorem dX3_getReference_26 : decode cX3_getReference 26 = .ok (.athrow, 1) := by decide +kernel
theorem dX3_getReference_27 : decode cX3_getReference 27 = .ok (.aload 4, 2) := by decide +kernel
theorem dX3_getReference_29 : decode cX3_getReference 29 = .ok (.getfield 123, 3) := by decide +kernel
theorem dX3_getReference_32 : decode cX3_getReference 32 = .ok (.invokestatic 127, 3) := by decide +kernel
theorem dX3_getReference_35 : decode cX3_getReference 35 = .ok (.ireturn, 1) := by decide +kernel
theorem dX3_getRoot_0 : decode cX3_getRoot 0 = .ok (.aload_n 0, 1) := by decide +kernel
theorem dX3_getRoot_1 : decode cX3_getRoot 1 = .ok (.iload_n 1, 1) := by decide +kernel
theorem dX3_getRoot_2 : decode cX3_getRoot 2 = .ok (.invokevirtual 46, 3) := by decide +kernel
theorem dX3_getRoot_5 : decode cX3_getRoot 5 = .ok (.astore_n 3, 1) := by decide +kernel
theorem dX3_getRoot_6 : decode cX3_getRoot 6 = .ok (.aload_n 0, 1) := by decide +kernel
theorem dX3_getRoot_7 : decode cX3_getRoot 7 = .ok (.iload_n 2, 1) := by decide +kernel
theorem dX3_getRoot_8 : decode cX3_getRoot 8 = .ok (.invokevirtual 100, 3) := by decide +kernel
theorem dX3_getRoot_11 : decode cX3_getRoot 11 = .ok (.astore 4, 2) := by decide +kernel
theorem dX3_getRoot_13 : decode cX3_getRoot 13 = .ok (.aload 4, 2) := by decide +kernel
theorem dX3_getRoot_15 : decode cX3_getRoot 15 = .ok (.aload_n 3, 1) := by decide +kernel
theorem dX3_getRoot_16 : decode cX3_getRoot 16 = .ok (.invokestatic 86, 3) := by decide +kernel
theorem dX3_getRoot_19 : decode cX3_getRoot 19 = .ok (.aload 4, 2) := by decide +kernel
theorem dX3_getRoot_21 : decode cX3_getRoot 21 = .ok (.aload_n 3, 1) := by decide +kernel
theorem dX3_getRoot_22 : decode cX3_getRoot 22 = .ok (.getfield 43, 3) := by decide +kernel
theorem dX3_getRoot_25 : decode cX3_getRoot 25 = .ok (.putfield 71, 3) := by decide +kernel
theorem dX3_getRoot_28 : decode cX3_getRoot 28 = .ok (.aload 4, 2) := by decide +kernel
theorem dX3_getRoot_30 : decode cX3_getRoot 30 = .ok (.getfield 103, 3) := by decide +kernel
theorem dX3_getRoot_33 : decode cX3_getRoot 33 = .ok (.iconst 0, 1) := by decide +kernel
theorem dX3_getRoot_34 : decode cX3_getRoot 34 = .ok (.aaload, 1) := by decide +kernel
theorem dX3_getRoot_35 : decode cX3_getRoot 35 = .ok (.getfield 123, 3) := by decide +kernel
theorem dX3_getRoot_38 : decode cX3_getRoot 38 = .ok (.invokestatic 127, 3) := by decide +kernel
theorem dX3_getRoot_41 : decode cX3_getRoot 41 = .ok (.ireturn, 1) := by decide +kernel
theorem dX3_commit_0 : decode cX3_commit 0 = .ok (.aload_n 0, 1) := by decide +kernel
theorem dX3_commit_1 : decode cX3_commit 1 = .ok (.iload_n 1, 1) := by decide +kernel
theorem dX3_commit_2 : decode cX3_commit 2 = .ok (.invokevirtual 46, 3) := by decide +kernel
theorem dX3_commit_5 : decode cX3_commit 5 = .ok (.astore_n 2, 1) := by decide +kernel
theorem dX3_commit_6 : decode cX3_commit 6 = .ok (.aload_n 0, 1) := by decide +kernel
theorem dX3_commit_7 : decode cX3_commit 7 = .ok (.aload_n 2, 1) := by decide +kernel
theorem dX3_commit_8 : decode cX3_commit 8 = .ok (.iconst 1, 1) := by decide +kernel
theorem dX3_commit_9 : decode cX3_commit 9 = .ok (.invokevirtual 35, 3) := by decide +kernel
theorem dX3_commit_12 : decode cX3_commit 12 = .ok (.aload_n 0, 1) := by decide +kernel
theorem dX3_commit_13 : decode cX3_commit 13 = .ok (.dup, 1) := by decide +kernel
theorem dX3_commit_14 : decode cX3_commit 14 = .ok (.getfield 131, 3) := by decide +kernel
theorem dX3_commit_17 : decode cX3_commit 17 = .ok (.aload_n 2, 1) := by decide +kernel
theorem dX3_commit_18 : decode cX3_commit 18 = .ok (.getfield 134, 3) := by decide +kernel
theorem dX3_commit_21 : decode cX3_commit 21 = .ok (.iadd, 1) := by decide +kernel
theorem dX3_commit_22 : decode cX3_commit 22 = .ok (.putfield 131, 3) := by decide +kernel
theorem dX3_commit_25 : decode cX3_commit 25 = .ok (.aload_n 0, 1) := by decide +kernel
theorem dX3_commit_26 : decode cX3_commit 26 = .ok (.aload_n 2, 1) := by decide +kernel
theorem dX3_commit_27 : decode cX3_commit 27 = .ok (.iconst 1, 1) := by decide +kernel
theorem dX3_commit_28 : decode cX3_commit 28 = .ok (.invokevirtual 136, 3) := by decide +kernel
theorem dX3_commit_31 : decode cX3_commit 31 = .ok (.ireturn, 1) := by decide +kernel
theorem dX3_abort_0 : decode cX3_abort 0 = .ok (.aload_n 0, 1) := by decide +kernel
theorem dX3_abort_1 : decode cX3_abort 1 = .ok (.aload_n 0, 1) := by decide +kernel
theorem dX3_abort_2 : decode cX3_abort 2 = .ok (.iload_n 1, 1) := by decide +kernel
theorem dX3_abort_3 : decode cX3_abort 3 = .ok (.invokevirtual 46, 3) := by decide +kernel
theorem dX3_abort_6 : decode cX3_abort 6 = .ok (.iconst 0, 1) := by decide +kernel
theorem dX3_abort_7 : decode cX3_abort 7 = .ok (.invokevirtual 136, 3) := by decide +kernel
theorem dX3_abort_10 : decode cX3_abort 10 = .ok (.ireturn, 1) := by decide +kernel
theorem dX3_checkpoint_0 : decode cX3_checkpoint 0 = .ok (.aload_n 0, 1) := by decide +kernel
theorem dX3_checkpoint_1 : decode cX3_checkpoint 1 = .ok (.iconst 0, 1) := by decide +kernel
theorem dX3_checkpoint_2 : decode cX3_checkpoint 2 = .ok (.putfield 131, 3) := by decide +kernel
theorem dX3_checkpoint_5 : decode cX3_checkpoint 5 = .ok (.aload_n 0, 1) := by decide +kernel
theorem dX3_checkpoint_6 : decode cX3_checkpoint 6 = .ok (.invokevirtual 140, 3) := by decide +kernel
theorem dX3_checkpoint_9 : decode cX3_checkpoint 9 = .ok (.ireturn, 1) := by decide +kernel
theorem dX3_crash_0 : decode cX3_crash 0 = .ok (.iconst 0, 1) := by decide +kernel
theorem dX3_crash_1 : decode cX3_crash 1 = .ok (.istore_n 1, 1) := by decide +kernel
theorem dX3_crash_2 : decode cX3_crash 2 = .ok (.iconst 0, 1) := by decide +kernel
theorem dX3_crash_3 : decode cX3_crash 3 = .ok (.istore_n 2, 1) := by decide +kernel
theorem dX3_crash_4 : decode cX3_crash 4 = .ok (.iload_n 2, 1) := by decide +kernel
theorem dX3_crash_5 : decode cX3_crash 5 = .ok (.iconst 3, 1) := by decide +kernel
theorem dX3_crash_6 : decode cX3_crash 6 = .ok (.if_icmp .ge 36, 3) := by decide +kernel
theorem dX3_crash_9 : decode cX3_crash 9 = .ok (.aload_n 0, 1) := by decide +kernel
theorem dX3_crash_10 : decode cX3_crash 10 = .ok (.getfield 26, 3) := by decide +kernel
theorem dX3_crash_13 : decode cX3_crash 13 = .ok (.iload_n 2, 1) := by decide +kernel
theorem dX3_crash_14 : decode cX3_crash 14 = .ok (.aaload, 1) := by decide +kernel
theorem dX3_crash_15 : decode cX3_crash 15 = .ok (.invokevirtual 143, 3) := by decide +kernel
theorem dX3_crash_18 : decode cX3_crash 18 = .ok (.ifCond .eq 18, 3) := by decide +kernel
theorem dX3_crash_21 : decode cX3_crash 21 = .ok (.aload_n 0, 1) := by decide +kernel
theorem dX3_crash_22 : decode cX3_crash 22 = .ok (.aload_n 0, 1) := by decide +kernel
theorem dX3_crash_23 : decode cX3_crash 23 = .ok (.getfield 26, 3) := by decide +kernel
theorem dX3_crash_26 : decode cX3_crash 26 = .ok (.iload_n 2, 1) := by decide +kernel
theorem dX3_crash_27 : decode cX3_crash 27 = .ok (.aaload, 1) := by decide +kernel
theorem dX3_crash_28 : decode cX3_crash 28 = .ok (.iconst 0, 1) := by decide +kernel
theorem dX3_crash_29 : decode cX3_crash 29 = .ok (.invokevirtual 136, 3) := by decide +kernel
theorem dX3_crash_32 : decode cX3_crash 32 = .ok (.pop, 1) := by decide +kernel
theorem dX3_crash_33 : decode cX3_crash 33 = .ok (.iinc 1 1, 3) := by decide +kernel
theorem dX3_crash_36 : decode cX3_crash 36 = .ok (.iinc 2 1, 3) := by decide +kernel
theorem dX3_crash_39 : decode cX3_crash 39 = .ok (.goto (-35), 3) := by decide +kernel
theorem dX3_crash_42 : decode cX3_crash 42 = .ok (.aload_n 0, 1) := by decide +kernel
theorem dX3_crash_43 : decode cX3_crash 43 = .ok (.iconst 0, 1) := by decide +kernel
theorem dX3_crash_44 : decode cX3_crash 44 = .ok (.putfield 131, 3) := by decide +kernel
theorem dX3_crash_47 : decode cX3_crash 47 = .ok (.iload_n 1, 1) := by decide +kernel
theorem dX3_crash_48 : decode cX3_crash 48 = .ok (.ireturn, 1) := by decide +kernel
theorem dX3_collect_0 : decode cX3_collect 0 = .ok (.aload_n 0, 1) := by decide +kernel
theorem dX3_collect_1 : decode cX3_collect 1 = .ok (.invokevirtual 147, 3) := by decide +kernel
theorem dX3_collect_4 : decode cX3_collect 4 = .ok (.iload_n 1, 1) := by decide +kernel
theorem dX3_collect_5 : decode cX3_collect 5 = .ok (.ifCond .lt 18, 3) := by decide +kernel
theorem dX3_collect_8 : decode cX3_collect 8 = .ok (.iload_n 1, 1) := by decide +kernel
theorem dX3_collect_9 : decode cX3_collect 9 = .ok (.aload_n 0, 1) := by decide +kernel
theorem dX3_collect_10 : decode cX3_collect 10 = .ok (.getfield 150, 3) := by decide +kernel
theorem dX3_collect_13 : decode cX3_collect 13 = .ok (.if_icmp .ge 10, 3) := by decide +kernel
theorem dX3_collect_16 : decode cX3_collect 16 = .ok (.iconst (-1), 1) := by decide +kernel
theorem dX3_collect_17 : decode cX3_collect 17 = .ok (.aload_n 0, 1) := by decide +kernel
theorem dX3_collect_18 : decode cX3_collect 18 = .ok (.invokevirtual 153, 3) := by decide +kernel
theorem dX3_collect_21 : decode cX3_collect 21 = .ok (.isub, 1) := by decide +kernel
theorem dX3_collect_22 : decode cX3_collect 22 = .ok (.ireturn, 1) := by decide +kernel
theorem dX3_collect_23 : decode cX3_collect 23 = .ok (.aload_n 0, 1) := by decide +kernel
theorem dX3_collect_24 : decode cX3_collect 24 = .ok (.getfield 57, 3) := by decide +kernel
theorem dX3_collect_27 : decode cX3_collect 27 = .ok (.istore_n 2, 1) := by decide +kernel
theorem dX3_collect_28 : decode cX3_collect 28 = .ok (.aload_n 0, 1) := by decide +kernel
theorem dX3_collect_29 : decode cX3_collect 29 = .ok (.invokevirtual 156, 3) := by decide +kernel
theorem dX3_collect_32 : decode cX3_collect 32 = .ok (.aload_n 0, 1) := by decide +kernel
theorem dX3_collect_33 : decode cX3_collect 33 = .ok (.invokevirtual 159, 3) := by decide +kernel
theorem dX3_collect_36 : decode cX3_collect 36 = .ok (.pop, 1) := by decide +kernel
theorem dX3_collect_37 : decode cX3_collect 37 = .ok (.iload_n 2, 1) := by decide +kernel
theorem dX3_collect_38 : decode cX3_collect 38 = .ok (.aload_n 0, 1) := by decide +kernel
theorem dX3_collect_39 : decode cX3_collect 39 = .ok (.getfield 57, 3) := by decide +kernel
theorem dX3_collect_42 : decode cX3_collect 42 = .ok (.isub, 1) := by decide +kernel
theorem dX3_collect_43 : decode cX3_collect 43 = .ok (.ireturn, 1) := by decide +kernel
theorem dX3_fields_0 : decode cX3_fields 0 = .ok (.aload_n 0, 1) := by decide +kernel
theorem dX3_fields_1 : decode cX3_fields 1 = .ok (.iload_n 1, 1) := by decide +kernel
theorem dX3_fields_2 : decode cX3_fields 2 = .ok (.invokevirtual 78, 3) := by decide +kernel
theorem dX3_fields_5 : decode cX3_fields 5 = .ok (.getfield 103, 3) := by decide +kernel
theorem dX3_fields_8 : decode cX3_fields 8 = .ok (.arraylength, 1) := by decide +kernel
theorem dX3_fields_9 : decode cX3_fields 9 = .ok (.ireturn, 1) := by decide +kernel
theorem dX3_lockedBy_0 : decode cX3_lockedBy 0 = .ok (.iload_n 1, 1) := by decide +kernel
theorem dX3_lockedBy_1 : decode cX3_lockedBy 1 = .ok (.ifCond .eq 12, 3) := by decide +kernel
theorem dX3_lockedBy_4 : decode cX3_lockedBy 4 = .ok (.aload_n 0, 1) := by decide +kernel
theorem dX3_lockedBy_5 : decode cX3_lockedBy 5 = .ok (.iload_n 1, 1) := by decide +kernel
theorem dX3_lockedBy_6 : decode cX3_lockedBy 6 = .ok (.invokevirtual 78, 3) := by decide +kernel
theorem dX3_lockedBy_9 : decode cX3_lockedBy 9 = .ok (.getfield 71, 3) := by decide +kernel
theorem dX3_lockedBy_12 : decode cX3_lockedBy 12 = .ok (.ireturn, 1) := by decide +kernel
theorem dX3_lockedBy_13 : decode cX3_lockedBy 13 = .ok (.iload_n 2, 1) := by decide +kernel
theorem dX3_lockedBy_14 : decode cX3_lockedBy 14 = .ok (.ifCond .lt 8, 3) := by decide +kernel
theorem dX3_lockedBy_17 : decode cX3_lockedBy 17 = .ok (.iload_n 2, 1) := by decide +kernel
theorem dX3_lockedBy_18 : decode cX3_lockedBy 18 = .ok (.iconst 4, 1) := by decide +kernel
theorem dX3_lockedBy_19 : decode cX3_lockedBy 19 = .ok (.if_icmp .lt 13, 3) := by decide +kernel
theorem dX3_lockedBy_22 : decode cX3_lockedBy 22 = .ok (.new 162, 3) := by decide +kernel
theorem dX3_lockedBy_25 : decode cX3_lockedBy 25 = .ok (.dup, 1) := by decide +kernel
theorem dX3_lockedBy_26 : decode cX3_lockedBy 26 = .ok (.ldc 164, 2) := by decide +kernel
theorem dX3_lockedBy_28 : decode cX3_lockedBy 28 = .ok (.invokespecial 166, 3) := by decide +kernel
theorem dX3_lockedBy_31 : decode cX3_lockedBy 31 = .ok (.athrow, 1) := by decide +kernel
theorem dX3_lockedBy_32 : decode cX3_lockedBy 32 = .ok (.aload_n 0, 1) := by decide +kernel
theorem dX3_lockedBy_33 : decode cX3_lockedBy 33 = .ok (.getfield 11, 3) := by decide +kernel
theorem dX3_lockedBy_36 : decode cX3_lockedBy 36 = .ok (.iload_n 2, 1) := by decide +kernel
theorem dX3_lockedBy_37 : decode cX3_lockedBy 37 = .ok (.aaload, 1) := by decide +kernel
theorem dX3_lockedBy_38 : decode cX3_lockedBy 38 = .ok (.getfield 71, 3) := by decide +kernel
theorem dX3_lockedBy_41 : decode cX3_lockedBy 41 = .ok (.ireturn, 1) := by decide +kernel
theorem dX3_count_0 : decode cX3_count 0 = .ok (.iload_n 1, 1) := by decide +kernel
theorem dX3_count_1 : decode cX3_count 1 = .ok (.tableswitch 91 0 7 #[47, 52, 57, 62, 67, 72, 77, 82], 47) := by decide +kernel
theorem dX3_count_48 : decode cX3_count 48 = .ok (.aload_n 0, 1) := by decide +kernel
theorem dX3_count_49 : decode cX3_count 49 = .ok (.getfield 60, 3) := by decide +kernel
theorem dX3_count_52 : decode cX3_count 52 = .ok (.ireturn, 1) := by decide +kernel
theorem dX3_count_53 : decode cX3_count 53 = .ok (.aload_n 0, 1) := by decide +kernel
theorem dX3_count_54 : decode cX3_count 54 = .ok (.getfield 68, 3) := by decide +kernel
theorem dX3_count_57 : decode cX3_count 57 = .ok (.ireturn, 1) := by decide +kernel
theorem dX3_count_58 : decode cX3_count 58 = .ok (.aload_n 0, 1) := by decide +kernel
theorem dX3_count_59 : decode cX3_count 59 = .ok (.getfield 57, 3) := by decide +kernel
theorem dX3_count_62 : decode cX3_count 62 = .ok (.ireturn, 1) := by decide +kernel
theorem dX3_count_63 : decode cX3_count 63 = .ok (.aload_n 0, 1) := by decide +kernel
theorem dX3_count_64 : decode cX3_count 64 = .ok (.invokevirtual 140, 3) := by decide +kernel
theorem dX3_count_67 : decode cX3_count 67 = .ok (.ireturn, 1) := by decide +kernel
theorem dX3_count_68 : decode cX3_count 68 = .ok (.aload_n 0, 1) := by decide +kernel
theorem dX3_count_69 : decode cX3_count 69 = .ok (.invokevirtual 167, 3) := by decide +kernel
theorem dX3_count_72 : decode cX3_count 72 = .ok (.ireturn, 1) := by decide +kernel
theorem dX3_count_73 : decode cX3_count 73 = .ok (.aload_n 0, 1) := by decide +kernel
theorem dX3_count_74 : decode cX3_count 74 = .ok (.getfield 39, 3) := by decide +kernel
theorem dX3_count_77 : decode cX3_count 77 = .ok (.ireturn, 1) := by decide +kernel
theorem dX3_count_78 : decode cX3_count 78 = .ok (.aload_n 0, 1) := by decide +kernel
theorem dX3_count_79 : decode cX3_count 79 = .ok (.getfield 170, 3) := by decide +kernel
theorem dX3_count_82 : decode cX3_count 82 = .ok (.ireturn, 1) := by decide +kernel
theorem dX3_count_83 : decode cX3_count 83 = .ok (.aload_n 0, 1) := by decide +kernel
theorem dX3_count_84 : decode cX3_count 84 = .ok (.invokevirtual 147, 3) := by decide +kernel
theorem dX3_count_87 : decode cX3_count 87 = .ok (.aload_n 0, 1) := by decide +kernel
theorem dX3_count_88 : decode cX3_count 88 = .ok (.getfield 150, 3) := by decide +kernel
theorem dX3_count_91 : decode cX3_count 91 = .ok (.ireturn, 1) := by decide +kernel
theorem dX3_count_92 : decode cX3_count 92 = .ok (.new 50, 3) := by decide +kernel
theorem dX3_count_95 : decode cX3_count 95 = .ok (.dup, 1) := by decide +kernel
theorem dX3_count_96 : decode cX3_count 96 = .ok (.ldc 173, 2) := by decide +kernel
theorem dX3_count_98 : decode cX3_count 98 = .ok (.invokespecial 54, 3) := by decide +kernel
theorem dX3_count_101 : decode cX3_count 101 = .ok (.athrow, 1) := by decide +kernel
theorem dX3_unusedTransaction_0 : decode cX3_unusedTransaction 0 = .ok (.iconst 0, 1) := by decide +kernel
theorem dX3_unusedTransaction_1 : decode cX3_unusedTransaction 1 = .ok (.istore_n 1, 1) := by decide +kernel
theorem dX3_unusedTransaction_2 : decode cX3_unusedTransaction 2 = .ok (.iload_n 1, 1) := by decide +kernel
theorem dX3_unusedTransaction_3 : decode cX3_unusedTransaction 3 = .ok (.iconst 3, 1) := by decide +kernel
theorem dX3_unusedTransaction_4 : decode cX3_unusedTransaction 4 = .ok (.if_icmp .ge 28, 3) := by decide +kernel
theorem dX3_unusedTransaction_7 : decode cX3_unusedTransaction 7 = .ok (.aload_n 0, 1) := by decide +kernel
theorem dX3_unusedTransaction_8 : decode cX3_unusedTransaction 8 = .ok (.getfield 26, 3) := by decide +kernel
theorem dX3_unusedTransaction_11 : decode cX3_unusedTransaction 11 = .ok (.iload_n 1, 1) := by decide +kernel
theorem dX3_unusedTransaction_12 : decode cX3_unusedTransaction 12 = .ok (.aaload, 1) := by decide +kernel
theorem dX3_unusedTransaction_13 : decode cX3_unusedTransaction 13 = .ok (.invokevirtual 143, 3) := by decide +kernel
theorem dX3_unusedTransaction_16 : decode cX3_unusedTransaction 16 = .ok (.ifCond .ne 10, 3) := by decide +kernel
theorem dX3_unusedTransaction_19 : decode cX3_unusedTransaction 19 = .ok (.aload_n 0, 1) := by decide +kernel
theorem dX3_unusedTransaction_20 : decode cX3_unusedTransaction 20 = .ok (.getfield 26, 3) := by decide +kernel
theorem dX3_unusedTransaction_23 : decode cX3_unusedTransaction 23 = .ok (.iload_n 1, 1) := by decide +kernel
theorem dX3_unusedTransaction_24 : decode cX3_unusedTransaction 24 = .ok (.aaload, 1) := by decide +kernel
theorem dX3_unusedTransaction_25 : decode cX3_unusedTransaction 25 = .ok (.areturn, 1) := by decide +kernel
theorem dX3_unusedTransaction_26 : decode cX3_unusedTransaction 26 = .ok (.iinc 1 1, 3) := by decide +kernel
theorem dX3_unusedTransaction_29 : decode cX3_unusedTransaction 29 = .ok (.goto (-27), 3) := by decide +kernel
theorem dX3_unusedTransaction_32 : decode cX3_unusedTransaction 32 = .ok (.new 63, 3) := by decide +kernel
theorem dX3_unusedTransaction_35 : decode cX3_unusedTransaction 35 = .ok (.dup, 1) := by decide +kernel
theorem dX3_unusedTransaction_36 : decode cX3_unusedTransaction 36 = .ok (.ldc 175, 2) := by decide +kernel
theorem dX3_unusedTransaction_38 : decode cX3_unusedTransaction 38 = .ok (.invokespecial 67, 3) := by decide +kernel
theorem dX3_unusedTransaction_41 : decode cX3_unusedTransaction 41 = .ok (.athrow, 1) := by decide +kernel
theorem dX3_activeTransaction_0 : decode cX3_activeTransaction 0 = .ok (.iconst 0, 1) := by decide +kernel
theorem dX3_activeTransaction_1 : decode cX3_activeTransaction 1 = .ok (.istore_n 2, 1) := by decide +kernel
theorem dX3_activeTransaction_2 : decode cX3_activeTransaction 2 = .ok (.iload_n 2, 1) := by decide +kernel
theorem dX3_activeTransaction_3 : decode cX3_activeTransaction 3 = .ok (.iconst 3, 1) := by decide +kernel
theorem dX3_activeTransaction_4 : decode cX3_activeTransaction 4 = .ok (.if_icmp .ge 41, 3) := by decide +kernel
theorem dX3_activeTransaction_7 : decode cX3_activeTransaction 7 = .ok (.aload_n 0, 1) := by decide +kernel
theorem dX3_activeTransaction_8 : decode cX3_activeTransaction 8 = .ok (.getfield 26, 3) := by decide +kernel
theorem dX3_activeTransaction_11 : decode cX3_activeTransaction 11 = .ok (.iload_n 2, 1) := by decide +kernel
theorem dX3_activeTransaction_12 : decode cX3_activeTransaction 12 = .ok (.aaload, 1) := by decide +kernel
theorem dX3_activeTransaction_13 : decode cX3_activeTransaction 13 = .ok (.invokevirtual 143, 3) := by decide +kernel
theorem dX3_activeTransaction_16 : decode cX3_activeTransaction 16 = .ok (.ifCond .eq 23, 3) := by decide +kernel
theorem dX3_activeTransaction_19 : decode cX3_activeTransaction 19 = .ok (.aload_n 0, 1) := by decide +kernel
theorem dX3_activeTransaction_20 : decode cX3_activeTransaction 20 = .ok (.getfield 26, 3) := by decide +kernel
theorem dX3_activeTransaction_23 : decode cX3_activeTransaction 23 = .ok (.iload_n 2, 1) := by decide +kernel
theorem dX3_activeTransaction_24 : decode cX3_activeTransaction 24 = .ok (.aaload, 1) := by decide +kernel
theorem dX3_activeTransaction_25 : decode cX3_activeTransaction 25 = .ok (.getfield 43, 3) := by decide +kernel
theorem dX3_activeTransaction_28 : decode cX3_activeTransaction 28 = .ok (.iload_n 1, 1) := by decide +kernel
theorem dX3_activeTransaction_29 : decode cX3_activeTransaction 29 = .ok (.if_icmp .ne 10, 3) := by decide +kernel
theorem dX3_activeTransaction_32 : decode cX3_activeTransaction 32 = .ok (.aload_n 0, 1) := by decide +kernel
theorem dX3_activeTransaction_33 : decode cX3_activeTransaction 33 = .ok (.getfield 26, 3) := by decide +kernel
theorem dX3_activeTransaction_36 : decode cX3_activeTransaction 36 = .ok (.iload_n 2, 1) := by decide +kernel
theorem dX3_activeTransaction_37 : decode cX3_activeTransaction 37 = .ok (.aaload, 1) := by decide +kernel
theorem dX3_activeTransaction_38 : decode cX3_activeTransaction 38 = .ok (.areturn, 1) := by decide +kernel
theorem dX3_activeTransaction_39 : decode cX3_activeTransaction 39 = .ok (.iinc 2 1, 3) := by decide +kernel
theorem dX3_activeTransaction_42 : decode cX3_activeTransaction 42 = .ok (.goto (-40), 3) := by decide +kernel
theorem dX3_activeTransaction_45 : decode cX3_activeTransaction 45 = .ok (.new 162, 3) := by decide +kernel
theorem dX3_activeTransaction_48 : decode cX3_activeTransaction 48 = .ok (.dup, 1) := by decide +kernel
theorem dX3_activeTransaction_49 : decode cX3_activeTransaction 49 = .ok (.ldc 177, 2) := by decide +kernel
theorem dX3_activeTransaction_51 : decode cX3_activeTransaction 51 = .ok (.invokespecial 166, 3) := by decide +kernel
theorem dX3_activeTransaction_54 : decode cX3_activeTransaction 54 = .ok (.athrow, 1) := by decide +kernel
theorem dX3_activeTransactions_0 : decode cX3_activeTransactions 0 = .ok (.iconst 0, 1) := by decide +kernel
theorem dX3_activeTransactions_1 : decode cX3_activeTransactions 1 = .ok (.istore_n 1, 1) := by decide +kernel
theorem dX3_activeTransactions_2 : decode cX3_activeTransactions 2 = .ok (.iconst 0, 1) := by decide +kernel
theorem dX3_activeTransactions_3 : decode cX3_activeTransactions 3 = .ok (.istore_n 2, 1) := by decide +kernel
theorem dX3_activeTransactions_4 : decode cX3_activeTransactions 4 = .ok (.iload_n 2, 1) := by decide +kernel
theorem dX3_activeTransactions_5 : decode cX3_activeTransactions 5 = .ok (.iconst 3, 1) := by decide +kernel
theorem dX3_activeTransactions_6 : decode cX3_activeTransactions 6 = .ok (.if_icmp .ge 24, 3) := by decide +kernel
theorem dX3_activeTransactions_9 : decode cX3_activeTransactions 9 = .ok (.aload_n 0, 1) := by decide +kernel
theorem dX3_activeTransactions_10 : decode cX3_activeTransactions 10 = .ok (.getfield 26, 3) := by decide +kernel
theorem dX3_activeTransactions_13 : decode cX3_activeTransactions 13 = .ok (.iload_n 2, 1) := by decide +kernel
theorem dX3_activeTransactions_14 : decode cX3_activeTransactions 14 = .ok (.aaload, 1) := by decide +kernel
theorem dX3_activeTransactions_15 : decode cX3_activeTransactions 15 = .ok (.invokevirtual 143, 3) := by decide +kernel
theorem dX3_activeTransactions_18 : decode cX3_activeTransactions 18 = .ok (.ifCond .eq 6, 3) := by decide +kernel
theorem dX3_activeTransactions_21 : decode cX3_activeTransactions 21 = .ok (.iinc 1 1, 3) := by decide +kernel
theorem dX3_activeTransactions_24 : decode cX3_activeTransactions 24 = .ok (.iinc 2 1, 3) := by decide +kernel
theorem dX3_activeTransactions_27 : decode cX3_activeTransactions 27 = .ok (.goto (-23), 3) := by decide +kernel
theorem dX3_activeTransactions_30 : decode cX3_activeTransactions 30 = .ok (.iload_n 1, 1) := by decide +kernel
theorem dX3_activeTransactions_31 : decode cX3_activeTransactions 31 = .ok (.ireturn, 1) := by decide +kernel
theorem dX3_objectWith_0 : decode cX3_objectWith 0 = .ok (.aload_n 0, 1) := by decide +kernel
theorem dX3_objectWith_1 : decode cX3_objectWith 1 = .ok (.iload_n 1, 1) := by decide +kernel
theorem dX3_objectWith_2 : decode cX3_objectWith 2 = .ok (.invokevirtual 179, 3) := by decide +kernel
theorem dX3_objectWith_5 : decode cX3_objectWith 5 = .ok (.astore_n 2, 1) := by decide +kernel
theorem dX3_objectWith_6 : decode cX3_objectWith 6 = .ok (.aload_n 2, 1) := by decide +kernel
theorem dX3_objectWith_7 : decode cX3_objectWith 7 = .ok (.ifnonnull 13, 3) := by decide +kernel
theorem dX3_objectWith_10 : decode cX3_objectWith 10 = .ok (.new 162, 3) := by decide +kernel
theorem dX3_objectWith_13 : decode cX3_objectWith 13 = .ok (.dup, 1) := by decide +kernel
theorem dX3_objectWith_14 : decode cX3_objectWith 14 = .ok (.ldc 182, 2) := by decide +kernel
theorem dX3_objectWith_16 : decode cX3_objectWith 16 = .ok (.invokespecial 166, 3) := by decide +kernel
theorem dX3_objectWith_19 : decode cX3_objectWith 19 = .ok (.athrow, 1) := by decide +kernel
theorem dX3_objectWith_20 : decode cX3_objectWith 20 = .ok (.aload_n 2, 1) := by decide +kernel
theorem dX3_objectWith_21 : decode cX3_objectWith 21 = .ok (.areturn, 1) := by decide +kernel
theorem dX3_findObject_0 : decode cX3_findObject 0 = .ok (.iconst 0, 1) := by decide +kernel
theorem dX3_findObject_1 : decode cX3_findObject 1 = .ok (.istore_n 2, 1) := by decide +kernel
theorem dX3_findObject_2 : decode cX3_findObject 2 = .ok (.iload_n 2, 1) := by decide +kernel
theorem dX3_findObject_3 : decode cX3_findObject 3 = .ok (.aload_n 0, 1) := by decide +kernel
theorem dX3_findObject_4 : decode cX3_findObject 4 = .ok (.getfield 60, 3) := by decide +kernel
theorem dX3_findObject_7 : decode cX3_findObject 7 = .ok (.if_icmp .ge 29, 3) := by decide +kernel
theorem dX3_findObject_10 : decode cX3_findObject 10 = .ok (.aload_n 0, 1) := by decide +kernel
theorem dX3_findObject_11 : decode cX3_findObject 11 = .ok (.getfield 18, 3) := by decide +kernel
theorem dX3_findObject_14 : decode cX3_findObject 14 = .ok (.iload_n 2, 1) := by decide +kernel
theorem dX3_findObject_15 : decode cX3_findObject 15 = .ok (.aaload, 1) := by decide +kernel
theorem dX3_findObject_16 : decode cX3_findObject 16 = .ok (.getfield 184, 3) := by decide +kernel
theorem dX3_findObject_19 : decode cX3_findObject 19 = .ok (.iload_n 1, 1) := by decide +kernel
theorem dX3_findObject_20 : decode cX3_findObject 20 = .ok (.if_icmp .ne 10, 3) := by decide +kernel
theorem dX3_findObject_23 : decode cX3_findObject 23 = .ok (.aload_n 0, 1) := by decide +kernel
theorem dX3_findObject_24 : decode cX3_findObject 24 = .ok (.getfield 18, 3) := by decide +kernel
theorem dX3_findObject_27 : decode cX3_findObject 27 = .ok (.iload_n 2, 1) := by decide +kernel
theorem dX3_findObject_28 : decode cX3_findObject 28 = .ok (.aaload, 1) := by decide +kernel
theorem dX3_findObject_29 : decode cX3_findObject 29 = .ok (.areturn, 1) := by decide +kernel
theorem dX3_findObject_30 : decode cX3_findObject 30 = .ok (.iinc 2 1, 3) := by decide +kernel
theorem dX3_findObject_33 : decode cX3_findObject 33 = .ok (.goto (-31), 3) := by decide +kernel
theorem dX3_findObject_36 : decode cX3_findObject 36 = .ok (.aconst_null, 1) := by decide +kernel
theorem dX3_findObject_37 : decode cX3_findObject 37 = .ok (.areturn, 1) := by decide +kernel
theorem dX3_fieldOf_0 : decode cX3_fieldOf 0 = .ok (.iload_n 1, 1) := by decide +kernel
theorem dX3_fieldOf_1 : decode cX3_fieldOf 1 = .ok (.ifCond .lt 12, 3) := by decide +kernel
theorem dX3_fieldOf_4 : decode cX3_fieldOf 4 = .ok (.iload_n 1, 1) := by decide +kernel
theorem dX3_fieldOf_5 : decode cX3_fieldOf 5 = .ok (.aload_n 0, 1) := by decide +kernel
theorem dX3_fieldOf_6 : decode cX3_fieldOf 6 = .ok (.getfield 103, 3) := by decide +kernel
theorem dX3_fieldOf_9 : decode cX3_fieldOf 9 = .ok (.arraylength, 1) := by decide +kernel
theorem dX3_fieldOf_10 : decode cX3_fieldOf 10 = .ok (.if_icmp .lt 13, 3) := by decide +kernel
theorem dX3_fieldOf_13 : decode cX3_fieldOf 13 = .ok (.new 187, 3) := by decide +kernel
theorem dX3_fieldOf_16 : decode cX3_fieldOf 16 = .ok (.dup, 1) := by decide +kernel
theorem dX3_fieldOf_17 : decode cX3_fieldOf 17 = .ok (.ldc 189, 2) := by decide +kernel
theorem dX3_fieldOf_19 : decode cX3_fieldOf 19 = .ok (.invokespecial 191, 3) := by decide +kernel
theorem dX3_fieldOf_22 : decode cX3_fieldOf 22 = .ok (.athrow, 1) := by decide +kernel
theorem dX3_fieldOf_23 : decode cX3_fieldOf 23 = .ok (.aload_n 0, 1) := by decide +kernel
theorem dX3_fieldOf_24 : decode cX3_fieldOf 24 = .ok (.getfield 103, 3) := by decide +kernel
theorem dX3_fieldOf_27 : decode cX3_fieldOf 27 = .ok (.iload_n 1, 1) := by decide +kernel
theorem dX3_fieldOf_28 : decode cX3_fieldOf 28 = .ok (.aaload, 1) := by decide +kernel
theorem dX3_fieldOf_29 : decode cX3_fieldOf 29 = .ok (.areturn, 1) := by decide +kernel
theorem dX3_rootAt_0 : decode cX3_rootAt 0 = .ok (.iload_n 1, 1) := by decide +kernel
theorem dX3_rootAt_1 : decode cX3_rootAt 1 = .ok (.ifCond .lt 8, 3) := by decide +kernel
theorem dX3_rootAt_4 : decode cX3_rootAt 4 = .ok (.iload_n 1, 1) := by decide +kernel
theorem dX3_rootAt_5 : decode cX3_rootAt 5 = .ok (.iconst 4, 1) := by decide +kernel
theorem dX3_rootAt_6 : decode cX3_rootAt 6 = .ok (.if_icmp .lt 13, 3) := by decide +kernel
theorem dX3_rootAt_9 : decode cX3_rootAt 9 = .ok (.new 187, 3) := by decide +kernel
theorem dX3_rootAt_12 : decode cX3_rootAt 12 = .ok (.dup, 1) := by decide +kernel
theorem dX3_rootAt_13 : decode cX3_rootAt 13 = .ok (.ldc 164, 2) := by decide +kernel
theorem dX3_rootAt_15 : decode cX3_rootAt 15 = .ok (.invokespecial 191, 3) := by decide +kernel
theorem dX3_rootAt_18 : decode cX3_rootAt 18 = .ok (.athrow, 1) := by decide +kernel
theorem dX3_rootAt_19 : decode cX3_rootAt 19 = .ok (.aload_n 0, 1) := by decide +kernel
theorem dX3_rootAt_20 : decode cX3_rootAt 20 = .ok (.getfield 11, 3) := by decide +kernel
theorem dX3_rootAt_23 : decode cX3_rootAt 23 = .ok (.iload_n 1, 1) := by decide +kernel
theorem dX3_rootAt_24 : decode cX3_rootAt 24 = .ok (.aaload, 1) := by decide +kernel
theorem dX3_rootAt_25 : decode cX3_rootAt 25 = .ok (.areturn, 1) := by decide +kernel
theorem dX3_handleOf_0 : decode cX3_handleOf 0 = .ok (.aload_n 0, 1) := by decide +kernel
theorem dX3_handleOf_1 : decode cX3_handleOf 1 = .ok (.ifnonnull 7, 3) := by decide +kernel
theorem dX3_handleOf_4 : decode cX3_handleOf 4 = .ok (.iconst 0, 1) := by decide +kernel
theorem dX3_handleOf_5 : decode cX3_handleOf 5 = .ok (.goto 7, 3) := by decide +kernel
theorem dX3_handleOf_8 : decode cX3_handleOf 8 = .ok (.aload_n 0, 1) := by decide +kernel
theorem dX3_handleOf_9 : decode cX3_handleOf 9 = .ok (.getfield 184, 3) := by decide +kernel
theorem dX3_handleOf_12 : decode cX3_handleOf 12 = .ok (.ireturn, 1) := by decide +kernel
theorem dX3_refuseIfLockedByAnother_0 : decode cX3_refuseIfLockedByAnother 0 = .ok (.aload_n 0, 1) := by decide +kernel
theorem dX3_refuseIfLockedByAnother_1 : decode cX3_refuseIfLockedByAnother 1 = .ok (.getfield 71, 3) := by decide +kernel
theorem dX3_refuseIfLockedByAnother_4 : decode cX3_refuseIfLockedByAnother 4 = .ok (.ifCond .eq 24, 3) := by decide +kernel
theorem dX3_refuseIfLockedByAnother_7 : decode cX3_refuseIfLockedByAnother 7 = .ok (.aload_n 0, 1) := by decide +kernel
theorem dX3_refuseIfLockedByAnother_8 : decode cX3_refuseIfLockedByAnother 8 = .ok (.getfield 71, 3) := by decide +kernel
theorem dX3_refuseIfLockedByAnother_11 : decode cX3_refuseIfLockedByAnother 11 = .ok (.aload_n 1, 1) := by decide +kernel
theorem dX3_refuseIfLockedByAnother_12 : decode cX3_refuseIfLockedByAnother 12 = .ok (.getfield 43, 3) := by decide +kernel
theorem dX3_refuseIfLockedByAnother_15 : decode cX3_refuseIfLockedByAnother 15 = .ok (.if_icmp .eq 13, 3) := by decide +kernel
theorem dX3_refuseIfLockedByAnother_18 : decode cX3_refuseIfLockedByAnother 18 = .ok (.new 63, 3) := by decide +kernel
theorem dX3_refuseIfLockedByAnother_21 : decode cX3_refuseIfLockedByAnother 21 = .ok (.dup, 1) := by decide +kernel
theorem dX3_refuseIfLockedByAnother_22 : decode cX3_refuseIfLockedByAnother 22 = .ok (.ldc 192, 2) := by decide +kernel
theorem dX3_refuseIfLockedByAnother_24 : decode cX3_refuseIfLockedByAnother 24 = .ok (.invokespecial 67, 3) := by decide +kernel
theorem dX3_refuseIfLockedByAnother_27 : decode cX3_refuseIfLockedByAnother 27 = .ok (.athrow, 1) := by decide +kernel
theorem dX3_refuseIfLockedByAnother_28 : decode cX3_refuseIfLockedByAnother 28 = .ok (.return_, 1) := by decide +kernel
theorem dX3_readField_0 : decode cX3_readField 0 = .ok (.aload_n 0, 1) := by decide +kernel
theorem dX3_readField_1 : decode cX3_readField 1 = .ok (.iload_n 1, 1) := by decide +kernel
theorem dX3_readField_2 : decode cX3_readField 2 = .ok (.invokevirtual 46, 3) := by decide +kernel
theorem dX3_readField_5 : decode cX3_readField 5 = .ok (.astore 4, 2) := by decide +kernel
theorem dX3_readField_7 : decode cX3_readField 7 = .ok (.aload_n 0, 1) := by decide +kernel
theorem dX3_readField_8 : decode cX3_readField 8 = .ok (.iload_n 2, 1) := by decide +kernel
theorem dX3_readField_9 : decode cX3_readField 9 = .ok (.invokevirtual 78, 3) := by decide +kernel
theorem dX3_readField_12 : decode cX3_readField 12 = .ok (.astore 5, 2) := by decide +kernel
theorem dX3_readField_14 : decode cX3_readField 14 = .ok (.aload 5, 2) := by decide +kernel
theorem dX3_readField_16 : decode cX3_readField 16 = .ok (.iload_n 3, 1) := by decide +kernel
theorem dX3_readField_17 : decode cX3_readField 17 = .ok (.invokestatic 82, 3) := by decide +kernel
theorem dX3_readField_20 : decode cX3_readField 20 = .ok (.astore 6, 2) := by decide +kernel
theorem dX3_readField_22 : decode cX3_readField 22 = .ok (.aload 5, 2) := by decide +kernel
theorem dX3_readField_24 : decode cX3_readField 24 = .ok (.aload 4, 2) := by decide +kernel
theorem dX3_readField_26 : decode cX3_readField 26 = .ok (.invokestatic 86, 3) := by decide +kernel
theorem dX3_readField_29 : decode cX3_readField 29 = .ok (.aload 5, 2) := by decide +kernel
theorem dX3_readField_31 : decode cX3_readField 31 = .ok (.aload 4, 2) := by decide +kernel
theorem dX3_readField_33 : decode cX3_readField 33 = .ok (.getfield 43, 3) := by decide +kernel
theorem dX3_readField_36 : decode cX3_readField 36 = .ok (.putfield 71, 3) := by decide +kernel
theorem dX3_readField_39 : decode cX3_readField 39 = .ok (.aload 6, 2) := by decide +kernel
theorem dX3_readField_41 : decode cX3_readField 41 = .ok (.areturn, 1) := by decide +kernel
theorem dX3_refer_0 : decode cX3_refer 0 = .ok (.aload_n 2, 1) := by decide +kernel
theorem dX3_refer_1 : decode cX3_refer 1 = .ok (.aload_n 1, 1) := by decide +kernel
theorem dX3_refer_2 : decode cX3_refer 2 = .ok (.invokestatic 86, 3) := by decide +kernel
theorem dX3_refer_5 : decode cX3_refer 5 = .ok (.aload_n 0, 1) := by decide +kernel
theorem dX3_refer_6 : decode cX3_refer 6 = .ok (.iload 4, 2) := by decide +kernel
theorem dX3_refer_8 : decode cX3_refer 8 = .ok (.invokevirtual 179, 3) := by decide +kernel
theorem dX3_refer_11 : decode cX3_refer 11 = .ok (.astore 5, 2) := by decide +kernel
theorem dX3_refer_13 : decode cX3_refer 13 = .ok (.iload 4, 2) := by decide +kernel
theorem dX3_refer_15 : decode cX3_refer 15 = .ok (.ifCond .eq 18, 3) := by decide +kernel
theorem dX3_refer_18 : decode cX3_refer 18 = .ok (.aload 5, 2) := by decide +kernel
theorem dX3_refer_20 : decode cX3_refer 20 = .ok (.ifnonnull 13, 3) := by decide +kernel
theorem dX3_refer_23 : decode cX3_refer 23 = .ok (.new 50, 3) := by decide +kernel
theorem dX3_refer_26 : decode cX3_refer 26 = .ok (.dup, 1) := by decide +kernel
theorem dX3_refer_27 : decode cX3_refer 27 = .ok (.ldc 194, 2) := by decide +kernel
theorem dX3_refer_29 : decode cX3_refer 29 = .ok (.invokespecial 54, 3) := by decide +kernel
theorem dX3_refer_32 : decode cX3_refer 32 = .ok (.athrow, 1) := by decide +kernel
theorem dX3_refer_33 : decode cX3_refer 33 = .ok (.aload_n 0, 1) := by decide +kernel
theorem dX3_refer_34 : decode cX3_refer 34 = .ok (.aload_n 1, 1) := by decide +kernel
theorem dX3_refer_35 : decode cX3_refer 35 = .ok (.iconst 3, 1) := by decide +kernel
theorem dX3_refer_36 : decode cX3_refer 36 = .ok (.invokevirtual 35, 3) := by decide +kernel
theorem dX3_refer_39 : decode cX3_refer 39 = .ok (.aload_n 2, 1) := by decide +kernel
theorem dX3_refer_40 : decode cX3_refer 40 = .ok (.aload_n 1, 1) := by decide +kernel
theorem dX3_refer_41 : decode cX3_refer 41 = .ok (.getfield 43, 3) := by decide +kernel
theorem dX3_refer_44 : decode cX3_refer 44 = .ok (.putfield 71, 3) := by decide +kernel
theorem dX3_refer_47 : decode cX3_refer 47 = .ok (.aload_n 3, 1) := by decide +kernel
theorem dX3_refer_48 : decode cX3_refer 48 = .ok (.aload 5, 2) := by decide +kernel
theorem dX3_refer_50 : decode cX3_refer 50 = .ok (.invokevirtual 196, 3) := by decide +kernel
theorem dX3_refer_53 : decode cX3_refer 53 = .ok (.return_, 1) := by decide +kernel
theorem dX3_wordsInLog_0 : decode cX3_wordsInLog 0 = .ok (.aload_n 0, 1) := by decide +kernel
theorem dX3_wordsInLog_1 : decode cX3_wordsInLog 1 = .ok (.getfield 131, 3) := by decide +kernel
theorem dX3_wordsInLog_4 : decode cX3_wordsInLog 4 = .ok (.istore_n 1, 1) := by decide +kernel
theorem dX3_wordsInLog_5 : decode cX3_wordsInLog 5 = .ok (.iconst 0, 1) := by decide +kernel
theorem dX3_wordsInLog_6 : decode cX3_wordsInLog 6 = .ok (.istore_n 2, 1) := by decide +kernel
theorem dX3_wordsInLog_7 : decode cX3_wordsInLog 7 = .ok (.iload_n 2, 1) := by decide +kernel
theorem dX3_wordsInLog_8 : decode cX3_wordsInLog 8 = .ok (.iconst 3, 1) := by decide +kernel
theorem dX3_wordsInLog_9 : decode cX3_wordsInLog 9 = .ok (.if_icmp .ge 21, 3) := by decide +kernel
theorem dX3_wordsInLog_12 : decode cX3_wordsInLog 12 = .ok (.iload_n 1, 1) := by decide +kernel
theorem dX3_wordsInLog_13 : decode cX3_wordsInLog 13 = .ok (.aload_n 0, 1) := by decide +kernel
theorem dX3_wordsInLog_14 : decode cX3_wordsInLog 14 = .ok (.getfield 26, 3) := by decide +kernel
theorem dX3_wordsInLog_17 : decode cX3_wordsInLog 17 = .ok (.iload_n 2, 1) := by decide +kernel
theorem dX3_wordsInLog_18 : decode cX3_wordsInLog 18 = .ok (.aaload, 1) := by decide +kernel
theorem dX3_wordsInLog_19 : decode cX3_wordsInLog 19 = .ok (.getfield 134, 3) := by decide +kernel
theorem dX3_wordsInLog_22 : decode cX3_wordsInLog 22 = .ok (.iadd, 1) := by decide +kernel
theorem dX3_wordsInLog_23 : decode cX3_wordsInLog 23 = .ok (.istore_n 1, 1) := by decide +kernel
theorem dX3_wordsInLog_24 : decode cX3_wordsInLog 24 = .ok (.iinc 2 1, 3) := by decide +kernel
theorem dX3_wordsInLog_27 : decode cX3_wordsInLog 27 = .ok (.goto (-20), 3) := by decide +kernel
theorem dX3_wordsInLog_30 : decode cX3_wordsInLog 30 = .ok (.iload_n 1, 1) := by decide +kernel
theorem dX3_wordsInLog_31 : decode cX3_wordsInLog 31 = .ok (.ireturn, 1) := by decide +kernel
theorem dX3_writeRecord_0 : decode cX3_writeRecord 0 = .ok (.aload_n 0, 1) := by decide +kernel
theorem dX3_writeRecord_1 : decode cX3_writeRecord 1 = .ok (.invokevirtual 140, 3) := by decide +kernel
theorem dX3_writeRecord_4 : decode cX3_writeRecord 4 = .ok (.iload_n 2, 1) := by decide +kernel
theorem dX3_writeRecord_5 : decode cX3_writeRecord 5 = .ok (.iadd, 1) := by decide +kernel
theorem dX3_writeRecord_6 : decode cX3_writeRecord 6 = .ok (.sipush 150, 3) := by decide +kernel
theorem dX3_writeRecord_9 : decode cX3_writeRecord 9 = .ok (.if_icmp .le 13, 3) := by decide +kernel
theorem dX3_writeRecord_12 : decode cX3_writeRecord 12 = .ok (.new 200, 3) := by decide +kernel
theorem dX3_writeRecord_15 : decode cX3_writeRecord 15 = .ok (.dup, 1) := by decide +kernel
theorem dX3_writeRecord_16 : decode cX3_writeRecord 16 = .ok (.ldc 202, 2) := by decide +kernel
theorem dX3_writeRecord_18 : decode cX3_writeRecord 18 = .ok (.invokespecial 204, 3) := by decide +kernel
theorem dX3_writeRecord_21 : decode cX3_writeRecord 21 = .ok (.athrow, 1) := by decide +kernel
theorem dX3_writeRecord_22 : decode cX3_writeRecord 22 = .ok (.aload_n 1, 1) := by decide +kernel
theorem dX3_writeRecord_23 : decode cX3_writeRecord 23 = .ok (.dup, 1) := by decide +kernel
theorem dX3_writeRecord_24 : decode cX3_writeRecord 24 = .ok (.getfield 134, 3) := by decide +kernel
theorem dX3_writeRecord_27 : decode cX3_writeRecord 27 = .ok (.iload_n 2, 1) := by decide +kernel
theorem dX3_writeRecord_28 : decode cX3_writeRecord 28 = .ok (.iadd, 1) := by decide +kernel
theorem dX3_writeRecord_29 : decode cX3_writeRecord 29 = .ok (.putfield 134, 3) := by decide +kernel
theorem dX3_writeRecord_32 : decode cX3_writeRecord 32 = .ok (.return_, 1) := by decide +kernel
theorem dX3_end_0 : decode cX3_end 0 = .ok (.iconst 0, 1) := by decide +kernel
theorem dX3_end_1 : decode cX3_end 1 = .ok (.istore_n 3, 1) := by decide +kernel
theorem dX3_end_2 : decode cX3_end 2 = .ok (.iconst 0, 1) := by decide +kernel
theorem dX3_end_3 : decode cX3_end 3 = .ok (.istore 4, 2) := by decide +kernel
theorem dX3_end_5 : decode cX3_end 5 = .ok (.iload 4, 2) := by decide +kernel
theorem dX3_end_7 : decode cX3_end 7 = .ok (.iconst 4, 1) := by decide +kernel
theorem dX3_end_8 : decode cX3_end 8 = .ok (.if_icmp .ge 27, 3) := by decide +kernel
theorem dX3_end_11 : decode cX3_end 11 = .ok (.iload_n 3, 1) := by decide +kernel
theorem dX3_end_12 : decode cX3_end 12 = .ok (.aload_n 0, 1) := by decide +kernel
theorem dX3_end_13 : decode cX3_end 13 = .ok (.getfield 11, 3) := by decide +kernel
theorem dX3_end_16 : decode cX3_end 16 = .ok (.iload 4, 2) := by decide +kernel
theorem dX3_end_18 : decode cX3_end 18 = .ok (.aaload, 1) := by decide +kernel
theorem dX3_end_19 : decode cX3_end 19 = .ok (.aload_n 1, 1) := by decide +kernel
theorem dX3_end_20 : decode cX3_end 20 = .ok (.getfield 43, 3) := by decide +kernel
theorem dX3_end_23 : decode cX3_end 23 = .ok (.iload_n 2, 1) := by decide +kernel
theorem dX3_end_24 : decode cX3_end 24 = .ok (.invokevirtual 205, 3) := by decide +kernel
theorem dX3_end_27 : decode cX3_end 27 = .ok (.iadd, 1) := by decide +kernel
theorem dX3_end_28 : decode cX3_end 28 = .ok (.istore_n 3, 1) := by decide +kernel
theorem dX3_end_29 : decode cX3_end 29 = .ok (.iinc 4 1, 3) := by decide +kernel
theorem dX3_end_32 : decode cX3_end 32 = .ok (.goto (-27), 3) := by decide +kernel
theorem dX3_end_35 : decode cX3_end 35 = .ok (.iconst 0, 1) := by decide +kernel
theorem dX3_end_36 : decode cX3_end 36 = .ok (.istore 4, 2) := by decide +kernel
theorem dX3_end_38 : decode cX3_end 38 = .ok (.iload 4, 2) := by decide +kernel
theorem dX3_end_40 : decode cX3_end 40 = .ok (.aload_n 0, 1) := by decide +kernel
theorem dX3_end_41 : decode cX3_end 41 = .ok (.getfield 60, 3) := by decide +kernel
theorem dX3_end_44 : decode cX3_end 44 = .ok (.if_icmp .ge 27, 3) := by decide +kernel
theorem dX3_end_47 : decode cX3_end 47 = .ok (.iload_n 3, 1) := by decide +kernel
theorem dX3_end_48 : decode cX3_end 48 = .ok (.aload_n 0, 1) := by decide +kernel
theorem dX3_end_49 : decode cX3_end 49 = .ok (.getfield 18, 3) := by decide +kernel
theorem dX3_end_52 : decode cX3_end 52 = .ok (.iload 4, 2) := by decide +kernel
theorem dX3_end_54 : decode cX3_end 54 = .ok (.aaload, 1) := by decide +kernel
theorem dX3_end_55 : decode cX3_end 55 = .ok (.aload_n 1, 1) := by decide +kernel
theorem dX3_end_56 : decode cX3_end 56 = .ok (.getfield 43, 3) := by decide +kernel
theorem dX3_end_59 : decode cX3_end 59 = .ok (.iload_n 2, 1) := by decide +kernel
theorem dX3_end_60 : decode cX3_end 60 = .ok (.invokevirtual 205, 3) := by decide +kernel
theorem dX3_end_63 : decode cX3_end 63 = .ok (.iadd, 1) := by decide +kernel
theorem dX3_end_64 : decode cX3_end 64 = .ok (.istore_n 3, 1) := by decide +kernel
theorem dX3_end_65 : decode cX3_end 65 = .ok (.iinc 4 1, 3) := by decide +kernel
theorem dX3_end_68 : decode cX3_end 68 = .ok (.goto (-30), 3) := by decide +kernel
theorem dX3_end_71 : decode cX3_end 71 = .ok (.aload_n 1, 1) := by decide +kernel
theorem dX3_end_72 : decode cX3_end 72 = .ok (.iconst 0, 1) := by decide +kernel
theorem dX3_end_73 : decode cX3_end 73 = .ok (.putfield 43, 3) := by decide +kernel
theorem dX3_end_76 : decode cX3_end 76 = .ok (.aload_n 1, 1) := by decide +kernel
theorem dX3_end_77 : decode cX3_end 77 = .ok (.iconst 0, 1) := by decide +kernel
theorem dX3_end_78 : decode cX3_end 78 = .ok (.putfield 134, 3) := by decide +kernel
theorem dX3_end_81 : decode cX3_end 81 = .ok (.iload_n 3, 1) := by decide +kernel
theorem dX3_end_82 : decode cX3_end 82 = .ok (.ireturn, 1) := by decide +kernel
theorem dX3_findHeld_0 : decode cX3_findHeld 0 = .ok (.aload_n 0, 1) := by decide +kernel
theorem dX3_findHeld_1 : decode cX3_findHeld 1 = .ok (.iconst 0, 1) := by decide +kernel
theorem dX3_findHeld_2 : decode cX3_findHeld 2 = .ok (.putfield 150, 3) := by decide +kernel
theorem dX3_findHeld_5 : decode cX3_findHeld 5 = .ok (.iconst 0, 1) := by decide +kernel
theorem dX3_findHeld_6 : decode cX3_findHeld 6 = .ok (.istore_n 1, 1) := by decide +kernel
theorem dX3_findHeld_7 : decode cX3_findHeld 7 = .ok (.iload_n 1, 1) := by decide +kernel
theorem dX3_findHeld_8 : decode cX3_findHeld 8 = .ok (.aload_n 0, 1) := by decide +kernel
theorem dX3_findHeld_9 : decode cX3_findHeld 9 = .ok (.getfield 60, 3) := by decide +kernel
theorem dX3_findHeld_12 : decode cX3_findHeld 12 = .ok (.if_icmp .ge 19, 3) := by decide +kernel
theorem dX3_findHeld_15 : decode cX3_findHeld 15 = .ok (.aload_n 0, 1) := by decide +kernel
theorem dX3_findHeld_16 : decode cX3_findHeld 16 = .ok (.getfield 18, 3) := by decide +kernel
theorem dX3_findHeld_19 : decode cX3_findHeld 19 = .ok (.iload_n 1, 1) := by decide +kernel
theorem dX3_findHeld_20 : decode cX3_findHeld 20 = .ok (.aaload, 1) := by decide +kernel
theorem dX3_findHeld_21 : decode cX3_findHeld 21 = .ok (.iconst 0, 1) := by decide +kernel
theorem dX3_findHeld_22 : decode cX3_findHeld 22 = .ok (.putfield 209, 3) := by decide +kernel
theorem dX3_findHeld_25 : decode cX3_findHeld 25 = .ok (.iinc 1 1, 3) := by decide +kernel
theorem dX3_findHeld_28 : decode cX3_findHeld 28 = .ok (.goto (-21), 3) := by decide +kernel
theorem dX3_findHeld_31 : decode cX3_findHeld 31 = .ok (.iconst 0, 1) := by decide +kernel
theorem dX3_findHeld_32 : decode cX3_findHeld 32 = .ok (.istore_n 1, 1) := by decide +kernel
theorem dX3_findHeld_33 : decode cX3_findHeld 33 = .ok (.iload_n 1, 1) := by decide +kernel
theorem dX3_findHeld_34 : decode cX3_findHeld 34 = .ok (.iconst 4, 1) := by decide +kernel
theorem dX3_findHeld_35 : decode cX3_findHeld 35 = .ok (.if_icmp .ge 19, 3) := by decide +kernel
theorem dX3_findHeld_38 : decode cX3_findHeld 38 = .ok (.aload_n 0, 1) := by decide +kernel
theorem dX3_findHeld_39 : decode cX3_findHeld 39 = .ok (.aload_n 0, 1) := by decide +kernel
theorem dX3_findHeld_40 : decode cX3_findHeld 40 = .ok (.getfield 11, 3) := by decide +kernel
theorem dX3_findHeld_43 : decode cX3_findHeld 43 = .ok (.iload_n 1, 1) := by decide +kernel
theorem dX3_findHeld_44 : decode cX3_findHeld 44 = .ok (.aaload, 1) := by decide +kernel
theorem dX3_findHeld_45 : decode cX3_findHeld 45 = .ok (.invokevirtual 212, 3) := by decide +kernel
theorem dX3_findHeld_48 : decode cX3_findHeld 48 = .ok (.iinc 1 1, 3) := by decide +kernel
theorem dX3_findHeld_51 : decode cX3_findHeld 51 = .ok (.goto (-18), 3) := by decide +kernel
theorem dX3_findHeld_54 : decode cX3_findHeld 54 = .ok (.iconst 0, 1) := by decide +kernel
theorem dX3_findHeld_55 : decode cX3_findHeld 55 = .ok (.istore_n 1, 1) := by decide +kernel
theorem dX3_findHeld_56 : decode cX3_findHeld 56 = .ok (.iload_n 1, 1) := by decide +kernel
theorem dX3_findHeld_57 : decode cX3_findHeld 57 = .ok (.aload_n 0, 1) := by decide +kernel
theorem dX3_findHeld_58 : decode cX3_findHeld 58 = .ok (.getfield 60, 3) := by decide +kernel
theorem dX3_findHeld_61 : decode cX3_findHeld 61 = .ok (.if_icmp .ge 31, 3) := by decide +kernel
theorem dX3_findHeld_64 : decode cX3_findHeld 64 = .ok (.aload_n 0, 1) := by decide +kernel
theorem dX3_findHeld_65 : decode cX3_findHeld 65 = .ok (.getfield 18, 3) := by decide +kernel
theorem dX3_findHeld_68 : decode cX3_findHeld 68 = .ok (.iload_n 1, 1) := by decide +kernel
theorem dX3_findHeld_69 : decode cX3_findHeld 69 = .ok (.aaload, 1) := by decide +kernel
theorem dX3_findHeld_70 : decode cX3_findHeld 70 = .ok (.getfield 71, 3) := by decide +kernel
theorem dX3_findHeld_73 : decode cX3_findHeld 73 = .ok (.ifCond .eq 13, 3) := by decide +kernel
theorem dX3_findHeld_76 : decode cX3_findHeld 76 = .ok (.aload_n 0, 1) := by decide +kernel
theorem dX3_findHeld_77 : decode cX3_findHeld 77 = .ok (.aload_n 0, 1) := by decide +kernel
theorem dX3_findHeld_78 : decode cX3_findHeld 78 = .ok (.getfield 18, 3) := by decide +kernel
theorem dX3_findHeld_81 : decode cX3_findHeld 81 = .ok (.iload_n 1, 1) := by decide +kernel
theorem dX3_findHeld_82 : decode cX3_findHeld 82 = .ok (.aaload, 1) := by decide +kernel
theorem dX3_findHeld_83 : decode cX3_findHeld 83 = .ok (.invokevirtual 215, 3) := by decide +kernel
theorem dX3_findHeld_86 : decode cX3_findHeld 86 = .ok (.iinc 1 1, 3) := by decide +kernel
theorem dX3_findHeld_89 : decode cX3_findHeld 89 = .ok (.goto (-33), 3) := by decide +kernel
theorem dX3_findHeld_92 : decode cX3_findHeld 92 = .ok (.iconst 0, 1) := by decide +kernel
theorem dX3_findHeld_93 : decode cX3_findHeld 93 = .ok (.istore_n 1, 1) := by decide +kernel
theorem dX3_findHeld_94 : decode cX3_findHeld 94 = .ok (.iload_n 1, 1) := by decide +kernel
theorem dX3_findHeld_95 : decode cX3_findHeld 95 = .ok (.aload_n 0, 1) := by decide +kernel
theorem dX3_findHeld_96 : decode cX3_findHeld 96 = .ok (.getfield 150, 3) := by decide +kernel
theorem dX3_findHeld_99 : decode cX3_findHeld 99 = .ok (.if_icmp .ge 28, 3) := by decide +kernel
theorem dX3_findHeld_102 : decode cX3_findHeld 102 = .ok (.iload_n 1, 1) := by decide +kernel
theorem dX3_findHeld_103 : decode cX3_findHeld 103 = .ok (.aload_n 0, 1) := by decide +kernel
theorem dX3_findHeld_104 : decode cX3_findHeld 104 = .ok (.getfield 21, 3) := by decide +kernel
theorem dX3_findHeld_107 : decode cX3_findHeld 107 = .ok (.arraylength, 1) := by decide +kernel
theorem dX3_findHeld_108 : decode cX3_findHeld 108 = .ok (.if_icmp .ge 19, 3) := by decide +kernel
theorem dX3_findHeld_111 : decode cX3_findHeld 111 = .ok (.aload_n 0, 1) := by decide +kernel
theorem dX3_findHeld_112 : decode cX3_findHeld 112 = .ok (.aload_n 0, 1) := by decide +kernel
theorem dX3_findHeld_113 : decode cX3_findHeld 113 = .ok (.getfield 21, 3) := by decide +kernel
theorem dX3_findHeld_116 : decode cX3_findHeld 116 = .ok (.iload_n 1, 1) := by decide +kernel
theorem dX3_findHeld_117 : decode cX3_findHeld 117 = .ok (.aaload, 1) := by decide +kernel
theorem dX3_findHeld_118 : decode cX3_findHeld 118 = .ok (.invokevirtual 212, 3) := by decide +kernel
theorem dX3_findHeld_121 : decode cX3_findHeld 121 = .ok (.iinc 1 1, 3) := by decide +kernel
theorem dX3_findHeld_124 : decode cX3_findHeld 124 = .ok (.goto (-30), 3) := by decide +kernel
theorem dX3_findHeld_127 : decode cX3_findHeld 127 = .ok (.return_, 1) := by decide +kernel
theorem dX3_holdTargets_0 : decode cX3_holdTargets 0 = .ok (.iconst 0, 1) := by decide +kernel
theorem dX3_holdTargets_1 : decode cX3_holdTargets 1 = .ok (.istore_n 2, 1) := by decide +kernel
theorem dX3_holdTargets_2 : decode cX3_holdTargets 2 = .ok (.iload_n 2, 1) := by decide +kernel
theorem dX3_holdTargets_3 : decode cX3_holdTargets 3 = .ok (.aload_n 1, 1) := by decide +kernel
theorem dX3_holdTargets_4 : decode cX3_holdTargets 4 = .ok (.getfield 103, 3) := by decide +kernel
theorem dX3_holdTargets_7 : decode cX3_holdTargets 7 = .ok (.arraylength, 1) := by decide +kernel
theorem dX3_holdTargets_8 : decode cX3_holdTargets 8 = .ok (.if_icmp .ge 35, 3) := by decide +kernel
theorem dX3_holdTargets_11 : decode cX3_holdTargets 11 = .ok (.aload_n 0, 1) := by decide +kernel
theorem dX3_holdTargets_12 : decode cX3_holdTargets 12 = .ok (.aload_n 1, 1) := by decide +kernel
theorem dX3_holdTargets_13 : decode cX3_holdTargets 13 = .ok (.getfield 103, 3) := by decide +kernel
theorem dX3_holdTargets_16 : decode cX3_holdTargets 16 = .ok (.iload_n 2, 1) := by decide +kernel
theorem dX3_holdTargets_17 : decode cX3_holdTargets 17 = .ok (.aaload, 1) := by decide +kernel
theorem dX3_holdTargets_18 : decode cX3_holdTargets 18 = .ok (.getfield 123, 3) := by decide +kernel
theorem dX3_holdTargets_21 : decode cX3_holdTargets 21 = .ok (.invokevirtual 215, 3) := by decide +kernel
theorem dX3_holdTargets_24 : decode cX3_holdTargets 24 = .ok (.aload_n 0, 1) := by decide +kernel
theorem dX3_holdTargets_25 : decode cX3_holdTargets 25 = .ok (.aload_n 1, 1) := by decide +kernel
theorem dX3_holdTargets_26 : decode cX3_holdTargets 26 = .ok (.getfield 103, 3) := by decide +kernel
theorem dX3_holdTargets_29 : decode cX3_holdTargets 29 = .ok (.iload_n 2, 1) := by decide +kernel
theorem dX3_holdTargets_30 : decode cX3_holdTargets 30 = .ok (.aaload, 1) := by decide +kernel
theorem dX3_holdTargets_31 : decode cX3_holdTargets 31 = .ok (.getfield 218, 3) := by decide +kernel
theorem dX3_holdTargets_34 : decode cX3_holdTargets 34 = .ok (.invokevirtual 215, 3) := by decide +kernel
theorem dX3_holdTargets_37 : decode cX3_holdTargets 37 = .ok (.iinc 2 1, 3) := by decide +kernel
theorem dX3_holdTargets_40 : decode cX3_holdTargets 40 = .ok (.goto (-38), 3) := by decide +kernel
theorem dX3_holdTargets_43 : decode cX3_holdTargets 43 = .ok (.return_, 1) := by decide +kernel
theorem dX3_hold_0 : decode cX3_hold 0 = .ok (.aload_n 1, 1) := by decide +kernel
theorem dX3_hold_1 : decode cX3_hold 1 = .ok (.ifnull 47, 3) := by decide +kernel
theorem dX3_hold_4 : decode cX3_hold 4 = .ok (.aload_n 1, 1) := by decide +kernel
theorem dX3_hold_5 : decode cX3_hold 5 = .ok (.getfield 209, 3) := by decide +kernel
theorem dX3_hold_8 : decode cX3_hold 8 = .ok (.ifCond .ne 40, 3) := by decide +kernel
theorem dX3_hold_11 : decode cX3_hold 11 = .ok (.aload_n 0, 1) := by decide +kernel
theorem dX3_hold_12 : decode cX3_hold 12 = .ok (.getfield 150, 3) := by decide +kernel
theorem dX3_hold_15 : decode cX3_hold 15 = .ok (.aload_n 0, 1) := by decide +kernel
theorem dX3_hold_16 : decode cX3_hold 16 = .ok (.getfield 21, 3) := by decide +kernel
theorem dX3_hold_19 : decode cX3_hold 19 = .ok (.arraylength, 1) := by decide +kernel
theorem dX3_hold_20 : decode cX3_hold 20 = .ok (.if_icmp .ge 28, 3) := by decide +kernel
theorem dX3_hold_23 : decode cX3_hold 23 = .ok (.aload_n 1, 1) := by decide +kernel
theorem dX3_hold_24 : decode cX3_hold 24 = .ok (.iconst 1, 1) := by decide +kernel
theorem dX3_hold_25 : decode cX3_hold 25 = .ok (.putfield 209, 3) := by decide +kernel
theorem dX3_hold_28 : decode cX3_hold 28 = .ok (.aload_n 0, 1) := by decide +kernel
theorem dX3_hold_29 : decode cX3_hold 29 = .ok (.getfield 21, 3) := by decide +kernel
theorem dX3_hold_32 : decode cX3_hold 32 = .ok (.aload_n 0, 1) := by decide +kernel
theorem dX3_hold_33 : decode cX3_hold 33 = .ok (.getfield 150, 3) := by decide +kernel
theorem dX3_hold_36 : decode cX3_hold 36 = .ok (.aload_n 1, 1) := by decide +kernel
theorem dX3_hold_37 : decode cX3_hold 37 = .ok (.aastore, 1) := by decide +kernel
theorem dX3_hold_38 : decode cX3_hold 38 = .ok (.aload_n 0, 1) := by decide +kernel
theorem dX3_hold_39 : decode cX3_hold 39 = .ok (.dup, 1) := by decide +kernel
theorem dX3_hold_40 : decode cX3_hold 40 = .ok (.getfield 150, 3) := by decide +kernel
theorem dX3_hold_43 : decode cX3_hold 43 = .ok (.iconst 1, 1) := by decide +kernel
theorem dX3_hold_44 : decode cX3_hold 44 = .ok (.iadd, 1) := by decide +kernel
theorem dX3_hold_45 : decode cX3_hold 45 = .ok (.putfield 150, 3) := by decide +kernel
theorem dX3_hold_48 : decode cX3_hold 48 = .ok (.return_, 1) := by decide +kernel
theorem dX3_flip_0 : decode cX3_flip 0 = .ok (.iconst 0, 1) := by decide +kernel
theorem dX3_flip_1 : decode cX3_flip 1 = .ok (.istore_n 1, 1) := by decide +kernel
theorem dX3_flip_2 : decode cX3_flip 2 = .ok (.aload_n 0, 1) := by decide +kernel
theorem dX3_flip_3 : decode cX3_flip 3 = .ok (.iconst 0, 1) := by decide +kernel
theorem dX3_flip_4 : decode cX3_flip 4 = .ok (.putfield 57, 3) := by decide +kernel
theorem dX3_flip_7 : decode cX3_flip 7 = .ok (.iconst 0, 1) := by decide +kernel
theorem dX3_flip_8 : decode cX3_flip 8 = .ok (.istore_n 2, 1) := by decide +kernel
theorem dX3_flip_9 : decode cX3_flip 9 = .ok (.iload_n 2, 1) := by decide +kernel
theorem dX3_flip_10 : decode cX3_flip 10 = .ok (.aload_n 0, 1) := by decide +kernel
theorem dX3_flip_11 : decode cX3_flip 11 = .ok (.getfield 60, 3) := by decide +kernel
theorem dX3_flip_14 : decode cX3_flip 14 = .ok (.if_icmp .ge 54, 3) := by decide +kernel
theorem dX3_flip_17 : decode cX3_flip 17 = .ok (.aload_n 0, 1) := by decide +kernel
theorem dX3_flip_18 : decode cX3_flip 18 = .ok (.getfield 18, 3) := by decide +kernel
theorem dX3_flip_21 : decode cX3_flip 21 = .ok (.iload_n 2, 1) := by decide +kernel
theorem dX3_flip_22 : decode cX3_flip 22 = .ok (.aaload, 1) := by decide +kernel
theorem dX3_flip_23 : decode cX3_flip 23 = .ok (.getfield 209, 3) := by decide +kernel
theorem dX3_flip_26 : decode cX3_flip 26 = .ok (.ifCond .eq 36, 3) := by decide +kernel
theorem dX3_flip_29 : decode cX3_flip 29 = .ok (.aload_n 0, 1) := by decide +kernel
theorem dX3_flip_30 : decode cX3_flip 30 = .ok (.getfield 18, 3) := by decide +kernel
theorem dX3_flip_33 : decode cX3_flip 33 = .ok (.iload_n 1, 1) := by decide +kernel
theorem dX3_flip_34 : decode cX3_flip 34 = .ok (.aload_n 0, 1) := by decide +kernel
theorem dX3_flip_35 : decode cX3_flip 35 = .ok (.getfield 18, 3) := by decide +kernel
theorem dX3_flip_38 : decode cX3_flip 38 = .ok (.iload_n 2, 1) := by decide +kernel
theorem dX3_flip_39 : decode cX3_flip 39 = .ok (.aaload, 1) := by decide +kernel
theorem dX3_flip_40 : decode cX3_flip 40 = .ok (.aastore, 1) := by decide +kernel
theorem dX3_flip_41 : decode cX3_flip 41 = .ok (.aload_n 0, 1) := by decide +kernel
theorem dX3_flip_42 : decode cX3_flip 42 = .ok (.dup, 1) := by decide +kernel
theorem dX3_flip_43 : decode cX3_flip 43 = .ok (.getfield 57, 3) := by decide +kernel
theorem dX3_flip_46 : decode cX3_flip 46 = .ok (.aload_n 0, 1) := by decide +kernel
theorem dX3_flip_47 : decode cX3_flip 47 = .ok (.getfield 18, 3) := by decide +kernel
theorem dX3_flip_50 : decode cX3_flip 50 = .ok (.iload_n 1, 1) := by decide +kernel
theorem dX3_flip_51 : decode cX3_flip 51 = .ok (.aaload, 1) := by decide +kernel
theorem dX3_flip_52 : decode cX3_flip 52 = .ok (.invokevirtual 74, 3) := by decide +kernel
theorem dX3_flip_55 : decode cX3_flip 55 = .ok (.iadd, 1) := by decide +kernel
theorem dX3_flip_56 : decode cX3_flip 56 = .ok (.putfield 57, 3) := by decide +kernel
theorem dX3_flip_59 : decode cX3_flip 59 = .ok (.iinc 1 1, 3) := by decide +kernel
theorem dX3_flip_62 : decode cX3_flip 62 = .ok (.iinc 2 1, 3) := by decide +kernel
theorem dX3_flip_65 : decode cX3_flip 65 = .ok (.goto (-56), 3) := by decide +kernel
theorem dX3_flip_68 : decode cX3_flip 68 = .ok (.aload_n 0, 1) := by decide +kernel
theorem dX3_flip_69 : decode cX3_flip 69 = .ok (.iload_n 1, 1) := by decide +kernel
theorem dX3_flip_70 : decode cX3_flip 70 = .ok (.putfield 60, 3) := by decide +kernel
theorem dX3_flip_73 : decode cX3_flip 73 = .ok (.aload_n 0, 1) := by decide +kernel
theorem dX3_flip_74 : decode cX3_flip 74 = .ok (.dup, 1) := by decide +kernel
theorem dX3_flip_75 : decode cX3_flip 75 = .ok (.getfield 170, 3) := by decide +kernel
theorem dX3_flip_78 : decode cX3_flip 78 = .ok (.iconst 1, 1) := by decide +kernel
theorem dX3_flip_79 : decode cX3_flip 79 = .ok (.iadd, 1) := by decide +kernel
theorem dX3_flip_80 : decode cX3_flip 80 = .ok (.putfield 170, 3) := by decide +kernel
theorem dX3_flip_83 : decode cX3_flip 83 = .ok (.return_, 1) := by decide +kernel
theorem dX0_init_0 : decode cX0_init 0 = .ok (.aload_n 0, 1) := by decide +kernel
theorem dX0_init_1 : decode cX0_init 1 = .ok (.invokespecial 1, 3) := by decide +kernel
theorem dX0_init_4 : decode cX0_init 4 = .ok (.aload_n 0, 1) := by decide +kernel
theorem dX0_init_5 : decode cX0_init 5 = .ok (.iload_n 1, 1) := by decide +kernel
theorem dX0_init_6 : decode cX0_init 6 = .ok (.putfield 7, 3) := by decide +kernel
theorem dX0_init_9 : decode cX0_init 9 = .ok (.aload_n 0, 1) := by decide +kernel
theorem dX0_init_10 : decode cX0_init 10 = .ok (.iload_n 2, 1) := by decide +kernel
theorem dX0_init_11 : decode cX0_init 11 = .ok (.anewarray 13, 3) := by decide +kernel
theorem dX0_init_14 : decode cX0_init 14 = .ok (.putfield 15, 3) := by decide +kernel
theorem dX0_init_17 : decode cX0_init 17 = .ok (.iconst 0, 1) := by decide +kernel
theorem dX0_init_18 : decode cX0_init 18 = .ok (.istore_n 3, 1) := by decide +kernel
theorem dX0_init_19 : decode cX0_init 19 = .ok (.iload_n 3, 1) := by decide +kernel
theorem dX0_init_20 : decode cX0_init 20 = .ok (.iload_n 2, 1) := by decide +kernel
theorem dX0_init_21 : decode cX0_init 21 = .ok (.if_icmp .ge 22, 3) := by decide +kernel
theorem dX0_init_24 : decode cX0_init 24 = .ok (.aload_n 0, 1) := by decide +kernel
theorem dX0_init_25 : decode cX0_init 25 = .ok (.getfield 15, 3) := by decide +kernel
theorem dX0_init_28 : decode cX0_init 28 = .ok (.iload_n 3, 1) := by decide +kernel
theorem dX0_init_29 : decode cX0_init 29 = .ok (.new 13, 3) := by decide +kernel
theorem dX0_init_32 : decode cX0_init 32 = .ok (.dup, 1) := by decide +kernel
theorem dX0_init_33 : decode cX0_init 33 = .ok (.invokespecial 19, 3) := by decide +kernel
theorem dX0_init_36 : decode cX0_init 36 = .ok (.aastore, 1) := by decide +kernel
theorem dX0_init_37 : decode cX0_init 37 = .ok (.iinc 3 1, 3) := by decide +kernel
theorem dX0_init_40 : decode cX0_init 40 = .ok (.goto (-21), 3) := by decide +kernel
theorem dX0_init_43 : decode cX0_init 43 = .ok (.return_, 1) := by decide +kernel
theorem dX0_words_0 : decode cX0_words 0 = .ok (.iconst 1, 1) := by decide +kernel
theorem dX0_words_1 : decode cX0_words 1 = .ok (.aload_n 0, 1) := by decide +kernel
theorem dX0_words_2 : decode cX0_words 2 = .ok (.getfield 15, 3) := by decide +kernel
theorem dX0_words_5 : decode cX0_words 5 = .ok (.arraylength, 1) := by decide +kernel
theorem dX0_words_6 : decode cX0_words 6 = .ok (.iadd, 1) := by decide +kernel
theorem dX0_words_7 : decode cX0_words 7 = .ok (.ireturn, 1) := by decide +kernel
theorem dX0_unlock_0 : decode cX0_unlock 0 = .ok (.aload_n 0, 1) := by decide +kernel
theorem dX0_unlock_1 : decode cX0_unlock 1 = .ok (.getfield 20, 3) := by decide +kernel
theorem dX0_unlock_4 : decode cX0_unlock 4 = .ok (.iload_n 1, 1) := by decide +kernel
theorem dX0_unlock_5 : decode cX0_unlock 5 = .ok (.if_icmp .eq 5, 3) := by decide +kernel
theorem dX0_unlock_8 : decode cX0_unlock 8 = .ok (.iconst 0, 1) := by decide +kernel
theorem dX0_unlock_9 : decode cX0_unlock 9 = .ok (.ireturn, 1) := by decide +kernel
theorem dX0_unlock_10 : decode cX0_unlock 10 = .ok (.aload_n 0, 1) := by decide +kernel
theorem dX0_unlock_11 : decode cX0_unlock 11 = .ok (.iconst 0, 1) := by decide +kernel
theorem dX0_unlock_12 : decode cX0_unlock 12 = .ok (.putfield 20, 3) := by decide +kernel
theorem dX0_unlock_15 : decode cX0_unlock 15 = .ok (.iconst 0, 1) := by decide +kernel
theorem dX0_unlock_16 : decode cX0_unlock 16 = .ok (.istore_n 3, 1) := by decide +kernel
theorem dX0_unlock_17 : decode cX0_unlock 17 = .ok (.iload_n 3, 1) := by decide +kernel
theorem dX0_unlock_18 : decode cX0_unlock 18 = .ok (.aload_n 0, 1) := by decide +kernel
theorem dX0_unlock_19 : decode cX0_unlock 19 = .ok (.getfield 15, 3) := by decide +kernel
theorem dX0_unlock_22 : decode cX0_unlock 22 = .ok (.arraylength, 1) := by decide +kernel
theorem dX0_unlock_23 : decode cX0_unlock 23 = .ok (.if_icmp .ge 31, 3) := by decide +kernel
theorem dX0_unlock_26 : decode cX0_unlock 26 = .ok (.iload_n 2, 1) := by decide +kernel
theorem dX0_unlock_27 : decode cX0_unlock 27 = .ok (.ifCond .ne 12, 3) := by decide +kernel
theorem dX0_unlock_30 : decode cX0_unlock 30 = .ok (.aload_n 0, 1) := by decide +kernel
theorem dX0_unlock_31 : decode cX0_unlock 31 = .ok (.getfield 15, 3) := by decide +kernel
theorem dX0_unlock_34 : decode cX0_unlock 34 = .ok (.iload_n 3, 1) := by decide +kernel
theorem dX0_unlock_35 : decode cX0_unlock 35 = .ok (.aaload, 1) := by decide +kernel
theorem dX0_unlock_36 : decode cX0_unlock 36 = .ok (.invokevirtual 23, 3) := by decide +kernel
theorem dX0_unlock_39 : decode cX0_unlock 39 = .ok (.aload_n 0, 1) := by decide +kernel
theorem dX0_unlock_40 : decode cX0_unlock 40 = .ok (.getfield 15, 3) := by decide +kernel
theorem dX0_unlock_43 : decode cX0_unlock 43 = .ok (.iload_n 3, 1) := by decide +kernel
theorem dX0_unlock_44 : decode cX0_unlock 44 = .ok (.aaload, 1) := by decide +kernel
theorem dX0_unlock_45 : decode cX0_unlock 45 = .ok (.invokevirtual 26, 3) := by decide +kernel
theorem dX0_unlock_48 : decode cX0_unlock 48 = .ok (.iinc 3 1, 3) := by decide +kernel
theorem dX0_unlock_51 : decode cX0_unlock 51 = .ok (.goto (-34), 3) := by decide +kernel
theorem dX0_unlock_54 : decode cX0_unlock 54 = .ok (.iconst 1, 1) := by decide +kernel
theorem dX0_unlock_55 : decode cX0_unlock 55 = .ok (.ireturn, 1) := by decide +kernel
theorem dX1_init_0 : decode cX1_init 0 = .ok (.aload_n 0, 1) := by decide +kernel
theorem dX1_init_1 : decode cX1_init 1 = .ok (.invokespecial 1, 3) := by decide +kernel
theorem dX1_init_4 : decode cX1_init 4 = .ok (.return_, 1) := by decide +kernel
theorem dX1_putNumber_0 : decode cX1_putNumber 0 = .ok (.aload_n 0, 1) := by decide +kernel
theorem dX1_putNumber_1 : decode cX1_putNumber 1 = .ok (.invokevirtual 7, 3) := by decide +kernel
theorem dX1_putNumber_4 : decode cX1_putNumber 4 = .ok (.aload_n 0, 1) := by decide +kernel
theorem dX1_putNumber_5 : decode cX1_putNumber 5 = .ok (.iconst 0, 1) := by decide +kernel
theorem dX1_putNumber_6 : decode cX1_putNumber 6 = .ok (.putfield 12, 3) := by decide +kernel
theorem dX1_putNumber_9 : decode cX1_putNumber 9 = .ok (.aload_n 0, 1) := by decide +kernel
theorem dX1_putNumber_10 : decode cX1_putNumber 10 = .ok (.iload_n 1, 1) := by decide +kernel
theorem dX1_putNumber_11 : decode cX1_putNumber 11 = .ok (.putfield 16, 3) := by decide +kernel
theorem dX1_putNumber_14 : decode cX1_putNumber 14 = .ok (.aload_n 0, 1) := by decide +kernel
theorem dX1_putNumber_15 : decode cX1_putNumber 15 = .ok (.aconst_null, 1) := by decide +kernel
theorem dX1_putNumber_16 : decode cX1_putNumber 16 = .ok (.putfield 20, 3) := by decide +kernel
theorem dX1_putNumber_19 : decode cX1_putNumber 19 = .ok (.return_, 1) := by decide +kernel
theorem dX1_putReference_0 : decode cX1_putReference 0 = .ok (.aload_n 0, 1) := by decide +kernel
theorem dX1_putReference_1 : decode cX1_putReference 1 = .ok (.invokevirtual 7, 3) := by decide +kernel
theorem dX1_putReference_4 : decode cX1_putReference 4 = .ok (.aload_n 0, 1) := by decide +kernel
theorem dX1_putReference_5 : decode cX1_putReference 5 = .ok (.iconst 1, 1) := by decide +kernel
theorem dX1_putReference_6 : decode cX1_putReference 6 = .ok (.putfield 12, 3) := by decide +kernel
theorem dX1_putReference_9 : decode cX1_putReference 9 = .ok (.aload_n 0, 1) := by decide +kernel
theorem dX1_putReference_10 : decode cX1_putReference 10 = .ok (.iconst 0, 1) := by decide +kernel
theorem dX1_putReference_11 : decode cX1_putReference 11 = .ok (.putfield 16, 3) := by decide +kernel
theorem dX1_putReference_14 : decode cX1_putReference 14 = .ok (.aload_n 0, 1) := by decide +kernel
theorem dX1_putReference_15 : decode cX1_putReference 15 = .ok (.aload_n 1, 1) := by decide +kernel
theorem dX1_putReference_16 : decode cX1_putReference 16 = .ok (.putfield 20, 3) := by decide +kernel
theorem dX1_putReference_19 : decode cX1_putReference 19 = .ok (.return_, 1) := by decide +kernel
theorem dX1_takeBack_0 : decode cX1_takeBack 0 = .ok (.aload_n 0, 1) := by decide +kernel
theorem dX1_takeBack_1 : decode cX1_takeBack 1 = .ok (.getfield 24, 3) := by decide +kernel
theorem dX1_takeBack_4 : decode cX1_takeBack 4 = .ok (.ifCond .eq 27, 3) := by decide +kernel
theorem dX1_takeBack_7 : decode cX1_takeBack 7 = .ok (.aload_n 0, 1) := by decide +kernel
theorem dX1_takeBack_8 : decode cX1_takeBack 8 = .ok (.aload_n 0, 1) := by decide +kernel
theorem dX1_takeBack_9 : decode cX1_takeBack 9 = .ok (.getfield 27, 3) := by decide +kernel
theorem dX1_takeBack_12 : decode cX1_takeBack 12 = .ok (.putfield 12, 3) := by decide +kernel
theorem dX1_takeBack_15 : decode cX1_takeBack 15 = .ok (.aload_n 0, 1) := by decide +kernel
theorem dX1_takeBack_16 : decode cX1_takeBack 16 = .ok (.aload_n 0, 1) := by decide +kernel
theorem dX1_takeBack_17 : decode cX1_takeBack 17 = .ok (.getfield 30, 3) := by decide +kernel
theorem dX1_takeBack_20 : decode cX1_takeBack 20 = .ok (.putfield 16, 3) := by decide +kernel
theorem dX1_takeBack_23 : decode cX1_takeBack 23 = .ok (.aload_n 0, 1) := by decide +kernel
theorem dX1_takeBack_24 : decode cX1_takeBack 24 = .ok (.aload_n 0, 1) := by decide +kernel
theorem dX1_takeBack_25 : decode cX1_takeBack 25 = .ok (.getfield 33, 3) := by decide +kernel
theorem dX1_takeBack_28 : decode cX1_takeBack 28 = .ok (.putfield 20, 3) := by decide +kernel
theorem dX1_takeBack_31 : decode cX1_takeBack 31 = .ok (.return_, 1) := by decide +kernel
theorem dX1_forgetFormer_0 : decode cX1_forgetFormer 0 = .ok (.aload_n 0, 1) := by decide +kernel
theorem dX1_forgetFormer_1 : decode cX1_forgetFormer 1 = .ok (.iconst 0, 1) := by decide +kernel
theorem dX1_forgetFormer_2 : decode cX1_forgetFormer 2 = .ok (.putfield 24, 3) := by decide +kernel
theorem dX1_forgetFormer_5 : decode cX1_forgetFormer 5 = .ok (.aload_n 0, 1) := by decide +kernel
theorem dX1_forgetFormer_6 : decode cX1_forgetFormer 6 = .ok (.aconst_null, 1) := by decide +kernel
theorem dX1_forgetFormer_7 : decode cX1_forgetFormer 7 = .ok (.putfield 33, 3) := by decide +kernel
theorem dX1_forgetFormer_10 : decode cX1_forgetFormer 10 = .ok (.return_, 1) := by decide +kernel
theorem dX1_rememberFormer_0 : decode cX1_rememberFormer 0 = .ok (.aload_n 0, 1) := by decide +kernel
theorem dX1_rememberFormer_1 : decode cX1_rememberFormer 1 = .ok (.getfield 24, 3) := by decide +kernel
theorem dX1_rememberFormer_4 : decode cX1_rememberFormer 4 = .ok (.ifCond .ne 32, 3) := by decide +kernel
theorem dX1_rememberFormer_7 : decode cX1_rememberFormer 7 = .ok (.aload_n 0, 1) := by decide +kernel
theorem dX1_rememberFormer_8 : decode cX1_rememberFormer 8 = .ok (.iconst 1, 1) := by decide +kernel
theorem dX1_rememberFormer_9 : decode cX1_rememberFormer 9 = .ok (.putfield 24, 3) := by decide +kernel
theorem dX1_rememberFormer_12 : decode cX1_rememberFormer 12 = .ok (.aload_n 0, 1) := by decide +kernel
theorem dX1_rememberFormer_13 : decode cX1_rememberFormer 13 = .ok (.aload_n 0, 1) := by decide +kernel
theorem dX1_rememberFormer_14 : decode cX1_rememberFormer 14 = .ok (.getfield 12, 3) := by decide +kernel
theorem dX1_rememberFormer_17 : decode cX1_rememberFormer 17 = .ok (.putfield 27, 3) := by decide +kernel
theorem dX1_rememberFormer_20 : decode cX1_rememberFormer 20 = .ok (.aload_n 0, 1) := by decide +kernel
theorem dX1_rememberFormer_21 : decode cX1_rememberFormer 21 = .ok (.aload_n 0, 1) := by decide +kernel
theorem dX1_rememberFormer_22 : decode cX1_rememberFormer 22 = .ok (.getfield 16, 3) := by decide +kernel
theorem dX1_rememberFormer_25 : decode cX1_rememberFormer 25 = .ok (.putfield 30, 3) := by decide +kernel
theorem dX1_rememberFormer_28 : decode cX1_rememberFormer 28 = .ok (.aload_n 0, 1) := by decide +kernel
theorem dX1_rememberFormer_29 : decode cX1_rememberFormer 29 = .ok (.aload_n 0, 1) := by decide +kernel
theorem dX1_rememberFormer_30 : decode cX1_rememberFormer 30 = .ok (.getfield 20, 3) := by decide +kernel
theorem dX1_rememberFormer_33 : decode cX1_rememberFormer 33 = .ok (.putfield 33, 3) := by decide +kernel
theorem dX1_rememberFormer_36 : decode cX1_rememberFormer 36 = .ok (.return_, 1) := by decide +kernel
theorem dX2_init_0 : decode cX2_init 0 = .ok (.aload_n 0, 1) := by decide +kernel
theorem dX2_init_1 : decode cX2_init 1 = .ok (.invokespecial 1, 3) := by decide +kernel
theorem dX2_init_4 : decode cX2_init 4 = .ok (.return_, 1) := by decide +kernel
theorem dX2_isActive_0 : decode cX2_isActive 0 = .ok (.aload_n 0, 1) := by decide +kernel
theorem dX2_isActive_1 : decode cX2_isActive 1 = .ok (.getfield 7, 3) := by decide +kernel
theorem dX2_isActive_4 : decode cX2_isActive 4 = .ok (.ifCond .eq 7, 3) := by decide +kernel
theorem dX2_isActive_7 : decode cX2_isActive 7 = .ok (.iconst 1, 1) := by decide +kernel
theorem dX2_isActive_8 : decode cX2_isActive 8 = .ok (.goto 4, 3) := by decide +kernel
theorem dX2_isActive_11 : decode cX2_isActive 11 = .ok (.iconst 0, 1) := by decide +kernel
theorem dX2_isActive_12 : decode cX2_isActive 12 = .ok (.ireturn, 1) := by decide +kernel
