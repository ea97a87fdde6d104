/-! decode rows -/
theorem dX4_init_0 : decode cX4_init 0 = .ok (.aload_n 0, 1) := by decide +kernel
theorem dX4_init_1 : decode cX4_init 1 = .ok (.invokespecial 1, 3) := by decide +kernel
theorem dX4_init_4 : decode cX4_init 4 = .ok (.aload_n 0, 1) := by decide +kernel
theorem dX4_init_5 : decode cX4_init 5 = .ok (.bipush 80, 2) := by decide +kernel
theorem dX4_init_7 : decode cX4_init 7 = .ok (.newarray .int, 2) := by decide +kernel
theorem dX4_init_9 : decode cX4_init 9 = .ok (.putfield 7, 3) := by decide +kernel
theorem dX4_init_12 : decode cX4_init 12 = .ok (.aload_n 0, 1) := by decide +kernel
theorem dX4_init_13 : decode cX4_init 13 = .ok (.bipush 80, 2) := by decide +kernel
theorem dX4_init_15 : decode cX4_init 15 = .ok (.newarray .int, 2) := by decide +kernel
theorem dX4_init_17 : decode cX4_init 17 = .ok (.putfield 13, 3) := by decide +kernel
theorem dX4_init_20 : decode cX4_init 20 = .ok (.aload_n 0, 1) := by decide +kernel
theorem dX4_init_21 : decode cX4_init 21 = .ok (.bipush 80, 2) := by decide +kernel
theorem dX4_init_23 : decode cX4_init 23 = .ok (.newarray .int, 2) := by decide +kernel
theorem dX4_init_25 : decode cX4_init 25 = .ok (.putfield 16, 3) := by decide +kernel
theorem dX4_init_28 : decode cX4_init 28 = .ok (.aload_n 0, 1) := by decide +kernel
theorem dX4_init_29 : decode cX4_init 29 = .ok (.sipush 320, 3) := by decide +kernel
theorem dX4_init_32 : decode cX4_init 32 = .ok (.newarray .boolean, 2) := by decide +kernel
theorem dX4_init_34 : decode cX4_init 34 = .ok (.putfield 19, 3) := by decide +kernel
theorem dX4_init_37 : decode cX4_init 37 = .ok (.aload_n 0, 1) := by decide +kernel
theorem dX4_init_38 : decode cX4_init 38 = .ok (.sipush 320, 3) := by decide +kernel
theorem dX4_init_41 : decode cX4_init 41 = .ok (.newarray .int, 2) := by decide +kernel
theorem dX4_init_43 : decode cX4_init 43 = .ok (.putfield 23, 3) := by decide +kernel
theorem dX4_init_46 : decode cX4_init 46 = .ok (.aload_n 0, 1) := by decide +kernel
theorem dX4_init_47 : decode cX4_init 47 = .ok (.bipush 80, 2) := by decide +kernel
theorem dX4_init_49 : decode cX4_init 49 = .ok (.newarray .boolean, 2) := by decide +kernel
theorem dX4_init_51 : decode cX4_init 51 = .ok (.putfield 26, 3) := by decide +kernel
theorem dX4_init_54 : decode cX4_init 54 = .ok (.aload_n 0, 1) := by decide +kernel
theorem dX4_init_55 : decode cX4_init 55 = .ok (.iconst 4, 1) := by decide +kernel
theorem dX4_init_56 : decode cX4_init 56 = .ok (.newarray .int, 2) := by decide +kernel
theorem dX4_init_58 : decode cX4_init 58 = .ok (.putfield 29, 3) := by decide +kernel
theorem dX4_init_61 : decode cX4_init 61 = .ok (.aload_n 0, 1) := by decide +kernel
theorem dX4_init_62 : decode cX4_init 62 = .ok (.iconst 4, 1) := by decide +kernel
theorem dX4_init_63 : decode cX4_init 63 = .ok (.newarray .int, 2) := by decide +kernel
theorem dX4_init_65 : decode cX4_init 65 = .ok (.putfield 32, 3) := by decide +kernel
theorem dX4_init_68 : decode cX4_init 68 = .ok (.aload_n 0, 1) := by decide +kernel
theorem dX4_init_69 : decode cX4_init 69 = .ok (.iconst 3, 1) := by decide +kernel
theorem dX4_init_70 : decode cX4_init 70 = .ok (.newarray .int, 2) := by decide +kernel
theorem dX4_init_72 : decode cX4_init 72 = .ok (.putfield 35, 3) := by decide +kernel
theorem dX4_init_75 : decode cX4_init 75 = .ok (.aload_n 0, 1) := by decide +kernel
theorem dX4_init_76 : decode cX4_init 76 = .ok (.iconst 3, 1) := by decide +kernel
theorem dX4_init_77 : decode cX4_init 77 = .ok (.newarray .int, 2) := by decide +kernel
theorem dX4_init_79 : decode cX4_init 79 = .ok (.putfield 38, 3) := by decide +kernel
theorem dX4_init_82 : decode cX4_init 82 = .ok (.aload_n 0, 1) := by decide +kernel
theorem dX4_init_83 : decode cX4_init 83 = .ok (.bipush 60, 2) := by decide +kernel
theorem dX4_init_85 : decode cX4_init 85 = .ok (.newarray .int, 2) := by decide +kernel
theorem dX4_init_87 : decode cX4_init 87 = .ok (.putfield 41, 3) := by decide +kernel
theorem dX4_init_90 : decode cX4_init 90 = .ok (.aload_n 0, 1) := by decide +kernel
theorem dX4_init_91 : decode cX4_init 91 = .ok (.bipush 60, 2) := by decide +kernel
theorem dX4_init_93 : decode cX4_init 93 = .ok (.newarray .int, 2) := by decide +kernel
theorem dX4_init_95 : decode cX4_init 95 = .ok (.putfield 44, 3) := by decide +kernel
theorem dX4_init_98 : decode cX4_init 98 = .ok (.aload_n 0, 1) := by decide +kernel
theorem dX4_init_99 : decode cX4_init 99 = .ok (.bipush 60, 2) := by decide +kernel
theorem dX4_init_101 : decode cX4_init 101 = .ok (.newarray .boolean, 2) := by decide +kernel
theorem dX4_init_103 : decode cX4_init 103 = .ok (.putfield 47, 3) := by decide +kernel
theorem dX4_init_106 : decode cX4_init 106 = .ok (.aload_n 0, 1) := by decide +kernel
theorem dX4_init_107 : decode cX4_init 107 = .ok (.bipush 60, 2) := by decide +kernel
theorem dX4_init_109 : decode cX4_init 109 = .ok (.newarray .int, 2) := by decide +kernel
theorem dX4_init_111 : decode cX4_init 111 = .ok (.putfield 50, 3) := by decide +kernel
theorem dX4_init_114 : decode cX4_init 114 = .ok (.return_, 1) := by decide +kernel
theorem dX4_thrown_0 : decode cX4_thrown 0 = .ok (.aload_n 0, 1) := by decide +kernel
theorem dX4_thrown_1 : decode cX4_thrown 1 = .ok (.getfield 53, 3) := by decide +kernel
theorem dX4_thrown_4 : decode cX4_thrown 4 = .ok (.ireturn, 1) := by decide +kernel
theorem dX4_raise_0 : decode cX4_raise 0 = .ok (.aload_n 0, 1) := by decide +kernel
theorem dX4_raise_1 : decode cX4_raise 1 = .ok (.iload_n 1, 1) := by decide +kernel
theorem dX4_raise_2 : decode cX4_raise 2 = .ok (.putfield 53, 3) := by decide +kernel
theorem dX4_raise_5 : decode cX4_raise 5 = .ok (.iconst 0, 1) := by decide +kernel
theorem dX4_raise_6 : decode cX4_raise 6 = .ok (.ireturn, 1) := by decide +kernel
theorem dX4_out_0 : decode cX4_out 0 = .ok (.iload_n 0, 1) := by decide +kernel
theorem dX4_out_1 : decode cX4_out 1 = .ok (.ifCond .lt 8, 3) := by decide +kernel
theorem dX4_out_4 : decode cX4_out 4 = .ok (.iload_n 0, 1) := by decide +kernel
theorem dX4_out_5 : decode cX4_out 5 = .ok (.iload_n 1, 1) := by decide +kernel
theorem dX4_out_6 : decode cX4_out 6 = .ok (.if_icmp .le 7, 3) := by decide +kernel
theorem dX4_out_9 : decode cX4_out 9 = .ok (.iconst 1, 1) := by decide +kernel
theorem dX4_out_10 : decode cX4_out 10 = .ok (.goto 4, 3) := by decide +kernel
theorem dX4_out_13 : decode cX4_out 13 = .ok (.iconst 0, 1) := by decide +kernel
theorem dX4_out_14 : decode cX4_out 14 = .ok (.ireturn, 1) := by decide +kernel
theorem dX4_place_0 : decode cX4_place 0 = .ok (.iconst 0, 1) := by decide +kernel
theorem dX4_place_1 : decode cX4_place 1 = .ok (.istore_n 2, 1) := by decide +kernel
theorem dX4_place_2 : decode cX4_place 2 = .ok (.iload_n 2, 1) := by decide +kernel
theorem dX4_place_3 : decode cX4_place 3 = .ok (.iconst 3, 1) := by decide +kernel
theorem dX4_place_4 : decode cX4_place 4 = .ok (.if_icmp .ge 25, 3) := by decide +kernel
theorem dX4_place_7 : decode cX4_place 7 = .ok (.iload_n 1, 1) := by decide +kernel
theorem dX4_place_8 : decode cX4_place 8 = .ok (.ifCond .le 15, 3) := by decide +kernel
theorem dX4_place_11 : decode cX4_place 11 = .ok (.aload_n 0, 1) := by decide +kernel
theorem dX4_place_12 : decode cX4_place 12 = .ok (.getfield 35, 3) := by decide +kernel
theorem dX4_place_15 : decode cX4_place 15 = .ok (.iload_n 2, 1) := by decide +kernel
theorem dX4_place_16 : decode cX4_place 16 = .ok (.iaload, 1) := by decide +kernel
theorem dX4_place_17 : decode cX4_place 17 = .ok (.iload_n 1, 1) := by decide +kernel
theorem dX4_place_18 : decode cX4_place 18 = .ok (.if_icmp .ne 5, 3) := by decide +kernel
theorem dX4_place_21 : decode cX4_place 21 = .ok (.iload_n 2, 1) := by decide +kernel
theorem dX4_place_22 : decode cX4_place 22 = .ok (.ireturn, 1) := by decide +kernel
theorem dX4_place_23 : decode cX4_place 23 = .ok (.iinc 2 1, 3) := by decide +kernel
theorem dX4_place_26 : decode cX4_place 26 = .ok (.goto (-24), 3) := by decide +kernel
theorem dX4_place_29 : decode cX4_place 29 = .ok (.iconst (-1), 1) := by decide +kernel
theorem dX4_place_30 : decode cX4_place 30 = .ok (.ireturn, 1) := by decide +kernel
theorem dX4_row_0 : decode cX4_row 0 = .ok (.iconst 0, 1) := by decide +kernel
theorem dX4_row_1 : decode cX4_row 1 = .ok (.istore_n 2, 1) := by decide +kernel
theorem dX4_row_2 : decode cX4_row 2 = .ok (.iload_n 2, 1) := by decide +kernel
theorem dX4_row_3 : decode cX4_row 3 = .ok (.bipush 80, 2) := by decide +kernel
theorem dX4_row_5 : decode cX4_row 5 = .ok (.if_icmp .ge 25, 3) := by decide +kernel
theorem dX4_row_8 : decode cX4_row 8 = .ok (.iload_n 1, 1) := by decide +kernel
theorem dX4_row_9 : decode cX4_row 9 = .ok (.ifCond .le 15, 3) := by decide +kernel
theorem dX4_row_12 : decode cX4_row 12 = .ok (.aload_n 0, 1) := by decide +kernel
theorem dX4_row_13 : decode cX4_row 13 = .ok (.getfield 7, 3) := by decide +kernel
theorem dX4_row_16 : decode cX4_row 16 = .ok (.iload_n 2, 1) := by decide +kernel
theorem dX4_row_17 : decode cX4_row 17 = .ok (.iaload, 1) := by decide +kernel
theorem dX4_row_18 : decode cX4_row 18 = .ok (.iload_n 1, 1) := by decide +kernel
theorem dX4_row_19 : decode cX4_row 19 = .ok (.if_icmp .ne 5, 3) := by decide +kernel
theorem dX4_row_22 : decode cX4_row 22 = .ok (.iload_n 2, 1) := by decide +kernel
theorem dX4_row_23 : decode cX4_row 23 = .ok (.ireturn, 1) := by decide +kernel
theorem dX4_row_24 : decode cX4_row 24 = .ok (.iinc 2 1, 3) := by decide +kernel
theorem dX4_row_27 : decode cX4_row 27 = .ok (.goto (-25), 3) := by decide +kernel
theorem dX4_row_30 : decode cX4_row 30 = .ok (.iconst (-1), 1) := by decide +kernel
theorem dX4_row_31 : decode cX4_row 31 = .ok (.ireturn, 1) := by decide +kernel
theorem dX4_log_0 : decode cX4_log 0 = .ok (.aload_n 0, 1) := by decide +kernel
theorem dX4_log_1 : decode cX4_log 1 = .ok (.getfield 57, 3) := by decide +kernel
theorem dX4_log_4 : decode cX4_log 4 = .ok (.aload_n 0, 1) := by decide +kernel
theorem dX4_log_5 : decode cX4_log 5 = .ok (.getfield 38, 3) := by decide +kernel
theorem dX4_log_8 : decode cX4_log 8 = .ok (.iconst 0, 1) := by decide +kernel
theorem dX4_log_9 : decode cX4_log 9 = .ok (.iaload, 1) := by decide +kernel
theorem dX4_log_10 : decode cX4_log 10 = .ok (.iadd, 1) := by decide +kernel
theorem dX4_log_11 : decode cX4_log 11 = .ok (.aload_n 0, 1) := by decide +kernel
theorem dX4_log_12 : decode cX4_log 12 = .ok (.getfield 38, 3) := by decide +kernel
theorem dX4_log_15 : decode cX4_log 15 = .ok (.iconst 1, 1) := by decide +kernel
theorem dX4_log_16 : decode cX4_log 16 = .ok (.iaload, 1) := by decide +kernel
theorem dX4_log_17 : decode cX4_log 17 = .ok (.iadd, 1) := by decide +kernel
theorem dX4_log_18 : decode cX4_log 18 = .ok (.aload_n 0, 1) := by decide +kernel
theorem dX4_log_19 : decode cX4_log 19 = .ok (.getfield 38, 3) := by decide +kernel
theorem dX4_log_22 : decode cX4_log 22 = .ok (.iconst 2, 1) := by decide +kernel
theorem dX4_log_23 : decode cX4_log 23 = .ok (.iaload, 1) := by decide +kernel
theorem dX4_log_24 : decode cX4_log 24 = .ok (.iadd, 1) := by decide +kernel
theorem dX4_log_25 : decode cX4_log 25 = .ok (.ireturn, 1) := by decide +kernel
theorem dX4_actives_0 : decode cX4_actives 0 = .ok (.iconst 0, 1) := by decide +kernel
theorem dX4_actives_1 : decode cX4_actives 1 = .ok (.istore_n 1, 1) := by decide +kernel
theorem dX4_actives_2 : decode cX4_actives 2 = .ok (.iconst 0, 1) := by decide +kernel
theorem dX4_actives_3 : decode cX4_actives 3 = .ok (.istore_n 2, 1) := by decide +kernel
theorem dX4_actives_4 : decode cX4_actives 4 = .ok (.iload_n 2, 1) := by decide +kernel
theorem dX4_actives_5 : decode cX4_actives 5 = .ok (.iconst 3, 1) := by decide +kernel
theorem dX4_actives_6 : decode cX4_actives 6 = .ok (.if_icmp .ge 21, 3) := by decide +kernel
theorem dX4_actives_9 : decode cX4_actives 9 = .ok (.aload_n 0, 1) := by decide +kernel
theorem dX4_actives_10 : decode cX4_actives 10 = .ok (.getfield 35, 3) := by decide +kernel
theorem dX4_actives_13 : decode cX4_actives 13 = .ok (.iload_n 2, 1) := by decide +kernel
theorem dX4_actives_14 : decode cX4_actives 14 = .ok (.iaload, 1) := by decide +kernel
theorem dX4_actives_15 : decode cX4_actives 15 = .ok (.ifCond .le 6, 3) := by decide +kernel
theorem dX4_actives_18 : decode cX4_actives 18 = .ok (.iinc 1 1, 3) := by decide +kernel
theorem dX4_actives_21 : decode cX4_actives 21 = .ok (.iinc 2 1, 3) := by decide +kernel
theorem dX4_actives_24 : decode cX4_actives 24 = .ok (.goto (-20), 3) := by decide +kernel
theorem dX4_actives_27 : decode cX4_actives 27 = .ok (.iload_n 1, 1) := by decide +kernel
theorem dX4_actives_28 : decode cX4_actives 28 = .ok (.ireturn, 1) := by decide +kernel
theorem dX4_begin_0 : decode cX4_begin 0 = .ok (.aload_n 0, 1) := by decide +kernel
theorem dX4_begin_1 : decode cX4_begin 1 = .ok (.iconst 0, 1) := by decide +kernel
theorem dX4_begin_2 : decode cX4_begin 2 = .ok (.putfield 53, 3) := by decide +kernel
theorem dX4_begin_5 : decode cX4_begin 5 = .ok (.aload_n 0, 1) := by decide +kernel
theorem dX4_begin_6 : decode cX4_begin 6 = .ok (.invokevirtual 60, 3) := by decide +kernel
theorem dX4_begin_9 : decode cX4_begin 9 = .ok (.iconst 3, 1) := by decide +kernel
theorem dX4_begin_10 : decode cX4_begin 10 = .ok (.if_icmp .ne 9, 3) := by decide +kernel
theorem dX4_begin_13 : decode cX4_begin 13 = .ok (.aload_n 0, 1) := by decide +kernel
theorem dX4_begin_14 : decode cX4_begin 14 = .ok (.iconst 1, 1) := by decide +kernel
theorem dX4_begin_15 : decode cX4_begin 15 = .ok (.invokevirtual 64, 3) := by decide +kernel
theorem dX4_begin_18 : decode cX4_begin 18 = .ok (.ireturn, 1) := by decide +kernel
theorem dX4_begin_19 : decode cX4_begin 19 = .ok (.aload_n 0, 1) := by decide +kernel
theorem dX4_begin_20 : decode cX4_begin 20 = .ok (.invokevirtual 68, 3) := by decide +kernel
theorem dX4_begin_23 : decode cX4_begin 23 = .ok (.iconst 1, 1) := by decide +kernel
theorem dX4_begin_24 : decode cX4_begin 24 = .ok (.iadd, 1) := by decide +kernel
theorem dX4_begin_25 : decode cX4_begin 25 = .ok (.sipush 150, 3) := by decide +kernel
theorem dX4_begin_28 : decode cX4_begin 28 = .ok (.if_icmp .le 9, 3) := by decide +kernel
theorem dX4_begin_31 : decode cX4_begin 31 = .ok (.aload_n 0, 1) := by decide +kernel
theorem dX4_begin_32 : decode cX4_begin 32 = .ok (.iconst 2, 1) := by decide +kernel
theorem dX4_begin_33 : decode cX4_begin 33 = .ok (.invokevirtual 64, 3) := by decide +kernel
theorem dX4_begin_36 : decode cX4_begin 36 = .ok (.ireturn, 1) := by decide +kernel
theorem dX4_begin_37 : decode cX4_begin 37 = .ok (.iconst 0, 1) := by decide +kernel
theorem dX4_begin_38 : decode cX4_begin 38 = .ok (.istore_n 1, 1) := by decide +kernel
theorem dX4_begin_39 : decode cX4_begin 39 = .ok (.aload_n 0, 1) := by decide +kernel
theorem dX4_begin_40 : decode cX4_begin 40 = .ok (.getfield 35, 3) := by decide +kernel
theorem dX4_begin_43 : decode cX4_begin 43 = .ok (.iload_n 1, 1) := by decide +kernel
theorem dX4_begin_44 : decode cX4_begin 44 = .ok (.iaload, 1) := by decide +kernel
theorem dX4_begin_45 : decode cX4_begin 45 = .ok (.ifCond .le 9, 3) := by decide +kernel
theorem dX4_begin_48 : decode cX4_begin 48 = .ok (.iinc 1 1, 3) := by decide +kernel
theorem dX4_begin_51 : decode cX4_begin 51 = .ok (.goto (-12), 3) := by decide +kernel
theorem dX4_begin_54 : decode cX4_begin 54 = .ok (.aload_n 0, 1) := by decide +kernel
theorem dX4_begin_55 : decode cX4_begin 55 = .ok (.dup, 1) := by decide +kernel
theorem dX4_begin_56 : decode cX4_begin 56 = .ok (.getfield 71, 3) := by decide +kernel
theorem dX4_begin_59 : decode cX4_begin 59 = .ok (.iconst 1, 1) := by decide +kernel
theorem dX4_begin_60 : decode cX4_begin 60 = .ok (.iadd, 1) := by decide +kernel
theorem dX4_begin_61 : decode cX4_begin 61 = .ok (.putfield 71, 3) := by decide +kernel
theorem dX4_begin_64 : decode cX4_begin 64 = .ok (.aload_n 0, 1) := by decide +kernel
theorem dX4_begin_65 : decode cX4_begin 65 = .ok (.getfield 35, 3) := by decide +kernel
theorem dX4_begin_68 : decode cX4_begin 68 = .ok (.iload_n 1, 1) := by decide +kernel
theorem dX4_begin_69 : decode cX4_begin 69 = .ok (.aload_n 0, 1) := by decide +kernel
theorem dX4_begin_70 : decode cX4_begin 70 = .ok (.getfield 71, 3) := by decide +kernel
theorem dX4_begin_73 : decode cX4_begin 73 = .ok (.iastore, 1) := by decide +kernel
theorem dX4_begin_74 : decode cX4_begin 74 = .ok (.aload_n 0, 1) := by decide +kernel
theorem dX4_begin_75 : decode cX4_begin 75 = .ok (.getfield 38, 3) := by decide +kernel
theorem dX4_begin_78 : decode cX4_begin 78 = .ok (.iload_n 1, 1) := by decide +kernel
theorem dX4_begin_79 : decode cX4_begin 79 = .ok (.iconst 1, 1) := by decide +kernel
theorem dX4_begin_80 : decode cX4_begin 80 = .ok (.iastore, 1) := by decide +kernel
theorem dX4_begin_81 : decode cX4_begin 81 = .ok (.aload_n 0, 1) := by decide +kernel
theorem dX4_begin_82 : decode cX4_begin 82 = .ok (.getfield 71, 3) := by decide +kernel
theorem dX4_begin_85 : decode cX4_begin 85 = .ok (.ireturn, 1) := by decide +kernel
theorem dX4_make_0 : decode cX4_make 0 = .ok (.aload_n 0, 1) := by decide +kernel
theorem dX4_make_1 : decode cX4_make 1 = .ok (.iconst 0, 1) := by decide +kernel
theorem dX4_make_2 : decode cX4_make 2 = .ok (.putfield 53, 3) := by decide +kernel
theorem dX4_make_5 : decode cX4_make 5 = .ok (.aload_n 0, 1) := by decide +kernel
theorem dX4_make_6 : decode cX4_make 6 = .ok (.iload_n 1, 1) := by decide +kernel
theorem dX4_make_7 : decode cX4_make 7 = .ok (.invokevirtual 74, 3) := by decide +kernel
theorem dX4_make_10 : decode cX4_make 10 = .ok (.istore_n 3, 1) := by decide +kernel
theorem dX4_make_11 : decode cX4_make 11 = .ok (.iload_n 3, 1) := by decide +kernel
theorem dX4_make_12 : decode cX4_make 12 = .ok (.ifCond .ge 9, 3) := by decide +kernel
theorem dX4_make_15 : decode cX4_make 15 = .ok (.aload_n 0, 1) := by decide +kernel
theorem dX4_make_16 : decode cX4_make 16 = .ok (.iconst 1, 1) := by decide +kernel
theorem dX4_make_17 : decode cX4_make 17 = .ok (.invokevirtual 64, 3) := by decide +kernel
theorem dX4_make_20 : decode cX4_make 20 = .ok (.ireturn, 1) := by decide +kernel
theorem dX4_make_21 : decode cX4_make 21 = .ok (.iload_n 2, 1) := by decide +kernel
theorem dX4_make_22 : decode cX4_make 22 = .ok (.iconst 4, 1) := by decide +kernel
theorem dX4_make_23 : decode cX4_make 23 = .ok (.invokestatic 77, 3) := by decide +kernel
theorem dX4_make_26 : decode cX4_make 26 = .ok (.ifCond .eq 9, 3) := by decide +kernel
theorem dX4_make_29 : decode cX4_make 29 = .ok (.aload_n 0, 1) := by decide +kernel
theorem dX4_make_30 : decode cX4_make 30 = .ok (.iconst 2, 1) := by decide +kernel
theorem dX4_make_31 : decode cX4_make 31 = .ok (.invokevirtual 64, 3) := by decide +kernel
theorem dX4_make_34 : decode cX4_make 34 = .ok (.ireturn, 1) := by decide +kernel
theorem dX4_make_35 : decode cX4_make 35 = .ok (.aload_n 0, 1) := by decide +kernel
theorem dX4_make_36 : decode cX4_make 36 = .ok (.getfield 81, 3) := by decide +kernel
theorem dX4_make_39 : decode cX4_make 39 = .ok (.iconst 1, 1) := by decide +kernel
theorem dX4_make_40 : decode cX4_make 40 = .ok (.iadd, 1) := by decide +kernel
theorem dX4_make_41 : decode cX4_make 41 = .ok (.iload_n 2, 1) := by decide +kernel
theorem dX4_make_42 : decode cX4_make 42 = .ok (.iadd, 1) := by decide +kernel
theorem dX4_make_43 : decode cX4_make 43 = .ok (.bipush 80, 2) := by decide +kernel
theorem dX4_make_45 : decode cX4_make 45 = .ok (.if_icmp .le 9, 3) := by decide +kernel
theorem dX4_make_48 : decode cX4_make 48 = .ok (.aload_n 0, 1) := by decide +kernel
theorem dX4_make_49 : decode cX4_make 49 = .ok (.iconst 3, 1) := by decide +kernel
theorem dX4_make_50 : decode cX4_make 50 = .ok (.invokevirtual 64, 3) := by decide +kernel
theorem dX4_make_53 : decode cX4_make 53 = .ok (.ireturn, 1) := by decide +kernel
theorem dX4_make_54 : decode cX4_make 54 = .ok (.aload_n 0, 1) := by decide +kernel
theorem dX4_make_55 : decode cX4_make 55 = .ok (.invokevirtual 68, 3) := by decide +kernel
theorem dX4_make_58 : decode cX4_make 58 = .ok (.iconst 2, 1) := by decide +kernel
theorem dX4_make_59 : decode cX4_make 59 = .ok (.iadd, 1) := by decide +kernel
theorem dX4_make_60 : decode cX4_make 60 = .ok (.sipush 150, 3) := by decide +kernel
theorem dX4_make_63 : decode cX4_make 63 = .ok (.if_icmp .le 9, 3) := by decide +kernel
theorem dX4_make_66 : decode cX4_make 66 = .ok (.aload_n 0, 1) := by decide +kernel
theorem dX4_make_67 : decode cX4_make 67 = .ok (.iconst 4, 1) := by decide +kernel
theorem dX4_make_68 : decode cX4_make 68 = .ok (.invokevirtual 64, 3) := by decide +kernel
theorem dX4_make_71 : decode cX4_make 71 = .ok (.ireturn, 1) := by decide +kernel
theorem dX4_make_72 : decode cX4_make 72 = .ok (.iconst 0, 1) := by decide +kernel
theorem dX4_make_73 : decode cX4_make 73 = .ok (.istore 4, 2) := by decide +kernel
theorem dX4_make_75 : decode cX4_make 75 = .ok (.aload_n 0, 1) := by decide +kernel
theorem dX4_make_76 : decode cX4_make 76 = .ok (.getfield 7, 3) := by decide +kernel
theorem dX4_make_79 : decode cX4_make 79 = .ok (.iload 4, 2) := by decide +kernel
theorem dX4_make_81 : decode cX4_make 81 = .ok (.iaload, 1) := by decide +kernel
theorem dX4_make_82 : decode cX4_make 82 = .ok (.ifCond .le 9, 3) := by decide +kernel
theorem dX4_make_85 : decode cX4_make 85 = .ok (.iinc 4 1, 3) := by decide +kernel
theorem dX4_make_88 : decode cX4_make 88 = .ok (.goto (-13), 3) := by decide +kernel
theorem dX4_make_91 : decode cX4_make 91 = .ok (.aload_n 0, 1) := by decide +kernel
theorem dX4_make_92 : decode cX4_make 92 = .ok (.dup, 1) := by decide +kernel
theorem dX4_make_93 : decode cX4_make 93 = .ok (.getfield 84, 3) := by decide +kernel
theorem dX4_make_96 : decode cX4_make 96 = .ok (.iconst 1, 1) := by decide +kernel
theorem dX4_make_97 : decode cX4_make 97 = .ok (.iadd, 1) := by decide +kernel
theorem dX4_make_98 : decode cX4_make 98 = .ok (.putfield 84, 3) := by decide +kernel
theorem dX4_make_101 : decode cX4_make 101 = .ok (.aload_n 0, 1) := by decide +kernel
theorem dX4_make_102 : decode cX4_make 102 = .ok (.getfield 7, 3) := by decide +kernel
theorem dX4_make_105 : decode cX4_make 105 = .ok (.iload 4, 2) := by decide +kernel
theorem dX4_make_107 : decode cX4_make 107 = .ok (.aload_n 0, 1) := by decide +kernel
theorem dX4_make_108 : decode cX4_make 108 = .ok (.getfield 84, 3) := by decide +kernel
theorem dX4_make_111 : decode cX4_make 111 = .ok (.iastore, 1) := by decide +kernel
theorem dX4_make_112 : decode cX4_make 112 = .ok (.aload_n 0, 1) := by decide +kernel
theorem dX4_make_113 : decode cX4_make 113 = .ok (.getfield 13, 3) := by decide +kernel
theorem dX4_make_116 : decode cX4_make 116 = .ok (.iload 4, 2) := by decide +kernel
theorem dX4_make_118 : decode cX4_make 118 = .ok (.iload_n 2, 1) := by decide +kernel
theorem dX4_make_119 : decode cX4_make 119 = .ok (.iastore, 1) := by decide +kernel
theorem dX4_make_120 : decode cX4_make 120 = .ok (.aload_n 0, 1) := by decide +kernel
theorem dX4_make_121 : decode cX4_make 121 = .ok (.getfield 16, 3) := by decide +kernel
theorem dX4_make_124 : decode cX4_make 124 = .ok (.iload 4, 2) := by decide +kernel
theorem dX4_make_126 : decode cX4_make 126 = .ok (.iload_n 1, 1) := by decide +kernel
theorem dX4_make_127 : decode cX4_make 127 = .ok (.iastore, 1) := by decide +kernel
theorem dX4_make_128 : decode cX4_make 128 = .ok (.iconst 4, 1) := by decide +kernel
theorem dX4_make_129 : decode cX4_make 129 = .ok (.iload 4, 2) := by decide +kernel
theorem dX4_make_131 : decode cX4_make 131 = .ok (.imul, 1) := by decide +kernel
theorem dX4_make_132 : decode cX4_make 132 = .ok (.istore 5, 2) := by decide +kernel
theorem dX4_make_134 : decode cX4_make 134 = .ok (.iload 5, 2) := by decide +kernel
theorem dX4_make_136 : decode cX4_make 136 = .ok (.iconst 4, 1) := by decide +kernel
theorem dX4_make_137 : decode cX4_make 137 = .ok (.iload 4, 2) := by decide +kernel
theorem dX4_make_139 : decode cX4_make 139 = .ok (.imul, 1) := by decide +kernel
theorem dX4_make_140 : decode cX4_make 140 = .ok (.iconst 4, 1) := by decide +kernel
theorem dX4_make_141 : decode cX4_make 141 = .ok (.iadd, 1) := by decide +kernel
theorem dX4_make_142 : decode cX4_make 142 = .ok (.if_icmp .ge 25, 3) := by decide +kernel
theorem dX4_make_145 : decode cX4_make 145 = .ok (.aload_n 0, 1) := by decide +kernel
theorem dX4_make_146 : decode cX4_make 146 = .ok (.getfield 19, 3) := by decide +kernel
theorem dX4_make_149 : decode cX4_make 149 = .ok (.iload 5, 2) := by decide +kernel
theorem dX4_make_151 : decode cX4_make 151 = .ok (.iconst 0, 1) := by decide +kernel
theorem dX4_make_152 : decode cX4_make 152 = .ok (.bastore, 1) := by decide +kernel
theorem dX4_make_153 : decode cX4_make 153 = .ok (.aload_n 0, 1) := by decide +kernel
theorem dX4_make_154 : decode cX4_make 154 = .ok (.getfield 23, 3) := by decide +kernel
theorem dX4_make_157 : decode cX4_make 157 = .ok (.iload 5, 2) := by decide +kernel
theorem dX4_make_159 : decode cX4_make 159 = .ok (.iconst 0, 1) := by decide +kernel
theorem dX4_make_160 : decode cX4_make 160 = .ok (.iastore, 1) := by decide +kernel
theorem dX4_make_161 : decode cX4_make 161 = .ok (.iinc 5 1, 3) := by decide +kernel
theorem dX4_make_164 : decode cX4_make 164 = .ok (.goto (-30), 3) := by decide +kernel
theorem dX4_make_167 : decode cX4_make 167 = .ok (.aload_n 0, 1) := by decide +kernel
theorem dX4_make_168 : decode cX4_make 168 = .ok (.dup, 1) := by decide +kernel
theorem dX4_make_169 : decode cX4_make 169 = .ok (.getfield 81, 3) := by decide +kernel
theorem dX4_make_172 : decode cX4_make 172 = .ok (.iconst 1, 1) := by decide +kernel
theorem dX4_make_173 : decode cX4_make 173 = .ok (.iload_n 2, 1) := by decide +kernel
theorem dX4_make_174 : decode cX4_make 174 = .ok (.iadd, 1) := by decide +kernel
theorem dX4_make_175 : decode cX4_make 175 = .ok (.iadd, 1) := by decide +kernel
theorem dX4_make_176 : decode cX4_make 176 = .ok (.putfield 81, 3) := by decide +kernel
theorem dX4_make_179 : decode cX4_make 179 = .ok (.aload_n 0, 1) := by decide +kernel
theorem dX4_make_180 : decode cX4_make 180 = .ok (.getfield 38, 3) := by decide +kernel
theorem dX4_make_183 : decode cX4_make 183 = .ok (.iload_n 3, 1) := by decide +kernel
theorem dX4_make_184 : decode cX4_make 184 = .ok (.dup2, 1) := by decide +kernel
theorem dX4_make_185 : decode cX4_make 185 = .ok (.iaload, 1) := by decide +kernel
theorem dX4_make_186 : decode cX4_make 186 = .ok (.iconst 2, 1) := by decide +kernel
theorem dX4_make_187 : decode cX4_make 187 = .ok (.iadd, 1) := by decide +kernel
theorem dX4_make_188 : decode cX4_make 188 = .ok (.iastore, 1) := by decide +kernel
theorem dX4_make_189 : decode cX4_make 189 = .ok (.aload_n 0, 1) := by decide +kernel
theorem dX4_make_190 : decode cX4_make 190 = .ok (.getfield 84, 3) := by decide +kernel
theorem dX4_make_193 : decode cX4_make 193 = .ok (.ireturn, 1) := by decide +kernel
theorem dX4_cell_0 : decode cX4_cell 0 = .ok (.aload_n 0, 1) := by decide +kernel
theorem dX4_cell_1 : decode cX4_cell 1 = .ok (.iconst 0, 1) := by decide +kernel
theorem dX4_cell_2 : decode cX4_cell 2 = .ok (.putfield 53, 3) := by decide +kernel
theorem dX4_cell_5 : decode cX4_cell 5 = .ok (.aload_n 0, 1) := by decide +kernel
theorem dX4_cell_6 : decode cX4_cell 6 = .ok (.iload_n 2, 1) := by decide +kernel
theorem dX4_cell_7 : decode cX4_cell 7 = .ok (.invokevirtual 87, 3) := by decide +kernel
theorem dX4_cell_10 : decode cX4_cell 10 = .ok (.istore 4, 2) := by decide +kernel
theorem dX4_cell_12 : decode cX4_cell 12 = .ok (.aload_n 0, 1) := by decide +kernel
theorem dX4_cell_13 : decode cX4_cell 13 = .ok (.iload_n 1, 1) := by decide +kernel
theorem dX4_cell_14 : decode cX4_cell 14 = .ok (.invokevirtual 74, 3) := by decide +kernel
theorem dX4_cell_17 : decode cX4_cell 17 = .ok (.ifCond .lt 8, 3) := by decide +kernel
theorem dX4_cell_20 : decode cX4_cell 20 = .ok (.iload 4, 2) := by decide +kernel
theorem dX4_cell_22 : decode cX4_cell 22 = .ok (.ifCond .ge 11, 3) := by decide +kernel
theorem dX4_cell_25 : decode cX4_cell 25 = .ok (.aload_n 0, 1) := by decide +kernel
theorem dX4_cell_26 : decode cX4_cell 26 = .ok (.iconst 1, 1) := by decide +kernel
theorem dX4_cell_27 : decode cX4_cell 27 = .ok (.putfield 53, 3) := by decide +kernel
theorem dX4_cell_30 : decode cX4_cell 30 = .ok (.goto 53, 3) := by decide +kernel
theorem dX4_cell_33 : decode cX4_cell 33 = .ok (.iload_n 3, 1) := by decide +kernel
theorem dX4_cell_34 : decode cX4_cell 34 = .ok (.aload_n 0, 1) := by decide +kernel
theorem dX4_cell_35 : decode cX4_cell 35 = .ok (.getfield 13, 3) := by decide +kernel
theorem dX4_cell_38 : decode cX4_cell 38 = .ok (.iload 4, 2) := by decide +kernel
theorem dX4_cell_40 : decode cX4_cell 40 = .ok (.iaload, 1) := by decide +kernel
theorem dX4_cell_41 : decode cX4_cell 41 = .ok (.iconst 1, 1) := by decide +kernel
theorem dX4_cell_42 : decode cX4_cell 42 = .ok (.isub, 1) := by decide +kernel
theorem dX4_cell_43 : decode cX4_cell 43 = .ok (.invokestatic 77, 3) := by decide +kernel
theorem dX4_cell_46 : decode cX4_cell 46 = .ok (.ifCond .eq 11, 3) := by decide +kernel
theorem dX4_cell_49 : decode cX4_cell 49 = .ok (.aload_n 0, 1) := by decide +kernel
theorem dX4_cell_50 : decode cX4_cell 50 = .ok (.iconst 2, 1) := by decide +kernel
theorem dX4_cell_51 : decode cX4_cell 51 = .ok (.putfield 53, 3) := by decide +kernel
theorem dX4_cell_54 : decode cX4_cell 54 = .ok (.goto 29, 3) := by decide +kernel
theorem dX4_cell_57 : decode cX4_cell 57 = .ok (.aload_n 0, 1) := by decide +kernel
theorem dX4_cell_58 : decode cX4_cell 58 = .ok (.getfield 16, 3) := by decide +kernel
theorem dX4_cell_61 : decode cX4_cell 61 = .ok (.iload 4, 2) := by decide +kernel
theorem dX4_cell_63 : decode cX4_cell 63 = .ok (.iaload, 1) := by decide +kernel
theorem dX4_cell_64 : decode cX4_cell 64 = .ok (.ifCond .le 19, 3) := by decide +kernel
theorem dX4_cell_67 : decode cX4_cell 67 = .ok (.aload_n 0, 1) := by decide +kernel
theorem dX4_cell_68 : decode cX4_cell 68 = .ok (.getfield 16, 3) := by decide +kernel
theorem dX4_cell_71 : decode cX4_cell 71 = .ok (.iload 4, 2) := by decide +kernel
theorem dX4_cell_73 : decode cX4_cell 73 = .ok (.iaload, 1) := by decide +kernel
theorem dX4_cell_74 : decode cX4_cell 74 = .ok (.iload_n 1, 1) := by decide +kernel
theorem dX4_cell_75 : decode cX4_cell 75 = .ok (.if_icmp .eq 8, 3) := by decide +kernel
theorem dX4_cell_78 : decode cX4_cell 78 = .ok (.aload_n 0, 1) := by decide +kernel
theorem dX4_cell_79 : decode cX4_cell 79 = .ok (.iconst 3, 1) := by decide +kernel
theorem dX4_cell_80 : decode cX4_cell 80 = .ok (.putfield 53, 3) := by decide +kernel
theorem dX4_cell_83 : decode cX4_cell 83 = .ok (.aload_n 0, 1) := by decide +kernel
theorem dX4_cell_84 : decode cX4_cell 84 = .ok (.getfield 53, 3) := by decide +kernel
theorem dX4_cell_87 : decode cX4_cell 87 = .ok (.ifCond .ne 12, 3) := by decide +kernel
theorem dX4_cell_90 : decode cX4_cell 90 = .ok (.iconst 4, 1) := by decide +kernel
theorem dX4_cell_91 : decode cX4_cell 91 = .ok (.iload 4, 2) := by decide +kernel
theorem dX4_cell_93 : decode cX4_cell 93 = .ok (.imul, 1) := by decide +kernel
theorem dX4_cell_94 : decode cX4_cell 94 = .ok (.iload_n 3, 1) := by decide +kernel
theorem dX4_cell_95 : decode cX4_cell 95 = .ok (.iadd, 1) := by decide +kernel
theorem dX4_cell_96 : decode cX4_cell 96 = .ok (.goto 4, 3) := by decide +kernel
theorem dX4_cell_99 : decode cX4_cell 99 = .ok (.iconst (-1), 1) := by decide +kernel
theorem dX4_cell_100 : decode cX4_cell 100 = .ok (.ireturn, 1) := by decide +kernel
theorem dX4_rootCell_0 : decode cX4_rootCell 0 = .ok (.aload_n 0, 1) := by decide +kernel
theorem dX4_rootCell_1 : decode cX4_rootCell 1 = .ok (.iconst 0, 1) := by decide +kernel
theorem dX4_rootCell_2 : decode cX4_rootCell 2 = .ok (.putfield 53, 3) := by decide +kernel
theorem dX4_rootCell_5 : decode cX4_rootCell 5 = .ok (.aload_n 0, 1) := by decide +kernel
theorem dX4_rootCell_6 : decode cX4_rootCell 6 = .ok (.iload_n 1, 1) := by decide +kernel
theorem dX4_rootCell_7 : decode cX4_rootCell 7 = .ok (.invokevirtual 74, 3) := by decide +kernel
theorem dX4_rootCell_10 : decode cX4_rootCell 10 = .ok (.ifCond .ge 11, 3) := by decide +kernel
theorem dX4_rootCell_13 : decode cX4_rootCell 13 = .ok (.aload_n 0, 1) := by decide +kernel
theorem dX4_rootCell_14 : decode cX4_rootCell 14 = .ok (.iconst 1, 1) := by decide +kernel
theorem dX4_rootCell_15 : decode cX4_rootCell 15 = .ok (.putfield 53, 3) := by decide +kernel
theorem dX4_rootCell_18 : decode cX4_rootCell 18 = .ok (.goto 43, 3) := by decide +kernel
theorem dX4_rootCell_21 : decode cX4_rootCell 21 = .ok (.iload_n 2, 1) := by decide +kernel
theorem dX4_rootCell_22 : decode cX4_rootCell 22 = .ok (.iconst 3, 1) := by decide +kernel
theorem dX4_rootCell_23 : decode cX4_rootCell 23 = .ok (.invokestatic 77, 3) := by decide +kernel
theorem dX4_rootCell_26 : decode cX4_rootCell 26 = .ok (.ifCond .eq 11, 3) := by decide +kernel
theorem dX4_rootCell_29 : decode cX4_rootCell 29 = .ok (.aload_n 0, 1) := by decide +kernel
theorem dX4_rootCell_30 : decode cX4_rootCell 30 = .ok (.iconst 2, 1) := by decide +kernel
theorem dX4_rootCell_31 : decode cX4_rootCell 31 = .ok (.putfield 53, 3) := by decide +kernel
theorem dX4_rootCell_34 : decode cX4_rootCell 34 = .ok (.goto 27, 3) := by decide +kernel
theorem dX4_rootCell_37 : decode cX4_rootCell 37 = .ok (.aload_n 0, 1) := by decide +kernel
theorem dX4_rootCell_38 : decode cX4_rootCell 38 = .ok (.getfield 32, 3) := by decide +kernel
theorem dX4_rootCell_41 : decode cX4_rootCell 41 = .ok (.iload_n 2, 1) := by decide +kernel
theorem dX4_rootCell_42 : decode cX4_rootCell 42 = .ok (.iaload, 1) := by decide +kernel
theorem dX4_rootCell_43 : decode cX4_rootCell 43 = .ok (.ifCond .le 18, 3) := by decide +kernel
theorem dX4_rootCell_46 : decode cX4_rootCell 46 = .ok (.aload_n 0, 1) := by decide +kernel
theorem dX4_rootCell_47 : decode cX4_rootCell 47 = .ok (.getfield 32, 3) := by decide +kernel
theorem dX4_rootCell_50 : decode cX4_rootCell 50 = .ok (.iload_n 2, 1) := by decide +kernel
theorem dX4_rootCell_51 : decode cX4_rootCell 51 = .ok (.iaload, 1) := by decide +kernel
theorem dX4_rootCell_52 : decode cX4_rootCell 52 = .ok (.iload_n 1, 1) := by decide +kernel
theorem dX4_rootCell_53 : decode cX4_rootCell 53 = .ok (.if_icmp .eq 8, 3) := by decide +kernel
theorem dX4_rootCell_56 : decode cX4_rootCell 56 = .ok (.aload_n 0, 1) := by decide +kernel
theorem dX4_rootCell_57 : decode cX4_rootCell 57 = .ok (.iconst 3, 1) := by decide +kernel
theorem dX4_rootCell_58 : decode cX4_rootCell 58 = .ok (.putfield 53, 3) := by decide +kernel
theorem dX4_rootCell_61 : decode cX4_rootCell 61 = .ok (.aload_n 0, 1) := by decide +kernel
theorem dX4_rootCell_62 : decode cX4_rootCell 62 = .ok (.getfield 53, 3) := by decide +kernel
theorem dX4_rootCell_65 : decode cX4_rootCell 65 = .ok (.ifCond .ne 11, 3) := by decide +kernel
theorem dX4_rootCell_68 : decode cX4_rootCell 68 = .ok (.sipush 320, 3) := by decide +kernel
theorem dX4_rootCell_71 : decode cX4_rootCell 71 = .ok (.iload_n 2, 1) := by decide +kernel
theorem dX4_rootCell_72 : decode cX4_rootCell 72 = .ok (.iadd, 1) := by decide +kernel
theorem dX4_rootCell_73 : decode cX4_rootCell 73 = .ok (.goto 4, 3) := by decide +kernel
theorem dX4_rootCell_76 : decode cX4_rootCell 76 = .ok (.iconst (-1), 1) := by decide +kernel
theorem dX4_rootCell_77 : decode cX4_rootCell 77 = .ok (.ireturn, 1) := by decide +kernel
theorem dX4_lockCell_0 : decode cX4_lockCell 0 = .ok (.iload_n 1, 1) := by decide +kernel
theorem dX4_lockCell_1 : decode cX4_lockCell 1 = .ok (.sipush 320, 3) := by decide +kernel
theorem dX4_lockCell_4 : decode cX4_lockCell 4 = .ok (.if_icmp .lt 17, 3) := by decide +kernel
theorem dX4_lockCell_7 : decode cX4_lockCell 7 = .ok (.aload_n 0, 1) := by decide +kernel
theorem dX4_lockCell_8 : decode cX4_lockCell 8 = .ok (.getfield 32, 3) := by decide +kernel
theorem dX4_lockCell_11 : decode cX4_lockCell 11 = .ok (.iload_n 1, 1) := by decide +kernel
theorem dX4_lockCell_12 : decode cX4_lockCell 12 = .ok (.sipush 320, 3) := by decide +kernel
theorem dX4_lockCell_15 : decode cX4_lockCell 15 = .ok (.isub, 1) := by decide +kernel
theorem dX4_lockCell_16 : decode cX4_lockCell 16 = .ok (.iload_n 2, 1) := by decide +kernel
theorem dX4_lockCell_17 : decode cX4_lockCell 17 = .ok (.iastore, 1) := by decide +kernel
theorem dX4_lockCell_18 : decode cX4_lockCell 18 = .ok (.goto 12, 3) := by decide +kernel
theorem dX4_lockCell_21 : decode cX4_lockCell 21 = .ok (.aload_n 0, 1) := by decide +kernel
theorem dX4_lockCell_22 : decode cX4_lockCell 22 = .ok (.getfield 16, 3) := by decide +kernel
theorem dX4_lockCell_25 : decode cX4_lockCell 25 = .ok (.iload_n 1, 1) := by decide +kernel
theorem dX4_lockCell_26 : decode cX4_lockCell 26 = .ok (.iconst 4, 1) := by decide +kernel
theorem dX4_lockCell_27 : decode cX4_lockCell 27 = .ok (.idiv, 1) := by decide +kernel
theorem dX4_lockCell_28 : decode cX4_lockCell 28 = .ok (.iload_n 2, 1) := by decide +kernel
theorem dX4_lockCell_29 : decode cX4_lockCell 29 = .ok (.iastore, 1) := by decide +kernel
theorem dX4_lockCell_30 : decode cX4_lockCell 30 = .ok (.return_, 1) := by decide +kernel
theorem dX4_replaced_0 : decode cX4_replaced 0 = .ok (.iconst 0, 1) := by decide +kernel
theorem dX4_replaced_1 : decode cX4_replaced 1 = .ok (.istore_n 3, 1) := by decide +kernel
theorem dX4_replaced_2 : decode cX4_replaced 2 = .ok (.iload_n 3, 1) := by decide +kernel
theorem dX4_replaced_3 : decode cX4_replaced 3 = .ok (.aload_n 0, 1) := by decide +kernel
theorem dX4_replaced_4 : decode cX4_replaced 4 = .ok (.getfield 90, 3) := by decide +kernel
theorem dX4_replaced_7 : decode cX4_replaced 7 = .ok (.if_icmp .ge 31, 3) := by decide +kernel
theorem dX4_replaced_10 : decode cX4_replaced 10 = .ok (.aload_n 0, 1) := by decide +kernel
theorem dX4_replaced_11 : decode cX4_replaced 11 = .ok (.getfield 41, 3) := by decide +kernel
theorem dX4_replaced_14 : decode cX4_replaced 14 = .ok (.iload_n 3, 1) := by decide +kernel
theorem dX4_replaced_15 : decode cX4_replaced 15 = .ok (.iaload, 1) := by decide +kernel
theorem dX4_replaced_16 : decode cX4_replaced 16 = .ok (.iload_n 1, 1) := by decide +kernel
theorem dX4_replaced_17 : decode cX4_replaced 17 = .ok (.if_icmp .ne 15, 3) := by decide +kernel
theorem dX4_replaced_20 : decode cX4_replaced 20 = .ok (.aload_n 0, 1) := by decide +kernel
theorem dX4_replaced_21 : decode cX4_replaced 21 = .ok (.getfield 44, 3) := by decide +kernel
theorem dX4_replaced_24 : decode cX4_replaced 24 = .ok (.iload_n 3, 1) := by decide +kernel
theorem dX4_replaced_25 : decode cX4_replaced 25 = .ok (.iaload, 1) := by decide +kernel
theorem dX4_replaced_26 : decode cX4_replaced 26 = .ok (.iload_n 2, 1) := by decide +kernel
theorem dX4_replaced_27 : decode cX4_replaced 27 = .ok (.if_icmp .ne 5, 3) := by decide +kernel
theorem dX4_replaced_30 : decode cX4_replaced 30 = .ok (.iconst 1, 1) := by decide +kernel
theorem dX4_replaced_31 : decode cX4_replaced 31 = .ok (.ireturn, 1) := by decide +kernel
theorem dX4_replaced_32 : decode cX4_replaced 32 = .ok (.iinc 3 1, 3) := by decide +kernel
theorem dX4_replaced_35 : decode cX4_replaced 35 = .ok (.goto (-33), 3) := by decide +kernel
theorem dX4_replaced_38 : decode cX4_replaced 38 = .ok (.iconst 0, 1) := by decide +kernel
theorem dX4_replaced_39 : decode cX4_replaced 39 = .ok (.ireturn, 1) := by decide +kernel
theorem dX4_assign_0 : decode cX4_assign 0 = .ok (.iload_n 1, 1) := by decide +kernel
theorem dX4_assign_1 : decode cX4_assign 1 = .ok (.sipush 320, 3) := by decide +kernel
theorem dX4_assign_4 : decode cX4_assign 4 = .ok (.if_icmp .lt 17, 3) := by decide +kernel
theorem dX4_assign_7 : decode cX4_assign 7 = .ok (.aload_n 0, 1) := by decide +kernel
theorem dX4_assign_8 : decode cX4_assign 8 = .ok (.getfield 29, 3) := by decide +kernel
theorem dX4_assign_11 : decode cX4_assign 11 = .ok (.iload_n 1, 1) := by decide +kernel
theorem dX4_assign_12 : decode cX4_assign 12 = .ok (.sipush 320, 3) := by decide +kernel
theorem dX4_assign_15 : decode cX4_assign 15 = .ok (.isub, 1) := by decide +kernel
theorem dX4_assign_16 : decode cX4_assign 16 = .ok (.iload_n 3, 1) := by decide +kernel
theorem dX4_assign_17 : decode cX4_assign 17 = .ok (.iastore, 1) := by decide +kernel
theorem dX4_assign_18 : decode cX4_assign 18 = .ok (.goto 17, 3) := by decide +kernel
theorem dX4_assign_21 : decode cX4_assign 21 = .ok (.aload_n 0, 1) := by decide +kernel
theorem dX4_assign_22 : decode cX4_assign 22 = .ok (.getfield 19, 3) := by decide +kernel
theorem dX4_assign_25 : decode cX4_assign 25 = .ok (.iload_n 1, 1) := by decide +kernel
theorem dX4_assign_26 : decode cX4_assign 26 = .ok (.iload_n 2, 1) := by decide +kernel
theorem dX4_assign_27 : decode cX4_assign 27 = .ok (.bastore, 1) := by decide +kernel
theorem dX4_assign_28 : decode cX4_assign 28 = .ok (.aload_n 0, 1) := by decide +kernel
theorem dX4_assign_29 : decode cX4_assign 29 = .ok (.getfield 23, 3) := by decide +kernel
theorem dX4_assign_32 : decode cX4_assign 32 = .ok (.iload_n 1, 1) := by decide +kernel
theorem dX4_assign_33 : decode cX4_assign 33 = .ok (.iload_n 3, 1) := by decide +kernel
theorem dX4_assign_34 : decode cX4_assign 34 = .ok (.iastore, 1) := by decide +kernel
theorem dX4_assign_35 : decode cX4_assign 35 = .ok (.return_, 1) := by decide +kernel
theorem dX4_set_0 : decode cX4_set 0 = .ok (.aload_n 0, 1) := by decide +kernel
theorem dX4_set_1 : decode cX4_set 1 = .ok (.iload_n 1, 1) := by decide +kernel
theorem dX4_set_2 : decode cX4_set 2 = .ok (.iload_n 2, 1) := by decide +kernel
theorem dX4_set_3 : decode cX4_set 3 = .ok (.invokevirtual 93, 3) := by decide +kernel
theorem dX4_set_6 : decode cX4_set 6 = .ok (.ifCond .ne 98, 3) := by decide +kernel
theorem dX4_set_9 : decode cX4_set 9 = .ok (.aload_n 0, 1) := by decide +kernel
theorem dX4_set_10 : decode cX4_set 10 = .ok (.getfield 41, 3) := by decide +kernel
theorem dX4_set_13 : decode cX4_set 13 = .ok (.aload_n 0, 1) := by decide +kernel
theorem dX4_set_14 : decode cX4_set 14 = .ok (.getfield 90, 3) := by decide +kernel
theorem dX4_set_17 : decode cX4_set 17 = .ok (.iload_n 1, 1) := by decide +kernel
theorem dX4_set_18 : decode cX4_set 18 = .ok (.iastore, 1) := by decide +kernel
theorem dX4_set_19 : decode cX4_set 19 = .ok (.aload_n 0, 1) := by decide +kernel
theorem dX4_set_20 : decode cX4_set 20 = .ok (.getfield 44, 3) := by decide +kernel
theorem dX4_set_23 : decode cX4_set 23 = .ok (.aload_n 0, 1) := by decide +kernel
theorem dX4_set_24 : decode cX4_set 24 = .ok (.getfield 90, 3) := by decide +kernel
theorem dX4_set_27 : decode cX4_set 27 = .ok (.iload_n 2, 1) := by decide +kernel
theorem dX4_set_28 : decode cX4_set 28 = .ok (.iastore, 1) := by decide +kernel
theorem dX4_set_29 : decode cX4_set 29 = .ok (.aload_n 0, 1) := by decide +kernel
theorem dX4_set_30 : decode cX4_set 30 = .ok (.getfield 47, 3) := by decide +kernel
theorem dX4_set_33 : decode cX4_set 33 = .ok (.aload_n 0, 1) := by decide +kernel
theorem dX4_set_34 : decode cX4_set 34 = .ok (.getfield 90, 3) := by decide +kernel
theorem dX4_set_37 : decode cX4_set 37 = .ok (.iload_n 2, 1) := by decide +kernel
theorem dX4_set_38 : decode cX4_set 38 = .ok (.sipush 320, 3) := by decide +kernel
theorem dX4_set_41 : decode cX4_set 41 = .ok (.if_icmp .ge 12, 3) := by decide +kernel
theorem dX4_set_44 : decode cX4_set 44 = .ok (.aload_n 0, 1) := by decide +kernel
theorem dX4_set_45 : decode cX4_set 45 = .ok (.getfield 19, 3) := by decide +kernel
theorem dX4_set_48 : decode cX4_set 48 = .ok (.iload_n 2, 1) := by decide +kernel
theorem dX4_set_49 : decode cX4_set 49 = .ok (.baload, 1) := by decide +kernel
theorem dX4_set_50 : decode cX4_set 50 = .ok (.ifCond .eq 7, 3) := by decide +kernel
theorem dX4_set_53 : decode cX4_set 53 = .ok (.iconst 1, 1) := by decide +kernel
theorem dX4_set_54 : decode cX4_set 54 = .ok (.goto 4, 3) := by decide +kernel
theorem dX4_set_57 : decode cX4_set 57 = .ok (.iconst 0, 1) := by decide +kernel
theorem dX4_set_58 : decode cX4_set 58 = .ok (.bastore, 1) := by decide +kernel
theorem dX4_set_59 : decode cX4_set 59 = .ok (.aload_n 0, 1) := by decide +kernel
theorem dX4_set_60 : decode cX4_set 60 = .ok (.getfield 50, 3) := by decide +kernel
theorem dX4_set_63 : decode cX4_set 63 = .ok (.aload_n 0, 1) := by decide +kernel
theorem dX4_set_64 : decode cX4_set 64 = .ok (.getfield 90, 3) := by decide +kernel
theorem dX4_set_67 : decode cX4_set 67 = .ok (.iload_n 2, 1) := by decide +kernel
theorem dX4_set_68 : decode cX4_set 68 = .ok (.sipush 320, 3) := by decide +kernel
theorem dX4_set_71 : decode cX4_set 71 = .ok (.if_icmp .lt 16, 3) := by decide +kernel
theorem dX4_set_74 : decode cX4_set 74 = .ok (.aload_n 0, 1) := by decide +kernel
theorem dX4_set_75 : decode cX4_set 75 = .ok (.getfield 29, 3) := by decide +kernel
theorem dX4_set_78 : decode cX4_set 78 = .ok (.iload_n 2, 1) := by decide +kernel
theorem dX4_set_79 : decode cX4_set 79 = .ok (.sipush 320, 3) := by decide +kernel
theorem dX4_set_82 : decode cX4_set 82 = .ok (.isub, 1) := by decide +kernel
theorem dX4_set_83 : decode cX4_set 83 = .ok (.iaload, 1) := by decide +kernel
theorem dX4_set_84 : decode cX4_set 84 = .ok (.goto 9, 3) := by decide +kernel
theorem dX4_set_87 : decode cX4_set 87 = .ok (.aload_n 0, 1) := by decide +kernel
theorem dX4_set_88 : decode cX4_set 88 = .ok (.getfield 23, 3) := by decide +kernel
theorem dX4_set_91 : decode cX4_set 91 = .ok (.iload_n 2, 1) := by decide +kernel
theorem dX4_set_92 : decode cX4_set 92 = .ok (.iaload, 1) := by decide +kernel
theorem dX4_set_93 : decode cX4_set 93 = .ok (.iastore, 1) := by decide +kernel
theorem dX4_set_94 : decode cX4_set 94 = .ok (.aload_n 0, 1) := by decide +kernel
theorem dX4_set_95 : decode cX4_set 95 = .ok (.dup, 1) := by decide +kernel
theorem dX4_set_96 : decode cX4_set 96 = .ok (.getfield 90, 3) := by decide +kernel
theorem dX4_set_99 : decode cX4_set 99 = .ok (.iconst 1, 1) := by decide +kernel
theorem dX4_set_100 : decode cX4_set 100 = .ok (.iadd, 1) := by decide +kernel
theorem dX4_set_101 : decode cX4_set 101 = .ok (.putfield 90, 3) := by decide +kernel
theorem dX4_set_104 : decode cX4_set 104 = .ok (.aload_n 0, 1) := by decide +kernel
theorem dX4_set_105 : decode cX4_set 105 = .ok (.iload_n 2, 1) := by decide +kernel
theorem dX4_set_106 : decode cX4_set 106 = .ok (.iload_n 1, 1) := by decide +kernel
theorem dX4_set_107 : decode cX4_set 107 = .ok (.invokevirtual 96, 3) := by decide +kernel
theorem dX4_set_110 : decode cX4_set 110 = .ok (.aload_n 0, 1) := by decide +kernel
theorem dX4_set_111 : decode cX4_set 111 = .ok (.getfield 38, 3) := by decide +kernel
theorem dX4_set_114 : decode cX4_set 114 = .ok (.aload_n 0, 1) := by decide +kernel
theorem dX4_set_115 : decode cX4_set 115 = .ok (.iload_n 1, 1) := by decide +kernel
theorem dX4_set_116 : decode cX4_set 116 = .ok (.invokevirtual 74, 3) := by decide +kernel
theorem dX4_set_119 : decode cX4_set 119 = .ok (.dup2, 1) := by decide +kernel
theorem dX4_set_120 : decode cX4_set 120 = .ok (.iaload, 1) := by decide +kernel
theorem dX4_set_121 : decode cX4_set 121 = .ok (.iconst 3, 1) := by decide +kernel
theorem dX4_set_122 : decode cX4_set 122 = .ok (.iadd, 1) := by decide +kernel
theorem dX4_set_123 : decode cX4_set 123 = .ok (.iastore, 1) := by decide +kernel
theorem dX4_set_124 : decode cX4_set 124 = .ok (.aload_n 0, 1) := by decide +kernel
theorem dX4_set_125 : decode cX4_set 125 = .ok (.iload_n 2, 1) := by decide +kernel
theorem dX4_set_126 : decode cX4_set 126 = .ok (.iload_n 3, 1) := by decide +kernel
theorem dX4_set_127 : decode cX4_set 127 = .ok (.iload 4, 2) := by decide +kernel
theorem dX4_set_129 : decode cX4_set 129 = .ok (.invokevirtual 100, 3) := by decide +kernel
theorem dX4_set_132 : decode cX4_set 132 = .ok (.iconst 1, 1) := by decide +kernel
theorem dX4_set_133 : decode cX4_set 133 = .ok (.ireturn, 1) := by decide +kernel
theorem dX4_setInt_0 : decode cX4_setInt 0 = .ok (.aload_n 0, 1) := by decide +kernel
theorem dX4_setInt_1 : decode cX4_setInt 1 = .ok (.iload_n 1, 1) := by decide +kernel
theorem dX4_setInt_2 : decode cX4_setInt 2 = .ok (.iload_n 2, 1) := by decide +kernel
theorem dX4_setInt_3 : decode cX4_setInt 3 = .ok (.iload_n 3, 1) := by decide +kernel
theorem dX4_setInt_4 : decode cX4_setInt 4 = .ok (.invokevirtual 104, 3) := by decide +kernel
theorem dX4_setInt_7 : decode cX4_setInt 7 = .ok (.istore 5, 2) := by decide +kernel
theorem dX4_setInt_9 : decode cX4_setInt 9 = .ok (.iload 5, 2) := by decide +kernel
theorem dX4_setInt_11 : decode cX4_setInt 11 = .ok (.ifCond .ge 5, 3) := by decide +kernel
theorem dX4_setInt_14 : decode cX4_setInt 14 = .ok (.iconst 0, 1) := by decide +kernel
theorem dX4_setInt_15 : decode cX4_setInt 15 = .ok (.ireturn, 1) := by decide +kernel
theorem dX4_setInt_16 : decode cX4_setInt 16 = .ok (.aload_n 0, 1) := by decide +kernel
theorem dX4_setInt_17 : decode cX4_setInt 17 = .ok (.invokevirtual 68, 3) := by decide +kernel
theorem dX4_setInt_20 : decode cX4_setInt 20 = .ok (.iconst 3, 1) := by decide +kernel
theorem dX4_setInt_21 : decode cX4_setInt 21 = .ok (.iadd, 1) := by decide +kernel
theorem dX4_setInt_22 : decode cX4_setInt 22 = .ok (.sipush 150, 3) := by decide +kernel
theorem dX4_setInt_25 : decode cX4_setInt 25 = .ok (.if_icmp .le 11, 3) := by decide +kernel
theorem dX4_setInt_28 : decode cX4_setInt 28 = .ok (.aload_n 0, 1) := by decide +kernel
theorem dX4_setInt_29 : decode cX4_setInt 29 = .ok (.iconst 4, 1) := by decide +kernel
theorem dX4_setInt_30 : decode cX4_setInt 30 = .ok (.invokevirtual 64, 3) := by decide +kernel
theorem dX4_setInt_33 : decode cX4_setInt 33 = .ok (.goto 13, 3) := by decide +kernel
theorem dX4_setInt_36 : decode cX4_setInt 36 = .ok (.aload_n 0, 1) := by decide +kernel
theorem dX4_setInt_37 : decode cX4_setInt 37 = .ok (.iload_n 1, 1) := by decide +kernel
theorem dX4_setInt_38 : decode cX4_setInt 38 = .ok (.iload 5, 2) := by decide +kernel
theorem dX4_setInt_40 : decode cX4_setInt 40 = .ok (.iconst 0, 1) := by decide +kernel
theorem dX4_setInt_41 : decode cX4_setInt 41 = .ok (.iload 4, 2) := by decide +kernel
theorem dX4_setInt_43 : decode cX4_setInt 43 = .ok (.invokevirtual 108, 3) := by decide +kernel
theorem dX4_setInt_46 : decode cX4_setInt 46 = .ok (.ireturn, 1) := by decide +kernel
theorem dX4_refer_0 : decode cX4_refer 0 = .ok (.iload_n 2, 1) := by decide +kernel
theorem dX4_refer_1 : decode cX4_refer 1 = .ok (.ifCond .ge 5, 3) := by decide +kernel
theorem dX4_refer_4 : decode cX4_refer 4 = .ok (.iconst 0, 1) := by decide +kernel
theorem dX4_refer_5 : decode cX4_refer 5 = .ok (.ireturn, 1) := by decide +kernel
theorem dX4_refer_6 : decode cX4_refer 6 = .ok (.iload_n 3, 1) := by decide +kernel
theorem dX4_refer_7 : decode cX4_refer 7 = .ok (.ifCond .eq 17, 3) := by decide +kernel
theorem dX4_refer_10 : decode cX4_refer 10 = .ok (.aload_n 0, 1) := by decide +kernel
theorem dX4_refer_11 : decode cX4_refer 11 = .ok (.iload_n 3, 1) := by decide +kernel
theorem dX4_refer_12 : decode cX4_refer 12 = .ok (.invokevirtual 87, 3) := by decide +kernel
theorem dX4_refer_15 : decode cX4_refer 15 = .ok (.ifCond .ge 9, 3) := by decide +kernel
theorem dX4_refer_18 : decode cX4_refer 18 = .ok (.aload_n 0, 1) := by decide +kernel
theorem dX4_refer_19 : decode cX4_refer 19 = .ok (.iconst 4, 1) := by decide +kernel
theorem dX4_refer_20 : decode cX4_refer 20 = .ok (.invokevirtual 64, 3) := by decide +kernel
theorem dX4_refer_23 : decode cX4_refer 23 = .ok (.ireturn, 1) := by decide +kernel
theorem dX4_refer_24 : decode cX4_refer 24 = .ok (.aload_n 0, 1) := by decide +kernel
theorem dX4_refer_25 : decode cX4_refer 25 = .ok (.invokevirtual 68, 3) := by decide +kernel
theorem dX4_refer_28 : decode cX4_refer 28 = .ok (.iconst 3, 1) := by decide +kernel
theorem dX4_refer_29 : decode cX4_refer 29 = .ok (.iadd, 1) := by decide +kernel
theorem dX4_refer_30 : decode cX4_refer 30 = .ok (.sipush 150, 3) := by decide +kernel
theorem dX4_refer_33 : decode cX4_refer 33 = .ok (.if_icmp .le 11, 3) := by decide +kernel
theorem dX4_refer_36 : decode cX4_refer 36 = .ok (.aload_n 0, 1) := by decide +kernel
theorem dX4_refer_37 : decode cX4_refer 37 = .ok (.iconst 5, 1) := by decide +kernel
theorem dX4_refer_38 : decode cX4_refer 38 = .ok (.invokevirtual 64, 3) := by decide +kernel
theorem dX4_refer_41 : decode cX4_refer 41 = .ok (.goto 11, 3) := by decide +kernel
theorem dX4_refer_44 : decode cX4_refer 44 = .ok (.aload_n 0, 1) := by decide +kernel
theorem dX4_refer_45 : decode cX4_refer 45 = .ok (.iload_n 1, 1) := by decide +kernel
theorem dX4_refer_46 : decode cX4_refer 46 = .ok (.iload_n 2, 1) := by decide +kernel
theorem dX4_refer_47 : decode cX4_refer 47 = .ok (.iconst 1, 1) := by decide +kernel
theorem dX4_refer_48 : decode cX4_refer 48 = .ok (.iload_n 3, 1) := by decide +kernel
theorem dX4_refer_49 : decode cX4_refer 49 = .ok (.invokevirtual 108, 3) := by decide +kernel
theorem dX4_refer_52 : decode cX4_refer 52 = .ok (.ireturn, 1) := by decide +kernel
theorem dX4_setReference_0 : decode cX4_setReference 0 = .ok (.aload_n 0, 1) := by decide +kernel
theorem dX4_setReference_1 : decode cX4_setReference 1 = .ok (.iload_n 1, 1) := by decide +kernel
theorem dX4_setReference_2 : decode cX4_setReference 2 = .ok (.aload_n 0, 1) := by decide +kernel
theorem dX4_setReference_3 : decode cX4_setReference 3 = .ok (.iload_n 1, 1) := by decide +kernel
theorem dX4_setReference_4 : decode cX4_setReference 4 = .ok (.iload_n 2, 1) := by decide +kernel
theorem dX4_setReference_5 : decode cX4_setReference 5 = .ok (.iload_n 3, 1) := by decide +kernel
theorem dX4_setReference_6 : decode cX4_setReference 6 = .ok (.invokevirtual 104, 3) := by decide +kernel
theorem dX4_setReference_9 : decode cX4_setReference 9 = .ok (.iload 4, 2) := by decide +kernel
theorem dX4_setReference_11 : decode cX4_setReference 11 = .ok (.invokevirtual 112, 3) := by decide +kernel
theorem dX4_setReference_14 : decode cX4_setReference 14 = .ok (.ireturn, 1) := by decide +kernel
theorem dX4_setRoot_0 : decode cX4_setRoot 0 = .ok (.aload_n 0, 1) := by decide +kernel
theorem dX4_setRoot_1 : decode cX4_setRoot 1 = .ok (.iload_n 1, 1) := by decide +kernel
theorem dX4_setRoot_2 : decode cX4_setRoot 2 = .ok (.aload_n 0, 1) := by decide +kernel
theorem dX4_setRoot_3 : decode cX4_setRoot 3 = .ok (.iload_n 1, 1) := by decide +kernel
theorem dX4_setRoot_4 : decode cX4_setRoot 4 = .ok (.iload_n 2, 1) := by decide +kernel
theorem dX4_setRoot_5 : decode cX4_setRoot 5 = .ok (.invokevirtual 115, 3) := by decide +kernel
theorem dX4_setRoot_8 : decode cX4_setRoot 8 = .ok (.iload_n 3, 1) := by decide +kernel
theorem dX4_setRoot_9 : decode cX4_setRoot 9 = .ok (.invokevirtual 112, 3) := by decide +kernel
theorem dX4_setRoot_12 : decode cX4_setRoot 12 = .ok (.ireturn, 1) := by decide +kernel
theorem dX4_get_0 : decode cX4_get 0 = .ok (.aload_n 0, 1) := by decide +kernel
theorem dX4_get_1 : decode cX4_get 1 = .ok (.iload_n 1, 1) := by decide +kernel
theorem dX4_get_2 : decode cX4_get 2 = .ok (.iload_n 2, 1) := by decide +kernel
theorem dX4_get_3 : decode cX4_get 3 = .ok (.iload_n 3, 1) := by decide +kernel
theorem dX4_get_4 : decode cX4_get 4 = .ok (.invokevirtual 104, 3) := by decide +kernel
theorem dX4_get_7 : decode cX4_get 7 = .ok (.istore 5, 2) := by decide +kernel
theorem dX4_get_9 : decode cX4_get 9 = .ok (.iload 5, 2) := by decide +kernel
theorem dX4_get_11 : decode cX4_get 11 = .ok (.ifCond .ge 5, 3) := by decide +kernel
theorem dX4_get_14 : decode cX4_get 14 = .ok (.iconst 0, 1) := by decide +kernel
theorem dX4_get_15 : decode cX4_get 15 = .ok (.ireturn, 1) := by decide +kernel
theorem dX4_get_16 : decode cX4_get 16 = .ok (.aload_n 0, 1) := by decide +kernel
theorem dX4_get_17 : decode cX4_get 17 = .ok (.iload 5, 2) := by decide +kernel
theorem dX4_get_19 : decode cX4_get 19 = .ok (.iload_n 1, 1) := by decide +kernel
theorem dX4_get_20 : decode cX4_get 20 = .ok (.invokevirtual 96, 3) := by decide +kernel
theorem dX4_get_23 : decode cX4_get 23 = .ok (.aload_n 0, 1) := by decide +kernel
theorem dX4_get_24 : decode cX4_get 24 = .ok (.getfield 19, 3) := by decide +kernel
theorem dX4_get_27 : decode cX4_get 27 = .ok (.iload 5, 2) := by decide +kernel
theorem dX4_get_29 : decode cX4_get 29 = .ok (.baload, 1) := by decide +kernel
theorem dX4_get_30 : decode cX4_get 30 = .ok (.iload 4, 2) := by decide +kernel
theorem dX4_get_32 : decode cX4_get 32 = .ok (.if_icmp .ne 13, 3) := by decide +kernel
theorem dX4_get_35 : decode cX4_get 35 = .ok (.aload_n 0, 1) := by decide +kernel
theorem dX4_get_36 : decode cX4_get 36 = .ok (.getfield 23, 3) := by decide +kernel
theorem dX4_get_39 : decode cX4_get 39 = .ok (.iload 5, 2) := by decide +kernel
theorem dX4_get_41 : decode cX4_get 41 = .ok (.iaload, 1) := by decide +kernel
theorem dX4_get_42 : decode cX4_get 42 = .ok (.goto 8, 3) := by decide +kernel
theorem dX4_get_45 : decode cX4_get 45 = .ok (.aload_n 0, 1) := by decide +kernel
theorem dX4_get_46 : decode cX4_get 46 = .ok (.iconst 4, 1) := by decide +kernel
theorem dX4_get_47 : decode cX4_get 47 = .ok (.invokevirtual 64, 3) := by decide +kernel
theorem dX4_get_50 : decode cX4_get 50 = .ok (.ireturn, 1) := by decide +kernel
theorem dX4_getInt_0 : decode cX4_getInt 0 = .ok (.aload_n 0, 1) := by decide +kernel
theorem dX4_getInt_1 : decode cX4_getInt 1 = .ok (.iload_n 1, 1) := by decide +kernel
theorem dX4_getInt_2 : decode cX4_getInt 2 = .ok (.iload_n 2, 1) := by decide +kernel
theorem dX4_getInt_3 : decode cX4_getInt 3 = .ok (.iload_n 3, 1) := by decide +kernel
theorem dX4_getInt_4 : decode cX4_getInt 4 = .ok (.iconst 0, 1) := by decide +kernel
theorem dX4_getInt_5 : decode cX4_getInt 5 = .ok (.invokevirtual 119, 3) := by decide +kernel
theorem dX4_getInt_8 : decode cX4_getInt 8 = .ok (.ireturn, 1) := by decide +kernel
theorem dX4_getReference_0 : decode cX4_getReference 0 = .ok (.aload_n 0, 1) := by decide +kernel
theorem dX4_getReference_1 : decode cX4_getReference 1 = .ok (.iload_n 1, 1) := by decide +kernel
theorem dX4_getReference_2 : decode cX4_getReference 2 = .ok (.iload_n 2, 1) := by decide +kernel
theorem dX4_getReference_3 : decode cX4_getReference 3 = .ok (.iload_n 3, 1) := by decide +kernel
theorem dX4_getReference_4 : decode cX4_getReference 4 = .ok (.iconst 1, 1) := by decide +kernel
theorem dX4_getReference_5 : decode cX4_getReference 5 = .ok (.invokevirtual 119, 3) := by decide +kernel
theorem dX4_getReference_8 : decode cX4_getReference 8 = .ok (.ireturn, 1) := by decide +kernel
theorem dX4_getRoot_0 : decode cX4_getRoot 0 = .ok (.aload_n 0, 1) := by decide +kernel
theorem dX4_getRoot_1 : decode cX4_getRoot 1 = .ok (.iload_n 1, 1) := by decide +kernel
theorem dX4_getRoot_2 : decode cX4_getRoot 2 = .ok (.iload_n 2, 1) := by decide +kernel
theorem dX4_getRoot_3 : decode cX4_getRoot 3 = .ok (.invokevirtual 115, 3) := by decide +kernel
theorem dX4_getRoot_6 : decode cX4_getRoot 6 = .ok (.istore_n 3, 1) := by decide +kernel
theorem dX4_getRoot_7 : decode cX4_getRoot 7 = .ok (.iload_n 3, 1) := by decide +kernel
theorem dX4_getRoot_8 : decode cX4_getRoot 8 = .ok (.ifCond .ge 5, 3) := by decide +kernel
theorem dX4_getRoot_11 : decode cX4_getRoot 11 = .ok (.iconst 0, 1) := by decide +kernel
theorem dX4_getRoot_12 : decode cX4_getRoot 12 = .ok (.ireturn, 1) := by decide +kernel
theorem dX4_getRoot_13 : decode cX4_getRoot 13 = .ok (.aload_n 0, 1) := by decide +kernel
theorem dX4_getRoot_14 : decode cX4_getRoot 14 = .ok (.iload_n 3, 1) := by decide +kernel
theorem dX4_getRoot_15 : decode cX4_getRoot 15 = .ok (.iload_n 1, 1) := by decide +kernel
theorem dX4_getRoot_16 : decode cX4_getRoot 16 = .ok (.invokevirtual 96, 3) := by decide +kernel
theorem dX4_getRoot_19 : decode cX4_getRoot 19 = .ok (.aload_n 0, 1) := by decide +kernel
theorem dX4_getRoot_20 : decode cX4_getRoot 20 = .ok (.getfield 29, 3) := by decide +kernel
theorem dX4_getRoot_23 : decode cX4_getRoot 23 = .ok (.iload_n 2, 1) := by decide +kernel
theorem dX4_getRoot_24 : decode cX4_getRoot 24 = .ok (.iaload, 1) := by decide +kernel
theorem dX4_getRoot_25 : decode cX4_getRoot 25 = .ok (.ireturn, 1) := by decide +kernel
theorem dX4_unlock_0 : decode cX4_unlock 0 = .ok (.iconst 0, 1) := by decide +kernel
theorem dX4_unlock_1 : decode cX4_unlock 1 = .ok (.istore_n 2, 1) := by decide +kernel
theorem dX4_unlock_2 : decode cX4_unlock 2 = .ok (.iconst 0, 1) := by decide +kernel
theorem dX4_unlock_3 : decode cX4_unlock 3 = .ok (.istore_n 3, 1) := by decide +kernel
theorem dX4_unlock_4 : decode cX4_unlock 4 = .ok (.iload_n 3, 1) := by decide +kernel
theorem dX4_unlock_5 : decode cX4_unlock 5 = .ok (.bipush 80, 2) := by decide +kernel
theorem dX4_unlock_7 : decode cX4_unlock 7 = .ok (.if_icmp .ge 41, 3) := by decide +kernel
theorem dX4_unlock_10 : decode cX4_unlock 10 = .ok (.aload_n 0, 1) := by decide +kernel
theorem dX4_unlock_11 : decode cX4_unlock 11 = .ok (.getfield 7, 3) := by decide +kernel
theorem dX4_unlock_14 : decode cX4_unlock 14 = .ok (.iload_n 3, 1) := by decide +kernel
theorem dX4_unlock_15 : decode cX4_unlock 15 = .ok (.iaload, 1) := by decide +kernel
theorem dX4_unlock_16 : decode cX4_unlock 16 = .ok (.ifCond .eq 26, 3) := by decide +kernel
theorem dX4_unlock_19 : decode cX4_unlock 19 = .ok (.aload_n 0, 1) := by decide +kernel
theorem dX4_unlock_20 : decode cX4_unlock 20 = .ok (.getfield 16, 3) := by decide +kernel
theorem dX4_unlock_23 : decode cX4_unlock 23 = .ok (.iload_n 3, 1) := by decide +kernel
theorem dX4_unlock_24 : decode cX4_unlock 24 = .ok (.iaload, 1) := by decide +kernel
theorem dX4_unlock_25 : decode cX4_unlock 25 = .ok (.iload_n 1, 1) := by decide +kernel
theorem dX4_unlock_26 : decode cX4_unlock 26 = .ok (.if_icmp .eq 6, 3) := by decide +kernel
theorem dX4_unlock_29 : decode cX4_unlock 29 = .ok (.goto 13, 3) := by decide +kernel
theorem dX4_unlock_32 : decode cX4_unlock 32 = .ok (.aload_n 0, 1) := by decide +kernel
theorem dX4_unlock_33 : decode cX4_unlock 33 = .ok (.getfield 16, 3) := by decide +kernel
theorem dX4_unlock_36 : decode cX4_unlock 36 = .ok (.iload_n 3, 1) := by decide +kernel
theorem dX4_unlock_37 : decode cX4_unlock 37 = .ok (.iconst 0, 1) := by decide +kernel
theorem dX4_unlock_38 : decode cX4_unlock 38 = .ok (.iastore, 1) := by decide +kernel
theorem dX4_unlock_39 : decode cX4_unlock 39 = .ok (.iinc 2 1, 3) := by decide +kernel
theorem dX4_unlock_42 : decode cX4_unlock 42 = .ok (.iinc 3 1, 3) := by decide +kernel
theorem dX4_unlock_45 : decode cX4_unlock 45 = .ok (.goto (-41), 3) := by decide +kernel
theorem dX4_unlock_48 : decode cX4_unlock 48 = .ok (.iconst 0, 1) := by decide +kernel
theorem dX4_unlock_49 : decode cX4_unlock 49 = .ok (.istore_n 3, 1) := by decide +kernel
theorem dX4_unlock_50 : decode cX4_unlock 50 = .ok (.iload_n 3, 1) := by decide +kernel
theorem dX4_unlock_51 : decode cX4_unlock 51 = .ok (.iconst 4, 1) := by decide +kernel
theorem dX4_unlock_52 : decode cX4_unlock 52 = .ok (.if_icmp .ge 32, 3) := by decide +kernel
theorem dX4_unlock_55 : decode cX4_unlock 55 = .ok (.aload_n 0, 1) := by decide +kernel
theorem dX4_unlock_56 : decode cX4_unlock 56 = .ok (.getfield 32, 3) := by decide +kernel
theorem dX4_unlock_59 : decode cX4_unlock 59 = .ok (.iload_n 3, 1) := by decide +kernel
theorem dX4_unlock_60 : decode cX4_unlock 60 = .ok (.iaload, 1) := by decide +kernel
theorem dX4_unlock_61 : decode cX4_unlock 61 = .ok (.iload_n 1, 1) := by decide +kernel
theorem dX4_unlock_62 : decode cX4_unlock 62 = .ok (.if_icmp .eq 6, 3) := by decide +kernel
theorem dX4_unlock_65 : decode cX4_unlock 65 = .ok (.goto 13, 3) := by decide +kernel
theorem dX4_unlock_68 : decode cX4_unlock 68 = .ok (.aload_n 0, 1) := by decide +kernel
theorem dX4_unlock_69 : decode cX4_unlock 69 = .ok (.getfield 32, 3) := by decide +kernel
theorem dX4_unlock_72 : decode cX4_unlock 72 = .ok (.iload_n 3, 1) := by decide +kernel
theorem dX4_unlock_73 : decode cX4_unlock 73 = .ok (.iconst 0, 1) := by decide +kernel
theorem dX4_unlock_74 : decode cX4_unlock 74 = .ok (.iastore, 1) := by decide +kernel
theorem dX4_unlock_75 : decode cX4_unlock 75 = .ok (.iinc 2 1, 3) := by decide +kernel
theorem dX4_unlock_78 : decode cX4_unlock 78 = .ok (.iinc 3 1, 3) := by decide +kernel
theorem dX4_unlock_81 : decode cX4_unlock 81 = .ok (.goto (-31), 3) := by decide +kernel
theorem dX4_unlock_84 : decode cX4_unlock 84 = .ok (.iload_n 2, 1) := by decide +kernel
theorem dX4_unlock_85 : decode cX4_unlock 85 = .ok (.ireturn, 1) := by decide +kernel
theorem dX4_forget_0 : decode cX4_forget 0 = .ok (.iconst 0, 1) := by decide +kernel
theorem dX4_forget_1 : decode cX4_forget 1 = .ok (.istore_n 3, 1) := by decide +kernel
theorem dX4_forget_2 : decode cX4_forget 2 = .ok (.iconst 0, 1) := by decide +kernel
theorem dX4_forget_3 : decode cX4_forget 3 = .ok (.istore 4, 2) := by decide +kernel
theorem dX4_forget_5 : decode cX4_forget 5 = .ok (.iload 4, 2) := by decide +kernel
theorem dX4_forget_7 : decode cX4_forget 7 = .ok (.aload_n 0, 1) := by decide +kernel
theorem dX4_forget_8 : decode cX4_forget 8 = .ok (.getfield 90, 3) := by decide +kernel
theorem dX4_forget_11 : decode cX4_forget 11 = .ok (.if_icmp .ge 107, 3) := by decide +kernel
theorem dX4_forget_14 : decode cX4_forget 14 = .ok (.aload_n 0, 1) := by decide +kernel
theorem dX4_forget_15 : decode cX4_forget 15 = .ok (.getfield 41, 3) := by decide +kernel
theorem dX4_forget_18 : decode cX4_forget 18 = .ok (.iload 4, 2) := by decide +kernel
theorem dX4_forget_20 : decode cX4_forget 20 = .ok (.iaload, 1) := by decide +kernel
theorem dX4_forget_21 : decode cX4_forget 21 = .ok (.iload_n 1, 1) := by decide +kernel
theorem dX4_forget_22 : decode cX4_forget 22 = .ok (.if_icmp .ne 35, 3) := by decide +kernel
theorem dX4_forget_25 : decode cX4_forget 25 = .ok (.iload_n 2, 1) := by decide +kernel
theorem dX4_forget_26 : decode cX4_forget 26 = .ok (.ifCond .eq 86, 3) := by decide +kernel
theorem dX4_forget_29 : decode cX4_forget 29 = .ok (.aload_n 0, 1) := by decide +kernel
theorem dX4_forget_30 : decode cX4_forget 30 = .ok (.aload_n 0, 1) := by decide +kernel
theorem dX4_forget_31 : decode cX4_forget 31 = .ok (.getfield 44, 3) := by decide +kernel
theorem dX4_forget_34 : decode cX4_forget 34 = .ok (.iload 4, 2) := by decide +kernel
theorem dX4_forget_36 : decode cX4_forget 36 = .ok (.iaload, 1) := by decide +kernel
theorem dX4_forget_37 : decode cX4_forget 37 = .ok (.aload_n 0, 1) := by decide +kernel
theorem dX4_forget_38 : decode cX4_forget 38 = .ok (.getfield 47, 3) := by decide +kernel
theorem dX4_forget_41 : decode cX4_forget 41 = .ok (.iload 4, 2) := by decide +kernel
theorem dX4_forget_43 : decode cX4_forget 43 = .ok (.baload, 1) := by decide +kernel
theorem dX4_forget_44 : decode cX4_forget 44 = .ok (.aload_n 0, 1) := by decide +kernel
theorem dX4_forget_45 : decode cX4_forget 45 = .ok (.getfield 50, 3) := by decide +kernel
theorem dX4_forget_48 : decode cX4_forget 48 = .ok (.iload 4, 2) := by decide +kernel
theorem dX4_forget_50 : decode cX4_forget 50 = .ok (.iaload, 1) := by decide +kernel
theorem dX4_forget_51 : decode cX4_forget 51 = .ok (.invokevirtual 100, 3) := by decide +kernel
theorem dX4_forget_54 : decode cX4_forget 54 = .ok (.goto 58, 3) := by decide +kernel
theorem dX4_forget_57 : decode cX4_forget 57 = .ok (.aload_n 0, 1) := by decide +kernel
theorem dX4_forget_58 : decode cX4_forget 58 = .ok (.getfield 41, 3) := by decide +kernel
theorem dX4_forget_61 : decode cX4_forget 61 = .ok (.iload_n 3, 1) := by decide +kernel
theorem dX4_forget_62 : decode cX4_forget 62 = .ok (.aload_n 0, 1) := by decide +kernel
theorem dX4_forget_63 : decode cX4_forget 63 = .ok (.getfield 41, 3) := by decide +kernel
theorem dX4_forget_66 : decode cX4_forget 66 = .ok (.iload 4, 2) := by decide +kernel
theorem dX4_forget_68 : decode cX4_forget 68 = .ok (.iaload, 1) := by decide +kernel
theorem dX4_forget_69 : decode cX4_forget 69 = .ok (.iastore, 1) := by decide +kernel
theorem dX4_forget_70 : decode cX4_forget 70 = .ok (.aload_n 0, 1) := by decide +kernel
theorem dX4_forget_71 : decode cX4_forget 71 = .ok (.getfield 44, 3) := by decide +kernel
theorem dX4_forget_74 : decode cX4_forget 74 = .ok (.iload_n 3, 1) := by decide +kernel
theorem dX4_forget_75 : decode cX4_forget 75 = .ok (.aload_n 0, 1) := by decide +kernel
theorem dX4_forget_76 : decode cX4_forget 76 = .ok (.getfield 44, 3) := by decide +kernel
theorem dX4_forget_79 : decode cX4_forget 79 = .ok (.iload 4, 2) := by decide +kernel
theorem dX4_forget_81 : decode cX4_forget 81 = .ok (.iaload, 1) := by decide +kernel
theorem dX4_forget_82 : decode cX4_forget 82 = .ok (.iastore, 1) := by decide +kernel
theorem dX4_forget_83 : decode cX4_forget 83 = .ok (.aload_n 0, 1) := by decide +kernel
theorem dX4_forget_84 : decode cX4_forget 84 = .ok (.getfield 47, 3) := by decide +kernel
theorem dX4_forget_87 : decode cX4_forget 87 = .ok (.iload_n 3, 1) := by decide +kernel
theorem dX4_forget_88 : decode cX4_forget 88 = .ok (.aload_n 0, 1) := by decide +kernel
theorem dX4_forget_89 : decode cX4_forget 89 = .ok (.getfield 47, 3) := by decide +kernel
theorem dX4_forget_92 : decode cX4_forget 92 = .ok (.iload 4, 2) := by decide +kernel
theorem dX4_forget_94 : decode cX4_forget 94 = .ok (.baload, 1) := by decide +kernel
theorem dX4_forget_95 : decode cX4_forget 95 = .ok (.bastore, 1) := by decide +kernel
theorem dX4_forget_96 : decode cX4_forget 96 = .ok (.aload_n 0, 1) := by decide +kernel
theorem dX4_forget_97 : decode cX4_forget 97 = .ok (.getfield 50, 3) := by decide +kernel
theorem dX4_forget_100 : decode cX4_forget 100 = .ok (.iload_n 3, 1) := by decide +kernel
theorem dX4_forget_101 : decode cX4_forget 101 = .ok (.aload_n 0, 1) := by decide +kernel
theorem dX4_forget_102 : decode cX4_forget 102 = .ok (.getfield 50, 3) := by decide +kernel
theorem dX4_forget_105 : decode cX4_forget 105 = .ok (.iload 4, 2) := by decide +kernel
theorem dX4_forget_107 : decode cX4_forget 107 = .ok (.iaload, 1) := by decide +kernel
theorem dX4_forget_108 : decode cX4_forget 108 = .ok (.iastore, 1) := by decide +kernel
theorem dX4_forget_109 : decode cX4_forget 109 = .ok (.iinc 3 1, 3) := by decide +kernel
theorem dX4_forget_112 : decode cX4_forget 112 = .ok (.iinc 4 1, 3) := by decide +kernel
theorem dX4_forget_115 : decode cX4_forget 115 = .ok (.goto (-110), 3) := by decide +kernel
theorem dX4_forget_118 : decode cX4_forget 118 = .ok (.aload_n 0, 1) := by decide +kernel
theorem dX4_forget_119 : decode cX4_forget 119 = .ok (.iload_n 3, 1) := by decide +kernel
theorem dX4_forget_120 : decode cX4_forget 120 = .ok (.putfield 90, 3) := by decide +kernel
theorem dX4_forget_123 : decode cX4_forget 123 = .ok (.return_, 1) := by decide +kernel
theorem dX4_end_0 : decode cX4_end 0 = .ok (.aload_n 0, 1) := by decide +kernel
theorem dX4_end_1 : decode cX4_end 1 = .ok (.getfield 35, 3) := by decide +kernel
theorem dX4_end_4 : decode cX4_end 4 = .ok (.iload_n 1, 1) := by decide +kernel
theorem dX4_end_5 : decode cX4_end 5 = .ok (.iaload, 1) := by decide +kernel
theorem dX4_end_6 : decode cX4_end 6 = .ok (.istore_n 3, 1) := by decide +kernel
theorem dX4_end_7 : decode cX4_end 7 = .ok (.aload_n 0, 1) := by decide +kernel
theorem dX4_end_8 : decode cX4_end 8 = .ok (.iload_n 3, 1) := by decide +kernel
theorem dX4_end_9 : decode cX4_end 9 = .ok (.iload_n 2, 1) := by decide +kernel
theorem dX4_end_10 : decode cX4_end 10 = .ok (.invokevirtual 123, 3) := by decide +kernel
theorem dX4_end_13 : decode cX4_end 13 = .ok (.aload_n 0, 1) := by decide +kernel
theorem dX4_end_14 : decode cX4_end 14 = .ok (.getfield 35, 3) := by decide +kernel
theorem dX4_end_17 : decode cX4_end 17 = .ok (.iload_n 1, 1) := by decide +kernel
theorem dX4_end_18 : decode cX4_end 18 = .ok (.iconst 0, 1) := by decide +kernel
theorem dX4_end_19 : decode cX4_end 19 = .ok (.iastore, 1) := by decide +kernel
theorem dX4_end_20 : decode cX4_end 20 = .ok (.aload_n 0, 1) := by decide +kernel
theorem dX4_end_21 : decode cX4_end 21 = .ok (.getfield 38, 3) := by decide +kernel
theorem dX4_end_24 : decode cX4_end 24 = .ok (.iload_n 1, 1) := by decide +kernel
theorem dX4_end_25 : decode cX4_end 25 = .ok (.iconst 0, 1) := by decide +kernel
theorem dX4_end_26 : decode cX4_end 26 = .ok (.iastore, 1) := by decide +kernel
theorem dX4_end_27 : decode cX4_end 27 = .ok (.aload_n 0, 1) := by decide +kernel
theorem dX4_end_28 : decode cX4_end 28 = .ok (.iload_n 3, 1) := by decide +kernel
theorem dX4_end_29 : decode cX4_end 29 = .ok (.invokevirtual 127, 3) := by decide +kernel
theorem dX4_end_32 : decode cX4_end 32 = .ok (.ireturn, 1) := by decide +kernel
theorem dX4_commit_0 : decode cX4_commit 0 = .ok (.aload_n 0, 1) := by decide +kernel
theorem dX4_commit_1 : decode cX4_commit 1 = .ok (.iconst 0, 1) := by decide +kernel
theorem dX4_commit_2 : decode cX4_commit 2 = .ok (.putfield 53, 3) := by decide +kernel
theorem dX4_commit_5 : decode cX4_commit 5 = .ok (.aload_n 0, 1) := by decide +kernel
theorem dX4_commit_6 : decode cX4_commit 6 = .ok (.iload_n 1, 1) := by decide +kernel
theorem dX4_commit_7 : decode cX4_commit 7 = .ok (.invokevirtual 74, 3) := by decide +kernel
theorem dX4_commit_10 : decode cX4_commit 10 = .ok (.istore_n 2, 1) := by decide +kernel
theorem dX4_commit_11 : decode cX4_commit 11 = .ok (.iload_n 2, 1) := by decide +kernel
theorem dX4_commit_12 : decode cX4_commit 12 = .ok (.ifCond .ge 9, 3) := by decide +kernel
theorem dX4_commit_15 : decode cX4_commit 15 = .ok (.aload_n 0, 1) := by decide +kernel
theorem dX4_commit_16 : decode cX4_commit 16 = .ok (.iconst 1, 1) := by decide +kernel
theorem dX4_commit_17 : decode cX4_commit 17 = .ok (.invokevirtual 64, 3) := by decide +kernel
theorem dX4_commit_20 : decode cX4_commit 20 = .ok (.ireturn, 1) := by decide +kernel
theorem dX4_commit_21 : decode cX4_commit 21 = .ok (.aload_n 0, 1) := by decide +kernel
theorem dX4_commit_22 : decode cX4_commit 22 = .ok (.invokevirtual 68, 3) := by decide +kernel
theorem dX4_commit_25 : decode cX4_commit 25 = .ok (.iconst 1, 1) := by decide +kernel
theorem dX4_commit_26 : decode cX4_commit 26 = .ok (.iadd, 1) := by decide +kernel
theorem dX4_commit_27 : decode cX4_commit 27 = .ok (.sipush 150, 3) := by decide +kernel
theorem dX4_commit_30 : decode cX4_commit 30 = .ok (.if_icmp .le 9, 3) := by decide +kernel
theorem dX4_commit_33 : decode cX4_commit 33 = .ok (.aload_n 0, 1) := by decide +kernel
theorem dX4_commit_34 : decode cX4_commit 34 = .ok (.iconst 2, 1) := by decide +kernel
theorem dX4_commit_35 : decode cX4_commit 35 = .ok (.invokevirtual 64, 3) := by decide +kernel
theorem dX4_commit_38 : decode cX4_commit 38 = .ok (.ireturn, 1) := by decide +kernel
theorem dX4_commit_39 : decode cX4_commit 39 = .ok (.aload_n 0, 1) := by decide +kernel
theorem dX4_commit_40 : decode cX4_commit 40 = .ok (.dup, 1) := by decide +kernel
theorem dX4_commit_41 : decode cX4_commit 41 = .ok (.getfield 57, 3) := by decide +kernel
theorem dX4_commit_44 : decode cX4_commit 44 = .ok (.aload_n 0, 1) := by decide +kernel
theorem dX4_commit_45 : decode cX4_commit 45 = .ok (.getfield 38, 3) := by decide +kernel
theorem dX4_commit_48 : decode cX4_commit 48 = .ok (.iload_n 2, 1) := by decide +kernel
theorem dX4_commit_49 : decode cX4_commit 49 = .ok (.iaload, 1) := by decide +kernel
theorem dX4_commit_50 : decode cX4_commit 50 = .ok (.iconst 1, 1) := by decide +kernel
theorem dX4_commit_51 : decode cX4_commit 51 = .ok (.iadd, 1) := by decide +kernel
theorem dX4_commit_52 : decode cX4_commit 52 = .ok (.iadd, 1) := by decide +kernel
theorem dX4_commit_53 : decode cX4_commit 53 = .ok (.putfield 57, 3) := by decide +kernel
theorem dX4_commit_56 : decode cX4_commit 56 = .ok (.aload_n 0, 1) := by decide +kernel
theorem dX4_commit_57 : decode cX4_commit 57 = .ok (.iload_n 2, 1) := by decide +kernel
theorem dX4_commit_58 : decode cX4_commit 58 = .ok (.iconst 0, 1) := by decide +kernel
theorem dX4_commit_59 : decode cX4_commit 59 = .ok (.invokevirtual 130, 3) := by decide +kernel
theorem dX4_commit_62 : decode cX4_commit 62 = .ok (.ireturn, 1) := by decide +kernel
theorem dX4_abort_0 : decode cX4_abort 0 = .ok (.aload_n 0, 1) := by decide +kernel
theorem dX4_abort_1 : decode cX4_abort 1 = .ok (.iconst 0, 1) := by decide +kernel
theorem dX4_abort_2 : decode cX4_abort 2 = .ok (.putfield 53, 3) := by decide +kernel
theorem dX4_abort_5 : decode cX4_abort 5 = .ok (.aload_n 0, 1) := by decide +kernel
theorem dX4_abort_6 : decode cX4_abort 6 = .ok (.iload_n 1, 1) := by decide +kernel
theorem dX4_abort_7 : decode cX4_abort 7 = .ok (.invokevirtual 74, 3) := by decide +kernel
theorem dX4_abort_10 : decode cX4_abort 10 = .ok (.istore_n 2, 1) := by decide +kernel
theorem dX4_abort_11 : decode cX4_abort 11 = .ok (.iload_n 2, 1) := by decide +kernel
theorem dX4_abort_12 : decode cX4_abort 12 = .ok (.ifCond .ge 11, 3) := by decide +kernel
theorem dX4_abort_15 : decode cX4_abort 15 = .ok (.aload_n 0, 1) := by decide +kernel
theorem dX4_abort_16 : decode cX4_abort 16 = .ok (.iconst 1, 1) := by decide +kernel
theorem dX4_abort_17 : decode cX4_abort 17 = .ok (.invokevirtual 64, 3) := by decide +kernel
theorem dX4_abort_20 : decode cX4_abort 20 = .ok (.goto 9, 3) := by decide +kernel
theorem dX4_abort_23 : decode cX4_abort 23 = .ok (.aload_n 0, 1) := by decide +kernel
theorem dX4_abort_24 : decode cX4_abort 24 = .ok (.iload_n 2, 1) := by decide +kernel
theorem dX4_abort_25 : decode cX4_abort 25 = .ok (.iconst 1, 1) := by decide +kernel
theorem dX4_abort_26 : decode cX4_abort 26 = .ok (.invokevirtual 130, 3) := by decide +kernel
theorem dX4_abort_29 : decode cX4_abort 29 = .ok (.ireturn, 1) := by decide +kernel
theorem dX4_checkpoint_0 : decode cX4_checkpoint 0 = .ok (.aload_n 0, 1) := by decide +kernel
theorem dX4_checkpoint_1 : decode cX4_checkpoint 1 = .ok (.iconst 0, 1) := by decide +kernel
theorem dX4_checkpoint_2 : decode cX4_checkpoint 2 = .ok (.putfield 53, 3) := by decide +kernel
theorem dX4_checkpoint_5 : decode cX4_checkpoint 5 = .ok (.aload_n 0, 1) := by decide +kernel
theorem dX4_checkpoint_6 : decode cX4_checkpoint 6 = .ok (.iconst 0, 1) := by decide +kernel
theorem dX4_checkpoint_7 : decode cX4_checkpoint 7 = .ok (.putfield 57, 3) := by decide +kernel
theorem dX4_checkpoint_10 : decode cX4_checkpoint 10 = .ok (.aload_n 0, 1) := by decide +kernel
theorem dX4_checkpoint_11 : decode cX4_checkpoint 11 = .ok (.invokevirtual 68, 3) := by decide +kernel
theorem dX4_checkpoint_14 : decode cX4_checkpoint 14 = .ok (.ireturn, 1) := by decide +kernel
theorem dX4_crash_0 : decode cX4_crash 0 = .ok (.aload_n 0, 1) := by decide +kernel
theorem dX4_crash_1 : decode cX4_crash 1 = .ok (.iconst 0, 1) := by decide +kernel
theorem dX4_crash_2 : decode cX4_crash 2 = .ok (.putfield 53, 3) := by decide +kernel
theorem dX4_crash_5 : decode cX4_crash 5 = .ok (.aload_n 0, 1) := by decide +kernel
theorem dX4_crash_6 : decode cX4_crash 6 = .ok (.invokevirtual 60, 3) := by decide +kernel
theorem dX4_crash_9 : decode cX4_crash 9 = .ok (.istore_n 1, 1) := by decide +kernel
theorem dX4_crash_10 : decode cX4_crash 10 = .ok (.iconst 0, 1) := by decide +kernel
theorem dX4_crash_11 : decode cX4_crash 11 = .ok (.istore_n 2, 1) := by decide +kernel
theorem dX4_crash_12 : decode cX4_crash 12 = .ok (.iload_n 2, 1) := by decide +kernel
theorem dX4_crash_13 : decode cX4_crash 13 = .ok (.iconst 3, 1) := by decide +kernel
theorem dX4_crash_14 : decode cX4_crash 14 = .ok (.if_icmp .ge 28, 3) := by decide +kernel
theorem dX4_crash_17 : decode cX4_crash 17 = .ok (.aload_n 0, 1) := by decide +kernel
theorem dX4_crash_18 : decode cX4_crash 18 = .ok (.getfield 35, 3) := by decide +kernel
theorem dX4_crash_21 : decode cX4_crash 21 = .ok (.iload_n 2, 1) := by decide +kernel
theorem dX4_crash_22 : decode cX4_crash 22 = .ok (.iaload, 1) := by decide +kernel
theorem dX4_crash_23 : decode cX4_crash 23 = .ok (.ifCond .ne 6, 3) := by decide +kernel
theorem dX4_crash_26 : decode cX4_crash 26 = .ok (.goto 10, 3) := by decide +kernel
theorem dX4_crash_29 : decode cX4_crash 29 = .ok (.aload_n 0, 1) := by decide +kernel
theorem dX4_crash_30 : decode cX4_crash 30 = .ok (.iload_n 2, 1) := by decide +kernel
theorem dX4_crash_31 : decode cX4_crash 31 = .ok (.iconst 1, 1) := by decide +kernel
theorem dX4_crash_32 : decode cX4_crash 32 = .ok (.invokevirtual 130, 3) := by decide +kernel
theorem dX4_crash_35 : decode cX4_crash 35 = .ok (.istore_n 3, 1) := by decide +kernel
theorem dX4_crash_36 : decode cX4_crash 36 = .ok (.iinc 2 1, 3) := by decide +kernel
theorem dX4_crash_39 : decode cX4_crash 39 = .ok (.goto (-27), 3) := by decide +kernel
theorem dX4_crash_42 : decode cX4_crash 42 = .ok (.aload_n 0, 1) := by decide +kernel
theorem dX4_crash_43 : decode cX4_crash 43 = .ok (.iconst 0, 1) := by decide +kernel
theorem dX4_crash_44 : decode cX4_crash 44 = .ok (.putfield 57, 3) := by decide +kernel
theorem dX4_crash_47 : decode cX4_crash 47 = .ok (.iload_n 1, 1) := by decide +kernel
theorem dX4_crash_48 : decode cX4_crash 48 = .ok (.ireturn, 1) := by decide +kernel
theorem dX4_hold_0 : decode cX4_hold 0 = .ok (.aload_n 0, 1) := by decide +kernel
theorem dX4_hold_1 : decode cX4_hold 1 = .ok (.iload_n 1, 1) := by decide +kernel
theorem dX4_hold_2 : decode cX4_hold 2 = .ok (.invokevirtual 87, 3) := by decide +kernel
theorem dX4_hold_5 : decode cX4_hold 5 = .ok (.istore_n 2, 1) := by decide +kernel
theorem dX4_hold_6 : decode cX4_hold 6 = .ok (.iload_n 2, 1) := by decide +kernel
theorem dX4_hold_7 : decode cX4_hold 7 = .ok (.ifCond .lt 10, 3) := by decide +kernel
theorem dX4_hold_10 : decode cX4_hold 10 = .ok (.aload_n 0, 1) := by decide +kernel
theorem dX4_hold_11 : decode cX4_hold 11 = .ok (.getfield 26, 3) := by decide +kernel
theorem dX4_hold_14 : decode cX4_hold 14 = .ok (.iload_n 2, 1) := by decide +kernel
theorem dX4_hold_15 : decode cX4_hold 15 = .ok (.iconst 1, 1) := by decide +kernel
theorem dX4_hold_16 : decode cX4_hold 16 = .ok (.bastore, 1) := by decide +kernel
theorem dX4_hold_17 : decode cX4_hold 17 = .ok (.return_, 1) := by decide +kernel
theorem dX4_markHeld_0 : decode cX4_markHeld 0 = .ok (.iconst 0, 1) := by decide +kernel
theorem dX4_markHeld_1 : decode cX4_markHeld 1 = .ok (.istore_n 1, 1) := by decide +kernel
theorem dX4_markHeld_2 : decode cX4_markHeld 2 = .ok (.iload_n 1, 1) := by decide +kernel
theorem dX4_markHeld_3 : decode cX4_markHeld 3 = .ok (.bipush 80, 2) := by decide +kernel
theorem dX4_markHeld_5 : decode cX4_markHeld 5 = .ok (.if_icmp .ge 38, 3) := by decide +kernel
theorem dX4_markHeld_8 : decode cX4_markHeld 8 = .ok (.aload_n 0, 1) := by decide +kernel
theorem dX4_markHeld_9 : decode cX4_markHeld 9 = .ok (.getfield 26, 3) := by decide +kernel
theorem dX4_markHeld_12 : decode cX4_markHeld 12 = .ok (.iload_n 1, 1) := by decide +kernel
theorem dX4_markHeld_13 : decode cX4_markHeld 13 = .ok (.aload_n 0, 1) := by decide +kernel
theorem dX4_markHeld_14 : decode cX4_markHeld 14 = .ok (.getfield 7, 3) := by decide +kernel
theorem dX4_markHeld_17 : decode cX4_markHeld 17 = .ok (.iload_n 1, 1) := by decide +kernel
theorem dX4_markHeld_18 : decode cX4_markHeld 18 = .ok (.iaload, 1) := by decide +kernel
theorem dX4_markHeld_19 : decode cX4_markHeld 19 = .ok (.ifCond .le 16, 3) := by decide +kernel
theorem dX4_markHeld_22 : decode cX4_markHeld 22 = .ok (.aload_n 0, 1) := by decide +kernel
theorem dX4_markHeld_23 : decode cX4_markHeld 23 = .ok (.getfield 16, 3) := by decide +kernel
theorem dX4_markHeld_26 : decode cX4_markHeld 26 = .ok (.iload_n 1, 1) := by decide +kernel
theorem dX4_markHeld_27 : decode cX4_markHeld 27 = .ok (.iaload, 1) := by decide +kernel
theorem dX4_markHeld_28 : decode cX4_markHeld 28 = .ok (.ifCond .le 7, 3) := by decide +kernel
theorem dX4_markHeld_31 : decode cX4_markHeld 31 = .ok (.iconst 1, 1) := by decide +kernel
theorem dX4_markHeld_32 : decode cX4_markHeld 32 = .ok (.goto 4, 3) := by decide +kernel
theorem dX4_markHeld_35 : decode cX4_markHeld 35 = .ok (.iconst 0, 1) := by decide +kernel
theorem dX4_markHeld_36 : decode cX4_markHeld 36 = .ok (.bastore, 1) := by decide +kernel
theorem dX4_markHeld_37 : decode cX4_markHeld 37 = .ok (.iinc 1 1, 3) := by decide +kernel
theorem dX4_markHeld_40 : decode cX4_markHeld 40 = .ok (.goto (-38), 3) := by decide +kernel
theorem dX4_markHeld_43 : decode cX4_markHeld 43 = .ok (.iconst 0, 1) := by decide +kernel
theorem dX4_markHeld_44 : decode cX4_markHeld 44 = .ok (.istore_n 1, 1) := by decide +kernel
theorem dX4_markHeld_45 : decode cX4_markHeld 45 = .ok (.iload_n 1, 1) := by decide +kernel
theorem dX4_markHeld_46 : decode cX4_markHeld 46 = .ok (.iconst 4, 1) := by decide +kernel
theorem dX4_markHeld_47 : decode cX4_markHeld 47 = .ok (.if_icmp .ge 19, 3) := by decide +kernel
theorem dX4_markHeld_50 : decode cX4_markHeld 50 = .ok (.aload_n 0, 1) := by decide +kernel
theorem dX4_markHeld_51 : decode cX4_markHeld 51 = .ok (.aload_n 0, 1) := by decide +kernel
theorem dX4_markHeld_52 : decode cX4_markHeld 52 = .ok (.getfield 29, 3) := by decide +kernel
theorem dX4_markHeld_55 : decode cX4_markHeld 55 = .ok (.iload_n 1, 1) := by decide +kernel
theorem dX4_markHeld_56 : decode cX4_markHeld 56 = .ok (.iaload, 1) := by decide +kernel
theorem dX4_markHeld_57 : decode cX4_markHeld 57 = .ok (.invokevirtual 134, 3) := by decide +kernel
theorem dX4_markHeld_60 : decode cX4_markHeld 60 = .ok (.iinc 1 1, 3) := by decide +kernel
theorem dX4_markHeld_63 : decode cX4_markHeld 63 = .ok (.goto (-18), 3) := by decide +kernel
theorem dX4_markHeld_66 : decode cX4_markHeld 66 = .ok (.iconst 0, 1) := by decide +kernel
theorem dX4_markHeld_67 : decode cX4_markHeld 67 = .ok (.istore_n 1, 1) := by decide +kernel
theorem dX4_markHeld_68 : decode cX4_markHeld 68 = .ok (.iload_n 1, 1) := by decide +kernel
theorem dX4_markHeld_69 : decode cX4_markHeld 69 = .ok (.aload_n 0, 1) := by decide +kernel
theorem dX4_markHeld_70 : decode cX4_markHeld 70 = .ok (.getfield 90, 3) := by decide +kernel
theorem dX4_markHeld_73 : decode cX4_markHeld 73 = .ok (.if_icmp .ge 28, 3) := by decide +kernel
theorem dX4_markHeld_76 : decode cX4_markHeld 76 = .ok (.aload_n 0, 1) := by decide +kernel
theorem dX4_markHeld_77 : decode cX4_markHeld 77 = .ok (.getfield 47, 3) := by decide +kernel
theorem dX4_markHeld_80 : decode cX4_markHeld 80 = .ok (.iload_n 1, 1) := by decide +kernel
theorem dX4_markHeld_81 : decode cX4_markHeld 81 = .ok (.baload, 1) := by decide +kernel
theorem dX4_markHeld_82 : decode cX4_markHeld 82 = .ok (.ifCond .eq 13, 3) := by decide +kernel
theorem dX4_markHeld_85 : decode cX4_markHeld 85 = .ok (.aload_n 0, 1) := by decide +kernel
theorem dX4_markHeld_86 : decode cX4_markHeld 86 = .ok (.aload_n 0, 1) := by decide +kernel
theorem dX4_markHeld_87 : decode cX4_markHeld 87 = .ok (.getfield 50, 3) := by decide +kernel
theorem dX4_markHeld_90 : decode cX4_markHeld 90 = .ok (.iload_n 1, 1) := by decide +kernel
theorem dX4_markHeld_91 : decode cX4_markHeld 91 = .ok (.iaload, 1) := by decide +kernel
theorem dX4_markHeld_92 : decode cX4_markHeld 92 = .ok (.invokevirtual 134, 3) := by decide +kernel
theorem dX4_markHeld_95 : decode cX4_markHeld 95 = .ok (.iinc 1 1, 3) := by decide +kernel
theorem dX4_markHeld_98 : decode cX4_markHeld 98 = .ok (.goto (-30), 3) := by decide +kernel
theorem dX4_markHeld_101 : decode cX4_markHeld 101 = .ok (.iconst 0, 1) := by decide +kernel
theorem dX4_markHeld_102 : decode cX4_markHeld 102 = .ok (.istore_n 1, 1) := by decide +kernel
theorem dX4_markHeld_103 : decode cX4_markHeld 103 = .ok (.iconst (-1), 1) := by decide +kernel
theorem dX4_markHeld_104 : decode cX4_markHeld 104 = .ok (.istore_n 2, 1) := by decide +kernel
theorem dX4_markHeld_105 : decode cX4_markHeld 105 = .ok (.iload_n 1, 1) := by decide +kernel
theorem dX4_markHeld_106 : decode cX4_markHeld 106 = .ok (.iload_n 2, 1) := by decide +kernel
theorem dX4_markHeld_107 : decode cX4_markHeld 107 = .ok (.if_icmp .eq 95, 3) := by decide +kernel
theorem dX4_markHeld_110 : decode cX4_markHeld 110 = .ok (.iload_n 1, 1) := by decide +kernel
theorem dX4_markHeld_111 : decode cX4_markHeld 111 = .ok (.istore_n 2, 1) := by decide +kernel
theorem dX4_markHeld_112 : decode cX4_markHeld 112 = .ok (.iconst 0, 1) := by decide +kernel
theorem dX4_markHeld_113 : decode cX4_markHeld 113 = .ok (.istore_n 3, 1) := by decide +kernel
theorem dX4_markHeld_114 : decode cX4_markHeld 114 = .ok (.iload_n 3, 1) := by decide +kernel
theorem dX4_markHeld_115 : decode cX4_markHeld 115 = .ok (.sipush 320, 3) := by decide +kernel
theorem dX4_markHeld_118 : decode cX4_markHeld 118 = .ok (.if_icmp .ge 53, 3) := by decide +kernel
theorem dX4_markHeld_121 : decode cX4_markHeld 121 = .ok (.aload_n 0, 1) := by decide +kernel
theorem dX4_markHeld_122 : decode cX4_markHeld 122 = .ok (.getfield 26, 3) := by decide +kernel
theorem dX4_markHeld_125 : decode cX4_markHeld 125 = .ok (.iload_n 3, 1) := by decide +kernel
theorem dX4_markHeld_126 : decode cX4_markHeld 126 = .ok (.iconst 4, 1) := by decide +kernel
theorem dX4_markHeld_127 : decode cX4_markHeld 127 = .ok (.idiv, 1) := by decide +kernel
theorem dX4_markHeld_128 : decode cX4_markHeld 128 = .ok (.baload, 1) := by decide +kernel
theorem dX4_markHeld_129 : decode cX4_markHeld 129 = .ok (.ifCond .eq 36, 3) := by decide +kernel
theorem dX4_markHeld_132 : decode cX4_markHeld 132 = .ok (.aload_n 0, 1) := by decide +kernel
theorem dX4_markHeld_133 : decode cX4_markHeld 133 = .ok (.getfield 19, 3) := by decide +kernel
theorem dX4_markHeld_136 : decode cX4_markHeld 136 = .ok (.iload_n 3, 1) := by decide +kernel
theorem dX4_markHeld_137 : decode cX4_markHeld 137 = .ok (.baload, 1) := by decide +kernel
theorem dX4_markHeld_138 : decode cX4_markHeld 138 = .ok (.ifCond .eq 27, 3) := by decide +kernel
theorem dX4_markHeld_141 : decode cX4_markHeld 141 = .ok (.iload_n 3, 1) := by decide +kernel
theorem dX4_markHeld_142 : decode cX4_markHeld 142 = .ok (.iconst 4, 1) := by decide +kernel
theorem dX4_markHeld_143 : decode cX4_markHeld 143 = .ok (.irem, 1) := by decide +kernel
theorem dX4_markHeld_144 : decode cX4_markHeld 144 = .ok (.aload_n 0, 1) := by decide +kernel
theorem dX4_markHeld_145 : decode cX4_markHeld 145 = .ok (.getfield 13, 3) := by decide +kernel
theorem dX4_markHeld_148 : decode cX4_markHeld 148 = .ok (.iload_n 3, 1) := by decide +kernel
theorem dX4_markHeld_149 : decode cX4_markHeld 149 = .ok (.iconst 4, 1) := by decide +kernel
theorem dX4_markHeld_150 : decode cX4_markHeld 150 = .ok (.idiv, 1) := by decide +kernel
theorem dX4_markHeld_151 : decode cX4_markHeld 151 = .ok (.iaload, 1) := by decide +kernel
theorem dX4_markHeld_152 : decode cX4_markHeld 152 = .ok (.if_icmp .ge 13, 3) := by decide +kernel
theorem dX4_markHeld_155 : decode cX4_markHeld 155 = .ok (.aload_n 0, 1) := by decide +kernel
theorem dX4_markHeld_156 : decode cX4_markHeld 156 = .ok (.aload_n 0, 1) := by decide +kernel
theorem dX4_markHeld_157 : decode cX4_markHeld 157 = .ok (.getfield 23, 3) := by decide +kernel
theorem dX4_markHeld_160 : decode cX4_markHeld 160 = .ok (.iload_n 3, 1) := by decide +kernel
theorem dX4_markHeld_161 : decode cX4_markHeld 161 = .ok (.iaload, 1) := by decide +kernel
theorem dX4_markHeld_162 : decode cX4_markHeld 162 = .ok (.invokevirtual 134, 3) := by decide +kernel
theorem dX4_markHeld_165 : decode cX4_markHeld 165 = .ok (.iinc 3 1, 3) := by decide +kernel
theorem dX4_markHeld_168 : decode cX4_markHeld 168 = .ok (.goto (-54), 3) := by decide +kernel
theorem dX4_markHeld_171 : decode cX4_markHeld 171 = .ok (.iconst 0, 1) := by decide +kernel
theorem dX4_markHeld_172 : decode cX4_markHeld 172 = .ok (.istore_n 1, 1) := by decide +kernel
theorem dX4_markHeld_173 : decode cX4_markHeld 173 = .ok (.iconst 0, 1) := by decide +kernel
theorem dX4_markHeld_174 : decode cX4_markHeld 174 = .ok (.istore_n 3, 1) := by decide +kernel
theorem dX4_markHeld_175 : decode cX4_markHeld 175 = .ok (.iload_n 3, 1) := by decide +kernel
theorem dX4_markHeld_176 : decode cX4_markHeld 176 = .ok (.bipush 80, 2) := by decide +kernel
theorem dX4_markHeld_178 : decode cX4_markHeld 178 = .ok (.if_icmp .ge 21, 3) := by decide +kernel
theorem dX4_markHeld_181 : decode cX4_markHeld 181 = .ok (.aload_n 0, 1) := by decide +kernel
theorem dX4_markHeld_182 : decode cX4_markHeld 182 = .ok (.getfield 26, 3) := by decide +kernel
theorem dX4_markHeld_185 : decode cX4_markHeld 185 = .ok (.iload_n 3, 1) := by decide +kernel
theorem dX4_markHeld_186 : decode cX4_markHeld 186 = .ok (.baload, 1) := by decide +kernel
theorem dX4_markHeld_187 : decode cX4_markHeld 187 = .ok (.ifCond .eq 6, 3) := by decide +kernel
theorem dX4_markHeld_190 : decode cX4_markHeld 190 = .ok (.iinc 1 1, 3) := by decide +kernel
theorem dX4_markHeld_193 : decode cX4_markHeld 193 = .ok (.iinc 3 1, 3) := by decide +kernel
theorem dX4_markHeld_196 : decode cX4_markHeld 196 = .ok (.goto (-21), 3) := by decide +kernel
theorem dX4_markHeld_199 : decode cX4_markHeld 199 = .ok (.goto (-94), 3) := by decide +kernel
theorem dX4_markHeld_202 : decode cX4_markHeld 202 = .ok (.iload_n 1, 1) := by decide +kernel
theorem dX4_markHeld_203 : decode cX4_markHeld 203 = .ok (.ireturn, 1) := by decide +kernel
theorem dX4_collect_0 : decode cX4_collect 0 = .ok (.aload_n 0, 1) := by decide +kernel
theorem dX4_collect_1 : decode cX4_collect 1 = .ok (.iconst 0, 1) := by decide +kernel
theorem dX4_collect_2 : decode cX4_collect 2 = .ok (.putfield 53, 3) := by decide +kernel
theorem dX4_collect_5 : decode cX4_collect 5 = .ok (.aload_n 0, 1) := by decide +kernel
theorem dX4_collect_6 : decode cX4_collect 6 = .ok (.invokevirtual 138, 3) := by decide +kernel
theorem dX4_collect_9 : decode cX4_collect 9 = .ok (.istore_n 2, 1) := by decide +kernel
theorem dX4_collect_10 : decode cX4_collect 10 = .ok (.iload_n 1, 1) := by decide +kernel
theorem dX4_collect_11 : decode cX4_collect 11 = .ok (.ifCond .lt 17, 3) := by decide +kernel
theorem dX4_collect_14 : decode cX4_collect 14 = .ok (.iload_n 1, 1) := by decide +kernel
theorem dX4_collect_15 : decode cX4_collect 15 = .ok (.iload_n 2, 1) := by decide +kernel
theorem dX4_collect_16 : decode cX4_collect 16 = .ok (.if_icmp .ge 12, 3) := by decide +kernel
theorem dX4_collect_19 : decode cX4_collect 19 = .ok (.aload_n 0, 1) := by decide +kernel
theorem dX4_collect_20 : decode cX4_collect 20 = .ok (.invokevirtual 141, 3) := by decide +kernel
theorem dX4_collect_23 : decode cX4_collect 23 = .ok (.istore_n 3, 1) := by decide +kernel
theorem dX4_collect_24 : decode cX4_collect 24 = .ok (.iconst (-1), 1) := by decide +kernel
theorem dX4_collect_25 : decode cX4_collect 25 = .ok (.iload_n 3, 1) := by decide +kernel
theorem dX4_collect_26 : decode cX4_collect 26 = .ok (.isub, 1) := by decide +kernel
theorem dX4_collect_27 : decode cX4_collect 27 = .ok (.ireturn, 1) := by decide +kernel
theorem dX4_collect_28 : decode cX4_collect 28 = .ok (.aload_n 0, 1) := by decide +kernel
theorem dX4_collect_29 : decode cX4_collect 29 = .ok (.getfield 81, 3) := by decide +kernel
theorem dX4_collect_32 : decode cX4_collect 32 = .ok (.istore_n 3, 1) := by decide +kernel
theorem dX4_collect_33 : decode cX4_collect 33 = .ok (.aload_n 0, 1) := by decide +kernel
theorem dX4_collect_34 : decode cX4_collect 34 = .ok (.iconst 0, 1) := by decide +kernel
theorem dX4_collect_35 : decode cX4_collect 35 = .ok (.putfield 81, 3) := by decide +kernel
theorem dX4_collect_38 : decode cX4_collect 38 = .ok (.iconst 0, 1) := by decide +kernel
theorem dX4_collect_39 : decode cX4_collect 39 = .ok (.istore 4, 2) := by decide +kernel
theorem dX4_collect_41 : decode cX4_collect 41 = .ok (.iload 4, 2) := by decide +kernel
theorem dX4_collect_43 : decode cX4_collect 43 = .ok (.bipush 80, 2) := by decide +kernel
theorem dX4_collect_45 : decode cX4_collect 45 = .ok (.if_icmp .ge 65, 3) := by decide +kernel
theorem dX4_collect_48 : decode cX4_collect 48 = .ok (.aload_n 0, 1) := by decide +kernel
theorem dX4_collect_49 : decode cX4_collect 49 = .ok (.getfield 7, 3) := by decide +kernel
theorem dX4_collect_52 : decode cX4_collect 52 = .ok (.iload 4, 2) := by decide +kernel
theorem dX4_collect_54 : decode cX4_collect 54 = .ok (.iaload, 1) := by decide +kernel
theorem dX4_collect_55 : decode cX4_collect 55 = .ok (.ifCond .le 21, 3) := by decide +kernel
theorem dX4_collect_58 : decode cX4_collect 58 = .ok (.aload_n 0, 1) := by decide +kernel
theorem dX4_collect_59 : decode cX4_collect 59 = .ok (.getfield 26, 3) := by decide +kernel
theorem dX4_collect_62 : decode cX4_collect 62 = .ok (.iload 4, 2) := by decide +kernel
theorem dX4_collect_64 : decode cX4_collect 64 = .ok (.baload, 1) := by decide +kernel
theorem dX4_collect_65 : decode cX4_collect 65 = .ok (.ifCond .ne 11, 3) := by decide +kernel
theorem dX4_collect_68 : decode cX4_collect 68 = .ok (.aload_n 0, 1) := by decide +kernel
theorem dX4_collect_69 : decode cX4_collect 69 = .ok (.getfield 7, 3) := by decide +kernel
theorem dX4_collect_72 : decode cX4_collect 72 = .ok (.iload 4, 2) := by decide +kernel
theorem dX4_collect_74 : decode cX4_collect 74 = .ok (.iconst 0, 1) := by decide +kernel
theorem dX4_collect_75 : decode cX4_collect 75 = .ok (.iastore, 1) := by decide +kernel
theorem dX4_collect_76 : decode cX4_collect 76 = .ok (.aload_n 0, 1) := by decide +kernel
theorem dX4_collect_77 : decode cX4_collect 77 = .ok (.getfield 7, 3) := by decide +kernel
theorem dX4_collect_80 : decode cX4_collect 80 = .ok (.iload 4, 2) := by decide +kernel
theorem dX4_collect_82 : decode cX4_collect 82 = .ok (.iaload, 1) := by decide +kernel
theorem dX4_collect_83 : decode cX4_collect 83 = .ok (.ifCond .le 21, 3) := by decide +kernel
theorem dX4_collect_86 : decode cX4_collect 86 = .ok (.aload_n 0, 1) := by decide +kernel
theorem dX4_collect_87 : decode cX4_collect 87 = .ok (.dup, 1) := by decide +kernel
theorem dX4_collect_88 : decode cX4_collect 88 = .ok (.getfield 81, 3) := by decide +kernel
theorem dX4_collect_91 : decode cX4_collect 91 = .ok (.iconst 1, 1) := by decide +kernel
theorem dX4_collect_92 : decode cX4_collect 92 = .ok (.aload_n 0, 1) := by decide +kernel
theorem dX4_collect_93 : decode cX4_collect 93 = .ok (.getfield 13, 3) := by decide +kernel
theorem dX4_collect_96 : decode cX4_collect 96 = .ok (.iload 4, 2) := by decide +kernel
theorem dX4_collect_98 : decode cX4_collect 98 = .ok (.iaload, 1) := by decide +kernel
theorem dX4_collect_99 : decode cX4_collect 99 = .ok (.iadd, 1) := by decide +kernel
theorem dX4_collect_100 : decode cX4_collect 100 = .ok (.iadd, 1) := by decide +kernel
theorem dX4_collect_101 : decode cX4_collect 101 = .ok (.putfield 81, 3) := by decide +kernel
theorem dX4_collect_104 : decode cX4_collect 104 = .ok (.iinc 4 1, 3) := by decide +kernel
theorem dX4_collect_107 : decode cX4_collect 107 = .ok (.goto (-66), 3) := by decide +kernel
theorem dX4_collect_110 : decode cX4_collect 110 = .ok (.aload_n 0, 1) := by decide +kernel
theorem dX4_collect_111 : decode cX4_collect 111 = .ok (.iconst 0, 1) := by decide +kernel
theorem dX4_collect_112 : decode cX4_collect 112 = .ok (.putfield 57, 3) := by decide +kernel
theorem dX4_collect_115 : decode cX4_collect 115 = .ok (.aload_n 0, 1) := by decide +kernel
theorem dX4_collect_116 : decode cX4_collect 116 = .ok (.dup, 1) := by decide +kernel
theorem dX4_collect_117 : decode cX4_collect 117 = .ok (.getfield 144, 3) := by decide +kernel
theorem dX4_collect_120 : decode cX4_collect 120 = .ok (.iconst 1, 1) := by decide +kernel
theorem dX4_collect_121 : decode cX4_collect 121 = .ok (.iadd, 1) := by decide +kernel
theorem dX4_collect_122 : decode cX4_collect 122 = .ok (.putfield 144, 3) := by decide +kernel
theorem dX4_collect_125 : decode cX4_collect 125 = .ok (.iload_n 3, 1) := by decide +kernel
theorem dX4_collect_126 : decode cX4_collect 126 = .ok (.aload_n 0, 1) := by decide +kernel
theorem dX4_collect_127 : decode cX4_collect 127 = .ok (.getfield 81, 3) := by decide +kernel
theorem dX4_collect_130 : decode cX4_collect 130 = .ok (.isub, 1) := by decide +kernel
theorem dX4_collect_131 : decode cX4_collect 131 = .ok (.ireturn, 1) := by decide +kernel
theorem dX4_fields_0 : decode cX4_fields 0 = .ok (.aload_n 0, 1) := by decide +kernel
theorem dX4_fields_1 : decode cX4_fields 1 = .ok (.iconst 0, 1) := by decide +kernel
theorem dX4_fields_2 : decode cX4_fields 2 = .ok (.putfield 53, 3) := by decide +kernel
theorem dX4_fields_5 : decode cX4_fields 5 = .ok (.aload_n 0, 1) := by decide +kernel
theorem dX4_fields_6 : decode cX4_fields 6 = .ok (.iload_n 1, 1) := by decide +kernel
theorem dX4_fields_7 : decode cX4_fields 7 = .ok (.invokevirtual 87, 3) := by decide +kernel
theorem dX4_fields_10 : decode cX4_fields 10 = .ok (.istore_n 2, 1) := by decide +kernel
theorem dX4_fields_11 : decode cX4_fields 11 = .ok (.iload_n 2, 1) := by decide +kernel
theorem dX4_fields_12 : decode cX4_fields 12 = .ok (.ifCond .ge 11, 3) := by decide +kernel
theorem dX4_fields_15 : decode cX4_fields 15 = .ok (.aload_n 0, 1) := by decide +kernel
theorem dX4_fields_16 : decode cX4_fields 16 = .ok (.iconst 1, 1) := by decide +kernel
theorem dX4_fields_17 : decode cX4_fields 17 = .ok (.invokevirtual 64, 3) := by decide +kernel
theorem dX4_fields_20 : decode cX4_fields 20 = .ok (.goto 9, 3) := by decide +kernel
theorem dX4_fields_23 : decode cX4_fields 23 = .ok (.aload_n 0, 1) := by decide +kernel
theorem dX4_fields_24 : decode cX4_fields 24 = .ok (.getfield 13, 3) := by decide +kernel
theorem dX4_fields_27 : decode cX4_fields 27 = .ok (.iload_n 2, 1) := by decide +kernel
theorem dX4_fields_28 : decode cX4_fields 28 = .ok (.iaload, 1) := by decide +kernel
theorem dX4_fields_29 : decode cX4_fields 29 = .ok (.ireturn, 1) := by decide +kernel
theorem dX4_lockedBy_0 : decode cX4_lockedBy 0 = .ok (.aload_n 0, 1) := by decide +kernel
theorem dX4_lockedBy_1 : decode cX4_lockedBy 1 = .ok (.iconst 0, 1) := by decide +kernel
theorem dX4_lockedBy_2 : decode cX4_lockedBy 2 = .ok (.putfield 53, 3) := by decide +kernel
theorem dX4_lockedBy_5 : decode cX4_lockedBy 5 = .ok (.iload_n 1, 1) := by decide +kernel
theorem dX4_lockedBy_6 : decode cX4_lockedBy 6 = .ok (.ifCond .ne 26, 3) := by decide +kernel
theorem dX4_lockedBy_9 : decode cX4_lockedBy 9 = .ok (.iload_n 2, 1) := by decide +kernel
theorem dX4_lockedBy_10 : decode cX4_lockedBy 10 = .ok (.iconst 3, 1) := by decide +kernel
theorem dX4_lockedBy_11 : decode cX4_lockedBy 11 = .ok (.invokestatic 77, 3) := by decide +kernel
theorem dX4_lockedBy_14 : decode cX4_lockedBy 14 = .ok (.ifCond .eq 11, 3) := by decide +kernel
theorem dX4_lockedBy_17 : decode cX4_lockedBy 17 = .ok (.aload_n 0, 1) := by decide +kernel
theorem dX4_lockedBy_18 : decode cX4_lockedBy 18 = .ok (.iconst 1, 1) := by decide +kernel
theorem dX4_lockedBy_19 : decode cX4_lockedBy 19 = .ok (.invokevirtual 64, 3) := by decide +kernel
theorem dX4_lockedBy_22 : decode cX4_lockedBy 22 = .ok (.goto 9, 3) := by decide +kernel
theorem dX4_lockedBy_25 : decode cX4_lockedBy 25 = .ok (.aload_n 0, 1) := by decide +kernel
theorem dX4_lockedBy_26 : decode cX4_lockedBy 26 = .ok (.getfield 32, 3) := by decide +kernel
theorem dX4_lockedBy_29 : decode cX4_lockedBy 29 = .ok (.iload_n 2, 1) := by decide +kernel
theorem dX4_lockedBy_30 : decode cX4_lockedBy 30 = .ok (.iaload, 1) := by decide +kernel
theorem dX4_lockedBy_31 : decode cX4_lockedBy 31 = .ok (.ireturn, 1) := by decide +kernel
theorem dX4_lockedBy_32 : decode cX4_lockedBy 32 = .ok (.aload_n 0, 1) := by decide +kernel
theorem dX4_lockedBy_33 : decode cX4_lockedBy 33 = .ok (.iload_n 1, 1) := by decide +kernel
theorem dX4_lockedBy_34 : decode cX4_lockedBy 34 = .ok (.invokevirtual 87, 3) := by decide +kernel
theorem dX4_lockedBy_37 : decode cX4_lockedBy 37 = .ok (.istore_n 3, 1) := by decide +kernel
theorem dX4_lockedBy_38 : decode cX4_lockedBy 38 = .ok (.iload_n 3, 1) := by decide +kernel
theorem dX4_lockedBy_39 : decode cX4_lockedBy 39 = .ok (.ifCond .ge 11, 3) := by decide +kernel
theorem dX4_lockedBy_42 : decode cX4_lockedBy 42 = .ok (.aload_n 0, 1) := by decide +kernel
theorem dX4_lockedBy_43 : decode cX4_lockedBy 43 = .ok (.iconst 1, 1) := by decide +kernel
theorem dX4_lockedBy_44 : decode cX4_lockedBy 44 = .ok (.invokevirtual 64, 3) := by decide +kernel
theorem dX4_lockedBy_47 : decode cX4_lockedBy 47 = .ok (.goto 9, 3) := by decide +kernel
theorem dX4_lockedBy_50 : decode cX4_lockedBy 50 = .ok (.aload_n 0, 1) := by decide +kernel
theorem dX4_lockedBy_51 : decode cX4_lockedBy 51 = .ok (.getfield 16, 3) := by decide +kernel
theorem dX4_lockedBy_54 : decode cX4_lockedBy 54 = .ok (.iload_n 3, 1) := by decide +kernel
theorem dX4_lockedBy_55 : decode cX4_lockedBy 55 = .ok (.iaload, 1) := by decide +kernel
theorem dX4_lockedBy_56 : decode cX4_lockedBy 56 = .ok (.ireturn, 1) := by decide +kernel
theorem dX4_count_0 : decode cX4_count 0 = .ok (.aload_n 0, 1) := by decide +kernel
theorem dX4_count_1 : decode cX4_count 1 = .ok (.iconst 0, 1) := by decide +kernel
theorem dX4_count_2 : decode cX4_count 2 = .ok (.putfield 53, 3) := by decide +kernel
theorem dX4_count_5 : decode cX4_count 5 = .ok (.iload_n 1, 1) := by decide +kernel
theorem dX4_count_6 : decode cX4_count 6 = .ok (.bipush 7, 2) := by decide +kernel
theorem dX4_count_8 : decode cX4_count 8 = .ok (.invokestatic 77, 3) := by decide +kernel
theorem dX4_count_11 : decode cX4_count 11 = .ok (.ifCond .eq 9, 3) := by decide +kernel
theorem dX4_count_14 : decode cX4_count 14 = .ok (.aload_n 0, 1) := by decide +kernel
theorem dX4_count_15 : decode cX4_count 15 = .ok (.iconst 1, 1) := by decide +kernel
theorem dX4_count_16 : decode cX4_count 16 = .ok (.invokevirtual 64, 3) := by decide +kernel
theorem dX4_count_19 : decode cX4_count 19 = .ok (.ireturn, 1) := by decide +kernel
theorem dX4_count_20 : decode cX4_count 20 = .ok (.iconst 0, 1) := by decide +kernel
theorem dX4_count_21 : decode cX4_count 21 = .ok (.istore_n 2, 1) := by decide +kernel
theorem dX4_count_22 : decode cX4_count 22 = .ok (.iconst 0, 1) := by decide +kernel
theorem dX4_count_23 : decode cX4_count 23 = .ok (.istore_n 3, 1) := by decide +kernel
theorem dX4_count_24 : decode cX4_count 24 = .ok (.iload_n 3, 1) := by decide +kernel
theorem dX4_count_25 : decode cX4_count 25 = .ok (.bipush 80, 2) := by decide +kernel
theorem dX4_count_27 : decode cX4_count 27 = .ok (.if_icmp .ge 21, 3) := by decide +kernel
theorem dX4_count_30 : decode cX4_count 30 = .ok (.aload_n 0, 1) := by decide +kernel
theorem dX4_count_31 : decode cX4_count 31 = .ok (.getfield 7, 3) := by decide +kernel
theorem dX4_count_34 : decode cX4_count 34 = .ok (.iload_n 3, 1) := by decide +kernel
theorem dX4_count_35 : decode cX4_count 35 = .ok (.iaload, 1) := by decide +kernel
theorem dX4_count_36 : decode cX4_count 36 = .ok (.ifCond .le 6, 3) := by decide +kernel
theorem dX4_count_39 : decode cX4_count 39 = .ok (.iinc 2 1, 3) := by decide +kernel
theorem dX4_count_42 : decode cX4_count 42 = .ok (.iinc 3 1, 3) := by decide +kernel
theorem dX4_count_45 : decode cX4_count 45 = .ok (.goto (-21), 3) := by decide +kernel
theorem dX4_count_48 : decode cX4_count 48 = .ok (.iload_n 1, 1) := by decide +kernel
theorem dX4_count_49 : decode cX4_count 49 = .ok (.tableswitch 75 0 6 #[43, 45, 50, 55, 60, 65, 70], 43) := by decide +kernel
theorem dX4_count_92 : decode cX4_count 92 = .ok (.iload_n 2, 1) := by decide +kernel
theorem dX4_count_93 : decode cX4_count 93 = .ok (.ireturn, 1) := by decide +kernel
theorem dX4_count_94 : decode cX4_count 94 = .ok (.aload_n 0, 1) := by decide +kernel
theorem dX4_count_95 : decode cX4_count 95 = .ok (.getfield 84, 3) := by decide +kernel
theorem dX4_count_98 : decode cX4_count 98 = .ok (.ireturn, 1) := by decide +kernel
theorem dX4_count_99 : decode cX4_count 99 = .ok (.aload_n 0, 1) := by decide +kernel
theorem dX4_count_100 : decode cX4_count 100 = .ok (.getfield 81, 3) := by decide +kernel
theorem dX4_count_103 : decode cX4_count 103 = .ok (.ireturn, 1) := by decide +kernel
theorem dX4_count_104 : decode cX4_count 104 = .ok (.aload_n 0, 1) := by decide +kernel
theorem dX4_count_105 : decode cX4_count 105 = .ok (.invokevirtual 68, 3) := by decide +kernel
theorem dX4_count_108 : decode cX4_count 108 = .ok (.ireturn, 1) := by decide +kernel
theorem dX4_count_109 : decode cX4_count 109 = .ok (.aload_n 0, 1) := by decide +kernel
theorem dX4_count_110 : decode cX4_count 110 = .ok (.invokevirtual 60, 3) := by decide +kernel
theorem dX4_count_113 : decode cX4_count 113 = .ok (.ireturn, 1) := by decide +kernel
theorem dX4_count_114 : decode cX4_count 114 = .ok (.aload_n 0, 1) := by decide +kernel
theorem dX4_count_115 : decode cX4_count 115 = .ok (.getfield 71, 3) := by decide +kernel
theorem dX4_count_118 : decode cX4_count 118 = .ok (.ireturn, 1) := by decide +kernel
theorem dX4_count_119 : decode cX4_count 119 = .ok (.aload_n 0, 1) := by decide +kernel
theorem dX4_count_120 : decode cX4_count 120 = .ok (.getfield 144, 3) := by decide +kernel
theorem dX4_count_123 : decode cX4_count 123 = .ok (.ireturn, 1) := by decide +kernel
theorem dX4_count_124 : decode cX4_count 124 = .ok (.aload_n 0, 1) := by decide +kernel
theorem dX4_count_125 : decode cX4_count 125 = .ok (.invokevirtual 138, 3) := by decide +kernel
theorem dX4_count_128 : decode cX4_count 128 = .ok (.ireturn, 1) := by decide +kernel
