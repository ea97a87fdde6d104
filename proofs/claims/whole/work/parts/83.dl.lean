/-! decode rows -/
theorem dL_begin_0 : decode cL_begin 0 = .ok (.aload_n 1, 1) := by decide +kernel
theorem dL_begin_1 : decode cL_begin 1 = .ok (.iconst 0, 1) := by decide +kernel
theorem dL_begin_2 : decode cL_begin 2 = .ok (.aload_n 0, 1) := by decide +kernel
theorem dL_begin_3 : decode cL_begin 3 = .ok (.invokevirtual 7, 3) := by decide +kernel
theorem dL_begin_6 : decode cL_begin 6 = .ok (.i2l, 1) := by decide +kernel
theorem dL_begin_7 : decode cL_begin 7 = .ok (.lastore, 1) := by decide +kernel
theorem dL_begin_8 : decode cL_begin 8 = .ok (.goto 9, 3) := by decide +kernel
theorem dL_begin_11 : decode cL_begin 11 = .ok (.astore_n 2, 1) := by decide +kernel
theorem dL_begin_12 : decode cL_begin 12 = .ok (.iconst 1, 1) := by decide +kernel
theorem dL_begin_13 : decode cL_begin 13 = .ok (.ireturn, 1) := by decide +kernel
theorem dL_begin_14 : decode cL_begin 14 = .ok (.astore_n 2, 1) := by decide +kernel
theorem dL_begin_15 : decode cL_begin 15 = .ok (.iconst 2, 1) := by decide +kernel
theorem dL_begin_16 : decode cL_begin 16 = .ok (.ireturn, 1) := by decide +kernel
theorem dL_begin_17 : decode cL_begin 17 = .ok (.iconst 0, 1) := by decide +kernel
theorem dL_begin_18 : decode cL_begin 18 = .ok (.ireturn, 1) := by decide +kernel
theorem dL_make_0 : decode cL_make 0 = .ok (.aload_n 3, 1) := by decide +kernel
theorem dL_make_1 : decode cL_make 1 = .ok (.iconst 0, 1) := by decide +kernel
theorem dL_make_2 : decode cL_make 2 = .ok (.aload_n 0, 1) := by decide +kernel
theorem dL_make_3 : decode cL_make 3 = .ok (.iload_n 1, 1) := by decide +kernel
theorem dL_make_4 : decode cL_make 4 = .ok (.iload_n 2, 1) := by decide +kernel
theorem dL_make_5 : decode cL_make 5 = .ok (.invokevirtual 17, 3) := by decide +kernel
theorem dL_make_8 : decode cL_make 8 = .ok (.i2l, 1) := by decide +kernel
theorem dL_make_9 : decode cL_make 9 = .ok (.lastore, 1) := by decide +kernel
theorem dL_make_10 : decode cL_make 10 = .ok (.goto 19, 3) := by decide +kernel
theorem dL_make_13 : decode cL_make 13 = .ok (.astore 4, 2) := by decide +kernel
theorem dL_make_15 : decode cL_make 15 = .ok (.iconst 1, 1) := by decide +kernel
theorem dL_make_16 : decode cL_make 16 = .ok (.ireturn, 1) := by decide +kernel
theorem dL_make_17 : decode cL_make 17 = .ok (.astore 4, 2) := by decide +kernel
theorem dL_make_19 : decode cL_make 19 = .ok (.iconst 2, 1) := by decide +kernel
theorem dL_make_20 : decode cL_make 20 = .ok (.ireturn, 1) := by decide +kernel
theorem dL_make_21 : decode cL_make 21 = .ok (.astore 4, 2) := by decide +kernel
theorem dL_make_23 : decode cL_make 23 = .ok (.iconst 3, 1) := by decide +kernel
theorem dL_make_24 : decode cL_make 24 = .ok (.ireturn, 1) := by decide +kernel
theorem dL_make_25 : decode cL_make 25 = .ok (.astore 4, 2) := by decide +kernel
theorem dL_make_27 : decode cL_make 27 = .ok (.iconst 4, 1) := by decide +kernel
theorem dL_make_28 : decode cL_make 28 = .ok (.ireturn, 1) := by decide +kernel
theorem dL_make_29 : decode cL_make 29 = .ok (.iconst 0, 1) := by decide +kernel
theorem dL_make_30 : decode cL_make 30 = .ok (.ireturn, 1) := by decide +kernel
theorem dL_setInt_0 : decode cL_setInt 0 = .ok (.aload 5, 2) := by decide +kernel
theorem dL_setInt_2 : decode cL_setInt 2 = .ok (.iconst 0, 1) := by decide +kernel
theorem dL_setInt_3 : decode cL_setInt 3 = .ok (.aload_n 0, 1) := by decide +kernel
theorem dL_setInt_4 : decode cL_setInt 4 = .ok (.iload_n 1, 1) := by decide +kernel
theorem dL_setInt_5 : decode cL_setInt 5 = .ok (.iload_n 2, 1) := by decide +kernel
theorem dL_setInt_6 : decode cL_setInt 6 = .ok (.iload_n 3, 1) := by decide +kernel
theorem dL_setInt_7 : decode cL_setInt 7 = .ok (.iload 4, 2) := by decide +kernel
theorem dL_setInt_9 : decode cL_setInt 9 = .ok (.invokevirtual 25, 3) := by decide +kernel
theorem dL_setInt_12 : decode cL_setInt 12 = .ok (.i2l, 1) := by decide +kernel
theorem dL_setInt_13 : decode cL_setInt 13 = .ok (.lastore, 1) := by decide +kernel
theorem dL_setInt_14 : decode cL_setInt 14 = .ok (.goto 19, 3) := by decide +kernel
theorem dL_setInt_17 : decode cL_setInt 17 = .ok (.astore 6, 2) := by decide +kernel
theorem dL_setInt_19 : decode cL_setInt 19 = .ok (.iconst 1, 1) := by decide +kernel
theorem dL_setInt_20 : decode cL_setInt 20 = .ok (.ireturn, 1) := by decide +kernel
theorem dL_setInt_21 : decode cL_setInt 21 = .ok (.astore 6, 2) := by decide +kernel
theorem dL_setInt_23 : decode cL_setInt 23 = .ok (.iconst 2, 1) := by decide +kernel
theorem dL_setInt_24 : decode cL_setInt 24 = .ok (.ireturn, 1) := by decide +kernel
theorem dL_setInt_25 : decode cL_setInt 25 = .ok (.astore 6, 2) := by decide +kernel
theorem dL_setInt_27 : decode cL_setInt 27 = .ok (.iconst 3, 1) := by decide +kernel
theorem dL_setInt_28 : decode cL_setInt 28 = .ok (.ireturn, 1) := by decide +kernel
theorem dL_setInt_29 : decode cL_setInt 29 = .ok (.astore 6, 2) := by decide +kernel
theorem dL_setInt_31 : decode cL_setInt 31 = .ok (.iconst 4, 1) := by decide +kernel
theorem dL_setInt_32 : decode cL_setInt 32 = .ok (.ireturn, 1) := by decide +kernel
theorem dL_setInt_33 : decode cL_setInt 33 = .ok (.iconst 0, 1) := by decide +kernel
theorem dL_setInt_34 : decode cL_setInt 34 = .ok (.ireturn, 1) := by decide +kernel
theorem dL_setReference_0 : decode cL_setReference 0 = .ok (.aload 5, 2) := by decide +kernel
theorem dL_setReference_2 : decode cL_setReference 2 = .ok (.iconst 0, 1) := by decide +kernel
theorem dL_setReference_3 : decode cL_setReference 3 = .ok (.aload_n 0, 1) := by decide +kernel
theorem dL_setReference_4 : decode cL_setReference 4 = .ok (.iload_n 1, 1) := by decide +kernel
theorem dL_setReference_5 : decode cL_setReference 5 = .ok (.iload_n 2, 1) := by decide +kernel
theorem dL_setReference_6 : decode cL_setReference 6 = .ok (.iload_n 3, 1) := by decide +kernel
theorem dL_setReference_7 : decode cL_setReference 7 = .ok (.iload 4, 2) := by decide +kernel
theorem dL_setReference_9 : decode cL_setReference 9 = .ok (.invokevirtual 31, 3) := by decide +kernel
theorem dL_setReference_12 : decode cL_setReference 12 = .ok (.i2l, 1) := by decide +kernel
theorem dL_setReference_13 : decode cL_setReference 13 = .ok (.lastore, 1) := by decide +kernel
theorem dL_setReference_14 : decode cL_setReference 14 = .ok (.goto 23, 3) := by decide +kernel
theorem dL_setReference_17 : decode cL_setReference 17 = .ok (.astore 6, 2) := by decide +kernel
theorem dL_setReference_19 : decode cL_setReference 19 = .ok (.iconst 1, 1) := by decide +kernel
theorem dL_setReference_20 : decode cL_setReference 20 = .ok (.ireturn, 1) := by decide +kernel
theorem dL_setReference_21 : decode cL_setReference 21 = .ok (.astore 6, 2) := by decide +kernel
theorem dL_setReference_23 : decode cL_setReference 23 = .ok (.iconst 2, 1) := by decide +kernel
theorem dL_setReference_24 : decode cL_setReference 24 = .ok (.ireturn, 1) := by decide +kernel
theorem dL_setReference_25 : decode cL_setReference 25 = .ok (.astore 6, 2) := by decide +kernel
theorem dL_setReference_27 : decode cL_setReference 27 = .ok (.iconst 3, 1) := by decide +kernel
theorem dL_setReference_28 : decode cL_setReference 28 = .ok (.ireturn, 1) := by decide +kernel
theorem dL_setReference_29 : decode cL_setReference 29 = .ok (.astore 6, 2) := by decide +kernel
theorem dL_setReference_31 : decode cL_setReference 31 = .ok (.iconst 4, 1) := by decide +kernel
theorem dL_setReference_32 : decode cL_setReference 32 = .ok (.ireturn, 1) := by decide +kernel
theorem dL_setReference_33 : decode cL_setReference 33 = .ok (.astore 6, 2) := by decide +kernel
theorem dL_setReference_35 : decode cL_setReference 35 = .ok (.iconst 5, 1) := by decide +kernel
theorem dL_setReference_36 : decode cL_setReference 36 = .ok (.ireturn, 1) := by decide +kernel
theorem dL_setReference_37 : decode cL_setReference 37 = .ok (.iconst 0, 1) := by decide +kernel
theorem dL_setReference_38 : decode cL_setReference 38 = .ok (.ireturn, 1) := by decide +kernel
theorem dL_setRoot_0 : decode cL_setRoot 0 = .ok (.aload 4, 2) := by decide +kernel
theorem dL_setRoot_2 : decode cL_setRoot 2 = .ok (.iconst 0, 1) := by decide +kernel
theorem dL_setRoot_3 : decode cL_setRoot 3 = .ok (.aload_n 0, 1) := by decide +kernel
theorem dL_setRoot_4 : decode cL_setRoot 4 = .ok (.iload_n 1, 1) := by decide +kernel
theorem dL_setRoot_5 : decode cL_setRoot 5 = .ok (.iload_n 2, 1) := by decide +kernel
theorem dL_setRoot_6 : decode cL_setRoot 6 = .ok (.iload_n 3, 1) := by decide +kernel
theorem dL_setRoot_7 : decode cL_setRoot 7 = .ok (.invokevirtual 34, 3) := by decide +kernel
theorem dL_setRoot_10 : decode cL_setRoot 10 = .ok (.i2l, 1) := by decide +kernel
theorem dL_setRoot_11 : decode cL_setRoot 11 = .ok (.lastore, 1) := by decide +kernel
theorem dL_setRoot_12 : decode cL_setRoot 12 = .ok (.goto 23, 3) := by decide +kernel
theorem dL_setRoot_15 : decode cL_setRoot 15 = .ok (.astore 5, 2) := by decide +kernel
theorem dL_setRoot_17 : decode cL_setRoot 17 = .ok (.iconst 1, 1) := by decide +kernel
theorem dL_setRoot_18 : decode cL_setRoot 18 = .ok (.ireturn, 1) := by decide +kernel
theorem dL_setRoot_19 : decode cL_setRoot 19 = .ok (.astore 5, 2) := by decide +kernel
theorem dL_setRoot_21 : decode cL_setRoot 21 = .ok (.iconst 2, 1) := by decide +kernel
theorem dL_setRoot_22 : decode cL_setRoot 22 = .ok (.ireturn, 1) := by decide +kernel
theorem dL_setRoot_23 : decode cL_setRoot 23 = .ok (.astore 5, 2) := by decide +kernel
theorem dL_setRoot_25 : decode cL_setRoot 25 = .ok (.iconst 3, 1) := by decide +kernel
theorem dL_setRoot_26 : decode cL_setRoot 26 = .ok (.ireturn, 1) := by decide +kernel
theorem dL_setRoot_27 : decode cL_setRoot 27 = .ok (.astore 5, 2) := by decide +kernel
theorem dL_setRoot_29 : decode cL_setRoot 29 = .ok (.iconst 4, 1) := by decide +kernel
theorem dL_setRoot_30 : decode cL_setRoot 30 = .ok (.ireturn, 1) := by decide +kernel
theorem dL_setRoot_31 : decode cL_setRoot 31 = .ok (.astore 5, 2) := by decide +kernel
theorem dL_setRoot_33 : decode cL_setRoot 33 = .ok (.iconst 5, 1) := by decide +kernel
theorem dL_setRoot_34 : decode cL_setRoot 34 = .ok (.ireturn, 1) := by decide +kernel
theorem dL_setRoot_35 : decode cL_setRoot 35 = .ok (.iconst 0, 1) := by decide +kernel
theorem dL_setRoot_36 : decode cL_setRoot 36 = .ok (.ireturn, 1) := by decide +kernel
theorem dL_getInt_0 : decode cL_getInt 0 = .ok (.aload 4, 2) := by decide +kernel
theorem dL_getInt_2 : decode cL_getInt 2 = .ok (.iconst 0, 1) := by decide +kernel
theorem dL_getInt_3 : decode cL_getInt 3 = .ok (.aload_n 0, 1) := by decide +kernel
theorem dL_getInt_4 : decode cL_getInt 4 = .ok (.iload_n 1, 1) := by decide +kernel
theorem dL_getInt_5 : decode cL_getInt 5 = .ok (.iload_n 2, 1) := by decide +kernel
theorem dL_getInt_6 : decode cL_getInt 6 = .ok (.iload_n 3, 1) := by decide +kernel
theorem dL_getInt_7 : decode cL_getInt 7 = .ok (.invokevirtual 38, 3) := by decide +kernel
theorem dL_getInt_10 : decode cL_getInt 10 = .ok (.i2l, 1) := by decide +kernel
theorem dL_getInt_11 : decode cL_getInt 11 = .ok (.lastore, 1) := by decide +kernel
theorem dL_getInt_12 : decode cL_getInt 12 = .ok (.goto 19, 3) := by decide +kernel
theorem dL_getInt_15 : decode cL_getInt 15 = .ok (.astore 5, 2) := by decide +kernel
theorem dL_getInt_17 : decode cL_getInt 17 = .ok (.iconst 1, 1) := by decide +kernel
theorem dL_getInt_18 : decode cL_getInt 18 = .ok (.ireturn, 1) := by decide +kernel
theorem dL_getInt_19 : decode cL_getInt 19 = .ok (.astore 5, 2) := by decide +kernel
theorem dL_getInt_21 : decode cL_getInt 21 = .ok (.iconst 2, 1) := by decide +kernel
theorem dL_getInt_22 : decode cL_getInt 22 = .ok (.ireturn, 1) := by decide +kernel
theorem dL_getInt_23 : decode cL_getInt 23 = .ok (.astore 5, 2) := by decide +kernel
theorem dL_getInt_25 : decode cL_getInt 25 = .ok (.iconst 3, 1) := by decide +kernel
theorem dL_getInt_26 : decode cL_getInt 26 = .ok (.ireturn, 1) := by decide +kernel
theorem dL_getInt_27 : decode cL_getInt 27 = .ok (.astore 5, 2) := by decide +kernel
theorem dL_getInt_29 : decode cL_getInt 29 = .ok (.iconst 4, 1) := by decide +kernel
theorem dL_getInt_30 : decode cL_getInt 30 = .ok (.ireturn, 1) := by decide +kernel
theorem dL_getInt_31 : decode cL_getInt 31 = .ok (.iconst 0, 1) := by decide +kernel
theorem dL_getInt_32 : decode cL_getInt 32 = .ok (.ireturn, 1) := by decide +kernel
theorem dL_getReference_0 : decode cL_getReference 0 = .ok (.aload 4, 2) := by decide +kernel
theorem dL_getReference_2 : decode cL_getReference 2 = .ok (.iconst 0, 1) := by decide +kernel
theorem dL_getReference_3 : decode cL_getReference 3 = .ok (.aload_n 0, 1) := by decide +kernel
theorem dL_getReference_4 : decode cL_getReference 4 = .ok (.iload_n 1, 1) := by decide +kernel
theorem dL_getReference_5 : decode cL_getReference 5 = .ok (.iload_n 2, 1) := by decide +kernel
theorem dL_getReference_6 : decode cL_getReference 6 = .ok (.iload_n 3, 1) := by decide +kernel
theorem dL_getReference_7 : decode cL_getReference 7 = .ok (.invokevirtual 43, 3) := by decide +kernel
theorem dL_getReference_10 : decode cL_getReference 10 = .ok (.i2l, 1) := by decide +kernel
theorem dL_getReference_11 : decode cL_getReference 11 = .ok (.lastore, 1) := by decide +kernel
theorem dL_getReference_12 : decode cL_getReference 12 = .ok (.goto 19, 3) := by decide +kernel
theorem dL_getReference_15 : decode cL_getReference 15 = .ok (.astore 5, 2) := by decide +kernel
theorem dL_getReference_17 : decode cL_getReference 17 = .ok (.iconst 1, 1) := by decide +kernel
theorem dL_getReference_18 : decode cL_getReference 18 = .ok (.ireturn, 1) := by decide +kernel
theorem dL_getReference_19 : decode cL_getReference 19 = .ok (.astore 5, 2) := by decide +kernel
theorem dL_getReference_21 : decode cL_getReference 21 = .ok (.iconst 2, 1) := by decide +kernel
theorem dL_getReference_22 : decode cL_getReference 22 = .ok (.ireturn, 1) := by decide +kernel
theorem dL_getReference_23 : decode cL_getReference 23 = .ok (.astore 5, 2) := by decide +kernel
theorem dL_getReference_25 : decode cL_getReference 25 = .ok (.iconst 3, 1) := by decide +kernel
theorem dL_getReference_26 : decode cL_getReference 26 = .ok (.ireturn, 1) := by decide +kernel
theorem dL_getReference_27 : decode cL_getReference 27 = .ok (.astore 5, 2) := by decide +kernel
theorem dL_getReference_29 : decode cL_getReference 29 = .ok (.iconst 4, 1) := by decide +kernel
theorem dL_getReference_30 : decode cL_getReference 30 = .ok (.ireturn, 1) := by decide +kernel
theorem dL_getReference_31 : decode cL_getReference 31 = .ok (.iconst 0, 1) := by decide +kernel
theorem dL_getReference_32 : decode cL_getReference 32 = .ok (.ireturn, 1) := by decide +kernel
theorem dL_getRoot_0 : decode cL_getRoot 0 = .ok (.aload_n 3, 1) := by decide +kernel
theorem dL_getRoot_1 : decode cL_getRoot 1 = .ok (.iconst 0, 1) := by decide +kernel
theorem dL_getRoot_2 : decode cL_getRoot 2 = .ok (.aload_n 0, 1) := by decide +kernel
theorem dL_getRoot_3 : decode cL_getRoot 3 = .ok (.iload_n 1, 1) := by decide +kernel
theorem dL_getRoot_4 : decode cL_getRoot 4 = .ok (.iload_n 2, 1) := by decide +kernel
theorem dL_getRoot_5 : decode cL_getRoot 5 = .ok (.invokevirtual 46, 3) := by decide +kernel
theorem dL_getRoot_8 : decode cL_getRoot 8 = .ok (.i2l, 1) := by decide +kernel
theorem dL_getRoot_9 : decode cL_getRoot 9 = .ok (.lastore, 1) := by decide +kernel
theorem dL_getRoot_10 : decode cL_getRoot 10 = .ok (.goto 15, 3) := by decide +kernel
theorem dL_getRoot_13 : decode cL_getRoot 13 = .ok (.astore 4, 2) := by decide +kernel
theorem dL_getRoot_15 : decode cL_getRoot 15 = .ok (.iconst 1, 1) := by decide +kernel
theorem dL_getRoot_16 : decode cL_getRoot 16 = .ok (.ireturn, 1) := by decide +kernel
theorem dL_getRoot_17 : decode cL_getRoot 17 = .ok (.astore 4, 2) := by decide +kernel
theorem dL_getRoot_19 : decode cL_getRoot 19 = .ok (.iconst 2, 1) := by decide +kernel
theorem dL_getRoot_20 : decode cL_getRoot 20 = .ok (.ireturn, 1) := by decide +kernel
theorem dL_getRoot_21 : decode cL_getRoot 21 = .ok (.astore 4, 2) := by decide +kernel
theorem dL_getRoot_23 : decode cL_getRoot 23 = .ok (.iconst 3, 1) := by decide +kernel
theorem dL_getRoot_24 : decode cL_getRoot 24 = .ok (.ireturn, 1) := by decide +kernel
theorem dL_getRoot_25 : decode cL_getRoot 25 = .ok (.iconst 0, 1) := by decide +kernel
theorem dL_getRoot_26 : decode cL_getRoot 26 = .ok (.ireturn, 1) := by decide +kernel
theorem dL_commit_0 : decode cL_commit 0 = .ok (.aload_n 2, 1) := by decide +kernel
theorem dL_commit_1 : decode cL_commit 1 = .ok (.iconst 0, 1) := by decide +kernel
theorem dL_commit_2 : decode cL_commit 2 = .ok (.aload_n 0, 1) := by decide +kernel
theorem dL_commit_3 : decode cL_commit 3 = .ok (.iload_n 1, 1) := by decide +kernel
theorem dL_commit_4 : decode cL_commit 4 = .ok (.invokevirtual 49, 3) := by decide +kernel
theorem dL_commit_7 : decode cL_commit 7 = .ok (.i2l, 1) := by decide +kernel
theorem dL_commit_8 : decode cL_commit 8 = .ok (.lastore, 1) := by decide +kernel
theorem dL_commit_9 : decode cL_commit 9 = .ok (.goto 9, 3) := by decide +kernel
theorem dL_commit_12 : decode cL_commit 12 = .ok (.astore_n 3, 1) := by decide +kernel
theorem dL_commit_13 : decode cL_commit 13 = .ok (.iconst 1, 1) := by decide +kernel
theorem dL_commit_14 : decode cL_commit 14 = .ok (.ireturn, 1) := by decide +kernel
theorem dL_commit_15 : decode cL_commit 15 = .ok (.astore_n 3, 1) := by decide +kernel
theorem dL_commit_16 : decode cL_commit 16 = .ok (.iconst 2, 1) := by decide +kernel
theorem dL_commit_17 : decode cL_commit 17 = .ok (.ireturn, 1) := by decide +kernel
theorem dL_commit_18 : decode cL_commit 18 = .ok (.iconst 0, 1) := by decide +kernel
theorem dL_commit_19 : decode cL_commit 19 = .ok (.ireturn, 1) := by decide +kernel
theorem dL_abort_0 : decode cL_abort 0 = .ok (.aload_n 2, 1) := by decide +kernel
theorem dL_abort_1 : decode cL_abort 1 = .ok (.iconst 0, 1) := by decide +kernel
theorem dL_abort_2 : decode cL_abort 2 = .ok (.aload_n 0, 1) := by decide +kernel
theorem dL_abort_3 : decode cL_abort 3 = .ok (.iload_n 1, 1) := by decide +kernel
theorem dL_abort_4 : decode cL_abort 4 = .ok (.invokevirtual 53, 3) := by decide +kernel
theorem dL_abort_7 : decode cL_abort 7 = .ok (.i2l, 1) := by decide +kernel
theorem dL_abort_8 : decode cL_abort 8 = .ok (.lastore, 1) := by decide +kernel
theorem dL_abort_9 : decode cL_abort 9 = .ok (.goto 6, 3) := by decide +kernel
theorem dL_abort_12 : decode cL_abort 12 = .ok (.astore_n 3, 1) := by decide +kernel
theorem dL_abort_13 : decode cL_abort 13 = .ok (.iconst 1, 1) := by decide +kernel
theorem dL_abort_14 : decode cL_abort 14 = .ok (.ireturn, 1) := by decide +kernel
theorem dL_abort_15 : decode cL_abort 15 = .ok (.iconst 0, 1) := by decide +kernel
theorem dL_abort_16 : decode cL_abort 16 = .ok (.ireturn, 1) := by decide +kernel
theorem dL_fields_0 : decode cL_fields 0 = .ok (.aload_n 2, 1) := by decide +kernel
theorem dL_fields_1 : decode cL_fields 1 = .ok (.iconst 0, 1) := by decide +kernel
theorem dL_fields_2 : decode cL_fields 2 = .ok (.aload_n 0, 1) := by decide +kernel
theorem dL_fields_3 : decode cL_fields 3 = .ok (.iload_n 1, 1) := by decide +kernel
theorem dL_fields_4 : decode cL_fields 4 = .ok (.invokevirtual 56, 3) := by decide +kernel
theorem dL_fields_7 : decode cL_fields 7 = .ok (.i2l, 1) := by decide +kernel
theorem dL_fields_8 : decode cL_fields 8 = .ok (.lastore, 1) := by decide +kernel
theorem dL_fields_9 : decode cL_fields 9 = .ok (.goto 6, 3) := by decide +kernel
theorem dL_fields_12 : decode cL_fields 12 = .ok (.astore_n 3, 1) := by decide +kernel
theorem dL_fields_13 : decode cL_fields 13 = .ok (.iconst 1, 1) := by decide +kernel
theorem dL_fields_14 : decode cL_fields 14 = .ok (.ireturn, 1) := by decide +kernel
theorem dL_fields_15 : decode cL_fields 15 = .ok (.iconst 0, 1) := by decide +kernel
theorem dL_fields_16 : decode cL_fields 16 = .ok (.ireturn, 1) := by decide +kernel
theorem dL_lockedBy_0 : decode cL_lockedBy 0 = .ok (.aload_n 3, 1) := by decide +kernel
theorem dL_lockedBy_1 : decode cL_lockedBy 1 = .ok (.iconst 0, 1) := by decide +kernel
theorem dL_lockedBy_2 : decode cL_lockedBy 2 = .ok (.aload_n 0, 1) := by decide +kernel
theorem dL_lockedBy_3 : decode cL_lockedBy 3 = .ok (.iload_n 1, 1) := by decide +kernel
theorem dL_lockedBy_4 : decode cL_lockedBy 4 = .ok (.iload_n 2, 1) := by decide +kernel
theorem dL_lockedBy_5 : decode cL_lockedBy 5 = .ok (.invokevirtual 59, 3) := by decide +kernel
theorem dL_lockedBy_8 : decode cL_lockedBy 8 = .ok (.i2l, 1) := by decide +kernel
theorem dL_lockedBy_9 : decode cL_lockedBy 9 = .ok (.lastore, 1) := by decide +kernel
theorem dL_lockedBy_10 : decode cL_lockedBy 10 = .ok (.goto 7, 3) := by decide +kernel
theorem dL_lockedBy_13 : decode cL_lockedBy 13 = .ok (.astore 4, 2) := by decide +kernel
theorem dL_lockedBy_15 : decode cL_lockedBy 15 = .ok (.iconst 1, 1) := by decide +kernel
theorem dL_lockedBy_16 : decode cL_lockedBy 16 = .ok (.ireturn, 1) := by decide +kernel
theorem dL_lockedBy_17 : decode cL_lockedBy 17 = .ok (.iconst 0, 1) := by decide +kernel
theorem dL_lockedBy_18 : decode cL_lockedBy 18 = .ok (.ireturn, 1) := by decide +kernel
theorem dL_count_0 : decode cL_count 0 = .ok (.aload_n 2, 1) := by decide +kernel
theorem dL_count_1 : decode cL_count 1 = .ok (.iconst 0, 1) := by decide +kernel
theorem dL_count_2 : decode cL_count 2 = .ok (.aload_n 0, 1) := by decide +kernel
theorem dL_count_3 : decode cL_count 3 = .ok (.iload_n 1, 1) := by decide +kernel
theorem dL_count_4 : decode cL_count 4 = .ok (.invokevirtual 62, 3) := by decide +kernel
theorem dL_count_7 : decode cL_count 7 = .ok (.i2l, 1) := by decide +kernel
theorem dL_count_8 : decode cL_count 8 = .ok (.lastore, 1) := by decide +kernel
theorem dL_count_9 : decode cL_count 9 = .ok (.goto 6, 3) := by decide +kernel
theorem dL_count_12 : decode cL_count 12 = .ok (.astore_n 3, 1) := by decide +kernel
theorem dL_count_13 : decode cL_count 13 = .ok (.iconst 1, 1) := by decide +kernel
theorem dL_count_14 : decode cL_count 14 = .ok (.ireturn, 1) := by decide +kernel
theorem dL_count_15 : decode cL_count 15 = .ok (.iconst 0, 1) := by decide +kernel
theorem dL_count_16 : decode cL_count 16 = .ok (.ireturn, 1) := by decide +kernel
theorem dL_law_0 : decode code 0 = .ok (.new 8, 3) := by decide +kernel
theorem dL_law_3 : decode code 3 = .ok (.dup, 1) := by decide +kernel
theorem dL_law_4 : decode code 4 = .ok (.invokespecial 65, 3) := by decide +kernel
theorem dL_law_7 : decode code 7 = .ok (.astore_n 1, 1) := by decide +kernel
theorem dL_law_8 : decode code 8 = .ok (.new 66, 3) := by decide +kernel
theorem dL_law_11 : decode code 11 = .ok (.dup, 1) := by decide +kernel
theorem dL_law_12 : decode code 12 = .ok (.invokespecial 68, 3) := by decide +kernel
theorem dL_law_15 : decode code 15 = .ok (.astore_n 2, 1) := by decide +kernel
theorem dL_law_16 : decode code 16 = .ok (.iconst 1, 1) := by decide +kernel
theorem dL_law_17 : decode code 17 = .ok (.newarray .long, 2) := by decide +kernel
theorem dL_law_19 : decode code 19 = .ok (.astore_n 3, 1) := by decide +kernel
theorem dL_law_20 : decode code 20 = .ok (.iconst 0, 1) := by decide +kernel
theorem dL_law_21 : decode code 21 = .ok (.istore 4, 2) := by decide +kernel
theorem dL_law_23 : decode code 23 = .ok (.iload 4, 2) := by decide +kernel
theorem dL_law_25 : decode code 25 = .ok (.aload_n 0, 1) := by decide +kernel
theorem dL_law_26 : decode code 26 = .ok (.arraylength, 1) := by decide +kernel
theorem dL_law_27 : decode code 27 = .ok (.iconst 5, 1) := by decide +kernel
theorem dL_law_28 : decode code 28 = .ok (.isub, 1) := by decide +kernel
theorem dL_law_29 : decode code 29 = .ok (.if_icmp .gt 1040, 3) := by decide +kernel
theorem dL_law_32 : decode code 32 = .ok (.aload_n 0, 1) := by decide +kernel
theorem dL_law_33 : decode code 33 = .ok (.iload 4, 2) := by decide +kernel
theorem dL_law_35 : decode code 35 = .ok (.iaload, 1) := by decide +kernel
theorem dL_law_36 : decode code 36 = .ok (.bipush 15, 2) := by decide +kernel
theorem dL_law_38 : decode code 38 = .ok (.iand, 1) := by decide +kernel
theorem dL_law_39 : decode code 39 = .ok (.tableswitch 1024 0 15 #[77, 121, 189, 281, 373, 453, 533, 613, 681, 737, 793, 806, 819, 844, 900, 968], 77) := by decide +kernel
theorem dL_law_116 : decode code 116 = .ok (.aload_n 1, 1) := by decide +kernel
theorem dL_law_117 : decode code 117 = .ok (.aload_n 3, 1) := by decide +kernel
theorem dL_law_118 : decode code 118 = .ok (.invokestatic 69, 3) := by decide +kernel
theorem dL_law_121 : decode code 121 = .ok (.istore 5, 2) := by decide +kernel
theorem dL_law_123 : decode code 123 = .ok (.aload_n 2, 1) := by decide +kernel
theorem dL_law_124 : decode code 124 = .ok (.invokevirtual 74, 3) := by decide +kernel
theorem dL_law_127 : decode code 127 = .ok (.istore 6, 2) := by decide +kernel
theorem dL_law_129 : decode code 129 = .ok (.aload_n 2, 1) := by decide +kernel
theorem dL_law_130 : decode code 130 = .ok (.invokevirtual 75, 3) := by decide +kernel
theorem dL_law_133 : decode code 133 = .ok (.iload 5, 2) := by decide +kernel
theorem dL_law_135 : decode code 135 = .ok (.if_icmp .eq 5, 3) := by decide +kernel
theorem dL_law_138 : decode code 138 = .ok (.iconst 0, 1) := by decide +kernel
theorem dL_law_139 : decode code 139 = .ok (.ireturn, 1) := by decide +kernel
theorem dL_law_140 : decode code 140 = .ok (.iload 5, 2) := by decide +kernel
theorem dL_law_142 : decode code 142 = .ok (.ifCond .ne 15, 3) := by decide +kernel
theorem dL_law_145 : decode code 145 = .ok (.aload_n 3, 1) := by decide +kernel
theorem dL_law_146 : decode code 146 = .ok (.iconst 0, 1) := by decide +kernel
theorem dL_law_147 : decode code 147 = .ok (.laload, 1) := by decide +kernel
theorem dL_law_148 : decode code 148 = .ok (.iload 6, 2) := by decide +kernel
theorem dL_law_150 : decode code 150 = .ok (.i2l, 1) := by decide +kernel
theorem dL_law_151 : decode code 151 = .ok (.lcmp, 1) := by decide +kernel
theorem dL_law_152 : decode code 152 = .ok (.ifCond .eq 5, 3) := by decide +kernel
theorem dL_law_155 : decode code 155 = .ok (.iconst 0, 1) := by decide +kernel
theorem dL_law_156 : decode code 156 = .ok (.ireturn, 1) := by decide +kernel
theorem dL_law_157 : decode code 157 = .ok (.goto 906, 3) := by decide +kernel
theorem dL_law_160 : decode code 160 = .ok (.aload_n 1, 1) := by decide +kernel
theorem dL_law_161 : decode code 161 = .ok (.aload_n 0, 1) := by decide +kernel
theorem dL_law_162 : decode code 162 = .ok (.iload 4, 2) := by decide +kernel
theorem dL_law_164 : decode code 164 = .ok (.iconst 1, 1) := by decide +kernel
theorem dL_law_165 : decode code 165 = .ok (.iadd, 1) := by decide +kernel
theorem dL_law_166 : decode code 166 = .ok (.iaload, 1) := by decide +kernel
theorem dL_law_167 : decode code 167 = .ok (.aload_n 0, 1) := by decide +kernel
theorem dL_law_168 : decode code 168 = .ok (.iload 4, 2) := by decide +kernel
theorem dL_law_170 : decode code 170 = .ok (.iconst 2, 1) := by decide +kernel
theorem dL_law_171 : decode code 171 = .ok (.iadd, 1) := by decide +kernel
theorem dL_law_172 : decode code 172 = .ok (.iaload, 1) := by decide +kernel
theorem dL_law_173 : decode code 173 = .ok (.aload_n 3, 1) := by decide +kernel
theorem dL_law_174 : decode code 174 = .ok (.invokestatic 78, 3) := by decide +kernel
theorem dL_law_177 : decode code 177 = .ok (.istore 5, 2) := by decide +kernel
theorem dL_law_179 : decode code 179 = .ok (.aload_n 2, 1) := by decide +kernel
theorem dL_law_180 : decode code 180 = .ok (.aload_n 0, 1) := by decide +kernel
theorem dL_law_181 : decode code 181 = .ok (.iload 4, 2) := by decide +kernel
theorem dL_law_183 : decode code 183 = .ok (.iconst 1, 1) := by decide +kernel
theorem dL_law_184 : decode code 184 = .ok (.iadd, 1) := by decide +kernel
theorem dL_law_185 : decode code 185 = .ok (.iaload, 1) := by decide +kernel
theorem dL_law_186 : decode code 186 = .ok (.aload_n 0, 1) := by decide +kernel
theorem dL_law_187 : decode code 187 = .ok (.iload 4, 2) := by decide +kernel
theorem dL_law_189 : decode code 189 = .ok (.iconst 2, 1) := by decide +kernel
theorem dL_law_190 : decode code 190 = .ok (.iadd, 1) := by decide +kernel
theorem dL_law_191 : decode code 191 = .ok (.iaload, 1) := by decide +kernel
theorem dL_law_192 : decode code 192 = .ok (.invokevirtual 81, 3) := by decide +kernel
theorem dL_law_195 : decode code 195 = .ok (.istore 6, 2) := by decide +kernel
theorem dL_law_197 : decode code 197 = .ok (.aload_n 2, 1) := by decide +kernel
theorem dL_law_198 : decode code 198 = .ok (.invokevirtual 75, 3) := by decide +kernel
theorem dL_law_201 : decode code 201 = .ok (.iload 5, 2) := by decide +kernel
theorem dL_law_203 : decode code 203 = .ok (.if_icmp .eq 5, 3) := by decide +kernel
theorem dL_law_206 : decode code 206 = .ok (.iconst 0, 1) := by decide +kernel
theorem dL_law_207 : decode code 207 = .ok (.ireturn, 1) := by decide +kernel
theorem dL_law_208 : decode code 208 = .ok (.iload 5, 2) := by decide +kernel
theorem dL_law_210 : decode code 210 = .ok (.ifCond .ne 15, 3) := by decide +kernel
theorem dL_law_213 : decode code 213 = .ok (.aload_n 3, 1) := by decide +kernel
theorem dL_law_214 : decode code 214 = .ok (.iconst 0, 1) := by decide +kernel
theorem dL_law_215 : decode code 215 = .ok (.laload, 1) := by decide +kernel
theorem dL_law_216 : decode code 216 = .ok (.iload 6, 2) := by decide +kernel
theorem dL_law_218 : decode code 218 = .ok (.i2l, 1) := by decide +kernel
theorem dL_law_219 : decode code 219 = .ok (.lcmp, 1) := by decide +kernel
theorem dL_law_220 : decode code 220 = .ok (.ifCond .eq 5, 3) := by decide +kernel
theorem dL_law_223 : decode code 223 = .ok (.iconst 0, 1) := by decide +kernel
theorem dL_law_224 : decode code 224 = .ok (.ireturn, 1) := by decide +kernel
theorem dL_law_225 : decode code 225 = .ok (.goto 838, 3) := by decide +kernel
theorem dL_law_228 : decode code 228 = .ok (.aload_n 1, 1) := by decide +kernel
theorem dL_law_229 : decode code 229 = .ok (.aload_n 0, 1) := by decide +kernel
theorem dL_law_230 : decode code 230 = .ok (.iload 4, 2) := by decide +kernel
theorem dL_law_232 : decode code 232 = .ok (.iconst 1, 1) := by decide +kernel
theorem dL_law_233 : decode code 233 = .ok (.iadd, 1) := by decide +kernel
theorem dL_law_234 : decode code 234 = .ok (.iaload, 1) := by decide +kernel
theorem dL_law_235 : decode code 235 = .ok (.aload_n 0, 1) := by decide +kernel
theorem dL_law_236 : decode code 236 = .ok (.iload 4, 2) := by decide +kernel
theorem dL_law_238 : decode code 238 = .ok (.iconst 2, 1) := by decide +kernel
theorem dL_law_239 : decode code 239 = .ok (.iadd, 1) := by decide +kernel
theorem dL_law_240 : decode code 240 = .ok (.iaload, 1) := by decide +kernel
theorem dL_law_241 : decode code 241 = .ok (.aload_n 0, 1) := by decide +kernel
theorem dL_law_242 : decode code 242 = .ok (.iload 4, 2) := by decide +kernel
theorem dL_law_244 : decode code 244 = .ok (.iconst 3, 1) := by decide +kernel
theorem dL_law_245 : decode code 245 = .ok (.iadd, 1) := by decide +kernel
theorem dL_law_246 : decode code 246 = .ok (.iaload, 1) := by decide +kernel
theorem dL_law_247 : decode code 247 = .ok (.aload_n 0, 1) := by decide +kernel
theorem dL_law_248 : decode code 248 = .ok (.iload 4, 2) := by decide +kernel
theorem dL_law_250 : decode code 250 = .ok (.iconst 4, 1) := by decide +kernel
theorem dL_law_251 : decode code 251 = .ok (.iadd, 1) := by decide +kernel
theorem dL_law_252 : decode code 252 = .ok (.iaload, 1) := by decide +kernel
theorem dL_law_253 : decode code 253 = .ok (.aload_n 3, 1) := by decide +kernel
theorem dL_law_254 : decode code 254 = .ok (.invokestatic 82, 3) := by decide +kernel
theorem dL_law_257 : decode code 257 = .ok (.istore 5, 2) := by decide +kernel
theorem dL_law_259 : decode code 259 = .ok (.aload_n 2, 1) := by decide +kernel
theorem dL_law_260 : decode code 260 = .ok (.aload_n 0, 1) := by decide +kernel
theorem dL_law_261 : decode code 261 = .ok (.iload 4, 2) := by decide +kernel
theorem dL_law_263 : decode code 263 = .ok (.iconst 1, 1) := by decide +kernel
theorem dL_law_264 : decode code 264 = .ok (.iadd, 1) := by decide +kernel
theorem dL_law_265 : decode code 265 = .ok (.iaload, 1) := by decide +kernel
theorem dL_law_266 : decode code 266 = .ok (.aload_n 0, 1) := by decide +kernel
theorem dL_law_267 : decode code 267 = .ok (.iload 4, 2) := by decide +kernel
theorem dL_law_269 : decode code 269 = .ok (.iconst 2, 1) := by decide +kernel
theorem dL_law_270 : decode code 270 = .ok (.iadd, 1) := by decide +kernel
theorem dL_law_271 : decode code 271 = .ok (.iaload, 1) := by decide +kernel
theorem dL_law_272 : decode code 272 = .ok (.aload_n 0, 1) := by decide +kernel
theorem dL_law_273 : decode code 273 = .ok (.iload 4, 2) := by decide +kernel
theorem dL_law_275 : decode code 275 = .ok (.iconst 3, 1) := by decide +kernel
theorem dL_law_276 : decode code 276 = .ok (.iadd, 1) := by decide +kernel
theorem dL_law_277 : decode code 277 = .ok (.iaload, 1) := by decide +kernel
theorem dL_law_278 : decode code 278 = .ok (.aload_n 0, 1) := by decide +kernel
theorem dL_law_279 : decode code 279 = .ok (.iload 4, 2) := by decide +kernel
theorem dL_law_281 : decode code 281 = .ok (.iconst 4, 1) := by decide +kernel
theorem dL_law_282 : decode code 282 = .ok (.iadd, 1) := by decide +kernel
theorem dL_law_283 : decode code 283 = .ok (.iaload, 1) := by decide +kernel
theorem dL_law_284 : decode code 284 = .ok (.invokevirtual 85, 3) := by decide +kernel
theorem dL_law_287 : decode code 287 = .ok (.istore 6, 2) := by decide +kernel
theorem dL_law_289 : decode code 289 = .ok (.aload_n 2, 1) := by decide +kernel
theorem dL_law_290 : decode code 290 = .ok (.invokevirtual 75, 3) := by decide +kernel
theorem dL_law_293 : decode code 293 = .ok (.iload 5, 2) := by decide +kernel
theorem dL_law_295 : decode code 295 = .ok (.if_icmp .eq 5, 3) := by decide +kernel
theorem dL_law_298 : decode code 298 = .ok (.iconst 0, 1) := by decide +kernel
theorem dL_law_299 : decode code 299 = .ok (.ireturn, 1) := by decide +kernel
theorem dL_law_300 : decode code 300 = .ok (.iload 5, 2) := by decide +kernel
theorem dL_law_302 : decode code 302 = .ok (.ifCond .ne 15, 3) := by decide +kernel
theorem dL_law_305 : decode code 305 = .ok (.aload_n 3, 1) := by decide +kernel
theorem dL_law_306 : decode code 306 = .ok (.iconst 0, 1) := by decide +kernel
theorem dL_law_307 : decode code 307 = .ok (.laload, 1) := by decide +kernel
theorem dL_law_308 : decode code 308 = .ok (.iload 6, 2) := by decide +kernel
theorem dL_law_310 : decode code 310 = .ok (.i2l, 1) := by decide +kernel
theorem dL_law_311 : decode code 311 = .ok (.lcmp, 1) := by decide +kernel
theorem dL_law_312 : decode code 312 = .ok (.ifCond .eq 5, 3) := by decide +kernel
theorem dL_law_315 : decode code 315 = .ok (.iconst 0, 1) := by decide +kernel
theorem dL_law_316 : decode code 316 = .ok (.ireturn, 1) := by decide +kernel
theorem dL_law_317 : decode code 317 = .ok (.goto 746, 3) := by decide +kernel
theorem dL_law_320 : decode code 320 = .ok (.aload_n 1, 1) := by decide +kernel
theorem dL_law_321 : decode code 321 = .ok (.aload_n 0, 1) := by decide +kernel
theorem dL_law_322 : decode code 322 = .ok (.iload 4, 2) := by decide +kernel
theorem dL_law_324 : decode code 324 = .ok (.iconst 1, 1) := by decide +kernel
theorem dL_law_325 : decode code 325 = .ok (.iadd, 1) := by decide +kernel
theorem dL_law_326 : decode code 326 = .ok (.iaload, 1) := by decide +kernel
theorem dL_law_327 : decode code 327 = .ok (.aload_n 0, 1) := by decide +kernel
theorem dL_law_328 : decode code 328 = .ok (.iload 4, 2) := by decide +kernel
theorem dL_law_330 : decode code 330 = .ok (.iconst 2, 1) := by decide +kernel
theorem dL_law_331 : decode code 331 = .ok (.iadd, 1) := by decide +kernel
theorem dL_law_332 : decode code 332 = .ok (.iaload, 1) := by decide +kernel
theorem dL_law_333 : decode code 333 = .ok (.aload_n 0, 1) := by decide +kernel
theorem dL_law_334 : decode code 334 = .ok (.iload 4, 2) := by decide +kernel
theorem dL_law_336 : decode code 336 = .ok (.iconst 3, 1) := by decide +kernel
theorem dL_law_337 : decode code 337 = .ok (.iadd, 1) := by decide +kernel
theorem dL_law_338 : decode code 338 = .ok (.iaload, 1) := by decide +kernel
theorem dL_law_339 : decode code 339 = .ok (.aload_n 0, 1) := by decide +kernel
theorem dL_law_340 : decode code 340 = .ok (.iload 4, 2) := by decide +kernel
theorem dL_law_342 : decode code 342 = .ok (.iconst 4, 1) := by decide +kernel
theorem dL_law_343 : decode code 343 = .ok (.iadd, 1) := by decide +kernel
theorem dL_law_344 : decode code 344 = .ok (.iaload, 1) := by decide +kernel
theorem dL_law_345 : decode code 345 = .ok (.aload_n 3, 1) := by decide +kernel
theorem dL_law_346 : decode code 346 = .ok (.invokestatic 86, 3) := by decide +kernel
theorem dL_law_349 : decode code 349 = .ok (.istore 5, 2) := by decide +kernel
theorem dL_law_351 : decode code 351 = .ok (.aload_n 2, 1) := by decide +kernel
theorem dL_law_352 : decode code 352 = .ok (.aload_n 0, 1) := by decide +kernel
theorem dL_law_353 : decode code 353 = .ok (.iload 4, 2) := by decide +kernel
theorem dL_law_355 : decode code 355 = .ok (.iconst 1, 1) := by decide +kernel
theorem dL_law_356 : decode code 356 = .ok (.iadd, 1) := by decide +kernel
theorem dL_law_357 : decode code 357 = .ok (.iaload, 1) := by decide +kernel
theorem dL_law_358 : decode code 358 = .ok (.aload_n 0, 1) := by decide +kernel
theorem dL_law_359 : decode code 359 = .ok (.iload 4, 2) := by decide +kernel
theorem dL_law_361 : decode code 361 = .ok (.iconst 2, 1) := by decide +kernel
theorem dL_law_362 : decode code 362 = .ok (.iadd, 1) := by decide +kernel
theorem dL_law_363 : decode code 363 = .ok (.iaload, 1) := by decide +kernel
theorem dL_law_364 : decode code 364 = .ok (.aload_n 0, 1) := by decide +kernel
theorem dL_law_365 : decode code 365 = .ok (.iload 4, 2) := by decide +kernel
theorem dL_law_367 : decode code 367 = .ok (.iconst 3, 1) := by decide +kernel
theorem dL_law_368 : decode code 368 = .ok (.iadd, 1) := by decide +kernel
theorem dL_law_369 : decode code 369 = .ok (.iaload, 1) := by decide +kernel
theorem dL_law_370 : decode code 370 = .ok (.aload_n 0, 1) := by decide +kernel
theorem dL_law_371 : decode code 371 = .ok (.iload 4, 2) := by decide +kernel
theorem dL_law_373 : decode code 373 = .ok (.iconst 4, 1) := by decide +kernel
theorem dL_law_374 : decode code 374 = .ok (.iadd, 1) := by decide +kernel
theorem dL_law_375 : decode code 375 = .ok (.iaload, 1) := by decide +kernel
theorem dL_law_376 : decode code 376 = .ok (.invokevirtual 88, 3) := by decide +kernel
theorem dL_law_379 : decode code 379 = .ok (.istore 6, 2) := by decide +kernel
theorem dL_law_381 : decode code 381 = .ok (.aload_n 2, 1) := by decide +kernel
theorem dL_law_382 : decode code 382 = .ok (.invokevirtual 75, 3) := by decide +kernel
theorem dL_law_385 : decode code 385 = .ok (.iload 5, 2) := by decide +kernel
theorem dL_law_387 : decode code 387 = .ok (.if_icmp .eq 5, 3) := by decide +kernel
theorem dL_law_390 : decode code 390 = .ok (.iconst 0, 1) := by decide +kernel
theorem dL_law_391 : decode code 391 = .ok (.ireturn, 1) := by decide +kernel
theorem dL_law_392 : decode code 392 = .ok (.iload 5, 2) := by decide +kernel
theorem dL_law_394 : decode code 394 = .ok (.ifCond .ne 15, 3) := by decide +kernel
theorem dL_law_397 : decode code 397 = .ok (.aload_n 3, 1) := by decide +kernel
theorem dL_law_398 : decode code 398 = .ok (.iconst 0, 1) := by decide +kernel
theorem dL_law_399 : decode code 399 = .ok (.laload, 1) := by decide +kernel
theorem dL_law_400 : decode code 400 = .ok (.iload 6, 2) := by decide +kernel
theorem dL_law_402 : decode code 402 = .ok (.i2l, 1) := by decide +kernel
theorem dL_law_403 : decode code 403 = .ok (.lcmp, 1) := by decide +kernel
theorem dL_law_404 : decode code 404 = .ok (.ifCond .eq 5, 3) := by decide +kernel
theorem dL_law_407 : decode code 407 = .ok (.iconst 0, 1) := by decide +kernel
theorem dL_law_408 : decode code 408 = .ok (.ireturn, 1) := by decide +kernel
theorem dL_law_409 : decode code 409 = .ok (.goto 654, 3) := by decide +kernel
theorem dL_law_412 : decode code 412 = .ok (.aload_n 1, 1) := by decide +kernel
theorem dL_law_413 : decode code 413 = .ok (.aload_n 0, 1) := by decide +kernel
theorem dL_law_414 : decode code 414 = .ok (.iload 4, 2) := by decide +kernel
theorem dL_law_416 : decode code 416 = .ok (.iconst 1, 1) := by decide +kernel
theorem dL_law_417 : decode code 417 = .ok (.iadd, 1) := by decide +kernel
theorem dL_law_418 : decode code 418 = .ok (.iaload, 1) := by decide +kernel
theorem dL_law_419 : decode code 419 = .ok (.aload_n 0, 1) := by decide +kernel
theorem dL_law_420 : decode code 420 = .ok (.iload 4, 2) := by decide +kernel
theorem dL_law_422 : decode code 422 = .ok (.iconst 2, 1) := by decide +kernel
theorem dL_law_423 : decode code 423 = .ok (.iadd, 1) := by decide +kernel
theorem dL_law_424 : decode code 424 = .ok (.iaload, 1) := by decide +kernel
theorem dL_law_425 : decode code 425 = .ok (.aload_n 0, 1) := by decide +kernel
theorem dL_law_426 : decode code 426 = .ok (.iload 4, 2) := by decide +kernel
theorem dL_law_428 : decode code 428 = .ok (.iconst 3, 1) := by decide +kernel
theorem dL_law_429 : decode code 429 = .ok (.iadd, 1) := by decide +kernel
theorem dL_law_430 : decode code 430 = .ok (.iaload, 1) := by decide +kernel
theorem dL_law_431 : decode code 431 = .ok (.aload_n 3, 1) := by decide +kernel
theorem dL_law_432 : decode code 432 = .ok (.invokestatic 89, 3) := by decide +kernel
theorem dL_law_435 : decode code 435 = .ok (.istore 5, 2) := by decide +kernel
theorem dL_law_437 : decode code 437 = .ok (.aload_n 2, 1) := by decide +kernel
theorem dL_law_438 : decode code 438 = .ok (.aload_n 0, 1) := by decide +kernel
theorem dL_law_439 : decode code 439 = .ok (.iload 4, 2) := by decide +kernel
theorem dL_law_441 : decode code 441 = .ok (.iconst 1, 1) := by decide +kernel
theorem dL_law_442 : decode code 442 = .ok (.iadd, 1) := by decide +kernel
theorem dL_law_443 : decode code 443 = .ok (.iaload, 1) := by decide +kernel
theorem dL_law_444 : decode code 444 = .ok (.aload_n 0, 1) := by decide +kernel
theorem dL_law_445 : decode code 445 = .ok (.iload 4, 2) := by decide +kernel
theorem dL_law_447 : decode code 447 = .ok (.iconst 2, 1) := by decide +kernel
theorem dL_law_448 : decode code 448 = .ok (.iadd, 1) := by decide +kernel
theorem dL_law_449 : decode code 449 = .ok (.iaload, 1) := by decide +kernel
theorem dL_law_450 : decode code 450 = .ok (.aload_n 0, 1) := by decide +kernel
theorem dL_law_451 : decode code 451 = .ok (.iload 4, 2) := by decide +kernel
theorem dL_law_453 : decode code 453 = .ok (.iconst 3, 1) := by decide +kernel
theorem dL_law_454 : decode code 454 = .ok (.iadd, 1) := by decide +kernel
theorem dL_law_455 : decode code 455 = .ok (.iaload, 1) := by decide +kernel
theorem dL_law_456 : decode code 456 = .ok (.invokevirtual 92, 3) := by decide +kernel
theorem dL_law_459 : decode code 459 = .ok (.istore 6, 2) := by decide +kernel
theorem dL_law_461 : decode code 461 = .ok (.aload_n 2, 1) := by decide +kernel
theorem dL_law_462 : decode code 462 = .ok (.invokevirtual 75, 3) := by decide +kernel
theorem dL_law_465 : decode code 465 = .ok (.iload 5, 2) := by decide +kernel
theorem dL_law_467 : decode code 467 = .ok (.if_icmp .eq 5, 3) := by decide +kernel
theorem dL_law_470 : decode code 470 = .ok (.iconst 0, 1) := by decide +kernel
theorem dL_law_471 : decode code 471 = .ok (.ireturn, 1) := by decide +kernel
theorem dL_law_472 : decode code 472 = .ok (.iload 5, 2) := by decide +kernel
theorem dL_law_474 : decode code 474 = .ok (.ifCond .ne 15, 3) := by decide +kernel
theorem dL_law_477 : decode code 477 = .ok (.aload_n 3, 1) := by decide +kernel
theorem dL_law_478 : decode code 478 = .ok (.iconst 0, 1) := by decide +kernel
theorem dL_law_479 : decode code 479 = .ok (.laload, 1) := by decide +kernel
theorem dL_law_480 : decode code 480 = .ok (.iload 6, 2) := by decide +kernel
theorem dL_law_482 : decode code 482 = .ok (.i2l, 1) := by decide +kernel
theorem dL_law_483 : decode code 483 = .ok (.lcmp, 1) := by decide +kernel
theorem dL_law_484 : decode code 484 = .ok (.ifCond .eq 5, 3) := by decide +kernel
theorem dL_law_487 : decode code 487 = .ok (.iconst 0, 1) := by decide +kernel
theorem dL_law_488 : decode code 488 = .ok (.ireturn, 1) := by decide +kernel
theorem dL_law_489 : decode code 489 = .ok (.goto 574, 3) := by decide +kernel
theorem dL_law_492 : decode code 492 = .ok (.aload_n 1, 1) := by decide +kernel
theorem dL_law_493 : decode code 493 = .ok (.aload_n 0, 1) := by decide +kernel
theorem dL_law_494 : decode code 494 = .ok (.iload 4, 2) := by decide +kernel
theorem dL_law_496 : decode code 496 = .ok (.iconst 1, 1) := by decide +kernel
theorem dL_law_497 : decode code 497 = .ok (.iadd, 1) := by decide +kernel
theorem dL_law_498 : decode code 498 = .ok (.iaload, 1) := by decide +kernel
theorem dL_law_499 : decode code 499 = .ok (.aload_n 0, 1) := by decide +kernel
theorem dL_law_500 : decode code 500 = .ok (.iload 4, 2) := by decide +kernel
theorem dL_law_502 : decode code 502 = .ok (.iconst 2, 1) := by decide +kernel
theorem dL_law_503 : decode code 503 = .ok (.iadd, 1) := by decide +kernel
theorem dL_law_504 : decode code 504 = .ok (.iaload, 1) := by decide +kernel
theorem dL_law_505 : decode code 505 = .ok (.aload_n 0, 1) := by decide +kernel
theorem dL_law_506 : decode code 506 = .ok (.iload 4, 2) := by decide +kernel
theorem dL_law_508 : decode code 508 = .ok (.iconst 3, 1) := by decide +kernel
theorem dL_law_509 : decode code 509 = .ok (.iadd, 1) := by decide +kernel
theorem dL_law_510 : decode code 510 = .ok (.iaload, 1) := by decide +kernel
theorem dL_law_511 : decode code 511 = .ok (.aload_n 3, 1) := by decide +kernel
theorem dL_law_512 : decode code 512 = .ok (.invokestatic 93, 3) := by decide +kernel
theorem dL_law_515 : decode code 515 = .ok (.istore 5, 2) := by decide +kernel
theorem dL_law_517 : decode code 517 = .ok (.aload_n 2, 1) := by decide +kernel
theorem dL_law_518 : decode code 518 = .ok (.aload_n 0, 1) := by decide +kernel
theorem dL_law_519 : decode code 519 = .ok (.iload 4, 2) := by decide +kernel
theorem dL_law_521 : decode code 521 = .ok (.iconst 1, 1) := by decide +kernel
theorem dL_law_522 : decode code 522 = .ok (.iadd, 1) := by decide +kernel
theorem dL_law_523 : decode code 523 = .ok (.iaload, 1) := by decide +kernel
theorem dL_law_524 : decode code 524 = .ok (.aload_n 0, 1) := by decide +kernel
theorem dL_law_525 : decode code 525 = .ok (.iload 4, 2) := by decide +kernel
theorem dL_law_527 : decode code 527 = .ok (.iconst 2, 1) := by decide +kernel
theorem dL_law_528 : decode code 528 = .ok (.iadd, 1) := by decide +kernel
theorem dL_law_529 : decode code 529 = .ok (.iaload, 1) := by decide +kernel
theorem dL_law_530 : decode code 530 = .ok (.aload_n 0, 1) := by decide +kernel
theorem dL_law_531 : decode code 531 = .ok (.iload 4, 2) := by decide +kernel
theorem dL_law_533 : decode code 533 = .ok (.iconst 3, 1) := by decide +kernel
theorem dL_law_534 : decode code 534 = .ok (.iadd, 1) := by decide +kernel
theorem dL_law_535 : decode code 535 = .ok (.iaload, 1) := by decide +kernel
theorem dL_law_536 : decode code 536 = .ok (.invokevirtual 95, 3) := by decide +kernel
theorem dL_law_539 : decode code 539 = .ok (.istore 6, 2) := by decide +kernel
theorem dL_law_541 : decode code 541 = .ok (.aload_n 2, 1) := by decide +kernel
theorem dL_law_542 : decode code 542 = .ok (.invokevirtual 75, 3) := by decide +kernel
theorem dL_law_545 : decode code 545 = .ok (.iload 5, 2) := by decide +kernel
theorem dL_law_547 : decode code 547 = .ok (.if_icmp .eq 5, 3) := by decide +kernel
theorem dL_law_550 : decode code 550 = .ok (.iconst 0, 1) := by decide +kernel
theorem dL_law_551 : decode code 551 = .ok (.ireturn, 1) := by decide +kernel
theorem dL_law_552 : decode code 552 = .ok (.iload 5, 2) := by decide +kernel
theorem dL_law_554 : decode code 554 = .ok (.ifCond .ne 15, 3) := by decide +kernel
theorem dL_law_557 : decode code 557 = .ok (.aload_n 3, 1) := by decide +kernel
theorem dL_law_558 : decode code 558 = .ok (.iconst 0, 1) := by decide +kernel
theorem dL_law_559 : decode code 559 = .ok (.laload, 1) := by decide +kernel
theorem dL_law_560 : decode code 560 = .ok (.iload 6, 2) := by decide +kernel
theorem dL_law_562 : decode code 562 = .ok (.i2l, 1) := by decide +kernel
theorem dL_law_563 : decode code 563 = .ok (.lcmp, 1) := by decide +kernel
theorem dL_law_564 : decode code 564 = .ok (.ifCond .eq 5, 3) := by decide +kernel
theorem dL_law_567 : decode code 567 = .ok (.iconst 0, 1) := by decide +kernel
theorem dL_law_568 : decode code 568 = .ok (.ireturn, 1) := by decide +kernel
theorem dL_law_569 : decode code 569 = .ok (.goto 494, 3) := by decide +kernel
theorem dL_law_572 : decode code 572 = .ok (.aload_n 1, 1) := by decide +kernel
theorem dL_law_573 : decode code 573 = .ok (.aload_n 0, 1) := by decide +kernel
theorem dL_law_574 : decode code 574 = .ok (.iload 4, 2) := by decide +kernel
theorem dL_law_576 : decode code 576 = .ok (.iconst 1, 1) := by decide +kernel
theorem dL_law_577 : decode code 577 = .ok (.iadd, 1) := by decide +kernel
theorem dL_law_578 : decode code 578 = .ok (.iaload, 1) := by decide +kernel
theorem dL_law_579 : decode code 579 = .ok (.aload_n 0, 1) := by decide +kernel
theorem dL_law_580 : decode code 580 = .ok (.iload 4, 2) := by decide +kernel
theorem dL_law_582 : decode code 582 = .ok (.iconst 2, 1) := by decide +kernel
theorem dL_law_583 : decode code 583 = .ok (.iadd, 1) := by decide +kernel
theorem dL_law_584 : decode code 584 = .ok (.iaload, 1) := by decide +kernel
theorem dL_law_585 : decode code 585 = .ok (.aload_n 0, 1) := by decide +kernel
theorem dL_law_586 : decode code 586 = .ok (.iload 4, 2) := by decide +kernel
theorem dL_law_588 : decode code 588 = .ok (.iconst 3, 1) := by decide +kernel
theorem dL_law_589 : decode code 589 = .ok (.iadd, 1) := by decide +kernel
theorem dL_law_590 : decode code 590 = .ok (.iaload, 1) := by decide +kernel
theorem dL_law_591 : decode code 591 = .ok (.aload_n 3, 1) := by decide +kernel
theorem dL_law_592 : decode code 592 = .ok (.invokestatic 96, 3) := by decide +kernel
theorem dL_law_595 : decode code 595 = .ok (.istore 5, 2) := by decide +kernel
theorem dL_law_597 : decode code 597 = .ok (.aload_n 2, 1) := by decide +kernel
theorem dL_law_598 : decode code 598 = .ok (.aload_n 0, 1) := by decide +kernel
theorem dL_law_599 : decode code 599 = .ok (.iload 4, 2) := by decide +kernel
theorem dL_law_601 : decode code 601 = .ok (.iconst 1, 1) := by decide +kernel
theorem dL_law_602 : decode code 602 = .ok (.iadd, 1) := by decide +kernel
theorem dL_law_603 : decode code 603 = .ok (.iaload, 1) := by decide +kernel
theorem dL_law_604 : decode code 604 = .ok (.aload_n 0, 1) := by decide +kernel
theorem dL_law_605 : decode code 605 = .ok (.iload 4, 2) := by decide +kernel
theorem dL_law_607 : decode code 607 = .ok (.iconst 2, 1) := by decide +kernel
theorem dL_law_608 : decode code 608 = .ok (.iadd, 1) := by decide +kernel
theorem dL_law_609 : decode code 609 = .ok (.iaload, 1) := by decide +kernel
theorem dL_law_610 : decode code 610 = .ok (.aload_n 0, 1) := by decide +kernel
theorem dL_law_611 : decode code 611 = .ok (.iload 4, 2) := by decide +kernel
theorem dL_law_613 : decode code 613 = .ok (.iconst 3, 1) := by decide +kernel
theorem dL_law_614 : decode code 614 = .ok (.iadd, 1) := by decide +kernel
theorem dL_law_615 : decode code 615 = .ok (.iaload, 1) := by decide +kernel
theorem dL_law_616 : decode code 616 = .ok (.invokevirtual 98, 3) := by decide +kernel
theorem dL_law_619 : decode code 619 = .ok (.istore 6, 2) := by decide +kernel
theorem dL_law_621 : decode code 621 = .ok (.aload_n 2, 1) := by decide +kernel
theorem dL_law_622 : decode code 622 = .ok (.invokevirtual 75, 3) := by decide +kernel
theorem dL_law_625 : decode code 625 = .ok (.iload 5, 2) := by decide +kernel
theorem dL_law_627 : decode code 627 = .ok (.if_icmp .eq 5, 3) := by decide +kernel
theorem dL_law_630 : decode code 630 = .ok (.iconst 0, 1) := by decide +kernel
theorem dL_law_631 : decode code 631 = .ok (.ireturn, 1) := by decide +kernel
theorem dL_law_632 : decode code 632 = .ok (.iload 5, 2) := by decide +kernel
theorem dL_law_634 : decode code 634 = .ok (.ifCond .ne 15, 3) := by decide +kernel
theorem dL_law_637 : decode code 637 = .ok (.aload_n 3, 1) := by decide +kernel
theorem dL_law_638 : decode code 638 = .ok (.iconst 0, 1) := by decide +kernel
theorem dL_law_639 : decode code 639 = .ok (.laload, 1) := by decide +kernel
theorem dL_law_640 : decode code 640 = .ok (.iload 6, 2) := by decide +kernel
theorem dL_law_642 : decode code 642 = .ok (.i2l, 1) := by decide +kernel
theorem dL_law_643 : decode code 643 = .ok (.lcmp, 1) := by decide +kernel
theorem dL_law_644 : decode code 644 = .ok (.ifCond .eq 5, 3) := by decide +kernel
theorem dL_law_647 : decode code 647 = .ok (.iconst 0, 1) := by decide +kernel
theorem dL_law_648 : decode code 648 = .ok (.ireturn, 1) := by decide +kernel
theorem dL_law_649 : decode code 649 = .ok (.goto 414, 3) := by decide +kernel
theorem dL_law_652 : decode code 652 = .ok (.aload_n 1, 1) := by decide +kernel
theorem dL_law_653 : decode code 653 = .ok (.aload_n 0, 1) := by decide +kernel
theorem dL_law_654 : decode code 654 = .ok (.iload 4, 2) := by decide +kernel
theorem dL_law_656 : decode code 656 = .ok (.iconst 1, 1) := by decide +kernel
theorem dL_law_657 : decode code 657 = .ok (.iadd, 1) := by decide +kernel
theorem dL_law_658 : decode code 658 = .ok (.iaload, 1) := by decide +kernel
theorem dL_law_659 : decode code 659 = .ok (.aload_n 0, 1) := by decide +kernel
theorem dL_law_660 : decode code 660 = .ok (.iload 4, 2) := by decide +kernel
theorem dL_law_662 : decode code 662 = .ok (.iconst 2, 1) := by decide +kernel
theorem dL_law_663 : decode code 663 = .ok (.iadd, 1) := by decide +kernel
theorem dL_law_664 : decode code 664 = .ok (.iaload, 1) := by decide +kernel
theorem dL_law_665 : decode code 665 = .ok (.aload_n 3, 1) := by decide +kernel
theorem dL_law_666 : decode code 666 = .ok (.invokestatic 99, 3) := by decide +kernel
theorem dL_law_669 : decode code 669 = .ok (.istore 5, 2) := by decide +kernel
theorem dL_law_671 : decode code 671 = .ok (.aload_n 2, 1) := by decide +kernel
theorem dL_law_672 : decode code 672 = .ok (.aload_n 0, 1) := by decide +kernel
theorem dL_law_673 : decode code 673 = .ok (.iload 4, 2) := by decide +kernel
theorem dL_law_675 : decode code 675 = .ok (.iconst 1, 1) := by decide +kernel
theorem dL_law_676 : decode code 676 = .ok (.iadd, 1) := by decide +kernel
theorem dL_law_677 : decode code 677 = .ok (.iaload, 1) := by decide +kernel
theorem dL_law_678 : decode code 678 = .ok (.aload_n 0, 1) := by decide +kernel
theorem dL_law_679 : decode code 679 = .ok (.iload 4, 2) := by decide +kernel
theorem dL_law_681 : decode code 681 = .ok (.iconst 2, 1) := by decide +kernel
theorem dL_law_682 : decode code 682 = .ok (.iadd, 1) := by decide +kernel
theorem dL_law_683 : decode code 683 = .ok (.iaload, 1) := by decide +kernel
theorem dL_law_684 : decode code 684 = .ok (.invokevirtual 101, 3) := by decide +kernel
theorem dL_law_687 : decode code 687 = .ok (.istore 6, 2) := by decide +kernel
theorem dL_law_689 : decode code 689 = .ok (.aload_n 2, 1) := by decide +kernel
theorem dL_law_690 : decode code 690 = .ok (.invokevirtual 75, 3) := by decide +kernel
theorem dL_law_693 : decode code 693 = .ok (.iload 5, 2) := by decide +kernel
theorem dL_law_695 : decode code 695 = .ok (.if_icmp .eq 5, 3) := by decide +kernel
theorem dL_law_698 : decode code 698 = .ok (.iconst 0, 1) := by decide +kernel
theorem dL_law_699 : decode code 699 = .ok (.ireturn, 1) := by decide +kernel
theorem dL_law_700 : decode code 700 = .ok (.iload 5, 2) := by decide +kernel
theorem dL_law_702 : decode code 702 = .ok (.ifCond .ne 15, 3) := by decide +kernel
theorem dL_law_705 : decode code 705 = .ok (.aload_n 3, 1) := by decide +kernel
theorem dL_law_706 : decode code 706 = .ok (.iconst 0, 1) := by decide +kernel
theorem dL_law_707 : decode code 707 = .ok (.laload, 1) := by decide +kernel
theorem dL_law_708 : decode code 708 = .ok (.iload 6, 2) := by decide +kernel
theorem dL_law_710 : decode code 710 = .ok (.i2l, 1) := by decide +kernel
theorem dL_law_711 : decode code 711 = .ok (.lcmp, 1) := by decide +kernel
theorem dL_law_712 : decode code 712 = .ok (.ifCond .eq 5, 3) := by decide +kernel
theorem dL_law_715 : decode code 715 = .ok (.iconst 0, 1) := by decide +kernel
theorem dL_law_716 : decode code 716 = .ok (.ireturn, 1) := by decide +kernel
theorem dL_law_717 : decode code 717 = .ok (.goto 346, 3) := by decide +kernel
theorem dL_law_720 : decode code 720 = .ok (.aload_n 1, 1) := by decide +kernel
theorem dL_law_721 : decode code 721 = .ok (.aload_n 0, 1) := by decide +kernel
theorem dL_law_722 : decode code 722 = .ok (.iload 4, 2) := by decide +kernel
theorem dL_law_724 : decode code 724 = .ok (.iconst 1, 1) := by decide +kernel
theorem dL_law_725 : decode code 725 = .ok (.iadd, 1) := by decide +kernel
theorem dL_law_726 : decode code 726 = .ok (.iaload, 1) := by decide +kernel
theorem dL_law_727 : decode code 727 = .ok (.aload_n 3, 1) := by decide +kernel
theorem dL_law_728 : decode code 728 = .ok (.invokestatic 102, 3) := by decide +kernel
theorem dL_law_731 : decode code 731 = .ok (.istore 5, 2) := by decide +kernel
theorem dL_law_733 : decode code 733 = .ok (.aload_n 2, 1) := by decide +kernel
theorem dL_law_734 : decode code 734 = .ok (.aload_n 0, 1) := by decide +kernel
theorem dL_law_735 : decode code 735 = .ok (.iload 4, 2) := by decide +kernel
theorem dL_law_737 : decode code 737 = .ok (.iconst 1, 1) := by decide +kernel
theorem dL_law_738 : decode code 738 = .ok (.iadd, 1) := by decide +kernel
theorem dL_law_739 : decode code 739 = .ok (.iaload, 1) := by decide +kernel
theorem dL_law_740 : decode code 740 = .ok (.invokevirtual 105, 3) := by decide +kernel
theorem dL_law_743 : decode code 743 = .ok (.istore 6, 2) := by decide +kernel
theorem dL_law_745 : decode code 745 = .ok (.aload_n 2, 1) := by decide +kernel
theorem dL_law_746 : decode code 746 = .ok (.invokevirtual 75, 3) := by decide +kernel
theorem dL_law_749 : decode code 749 = .ok (.iload 5, 2) := by decide +kernel
theorem dL_law_751 : decode code 751 = .ok (.if_icmp .eq 5, 3) := by decide +kernel
theorem dL_law_754 : decode code 754 = .ok (.iconst 0, 1) := by decide +kernel
theorem dL_law_755 : decode code 755 = .ok (.ireturn, 1) := by decide +kernel
theorem dL_law_756 : decode code 756 = .ok (.iload 5, 2) := by decide +kernel
theorem dL_law_758 : decode code 758 = .ok (.ifCond .ne 15, 3) := by decide +kernel
theorem dL_law_761 : decode code 761 = .ok (.aload_n 3, 1) := by decide +kernel
theorem dL_law_762 : decode code 762 = .ok (.iconst 0, 1) := by decide +kernel
theorem dL_law_763 : decode code 763 = .ok (.laload, 1) := by decide +kernel
theorem dL_law_764 : decode code 764 = .ok (.iload 6, 2) := by decide +kernel
theorem dL_law_766 : decode code 766 = .ok (.i2l, 1) := by decide +kernel
theorem dL_law_767 : decode code 767 = .ok (.lcmp, 1) := by decide +kernel
theorem dL_law_768 : decode code 768 = .ok (.ifCond .eq 5, 3) := by decide +kernel
theorem dL_law_771 : decode code 771 = .ok (.iconst 0, 1) := by decide +kernel
theorem dL_law_772 : decode code 772 = .ok (.ireturn, 1) := by decide +kernel
theorem dL_law_773 : decode code 773 = .ok (.goto 290, 3) := by decide +kernel
theorem dL_law_776 : decode code 776 = .ok (.aload_n 1, 1) := by decide +kernel
theorem dL_law_777 : decode code 777 = .ok (.aload_n 0, 1) := by decide +kernel
theorem dL_law_778 : decode code 778 = .ok (.iload 4, 2) := by decide +kernel
theorem dL_law_780 : decode code 780 = .ok (.iconst 1, 1) := by decide +kernel
theorem dL_law_781 : decode code 781 = .ok (.iadd, 1) := by decide +kernel
theorem dL_law_782 : decode code 782 = .ok (.iaload, 1) := by decide +kernel
theorem dL_law_783 : decode code 783 = .ok (.aload_n 3, 1) := by decide +kernel
theorem dL_law_784 : decode code 784 = .ok (.invokestatic 106, 3) := by decide +kernel
theorem dL_law_787 : decode code 787 = .ok (.istore 5, 2) := by decide +kernel
theorem dL_law_789 : decode code 789 = .ok (.aload_n 2, 1) := by decide +kernel
theorem dL_law_790 : decode code 790 = .ok (.aload_n 0, 1) := by decide +kernel
theorem dL_law_791 : decode code 791 = .ok (.iload 4, 2) := by decide +kernel
theorem dL_law_793 : decode code 793 = .ok (.iconst 1, 1) := by decide +kernel
theorem dL_law_794 : decode code 794 = .ok (.iadd, 1) := by decide +kernel
theorem dL_law_795 : decode code 795 = .ok (.iaload, 1) := by decide +kernel
theorem dL_law_796 : decode code 796 = .ok (.invokevirtual 108, 3) := by decide +kernel
theorem dL_law_799 : decode code 799 = .ok (.istore 6, 2) := by decide +kernel
theorem dL_law_801 : decode code 801 = .ok (.aload_n 2, 1) := by decide +kernel
theorem dL_law_802 : decode code 802 = .ok (.invokevirtual 75, 3) := by decide +kernel
theorem dL_law_805 : decode code 805 = .ok (.iload 5, 2) := by decide +kernel
theorem dL_law_807 : decode code 807 = .ok (.if_icmp .eq 5, 3) := by decide +kernel
theorem dL_law_810 : decode code 810 = .ok (.iconst 0, 1) := by decide +kernel
theorem dL_law_811 : decode code 811 = .ok (.ireturn, 1) := by decide +kernel
theorem dL_law_812 : decode code 812 = .ok (.iload 5, 2) := by decide +kernel
theorem dL_law_814 : decode code 814 = .ok (.ifCond .ne 15, 3) := by decide +kernel
theorem dL_law_817 : decode code 817 = .ok (.aload_n 3, 1) := by decide +kernel
theorem dL_law_818 : decode code 818 = .ok (.iconst 0, 1) := by decide +kernel
theorem dL_law_819 : decode code 819 = .ok (.laload, 1) := by decide +kernel
theorem dL_law_820 : decode code 820 = .ok (.iload 6, 2) := by decide +kernel
theorem dL_law_822 : decode code 822 = .ok (.i2l, 1) := by decide +kernel
theorem dL_law_823 : decode code 823 = .ok (.lcmp, 1) := by decide +kernel
theorem dL_law_824 : decode code 824 = .ok (.ifCond .eq 5, 3) := by decide +kernel
theorem dL_law_827 : decode code 827 = .ok (.iconst 0, 1) := by decide +kernel
theorem dL_law_828 : decode code 828 = .ok (.ireturn, 1) := by decide +kernel
theorem dL_law_829 : decode code 829 = .ok (.goto 234, 3) := by decide +kernel
theorem dL_law_832 : decode code 832 = .ok (.aload_n 1, 1) := by decide +kernel
theorem dL_law_833 : decode code 833 = .ok (.invokevirtual 109, 3) := by decide +kernel
theorem dL_law_836 : decode code 836 = .ok (.aload_n 2, 1) := by decide +kernel
theorem dL_law_837 : decode code 837 = .ok (.invokevirtual 112, 3) := by decide +kernel
theorem dL_law_840 : decode code 840 = .ok (.if_icmp .eq 223, 3) := by decide +kernel
theorem dL_law_843 : decode code 843 = .ok (.iconst 0, 1) := by decide +kernel
theorem dL_law_844 : decode code 844 = .ok (.ireturn, 1) := by decide +kernel
theorem dL_law_845 : decode code 845 = .ok (.aload_n 1, 1) := by decide +kernel
theorem dL_law_846 : decode code 846 = .ok (.invokevirtual 113, 3) := by decide +kernel
theorem dL_law_849 : decode code 849 = .ok (.aload_n 2, 1) := by decide +kernel
theorem dL_law_850 : decode code 850 = .ok (.invokevirtual 116, 3) := by decide +kernel
theorem dL_law_853 : decode code 853 = .ok (.if_icmp .eq 210, 3) := by decide +kernel
theorem dL_law_856 : decode code 856 = .ok (.iconst 0, 1) := by decide +kernel
theorem dL_law_857 : decode code 857 = .ok (.ireturn, 1) := by decide +kernel
theorem dL_law_858 : decode code 858 = .ok (.aload_n 1, 1) := by decide +kernel
theorem dL_law_859 : decode code 859 = .ok (.aload_n 0, 1) := by decide +kernel
theorem dL_law_860 : decode code 860 = .ok (.iload 4, 2) := by decide +kernel
theorem dL_law_862 : decode code 862 = .ok (.iconst 1, 1) := by decide +kernel
theorem dL_law_863 : decode code 863 = .ok (.iadd, 1) := by decide +kernel
theorem dL_law_864 : decode code 864 = .ok (.iaload, 1) := by decide +kernel
theorem dL_law_865 : decode code 865 = .ok (.invokevirtual 117, 3) := by decide +kernel
theorem dL_law_868 : decode code 868 = .ok (.aload_n 2, 1) := by decide +kernel
theorem dL_law_869 : decode code 869 = .ok (.aload_n 0, 1) := by decide +kernel
theorem dL_law_870 : decode code 870 = .ok (.iload 4, 2) := by decide +kernel
theorem dL_law_872 : decode code 872 = .ok (.iconst 1, 1) := by decide +kernel
theorem dL_law_873 : decode code 873 = .ok (.iadd, 1) := by decide +kernel
theorem dL_law_874 : decode code 874 = .ok (.iaload, 1) := by decide +kernel
theorem dL_law_875 : decode code 875 = .ok (.invokevirtual 120, 3) := by decide +kernel
theorem dL_law_878 : decode code 878 = .ok (.if_icmp .eq 185, 3) := by decide +kernel
theorem dL_law_881 : decode code 881 = .ok (.iconst 0, 1) := by decide +kernel
theorem dL_law_882 : decode code 882 = .ok (.ireturn, 1) := by decide +kernel
theorem dL_law_883 : decode code 883 = .ok (.aload_n 1, 1) := by decide +kernel
theorem dL_law_884 : decode code 884 = .ok (.aload_n 0, 1) := by decide +kernel
theorem dL_law_885 : decode code 885 = .ok (.iload 4, 2) := by decide +kernel
theorem dL_law_887 : decode code 887 = .ok (.iconst 1, 1) := by decide +kernel
theorem dL_law_888 : decode code 888 = .ok (.iadd, 1) := by decide +kernel
theorem dL_law_889 : decode code 889 = .ok (.iaload, 1) := by decide +kernel
theorem dL_law_890 : decode code 890 = .ok (.aload_n 3, 1) := by decide +kernel
theorem dL_law_891 : decode code 891 = .ok (.invokestatic 121, 3) := by decide +kernel
theorem dL_law_894 : decode code 894 = .ok (.istore 5, 2) := by decide +kernel
theorem dL_law_896 : decode code 896 = .ok (.aload_n 2, 1) := by decide +kernel
theorem dL_law_897 : decode code 897 = .ok (.aload_n 0, 1) := by decide +kernel
theorem dL_law_898 : decode code 898 = .ok (.iload 4, 2) := by decide +kernel
theorem dL_law_900 : decode code 900 = .ok (.iconst 1, 1) := by decide +kernel
theorem dL_law_901 : decode code 901 = .ok (.iadd, 1) := by decide +kernel
theorem dL_law_902 : decode code 902 = .ok (.iaload, 1) := by decide +kernel
theorem dL_law_903 : decode code 903 = .ok (.invokevirtual 123, 3) := by decide +kernel
theorem dL_law_906 : decode code 906 = .ok (.istore 6, 2) := by decide +kernel
theorem dL_law_908 : decode code 908 = .ok (.aload_n 2, 1) := by decide +kernel
theorem dL_law_909 : decode code 909 = .ok (.invokevirtual 75, 3) := by decide +kernel
theorem dL_law_912 : decode code 912 = .ok (.iload 5, 2) := by decide +kernel
theorem dL_law_914 : decode code 914 = .ok (.if_icmp .eq 5, 3) := by decide +kernel
theorem dL_law_917 : decode code 917 = .ok (.iconst 0, 1) := by decide +kernel
theorem dL_law_918 : decode code 918 = .ok (.ireturn, 1) := by decide +kernel
theorem dL_law_919 : decode code 919 = .ok (.iload 5, 2) := by decide +kernel
theorem dL_law_921 : decode code 921 = .ok (.ifCond .ne 15, 3) := by decide +kernel
theorem dL_law_924 : decode code 924 = .ok (.aload_n 3, 1) := by decide +kernel
theorem dL_law_925 : decode code 925 = .ok (.iconst 0, 1) := by decide +kernel
theorem dL_law_926 : decode code 926 = .ok (.laload, 1) := by decide +kernel
theorem dL_law_927 : decode code 927 = .ok (.iload 6, 2) := by decide +kernel
theorem dL_law_929 : decode code 929 = .ok (.i2l, 1) := by decide +kernel
theorem dL_law_930 : decode code 930 = .ok (.lcmp, 1) := by decide +kernel
theorem dL_law_931 : decode code 931 = .ok (.ifCond .eq 5, 3) := by decide +kernel
theorem dL_law_934 : decode code 934 = .ok (.iconst 0, 1) := by decide +kernel
theorem dL_law_935 : decode code 935 = .ok (.ireturn, 1) := by decide +kernel
theorem dL_law_936 : decode code 936 = .ok (.goto 127, 3) := by decide +kernel
theorem dL_law_939 : decode code 939 = .ok (.aload_n 1, 1) := by decide +kernel
theorem dL_law_940 : decode code 940 = .ok (.aload_n 0, 1) := by decide +kernel
theorem dL_law_941 : decode code 941 = .ok (.iload 4, 2) := by decide +kernel
theorem dL_law_943 : decode code 943 = .ok (.iconst 1, 1) := by decide +kernel
theorem dL_law_944 : decode code 944 = .ok (.iadd, 1) := by decide +kernel
theorem dL_law_945 : decode code 945 = .ok (.iaload, 1) := by decide +kernel
theorem dL_law_946 : decode code 946 = .ok (.aload_n 0, 1) := by decide +kernel
theorem dL_law_947 : decode code 947 = .ok (.iload 4, 2) := by decide +kernel
theorem dL_law_949 : decode code 949 = .ok (.iconst 2, 1) := by decide +kernel
theorem dL_law_950 : decode code 950 = .ok (.iadd, 1) := by decide +kernel
theorem dL_law_951 : decode code 951 = .ok (.iaload, 1) := by decide +kernel
theorem dL_law_952 : decode code 952 = .ok (.aload_n 3, 1) := by decide +kernel
theorem dL_law_953 : decode code 953 = .ok (.invokestatic 124, 3) := by decide +kernel
theorem dL_law_956 : decode code 956 = .ok (.istore 5, 2) := by decide +kernel
theorem dL_law_958 : decode code 958 = .ok (.aload_n 2, 1) := by decide +kernel
theorem dL_law_959 : decode code 959 = .ok (.aload_n 0, 1) := by decide +kernel
theorem dL_law_960 : decode code 960 = .ok (.iload 4, 2) := by decide +kernel
theorem dL_law_962 : decode code 962 = .ok (.iconst 1, 1) := by decide +kernel
theorem dL_law_963 : decode code 963 = .ok (.iadd, 1) := by decide +kernel
theorem dL_law_964 : decode code 964 = .ok (.iaload, 1) := by decide +kernel
theorem dL_law_965 : decode code 965 = .ok (.aload_n 0, 1) := by decide +kernel
theorem dL_law_966 : decode code 966 = .ok (.iload 4, 2) := by decide +kernel
theorem dL_law_968 : decode code 968 = .ok (.iconst 2, 1) := by decide +kernel
theorem dL_law_969 : decode code 969 = .ok (.iadd, 1) := by decide +kernel
theorem dL_law_970 : decode code 970 = .ok (.iaload, 1) := by decide +kernel
theorem dL_law_971 : decode code 971 = .ok (.invokevirtual 126, 3) := by decide +kernel
theorem dL_law_974 : decode code 974 = .ok (.istore 6, 2) := by decide +kernel
theorem dL_law_976 : decode code 976 = .ok (.aload_n 2, 1) := by decide +kernel
theorem dL_law_977 : decode code 977 = .ok (.invokevirtual 75, 3) := by decide +kernel
theorem dL_law_980 : decode code 980 = .ok (.iload 5, 2) := by decide +kernel
theorem dL_law_982 : decode code 982 = .ok (.if_icmp .eq 5, 3) := by decide +kernel
theorem dL_law_985 : decode code 985 = .ok (.iconst 0, 1) := by decide +kernel
theorem dL_law_986 : decode code 986 = .ok (.ireturn, 1) := by decide +kernel
theorem dL_law_987 : decode code 987 = .ok (.iload 5, 2) := by decide +kernel
theorem dL_law_989 : decode code 989 = .ok (.ifCond .ne 15, 3) := by decide +kernel
theorem dL_law_992 : decode code 992 = .ok (.aload_n 3, 1) := by decide +kernel
theorem dL_law_993 : decode code 993 = .ok (.iconst 0, 1) := by decide +kernel
theorem dL_law_994 : decode code 994 = .ok (.laload, 1) := by decide +kernel
theorem dL_law_995 : decode code 995 = .ok (.iload 6, 2) := by decide +kernel
theorem dL_law_997 : decode code 997 = .ok (.i2l, 1) := by decide +kernel
theorem dL_law_998 : decode code 998 = .ok (.lcmp, 1) := by decide +kernel
theorem dL_law_999 : decode code 999 = .ok (.ifCond .eq 5, 3) := by decide +kernel
theorem dL_law_1002 : decode code 1002 = .ok (.iconst 0, 1) := by decide +kernel
theorem dL_law_1003 : decode code 1003 = .ok (.ireturn, 1) := by decide +kernel
theorem dL_law_1004 : decode code 1004 = .ok (.goto 59, 3) := by decide +kernel
theorem dL_law_1007 : decode code 1007 = .ok (.aload_n 1, 1) := by decide +kernel
theorem dL_law_1008 : decode code 1008 = .ok (.aload_n 0, 1) := by decide +kernel
theorem dL_law_1009 : decode code 1009 = .ok (.iload 4, 2) := by decide +kernel
theorem dL_law_1011 : decode code 1011 = .ok (.iconst 1, 1) := by decide +kernel
theorem dL_law_1012 : decode code 1012 = .ok (.iadd, 1) := by decide +kernel
theorem dL_law_1013 : decode code 1013 = .ok (.iaload, 1) := by decide +kernel
theorem dL_law_1014 : decode code 1014 = .ok (.aload_n 3, 1) := by decide +kernel
theorem dL_law_1015 : decode code 1015 = .ok (.invokestatic 127, 3) := by decide +kernel
theorem dL_law_1018 : decode code 1018 = .ok (.istore 5, 2) := by decide +kernel
theorem dL_law_1020 : decode code 1020 = .ok (.aload_n 2, 1) := by decide +kernel
theorem dL_law_1021 : decode code 1021 = .ok (.aload_n 0, 1) := by decide +kernel
theorem dL_law_1022 : decode code 1022 = .ok (.iload 4, 2) := by decide +kernel
theorem dL_law_1024 : decode code 1024 = .ok (.iconst 1, 1) := by decide +kernel
theorem dL_law_1025 : decode code 1025 = .ok (.iadd, 1) := by decide +kernel
theorem dL_law_1026 : decode code 1026 = .ok (.iaload, 1) := by decide +kernel
theorem dL_law_1027 : decode code 1027 = .ok (.invokevirtual 129, 3) := by decide +kernel
theorem dL_law_1030 : decode code 1030 = .ok (.istore 6, 2) := by decide +kernel
theorem dL_law_1032 : decode code 1032 = .ok (.aload_n 2, 1) := by decide +kernel
theorem dL_law_1033 : decode code 1033 = .ok (.invokevirtual 75, 3) := by decide +kernel
theorem dL_law_1036 : decode code 1036 = .ok (.iload 5, 2) := by decide +kernel
theorem dL_law_1038 : decode code 1038 = .ok (.if_icmp .eq 5, 3) := by decide +kernel
theorem dL_law_1041 : decode code 1041 = .ok (.iconst 0, 1) := by decide +kernel
theorem dL_law_1042 : decode code 1042 = .ok (.ireturn, 1) := by decide +kernel
theorem dL_law_1043 : decode code 1043 = .ok (.iload 5, 2) := by decide +kernel
theorem dL_law_1045 : decode code 1045 = .ok (.ifCond .ne 15, 3) := by decide +kernel
theorem dL_law_1048 : decode code 1048 = .ok (.aload_n 3, 1) := by decide +kernel
theorem dL_law_1049 : decode code 1049 = .ok (.iconst 0, 1) := by decide +kernel
theorem dL_law_1050 : decode code 1050 = .ok (.laload, 1) := by decide +kernel
theorem dL_law_1051 : decode code 1051 = .ok (.iload 6, 2) := by decide +kernel
theorem dL_law_1053 : decode code 1053 = .ok (.i2l, 1) := by decide +kernel
theorem dL_law_1054 : decode code 1054 = .ok (.lcmp, 1) := by decide +kernel
theorem dL_law_1055 : decode code 1055 = .ok (.ifCond .eq 5, 3) := by decide +kernel
theorem dL_law_1058 : decode code 1058 = .ok (.iconst 0, 1) := by decide +kernel
theorem dL_law_1059 : decode code 1059 = .ok (.ireturn, 1) := by decide +kernel
theorem dL_law_1060 : decode code 1060 = .ok (.goto 3, 3) := by decide +kernel
theorem dL_law_1063 : decode code 1063 = .ok (.iinc 4 5, 3) := by decide +kernel
theorem dL_law_1066 : decode code 1066 = .ok (.goto (-1043), 3) := by decide +kernel
theorem dL_law_1069 : decode code 1069 = .ok (.iconst 1, 1) := by decide +kernel
theorem dL_law_1070 : decode code 1070 = .ok (.ireturn, 1) := by decide +kernel
