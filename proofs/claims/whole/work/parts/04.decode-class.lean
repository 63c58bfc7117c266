theorem dL_init_0 : decode cL_init 0 = .ok (.aload_n 0, 1) := by decide +kernel
theorem dL_init_1 : decode cL_init 1 = .ok (.invokespecial 3, 3) := by decide +kernel
theorem dL_init_4 : decode cL_init 4 = .ok (.aload_n 0, 1) := by decide +kernel
theorem dL_init_5 : decode cL_init 5 = .ok (.bipush 16, 2) := by decide +kernel
theorem dL_init_7 : decode cL_init 7 = .ok (.anewarray 9, 3) := by decide +kernel
theorem dL_init_10 : decode cL_init 10 = .ok (.putfield 11, 3) := by decide +kernel
theorem dL_init_13 : decode cL_init 13 = .ok (.aload_n 0, 1) := by decide +kernel
theorem dL_init_14 : decode cL_init 14 = .ok (.bipush 16, 2) := by decide +kernel
theorem dL_init_16 : decode cL_init 16 = .ok (.newarray .int, 2) := by decide +kernel
theorem dL_init_18 : decode cL_init 18 = .ok (.putfield 15, 3) := by decide +kernel
theorem dL_init_21 : decode cL_init 21 = .ok (.aload_n 0, 1) := by decide +kernel
theorem dL_init_22 : decode cL_init 22 = .ok (.bipush 16, 2) := by decide +kernel
theorem dL_init_24 : decode cL_init 24 = .ok (.newarray .int, 2) := by decide +kernel
theorem dL_init_26 : decode cL_init 26 = .ok (.putfield 19, 3) := by decide +kernel
theorem dL_init_29 : decode cL_init 29 = .ok (.aload_n 0, 1) := by decide +kernel
theorem dL_init_30 : decode cL_init 30 = .ok (.sipush 216, 3) := by decide +kernel
theorem dL_init_33 : decode cL_init 33 = .ok (.newarray .long, 2) := by decide +kernel
theorem dL_init_35 : decode cL_init 35 = .ok (.putfield 22, 3) := by decide +kernel
theorem dL_init_38 : decode cL_init 38 = .ok (.aload_n 0, 1) := by decide +kernel
theorem dL_init_39 : decode cL_init 39 = .ok (.aload_n 1, 1) := by decide +kernel
theorem dL_init_40 : decode cL_init 40 = .ok (.putfield 26, 3) := by decide +kernel
theorem dL_init_43 : decode cL_init 43 = .ok (.return_, 1) := by decide +kernel
theorem dL_begin_0 : decode cL_begin 0 = .ok (.aload_n 0, 1) := by decide +kernel
theorem dL_begin_1 : decode cL_begin 1 = .ok (.aload_n 1, 1) := by decide +kernel
theorem dL_begin_2 : decode cL_begin 2 = .ok (.putfield 30, 3) := by decide +kernel
theorem dL_begin_5 : decode cL_begin 5 = .ok (.aload_n 0, 1) := by decide +kernel
theorem dL_begin_6 : decode cL_begin 6 = .ok (.iconst 0, 1) := by decide +kernel
theorem dL_begin_7 : decode cL_begin 7 = .ok (.putfield 34, 3) := by decide +kernel
theorem dL_begin_10 : decode cL_begin 10 = .ok (.iconst 0, 1) := by decide +kernel
theorem dL_begin_11 : decode cL_begin 11 = .ok (.istore_n 2, 1) := by decide +kernel
theorem dL_begin_12 : decode cL_begin 12 = .ok (.iload_n 2, 1) := by decide +kernel
theorem dL_begin_13 : decode cL_begin 13 = .ok (.bipush 16, 2) := by decide +kernel
theorem dL_begin_15 : decode cL_begin 15 = .ok (.if_icmp .ge 16, 3) := by decide +kernel
theorem dL_begin_18 : decode cL_begin 18 = .ok (.aload_n 0, 1) := by decide +kernel
theorem dL_begin_19 : decode cL_begin 19 = .ok (.getfield 11, 3) := by decide +kernel
theorem dL_begin_22 : decode cL_begin 22 = .ok (.iload_n 2, 1) := by decide +kernel
theorem dL_begin_23 : decode cL_begin 23 = .ok (.aconst_null, 1) := by decide +kernel
theorem dL_begin_24 : decode cL_begin 24 = .ok (.aastore, 1) := by decide +kernel
theorem dL_begin_25 : decode cL_begin 25 = .ok (.iinc 2 1, 3) := by decide +kernel
theorem dL_begin_28 : decode cL_begin 28 = .ok (.goto (-16), 3) := by decide +kernel
theorem dL_begin_31 : decode cL_begin 31 = .ok (.return_, 1) := by decide +kernel
theorem dL_share_0 : decode cL_share 0 = .ok (.aload_n 0, 1) := by decide +kernel
theorem dL_share_1 : decode cL_share 1 = .ok (.getfield 11, 3) := by decide +kernel
theorem dL_share_4 : decode cL_share 4 = .ok (.iload_n 1, 1) := by decide +kernel
theorem dL_share_5 : decode cL_share 5 = .ok (.aload_n 2, 1) := by decide +kernel
theorem dL_share_6 : decode cL_share 6 = .ok (.aastore, 1) := by decide +kernel
theorem dL_share_7 : decode cL_share 7 = .ok (.aload_n 0, 1) := by decide +kernel
theorem dL_share_8 : decode cL_share 8 = .ok (.getfield 15, 3) := by decide +kernel
theorem dL_share_11 : decode cL_share 11 = .ok (.iload_n 1, 1) := by decide +kernel
theorem dL_share_12 : decode cL_share 12 = .ok (.iload_n 3, 1) := by decide +kernel
theorem dL_share_13 : decode cL_share 13 = .ok (.iastore, 1) := by decide +kernel
theorem dL_share_14 : decode cL_share 14 = .ok (.aload_n 0, 1) := by decide +kernel
theorem dL_share_15 : decode cL_share 15 = .ok (.getfield 19, 3) := by decide +kernel
theorem dL_share_18 : decode cL_share 18 = .ok (.iload_n 1, 1) := by decide +kernel
theorem dL_share_19 : decode cL_share 19 = .ok (.iload 4, 2) := by decide +kernel
theorem dL_share_21 : decode cL_share 21 = .ok (.iastore, 1) := by decide +kernel
theorem dL_share_22 : decode cL_share 22 = .ok (.return_, 1) := by decide +kernel
theorem dL_copy_0 : decode cL_copy 0 = .ok (.aload_n 0, 1) := by decide +kernel
theorem dL_copy_1 : decode cL_copy 1 = .ok (.getfield 11, 3) := by decide +kernel
theorem dL_copy_4 : decode cL_copy 4 = .ok (.iload_n 1, 1) := by decide +kernel
theorem dL_copy_5 : decode cL_copy 5 = .ok (.aaload, 1) := by decide +kernel
theorem dL_copy_6 : decode cL_copy 6 = .ok (.astore_n 2, 1) := by decide +kernel
theorem dL_copy_7 : decode cL_copy 7 = .ok (.aload_n 2, 1) := by decide +kernel
theorem dL_copy_8 : decode cL_copy 8 = .ok (.ifnull 34, 3) := by decide +kernel
theorem dL_copy_11 : decode cL_copy 11 = .ok (.aload_n 0, 1) := by decide +kernel
theorem dL_copy_12 : decode cL_copy 12 = .ok (.getfield 22, 3) := by decide +kernel
theorem dL_copy_15 : decode cL_copy 15 = .ok (.iload_n 1, 1) := by decide +kernel
theorem dL_copy_16 : decode cL_copy 16 = .ok (.aload_n 2, 1) := by decide +kernel
theorem dL_copy_17 : decode cL_copy 17 = .ok (.getfield 22, 3) := by decide +kernel
theorem dL_copy_20 : decode cL_copy 20 = .ok (.aload_n 0, 1) := by decide +kernel
theorem dL_copy_21 : decode cL_copy 21 = .ok (.getfield 15, 3) := by decide +kernel
theorem dL_copy_24 : decode cL_copy 24 = .ok (.iload_n 1, 1) := by decide +kernel
theorem dL_copy_25 : decode cL_copy 25 = .ok (.iaload, 1) := by decide +kernel
theorem dL_copy_26 : decode cL_copy 26 = .ok (.laload, 1) := by decide +kernel
theorem dL_copy_27 : decode cL_copy 27 = .ok (.lastore, 1) := by decide +kernel
theorem dL_copy_28 : decode cL_copy 28 = .ok (.aload_n 0, 1) := by decide +kernel
theorem dL_copy_29 : decode cL_copy 29 = .ok (.getfield 11, 3) := by decide +kernel
theorem dL_copy_32 : decode cL_copy 32 = .ok (.iload_n 1, 1) := by decide +kernel
theorem dL_copy_33 : decode cL_copy 33 = .ok (.aload_n 0, 1) := by decide +kernel
theorem dL_copy_34 : decode cL_copy 34 = .ok (.aastore, 1) := by decide +kernel
theorem dL_copy_35 : decode cL_copy 35 = .ok (.aload_n 0, 1) := by decide +kernel
theorem dL_copy_36 : decode cL_copy 36 = .ok (.getfield 15, 3) := by decide +kernel
theorem dL_copy_39 : decode cL_copy 39 = .ok (.iload_n 1, 1) := by decide +kernel
theorem dL_copy_40 : decode cL_copy 40 = .ok (.iload_n 1, 1) := by decide +kernel
theorem dL_copy_41 : decode cL_copy 41 = .ok (.iastore, 1) := by decide +kernel
theorem dL_copy_42 : decode cL_copy 42 = .ok (.return_, 1) := by decide +kernel
theorem dP_init_0 : decode cP_init 0 = .ok (.aload_n 0, 1) := by decide +kernel
theorem dP_init_1 : decode cP_init 1 = .ok (.invokespecial 3, 3) := by decide +kernel
theorem dP_init_4 : decode cP_init 4 = .ok (.aload_n 0, 1) := by decide +kernel
theorem dP_init_5 : decode cP_init 5 = .ok (.bipush 16, 2) := by decide +kernel
theorem dP_init_7 : decode cP_init 7 = .ok (.newarray .int, 2) := by decide +kernel
theorem dP_init_9 : decode cP_init 9 = .ok (.putfield 9, 3) := by decide +kernel
theorem dP_init_12 : decode cP_init 12 = .ok (.aload_n 0, 1) := by decide +kernel
theorem dP_init_13 : decode cP_init 13 = .ok (.bipush 16, 2) := by decide +kernel
theorem dP_init_15 : decode cP_init 15 = .ok (.newarray .int, 2) := by decide +kernel
theorem dP_init_17 : decode cP_init 17 = .ok (.putfield 15, 3) := by decide +kernel
theorem dP_init_20 : decode cP_init 20 = .ok (.aload_n 0, 1) := by decide +kernel
theorem dP_init_21 : decode cP_init 21 = .ok (.aload_n 1, 1) := by decide +kernel
theorem dP_init_22 : decode cP_init 22 = .ok (.putfield 18, 3) := by decide +kernel
theorem dP_init_25 : decode cP_init 25 = .ok (.aload_n 0, 1) := by decide +kernel
theorem dP_init_26 : decode cP_init 26 = .ok (.iload_n 2, 1) := by decide +kernel
theorem dP_init_27 : decode cP_init 27 = .ok (.putfield 22, 3) := by decide +kernel
theorem dP_init_30 : decode cP_init 30 = .ok (.aload_n 0, 1) := by decide +kernel
theorem dP_init_31 : decode cP_init 31 = .ok (.iload_n 3, 1) := by decide +kernel
theorem dP_init_32 : decode cP_init 32 = .ok (.putfield 26, 3) := by decide +kernel
theorem dP_init_35 : decode cP_init 35 = .ok (.aload_n 0, 1) := by decide +kernel
theorem dP_init_36 : decode cP_init 36 = .ok (.iload 4, 2) := by decide +kernel
theorem dP_init_38 : decode cP_init 38 = .ok (.putfield 29, 3) := by decide +kernel
theorem dP_init_41 : decode cP_init 41 = .ok (.return_, 1) := by decide +kernel
theorem dP_has_0 : decode cP_has 0 = .ok (.aload_n 0, 1) := by decide +kernel
theorem dP_has_1 : decode cP_has 1 = .ok (.getfield 29, 3) := by decide +kernel
theorem dP_has_4 : decode cP_has 4 = .ok (.iload_n 1, 1) := by decide +kernel
theorem dP_has_5 : decode cP_has 5 = .ok (.iand, 1) := by decide +kernel
theorem dP_has_6 : decode cP_has 6 = .ok (.ifCond .eq 7, 3) := by decide +kernel
theorem dP_has_9 : decode cP_has 9 = .ok (.iconst 1, 1) := by decide +kernel
theorem dP_has_10 : decode cP_has 10 = .ok (.goto 4, 3) := by decide +kernel
theorem dP_has_13 : decode cP_has 13 = .ok (.iconst 0, 1) := by decide +kernel
theorem dP_has_14 : decode cP_has 14 = .ok (.ireturn, 1) := by decide +kernel
theorem dP_isOrLiesIn_0 : decode cP_isOrLiesIn 0 = .ok (.aload_n 0, 1) := by decide +kernel
theorem dP_isOrLiesIn_1 : decode cP_isOrLiesIn 1 = .ok (.astore_n 2, 1) := by decide +kernel
theorem dP_isOrLiesIn_2 : decode cP_isOrLiesIn 2 = .ok (.aload_n 2, 1) := by decide +kernel
theorem dP_isOrLiesIn_3 : decode cP_isOrLiesIn 3 = .ok (.ifnull 18, 3) := by decide +kernel
theorem dP_isOrLiesIn_6 : decode cP_isOrLiesIn 6 = .ok (.aload_n 2, 1) := by decide +kernel
theorem dP_isOrLiesIn_7 : decode cP_isOrLiesIn 7 = .ok (.aload_n 1, 1) := by decide +kernel
theorem dP_isOrLiesIn_8 : decode cP_isOrLiesIn 8 = .ok (.if_acmp .ne 5, 3) := by decide +kernel
theorem dP_isOrLiesIn_11 : decode cP_isOrLiesIn 11 = .ok (.iconst 1, 1) := by decide +kernel
theorem dP_isOrLiesIn_12 : decode cP_isOrLiesIn 12 = .ok (.ireturn, 1) := by decide +kernel
theorem dP_isOrLiesIn_13 : decode cP_isOrLiesIn 13 = .ok (.aload_n 2, 1) := by decide +kernel
theorem dP_isOrLiesIn_14 : decode cP_isOrLiesIn 14 = .ok (.getfield 18, 3) := by decide +kernel
theorem dP_isOrLiesIn_17 : decode cP_isOrLiesIn 17 = .ok (.astore_n 2, 1) := by decide +kernel
theorem dP_isOrLiesIn_18 : decode cP_isOrLiesIn 18 = .ok (.goto (-16), 3) := by decide +kernel
theorem dP_isOrLiesIn_21 : decode cP_isOrLiesIn 21 = .ok (.iconst 0, 1) := by decide +kernel
theorem dP_isOrLiesIn_22 : decode cP_isOrLiesIn 22 = .ok (.ireturn, 1) := by decide +kernel
theorem dP_keepsData_0 : decode cP_keepsData 0 = .ok (.aload_n 0, 1) := by decide +kernel
theorem dP_keepsData_1 : decode cP_keepsData 1 = .ok (.iconst 1, 1) := by decide +kernel
theorem dP_keepsData_2 : decode cP_keepsData 2 = .ok (.invokevirtual 32, 3) := by decide +kernel
theorem dP_keepsData_5 : decode cP_keepsData 5 = .ok (.ifCond .ne 15, 3) := by decide +kernel
theorem dP_keepsData_8 : decode cP_keepsData 8 = .ok (.aload_n 0, 1) := by decide +kernel
theorem dP_keepsData_9 : decode cP_keepsData 9 = .ok (.iconst 4, 1) := by decide +kernel
theorem dP_keepsData_10 : decode cP_keepsData 10 = .ok (.invokevirtual 32, 3) := by decide +kernel
theorem dP_keepsData_13 : decode cP_keepsData 13 = .ok (.ifCond .ne 7, 3) := by decide +kernel
theorem dP_keepsData_16 : decode cP_keepsData 16 = .ok (.iconst 1, 1) := by decide +kernel
theorem dP_keepsData_17 : decode cP_keepsData 17 = .ok (.goto 4, 3) := by decide +kernel
theorem dP_keepsData_20 : decode cP_keepsData 20 = .ok (.iconst 0, 1) := by decide +kernel
theorem dP_keepsData_21 : decode cP_keepsData 21 = .ok (.ireturn, 1) := by decide +kernel
theorem dR_init_0 : decode cR_init 0 = .ok (.aload_n 0, 1) := by decide +kernel
theorem dR_init_1 : decode cR_init 1 = .ok (.invokespecial 1, 3) := by decide +kernel
theorem dR_init_4 : decode cR_init 4 = .ok (.aload_n 0, 1) := by decide +kernel
theorem dR_init_5 : decode cR_init 5 = .ok (.bipush 61, 2) := by decide +kernel
theorem dR_init_7 : decode cR_init 7 = .ok (.anewarray 9, 3) := by decide +kernel
theorem dR_init_10 : decode cR_init 10 = .ok (.putfield 11, 3) := by decide +kernel
theorem dR_init_13 : decode cR_init 13 = .ok (.aload_n 0, 1) := by decide +kernel
theorem dR_init_14 : decode cR_init 14 = .ok (.sipush 200, 3) := by decide +kernel
theorem dR_init_17 : decode cR_init 17 = .ok (.anewarray 9, 3) := by decide +kernel
theorem dR_init_20 : decode cR_init 20 = .ok (.putfield 15, 3) := by decide +kernel
theorem dR_init_23 : decode cR_init 23 = .ok (.aload_n 0, 1) := by decide +kernel
theorem dR_init_24 : decode cR_init 24 = .ok (.sipush 200, 3) := by decide +kernel
theorem dR_init_27 : decode cR_init 27 = .ok (.newarray .long, 2) := by decide +kernel
theorem dR_init_29 : decode cR_init 29 = .ok (.putfield 18, 3) := by decide +kernel
theorem dR_init_32 : decode cR_init 32 = .ok (.aload_n 0, 1) := by decide +kernel
theorem dR_init_33 : decode cR_init 33 = .ok (.bipush 100, 2) := by decide +kernel
theorem dR_init_35 : decode cR_init 35 = .ok (.newarray .int, 2) := by decide +kernel
theorem dR_init_37 : decode cR_init 37 = .ok (.putfield 22, 3) := by decide +kernel
theorem dR_init_40 : decode cR_init 40 = .ok (.aload_n 0, 1) := by decide +kernel
theorem dR_init_41 : decode cR_init 41 = .ok (.new 26, 3) := by decide +kernel
theorem dR_init_44 : decode cR_init 44 = .ok (.dup, 1) := by decide +kernel
theorem dR_init_45 : decode cR_init 45 = .ok (.aconst_null, 1) := by decide +kernel
theorem dR_init_46 : decode cR_init 46 = .ok (.invokespecial 28, 3) := by decide +kernel
theorem dR_init_49 : decode cR_init 49 = .ok (.putfield 31, 3) := by decide +kernel
theorem dR_init_52 : decode cR_init 52 = .ok (.aload_n 0, 1) := by decide +kernel
theorem dR_init_53 : decode cR_init 53 = .ok (.aload_n 0, 1) := by decide +kernel
theorem dR_init_54 : decode cR_init 54 = .ok (.getfield 31, 3) := by decide +kernel
theorem dR_init_57 : decode cR_init 57 = .ok (.putfield 35, 3) := by decide +kernel
theorem dR_init_60 : decode cR_init 60 = .ok (.aload_n 0, 1) := by decide +kernel
theorem dR_init_61 : decode cR_init 61 = .ok (.iconst 0, 1) := by decide +kernel
theorem dR_init_62 : decode cR_init 62 = .ok (.iload_n 1, 1) := by decide +kernel
theorem dR_init_63 : decode cR_init 63 = .ok (.ldc 38, 2) := by decide +kernel
theorem dR_init_65 : decode cR_init 65 = .ok (.invokestatic 39, 3) := by decide +kernel
theorem dR_init_68 : decode cR_init 68 = .ok (.invokestatic 45, 3) := by decide +kernel
theorem dR_init_71 : decode cR_init 71 = .ok (.putfield 48, 3) := by decide +kernel
theorem dR_init_74 : decode cR_init 74 = .ok (.iconst 0, 1) := by decide +kernel
theorem dR_init_75 : decode cR_init 75 = .ok (.istore_n 2, 1) := by decide +kernel
theorem dR_init_76 : decode cR_init 76 = .ok (.iload_n 2, 1) := by decide +kernel
theorem dR_init_77 : decode cR_init 77 = .ok (.bipush 100, 2) := by decide +kernel
theorem dR_init_79 : decode cR_init 79 = .ok (.if_icmp .ge 16, 3) := by decide +kernel
theorem dR_init_82 : decode cR_init 82 = .ok (.aload_n 0, 1) := by decide +kernel
theorem dR_init_83 : decode cR_init 83 = .ok (.getfield 22, 3) := by decide +kernel
theorem dR_init_86 : decode cR_init 86 = .ok (.iload_n 2, 1) := by decide +kernel
theorem dR_init_87 : decode cR_init 87 = .ok (.iconst (-1), 1) := by decide +kernel
theorem dR_init_88 : decode cR_init 88 = .ok (.iastore, 1) := by decide +kernel
theorem dR_init_89 : decode cR_init 89 = .ok (.iinc 2 1, 3) := by decide +kernel
theorem dR_init_92 : decode cR_init 92 = .ok (.goto (-16), 3) := by decide +kernel
theorem dR_init_95 : decode cR_init 95 = .ok (.return_, 1) := by decide +kernel
theorem dR_program_0 : decode cR_program 0 = .ok (.iload_n 1, 1) := by decide +kernel
theorem dR_program_1 : decode cR_program 1 = .ok (.ifCond .eq 11, 3) := by decide +kernel
theorem dR_program_4 : decode cR_program 4 = .ok (.aload_n 0, 1) := by decide +kernel
theorem dR_program_5 : decode cR_program 5 = .ok (.iload_n 1, 1) := by decide +kernel
theorem dR_program_6 : decode cR_program 6 = .ok (.invokevirtual 52, 3) := by decide +kernel
theorem dR_program_9 : decode cR_program 9 = .ok (.ifnull 7, 3) := by decide +kernel
theorem dR_program_12 : decode cR_program 12 = .ok (.iconst 1, 1) := by decide +kernel
theorem dR_program_13 : decode cR_program 13 = .ok (.goto 4, 3) := by decide +kernel
theorem dR_program_16 : decode cR_program 16 = .ok (.iconst 0, 1) := by decide +kernel
theorem dR_program_17 : decode cR_program 17 = .ok (.istore 4, 2) := by decide +kernel
theorem dR_program_19 : decode cR_program 19 = .ok (.iload 4, 2) := by decide +kernel
theorem dR_program_21 : decode cR_program 21 = .ok (.ifCond .eq 20, 3) := by decide +kernel
theorem dR_program_24 : decode cR_program 24 = .ok (.iload_n 2, 1) := by decide +kernel
theorem dR_program_25 : decode cR_program 25 = .ok (.invokestatic 56, 3) := by decide +kernel
theorem dR_program_28 : decode cR_program 28 = .ok (.ifCond .eq 13, 3) := by decide +kernel
theorem dR_program_31 : decode cR_program 31 = .ok (.iload_n 3, 1) := by decide +kernel
theorem dR_program_32 : decode cR_program 32 = .ok (.ifCond .lt 9, 3) := by decide +kernel
theorem dR_program_35 : decode cR_program 35 = .ok (.iload_n 3, 1) := by decide +kernel
theorem dR_program_36 : decode cR_program 36 = .ok (.bipush 15, 2) := by decide +kernel
theorem dR_program_38 : decode cR_program 38 = .ok (.if_icmp .le 6, 3) := by decide +kernel
theorem dR_program_41 : decode cR_program 41 = .ok (.bipush (-2), 2) := by decide +kernel
theorem dR_program_43 : decode cR_program 43 = .ok (.ireturn, 1) := by decide +kernel
theorem dR_program_44 : decode cR_program 44 = .ok (.aload_n 0, 1) := by decide +kernel
theorem dR_program_45 : decode cR_program 45 = .ok (.getfield 60, 3) := by decide +kernel
theorem dR_program_48 : decode cR_program 48 = .ok (.ifCond .le 6, 3) := by decide +kernel
theorem dR_program_51 : decode cR_program 51 = .ok (.bipush (-4), 2) := by decide +kernel
theorem dR_program_53 : decode cR_program 53 = .ok (.ireturn, 1) := by decide +kernel
theorem dR_program_54 : decode cR_program 54 = .ok (.aload_n 0, 1) := by decide +kernel
theorem dR_program_55 : decode cR_program 55 = .ok (.iload_n 1, 1) := by decide +kernel
theorem dR_program_56 : decode cR_program 56 = .ok (.invokevirtual 52, 3) := by decide +kernel
theorem dR_program_59 : decode cR_program 59 = .ok (.astore 5, 2) := by decide +kernel
theorem dR_program_61 : decode cR_program 61 = .ok (.aload_n 0, 1) := by decide +kernel
theorem dR_program_62 : decode cR_program 62 = .ok (.aload 5, 2) := by decide +kernel
theorem dR_program_64 : decode cR_program 64 = .ok (.iload_n 2, 1) := by decide +kernel
theorem dR_program_65 : decode cR_program 65 = .ok (.invokevirtual 63, 3) := by decide +kernel
theorem dR_program_68 : decode cR_program 68 = .ok (.ifnull 6, 3) := by decide +kernel
theorem dR_program_71 : decode cR_program 71 = .ok (.bipush (-3), 2) := by decide +kernel
theorem dR_program_73 : decode cR_program 73 = .ok (.ireturn, 1) := by decide +kernel
theorem dR_program_74 : decode cR_program 74 = .ok (.aload_n 0, 1) := by decide +kernel
theorem dR_program_75 : decode cR_program 75 = .ok (.getfield 67, 3) := by decide +kernel
theorem dR_program_78 : decode cR_program 78 = .ok (.bipush 60, 2) := by decide +kernel
theorem dR_program_80 : decode cR_program 80 = .ok (.if_icmp .lt 5, 3) := by decide +kernel
theorem dR_program_83 : decode cR_program 83 = .ok (.iconst (-1), 1) := by decide +kernel
theorem dR_program_84 : decode cR_program 84 = .ok (.ireturn, 1) := by decide +kernel
theorem dR_program_85 : decode cR_program 85 = .ok (.aload_n 0, 1) := by decide +kernel
theorem dR_program_86 : decode cR_program 86 = .ok (.dup, 1) := by decide +kernel
theorem dR_program_87 : decode cR_program 87 = .ok (.getfield 67, 3) := by decide +kernel
theorem dR_program_90 : decode cR_program 90 = .ok (.iconst 1, 1) := by decide +kernel
theorem dR_program_91 : decode cR_program 91 = .ok (.iadd, 1) := by decide +kernel
theorem dR_program_92 : decode cR_program 92 = .ok (.putfield 67, 3) := by decide +kernel
theorem dR_program_95 : decode cR_program 95 = .ok (.aload_n 0, 1) := by decide +kernel
theorem dR_program_96 : decode cR_program 96 = .ok (.getfield 11, 3) := by decide +kernel
theorem dR_program_99 : decode cR_program 99 = .ok (.aload_n 0, 1) := by decide +kernel
theorem dR_program_100 : decode cR_program 100 = .ok (.getfield 67, 3) := by decide +kernel
theorem dR_program_103 : decode cR_program 103 = .ok (.new 9, 3) := by decide +kernel
theorem dR_program_106 : decode cR_program 106 = .ok (.dup, 1) := by decide +kernel
theorem dR_program_107 : decode cR_program 107 = .ok (.aload 5, 2) := by decide +kernel
theorem dR_program_109 : decode cR_program 109 = .ok (.aload_n 0, 1) := by decide +kernel
theorem dR_program_110 : decode cR_program 110 = .ok (.getfield 67, 3) := by decide +kernel
theorem dR_program_113 : decode cR_program 113 = .ok (.iload_n 2, 1) := by decide +kernel
theorem dR_program_114 : decode cR_program 114 = .ok (.iload_n 3, 1) := by decide +kernel
theorem dR_program_115 : decode cR_program 115 = .ok (.invokespecial 70, 3) := by decide +kernel
theorem dR_program_118 : decode cR_program 118 = .ok (.aastore, 1) := by decide +kernel
theorem dR_program_119 : decode cR_program 119 = .ok (.aload_n 0, 1) := by decide +kernel
theorem dR_program_120 : decode cR_program 120 = .ok (.getfield 67, 3) := by decide +kernel
theorem dR_program_123 : decode cR_program 123 = .ok (.ireturn, 1) := by decide +kernel
theorem dR_programOf_0 : decode cR_programOf 0 = .ok (.iload_n 1, 1) := by decide +kernel
theorem dR_programOf_1 : decode cR_programOf 1 = .ok (.iconst 1, 1) := by decide +kernel
theorem dR_programOf_2 : decode cR_programOf 2 = .ok (.if_icmp .lt 20, 3) := by decide +kernel
theorem dR_programOf_5 : decode cR_programOf 5 = .ok (.iload_n 1, 1) := by decide +kernel
theorem dR_programOf_6 : decode cR_programOf 6 = .ok (.aload_n 0, 1) := by decide +kernel
theorem dR_programOf_7 : decode cR_programOf 7 = .ok (.getfield 67, 3) := by decide +kernel
theorem dR_programOf_10 : decode cR_programOf 10 = .ok (.if_icmp .gt 12, 3) := by decide +kernel
theorem dR_programOf_13 : decode cR_programOf 13 = .ok (.aload_n 0, 1) := by decide +kernel
theorem dR_programOf_14 : decode cR_programOf 14 = .ok (.getfield 11, 3) := by decide +kernel
theorem dR_programOf_17 : decode cR_programOf 17 = .ok (.iload_n 1, 1) := by decide +kernel
theorem dR_programOf_18 : decode cR_programOf 18 = .ok (.aaload, 1) := by decide +kernel
theorem dR_programOf_19 : decode cR_programOf 19 = .ok (.goto 4, 3) := by decide +kernel
theorem dR_programOf_22 : decode cR_programOf 22 = .ok (.aconst_null, 1) := by decide +kernel
theorem dR_programOf_23 : decode cR_programOf 23 = .ok (.areturn, 1) := by decide +kernel
theorem dR_isName_0 : decode cR_isName 0 = .ok (.iload_n 0, 1) := by decide +kernel
theorem dR_isName_1 : decode cR_isName 1 = .ok (.ifCond .lt 13, 3) := by decide +kernel
theorem dR_isName_4 : decode cR_isName 4 = .ok (.iload_n 0, 1) := by decide +kernel
theorem dR_isName_5 : decode cR_isName 5 = .ok (.bipush 100, 2) := by decide +kernel
theorem dR_isName_7 : decode cR_isName 7 = .ok (.if_icmp .ge 7, 3) := by decide +kernel
theorem dR_isName_10 : decode cR_isName 10 = .ok (.iconst 1, 1) := by decide +kernel
theorem dR_isName_11 : decode cR_isName 11 = .ok (.goto 4, 3) := by decide +kernel
theorem dR_isName_14 : decode cR_isName 14 = .ok (.iconst 0, 1) := by decide +kernel
theorem dR_isName_15 : decode cR_isName 15 = .ok (.ireturn, 1) := by decide +kernel
theorem dR_directlyWithin_0 : decode cR_directlyWithin 0 = .ok (.iconst 1, 1) := by decide +kernel
theorem dR_directlyWithin_1 : decode cR_directlyWithin 1 = .ok (.istore_n 3, 1) := by decide +kernel
theorem dR_directlyWithin_2 : decode cR_directlyWithin 2 = .ok (.iload_n 3, 1) := by decide +kernel
theorem dR_directlyWithin_3 : decode cR_directlyWithin 3 = .ok (.aload_n 0, 1) := by decide +kernel
theorem dR_directlyWithin_4 : decode cR_directlyWithin 4 = .ok (.getfield 67, 3) := by decide +kernel
theorem dR_directlyWithin_7 : decode cR_directlyWithin 7 = .ok (.if_icmp .gt 43, 3) := by decide +kernel
theorem dR_directlyWithin_10 : decode cR_directlyWithin 10 = .ok (.aload_n 0, 1) := by decide +kernel
theorem dR_directlyWithin_11 : decode cR_directlyWithin 11 = .ok (.getfield 11, 3) := by decide +kernel
theorem dR_directlyWithin_14 : decode cR_directlyWithin 14 = .ok (.iload_n 3, 1) := by decide +kernel
theorem dR_directlyWithin_15 : decode cR_directlyWithin 15 = .ok (.aaload, 1) := by decide +kernel
theorem dR_directlyWithin_16 : decode cR_directlyWithin 16 = .ok (.astore 4, 2) := by decide +kernel
theorem dR_directlyWithin_18 : decode cR_directlyWithin 18 = .ok (.aload 4, 2) := by decide +kernel
theorem dR_directlyWithin_20 : decode cR_directlyWithin 20 = .ok (.ifnull 24, 3) := by decide +kernel
theorem dR_directlyWithin_23 : decode cR_directlyWithin 23 = .ok (.aload 4, 2) := by decide +kernel
theorem dR_directlyWithin_25 : decode cR_directlyWithin 25 = .ok (.getfield 202, 3) := by decide +kernel
theorem dR_directlyWithin_28 : decode cR_directlyWithin 28 = .ok (.aload_n 1, 1) := by decide +kernel
theorem dR_directlyWithin_29 : decode cR_directlyWithin 29 = .ok (.if_acmp .ne 15, 3) := by decide +kernel
theorem dR_directlyWithin_32 : decode cR_directlyWithin 32 = .ok (.aload 4, 2) := by decide +kernel
theorem dR_directlyWithin_34 : decode cR_directlyWithin 34 = .ok (.getfield 205, 3) := by decide +kernel
theorem dR_directlyWithin_37 : decode cR_directlyWithin 37 = .ok (.iload_n 2, 1) := by decide +kernel
theorem dR_directlyWithin_38 : decode cR_directlyWithin 38 = .ok (.if_icmp .ne 6, 3) := by decide +kernel
theorem dR_directlyWithin_41 : decode cR_directlyWithin 41 = .ok (.aload 4, 2) := by decide +kernel
theorem dR_directlyWithin_43 : decode cR_directlyWithin 43 = .ok (.areturn, 1) := by decide +kernel
theorem dR_directlyWithin_44 : decode cR_directlyWithin 44 = .ok (.iinc 3 1, 3) := by decide +kernel
theorem dR_directlyWithin_47 : decode cR_directlyWithin 47 = .ok (.goto (-45), 3) := by decide +kernel
theorem dR_directlyWithin_50 : decode cR_directlyWithin 50 = .ok (.aconst_null, 1) := by decide +kernel
theorem dR_directlyWithin_51 : decode cR_directlyWithin 51 = .ok (.areturn, 1) := by decide +kernel
theorem dR_cell_0 : decode cR_cell 0 = .ok (.aload_n 0, 1) := by decide +kernel
theorem dR_cell_1 : decode cR_cell 1 = .ok (.iload_n 1, 1) := by decide +kernel
theorem dR_cell_2 : decode cR_cell 2 = .ok (.invokevirtual 52, 3) := by decide +kernel
theorem dR_cell_5 : decode cR_cell 5 = .ok (.astore 4, 2) := by decide +kernel
theorem dR_cell_7 : decode cR_cell 7 = .ok (.aload 4, 2) := by decide +kernel
theorem dR_cell_9 : decode cR_cell 9 = .ok (.ifnonnull 6, 3) := by decide +kernel
theorem dR_cell_12 : decode cR_cell 12 = .ok (.bipush (-2), 2) := by decide +kernel
theorem dR_cell_14 : decode cR_cell 14 = .ok (.ireturn, 1) := by decide +kernel
theorem dR_cell_15 : decode cR_cell 15 = .ok (.aload_n 0, 1) := by decide +kernel
theorem dR_cell_16 : decode cR_cell 16 = .ok (.getfield 60, 3) := by decide +kernel
theorem dR_cell_19 : decode cR_cell 19 = .ok (.ifCond .le 6, 3) := by decide +kernel
theorem dR_cell_22 : decode cR_cell 22 = .ok (.bipush (-4), 2) := by decide +kernel
theorem dR_cell_24 : decode cR_cell 24 = .ok (.ireturn, 1) := by decide +kernel
theorem dR_cell_25 : decode cR_cell 25 = .ok (.aload_n 0, 1) := by decide +kernel
theorem dR_cell_26 : decode cR_cell 26 = .ok (.aload 4, 2) := by decide +kernel
theorem dR_cell_28 : decode cR_cell 28 = .ok (.lload_n 2, 1) := by decide +kernel
theorem dR_cell_29 : decode cR_cell 29 = .ok (.invokevirtual 73, 3) := by decide +kernel
theorem dR_cell_32 : decode cR_cell 32 = .ok (.ireturn, 1) := by decide +kernel
theorem dR_newCell_0 : decode cR_newCell 0 = .ok (.aload_n 0, 1) := by decide +kernel
theorem dR_newCell_1 : decode cR_newCell 1 = .ok (.getfield 193, 3) := by decide +kernel
theorem dR_newCell_4 : decode cR_newCell 4 = .ok (.sipush 200, 3) := by decide +kernel
theorem dR_newCell_7 : decode cR_newCell 7 = .ok (.if_icmp .lt 5, 3) := by decide +kernel
theorem dR_newCell_10 : decode cR_newCell 10 = .ok (.iconst (-1), 1) := by decide +kernel
theorem dR_newCell_11 : decode cR_newCell 11 = .ok (.ireturn, 1) := by decide +kernel
theorem dR_newCell_12 : decode cR_newCell 12 = .ok (.aload_n 0, 1) := by decide +kernel
theorem dR_newCell_13 : decode cR_newCell 13 = .ok (.getfield 15, 3) := by decide +kernel
theorem dR_newCell_16 : decode cR_newCell 16 = .ok (.aload_n 0, 1) := by decide +kernel
theorem dR_newCell_17 : decode cR_newCell 17 = .ok (.getfield 193, 3) := by decide +kernel
theorem dR_newCell_20 : decode cR_newCell 20 = .ok (.aload_n 1, 1) := by decide +kernel
theorem dR_newCell_21 : decode cR_newCell 21 = .ok (.aastore, 1) := by decide +kernel
theorem dR_newCell_22 : decode cR_newCell 22 = .ok (.aload_n 0, 1) := by decide +kernel
theorem dR_newCell_23 : decode cR_newCell 23 = .ok (.getfield 18, 3) := by decide +kernel
theorem dR_newCell_26 : decode cR_newCell 26 = .ok (.aload_n 0, 1) := by decide +kernel
theorem dR_newCell_27 : decode cR_newCell 27 = .ok (.getfield 193, 3) := by decide +kernel
theorem dR_newCell_30 : decode cR_newCell 30 = .ok (.lload_n 2, 1) := by decide +kernel
theorem dR_newCell_31 : decode cR_newCell 31 = .ok (.lastore, 1) := by decide +kernel
theorem dR_newCell_32 : decode cR_newCell 32 = .ok (.aload_n 0, 1) := by decide +kernel
theorem dR_newCell_33 : decode cR_newCell 33 = .ok (.getfield 31, 3) := by decide +kernel
theorem dR_newCell_36 : decode cR_newCell 36 = .ok (.getfield 165, 3) := by decide +kernel
theorem dR_newCell_39 : decode cR_newCell 39 = .ok (.aload_n 0, 1) := by decide +kernel
theorem dR_newCell_40 : decode cR_newCell 40 = .ok (.aload_n 0, 1) := by decide +kernel
theorem dR_newCell_41 : decode cR_newCell 41 = .ok (.getfield 193, 3) := by decide +kernel
theorem dR_newCell_44 : decode cR_newCell 44 = .ok (.invokevirtual 124, 3) := by decide +kernel
theorem dR_newCell_47 : decode cR_newCell 47 = .ok (.lload_n 2, 1) := by decide +kernel
theorem dR_newCell_48 : decode cR_newCell 48 = .ok (.lastore, 1) := by decide +kernel
theorem dR_newCell_49 : decode cR_newCell 49 = .ok (.aload_n 0, 1) := by decide +kernel
theorem dR_newCell_50 : decode cR_newCell 50 = .ok (.dup, 1) := by decide +kernel
theorem dR_newCell_51 : decode cR_newCell 51 = .ok (.getfield 193, 3) := by decide +kernel
theorem dR_newCell_54 : decode cR_newCell 54 = .ok (.iconst 1, 1) := by decide +kernel
theorem dR_newCell_55 : decode cR_newCell 55 = .ok (.iadd, 1) := by decide +kernel
theorem dR_newCell_56 : decode cR_newCell 56 = .ok (.putfield 193, 3) := by decide +kernel
theorem dR_newCell_59 : decode cR_newCell 59 = .ok (.aload_n 0, 1) := by decide +kernel
theorem dR_newCell_60 : decode cR_newCell 60 = .ok (.getfield 193, 3) := by decide +kernel
theorem dR_newCell_63 : decode cR_newCell 63 = .ok (.iconst 1, 1) := by decide +kernel
theorem dR_newCell_64 : decode cR_newCell 64 = .ok (.isub, 1) := by decide +kernel
theorem dR_newCell_65 : decode cR_newCell 65 = .ok (.ireturn, 1) := by decide +kernel
theorem dR_placeOf_0 : decode cR_placeOf 0 = .ok (.aload_n 0, 1) := by decide +kernel
theorem dR_placeOf_1 : decode cR_placeOf 1 = .ok (.iload_n 1, 1) := by decide +kernel
theorem dR_placeOf_2 : decode cR_placeOf 2 = .ok (.invokevirtual 214, 3) := by decide +kernel
theorem dR_placeOf_5 : decode cR_placeOf 5 = .ok (.ifCond .eq 17, 3) := by decide +kernel
theorem dR_placeOf_8 : decode cR_placeOf 8 = .ok (.aload_n 0, 1) := by decide +kernel
theorem dR_placeOf_9 : decode cR_placeOf 9 = .ok (.getfield 35, 3) := by decide +kernel
theorem dR_placeOf_12 : decode cR_placeOf 12 = .ok (.getfield 229, 3) := by decide +kernel
theorem dR_placeOf_15 : decode cR_placeOf 15 = .ok (.iconst (-1), 1) := by decide +kernel
theorem dR_placeOf_16 : decode cR_placeOf 16 = .ok (.iload_n 1, 1) := by decide +kernel
theorem dR_placeOf_17 : decode cR_placeOf 17 = .ok (.isub, 1) := by decide +kernel
theorem dR_placeOf_18 : decode cR_placeOf 18 = .ok (.iaload, 1) := by decide +kernel
theorem dR_placeOf_19 : decode cR_placeOf 19 = .ok (.goto 7, 3) := by decide +kernel
theorem dR_placeOf_22 : decode cR_placeOf 22 = .ok (.bipush 16, 2) := by decide +kernel
theorem dR_placeOf_24 : decode cR_placeOf 24 = .ok (.iload_n 1, 1) := by decide +kernel
theorem dR_placeOf_25 : decode cR_placeOf 25 = .ok (.iadd, 1) := by decide +kernel
theorem dR_placeOf_26 : decode cR_placeOf 26 = .ok (.ireturn, 1) := by decide +kernel
theorem dR_isFormal_0 : decode cR_isFormal 0 = .ok (.aload_n 0, 1) := by decide +kernel
theorem dR_isFormal_1 : decode cR_isFormal 1 = .ok (.getfield 35, 3) := by decide +kernel
theorem dR_isFormal_4 : decode cR_isFormal 4 = .ok (.getfield 89, 3) := by decide +kernel
theorem dR_isFormal_7 : decode cR_isFormal 7 = .ok (.astore_n 2, 1) := by decide +kernel
theorem dR_isFormal_8 : decode cR_isFormal 8 = .ok (.aload_n 2, 1) := by decide +kernel
theorem dR_isFormal_9 : decode cR_isFormal 9 = .ok (.ifnull 21, 3) := by decide +kernel
theorem dR_isFormal_12 : decode cR_isFormal 12 = .ok (.iload_n 1, 1) := by decide +kernel
theorem dR_isFormal_13 : decode cR_isFormal 13 = .ok (.ifCond .ge 17, 3) := by decide +kernel
theorem dR_isFormal_16 : decode cR_isFormal 16 = .ok (.iconst (-1), 1) := by decide +kernel
theorem dR_isFormal_17 : decode cR_isFormal 17 = .ok (.iload_n 1, 1) := by decide +kernel
theorem dR_isFormal_18 : decode cR_isFormal 18 = .ok (.isub, 1) := by decide +kernel
theorem dR_isFormal_19 : decode cR_isFormal 19 = .ok (.aload_n 2, 1) := by decide +kernel
theorem dR_isFormal_20 : decode cR_isFormal 20 = .ok (.getfield 77, 3) := by decide +kernel
theorem dR_isFormal_23 : decode cR_isFormal 23 = .ok (.if_icmp .ge 7, 3) := by decide +kernel
theorem dR_isFormal_26 : decode cR_isFormal 26 = .ok (.iconst 1, 1) := by decide +kernel
theorem dR_isFormal_27 : decode cR_isFormal 27 = .ok (.goto 4, 3) := by decide +kernel
theorem dR_isFormal_30 : decode cR_isFormal 30 = .ok (.iconst 0, 1) := by decide +kernel
theorem dR_isFormal_31 : decode cR_isFormal 31 = .ok (.ireturn, 1) := by decide +kernel
theorem dR_formal_0 : decode cR_formal 0 = .ok (.aload_n 0, 1) := by decide +kernel
theorem dR_formal_1 : decode cR_formal 1 = .ok (.iload_n 1, 1) := by decide +kernel
theorem dR_formal_2 : decode cR_formal 2 = .ok (.invokevirtual 52, 3) := by decide +kernel
theorem dR_formal_5 : decode cR_formal 5 = .ok (.astore 4, 2) := by decide +kernel
theorem dR_formal_7 : decode cR_formal 7 = .ok (.aload 4, 2) := by decide +kernel
theorem dR_formal_9 : decode cR_formal 9 = .ok (.ifnull 23, 3) := by decide +kernel
theorem dR_formal_12 : decode cR_formal 12 = .ok (.iload_n 2, 1) := by decide +kernel
theorem dR_formal_13 : decode cR_formal 13 = .ok (.ifCond .lt 19, 3) := by decide +kernel
theorem dR_formal_16 : decode cR_formal 16 = .ok (.iload_n 2, 1) := by decide +kernel
theorem dR_formal_17 : decode cR_formal 17 = .ok (.iconst 3, 1) := by decide +kernel
theorem dR_formal_18 : decode cR_formal 18 = .ok (.if_icmp .gt 14, 3) := by decide +kernel
theorem dR_formal_21 : decode cR_formal 21 = .ok (.iload_n 3, 1) := by decide +kernel
theorem dR_formal_22 : decode cR_formal 22 = .ok (.iconst 1, 1) := by decide +kernel
theorem dR_formal_23 : decode cR_formal 23 = .ok (.if_icmp .lt 9, 3) := by decide +kernel
theorem dR_formal_26 : decode cR_formal 26 = .ok (.iload_n 3, 1) := by decide +kernel
theorem dR_formal_27 : decode cR_formal 27 = .ok (.bipush 8, 2) := by decide +kernel
theorem dR_formal_29 : decode cR_formal 29 = .ok (.if_icmp .le 6, 3) := by decide +kernel
theorem dR_formal_32 : decode cR_formal 32 = .ok (.bipush (-2), 2) := by decide +kernel
theorem dR_formal_34 : decode cR_formal 34 = .ok (.ireturn, 1) := by decide +kernel
theorem dR_formal_35 : decode cR_formal 35 = .ok (.aload_n 0, 1) := by decide +kernel
theorem dR_formal_36 : decode cR_formal 36 = .ok (.getfield 60, 3) := by decide +kernel
theorem dR_formal_39 : decode cR_formal 39 = .ok (.ifCond .le 6, 3) := by decide +kernel
theorem dR_formal_42 : decode cR_formal 42 = .ok (.bipush (-4), 2) := by decide +kernel
theorem dR_formal_44 : decode cR_formal 44 = .ok (.ireturn, 1) := by decide +kernel
theorem dR_formal_45 : decode cR_formal 45 = .ok (.aload 4, 2) := by decide +kernel
theorem dR_formal_47 : decode cR_formal 47 = .ok (.getfield 77, 3) := by decide +kernel
theorem dR_formal_50 : decode cR_formal 50 = .ok (.bipush 16, 2) := by decide +kernel
theorem dR_formal_52 : decode cR_formal 52 = .ok (.if_icmp .lt 5, 3) := by decide +kernel
theorem dR_formal_55 : decode cR_formal 55 = .ok (.iconst (-1), 1) := by decide +kernel
theorem dR_formal_56 : decode cR_formal 56 = .ok (.ireturn, 1) := by decide +kernel
theorem dR_formal_57 : decode cR_formal 57 = .ok (.aload 4, 2) := by decide +kernel
theorem dR_formal_59 : decode cR_formal 59 = .ok (.getfield 80, 3) := by decide +kernel
theorem dR_formal_62 : decode cR_formal 62 = .ok (.aload 4, 2) := by decide +kernel
theorem dR_formal_64 : decode cR_formal 64 = .ok (.getfield 77, 3) := by decide +kernel
theorem dR_formal_67 : decode cR_formal 67 = .ok (.iload_n 2, 1) := by decide +kernel
theorem dR_formal_68 : decode cR_formal 68 = .ok (.iastore, 1) := by decide +kernel
theorem dR_formal_69 : decode cR_formal 69 = .ok (.aload 4, 2) := by decide +kernel
theorem dR_formal_71 : decode cR_formal 71 = .ok (.getfield 83, 3) := by decide +kernel
theorem dR_formal_74 : decode cR_formal 74 = .ok (.aload 4, 2) := by decide +kernel
theorem dR_formal_76 : decode cR_formal 76 = .ok (.getfield 77, 3) := by decide +kernel
theorem dR_formal_79 : decode cR_formal 79 = .ok (.iload_n 3, 1) := by decide +kernel
theorem dR_formal_80 : decode cR_formal 80 = .ok (.iastore, 1) := by decide +kernel
theorem dR_formal_81 : decode cR_formal 81 = .ok (.aload 4, 2) := by decide +kernel
theorem dR_formal_83 : decode cR_formal 83 = .ok (.dup, 1) := by decide +kernel
theorem dR_formal_84 : decode cR_formal 84 = .ok (.getfield 77, 3) := by decide +kernel
theorem dR_formal_87 : decode cR_formal 87 = .ok (.iconst 1, 1) := by decide +kernel
theorem dR_formal_88 : decode cR_formal 88 = .ok (.iadd, 1) := by decide +kernel
theorem dR_formal_89 : decode cR_formal 89 = .ok (.putfield 77, 3) := by decide +kernel
theorem dR_formal_92 : decode cR_formal 92 = .ok (.aload 4, 2) := by decide +kernel
theorem dR_formal_94 : decode cR_formal 94 = .ok (.getfield 77, 3) := by decide +kernel
theorem dR_formal_97 : decode cR_formal 97 = .ok (.iconst 1, 1) := by decide +kernel
theorem dR_formal_98 : decode cR_formal 98 = .ok (.isub, 1) := by decide +kernel
theorem dR_formal_99 : decode cR_formal 99 = .ok (.ireturn, 1) := by decide +kernel
theorem dR_call_0 : decode cR_call 0 = .ok (.aload_n 0, 1) := by decide +kernel
theorem dR_call_1 : decode cR_call 1 = .ok (.aconst_null, 1) := by decide +kernel
theorem dR_call_2 : decode cR_call 2 = .ok (.putfield 86, 3) := by decide +kernel
theorem dR_call_5 : decode cR_call 5 = .ok (.iload_n 1, 1) := by decide +kernel
theorem dR_call_6 : decode cR_call 6 = .ok (.aload_n 0, 1) := by decide +kernel
theorem dR_call_7 : decode cR_call 7 = .ok (.getfield 35, 3) := by decide +kernel
theorem dR_call_10 : decode cR_call 10 = .ok (.getfield 89, 3) := by decide +kernel
theorem dR_call_13 : decode cR_call 13 = .ok (.invokestatic 93, 3) := by decide +kernel
theorem dR_call_16 : decode cR_call 16 = .ok (.if_icmp .ne 10, 3) := by decide +kernel
theorem dR_call_19 : decode cR_call 19 = .ok (.iload_n 2, 1) := by decide +kernel
theorem dR_call_20 : decode cR_call 20 = .ok (.invokestatic 56, 3) := by decide +kernel
theorem dR_call_23 : decode cR_call 23 = .ok (.ifCond .ne 6, 3) := by decide +kernel
theorem dR_call_26 : decode cR_call 26 = .ok (.bipush (-2), 2) := by decide +kernel
theorem dR_call_28 : decode cR_call 28 = .ok (.ireturn, 1) := by decide +kernel
theorem dR_call_29 : decode cR_call 29 = .ok (.aload_n 0, 1) := by decide +kernel
theorem dR_call_30 : decode cR_call 30 = .ok (.aload_n 0, 1) := by decide +kernel
theorem dR_call_31 : decode cR_call 31 = .ok (.getfield 35, 3) := by decide +kernel
theorem dR_call_34 : decode cR_call 34 = .ok (.getfield 89, 3) := by decide +kernel
theorem dR_call_37 : decode cR_call 37 = .ok (.iload_n 2, 1) := by decide +kernel
theorem dR_call_38 : decode cR_call 38 = .ok (.invokevirtual 97, 3) := by decide +kernel
theorem dR_call_41 : decode cR_call 41 = .ok (.astore_n 3, 1) := by decide +kernel
theorem dR_call_42 : decode cR_call 42 = .ok (.aload_n 3, 1) := by decide +kernel
theorem dR_call_43 : decode cR_call 43 = .ok (.ifnonnull 6, 3) := by decide +kernel
theorem dR_call_46 : decode cR_call 46 = .ok (.bipush (-3), 2) := by decide +kernel
theorem dR_call_48 : decode cR_call 48 = .ok (.ireturn, 1) := by decide +kernel
theorem dR_call_49 : decode cR_call 49 = .ok (.aload_n 3, 1) := by decide +kernel
theorem dR_call_50 : decode cR_call 50 = .ok (.getfield 100, 3) := by decide +kernel
theorem dR_call_53 : decode cR_call 53 = .ok (.ifnull 14, 3) := by decide +kernel
theorem dR_call_56 : decode cR_call 56 = .ok (.aload_n 3, 1) := by decide +kernel
theorem dR_call_57 : decode cR_call 57 = .ok (.iconst 4, 1) := by decide +kernel
theorem dR_call_58 : decode cR_call 58 = .ok (.invokevirtual 103, 3) := by decide +kernel
theorem dR_call_61 : decode cR_call 61 = .ok (.ifCond .ne 6, 3) := by decide +kernel
theorem dR_call_64 : decode cR_call 64 = .ok (.bipush (-5), 2) := by decide +kernel
theorem dR_call_66 : decode cR_call 66 = .ok (.ireturn, 1) := by decide +kernel
theorem dR_call_67 : decode cR_call 67 = .ok (.aload_n 0, 1) := by decide +kernel
theorem dR_call_68 : decode cR_call 68 = .ok (.getfield 60, 3) := by decide +kernel
theorem dR_call_71 : decode cR_call 71 = .ok (.aload_n 0, 1) := by decide +kernel
theorem dR_call_72 : decode cR_call 72 = .ok (.getfield 48, 3) := by decide +kernel
theorem dR_call_75 : decode cR_call 75 = .ok (.if_icmp .ge 13, 3) := by decide +kernel
theorem dR_call_78 : decode cR_call 78 = .ok (.aload_n 0, 1) := by decide +kernel
theorem dR_call_79 : decode cR_call 79 = .ok (.getfield 60, 3) := by decide +kernel
theorem dR_call_82 : decode cR_call 82 = .ok (.sipush 256, 3) := by decide +kernel
theorem dR_call_85 : decode cR_call 85 = .ok (.if_icmp .lt 6, 3) := by decide +kernel
theorem dR_call_88 : decode cR_call 88 = .ok (.bipush (-6), 2) := by decide +kernel
theorem dR_call_90 : decode cR_call 90 = .ok (.ireturn, 1) := by decide +kernel
theorem dR_call_91 : decode cR_call 91 = .ok (.aload_n 0, 1) := by decide +kernel
theorem dR_call_92 : decode cR_call 92 = .ok (.aload_n 0, 1) := by decide +kernel
theorem dR_call_93 : decode cR_call 93 = .ok (.getfield 35, 3) := by decide +kernel
theorem dR_call_96 : decode cR_call 96 = .ok (.invokestatic 106, 3) := by decide +kernel
theorem dR_call_99 : decode cR_call 99 = .ok (.putfield 86, 3) := by decide +kernel
theorem dR_call_102 : decode cR_call 102 = .ok (.aload_n 0, 1) := by decide +kernel
theorem dR_call_103 : decode cR_call 103 = .ok (.getfield 86, 3) := by decide +kernel
theorem dR_call_106 : decode cR_call 106 = .ok (.aload_n 3, 1) := by decide +kernel
theorem dR_call_107 : decode cR_call 107 = .ok (.invokevirtual 110, 3) := by decide +kernel
theorem dR_call_110 : decode cR_call 110 = .ok (.aload_n 3, 1) := by decide +kernel
theorem dR_call_111 : decode cR_call 111 = .ok (.getfield 114, 3) := by decide +kernel
theorem dR_call_114 : decode cR_call 114 = .ok (.ireturn, 1) := by decide +kernel
theorem dR_numberOf_0 : decode cR_numberOf 0 = .ok (.aload_n 0, 1) := by decide +kernel
theorem dR_numberOf_1 : decode cR_numberOf 1 = .ok (.ifnonnull 7, 3) := by decide +kernel
theorem dR_numberOf_4 : decode cR_numberOf 4 = .ok (.iconst 0, 1) := by decide +kernel
theorem dR_numberOf_5 : decode cR_numberOf 5 = .ok (.goto 7, 3) := by decide +kernel
theorem dR_numberOf_8 : decode cR_numberOf 8 = .ok (.aload_n 0, 1) := by decide +kernel
theorem dR_numberOf_9 : decode cR_numberOf 9 = .ok (.getfield 114, 3) := by decide +kernel
theorem dR_numberOf_12 : decode cR_numberOf 12 = .ok (.ireturn, 1) := by decide +kernel
theorem dR_found_0 : decode cR_found 0 = .ok (.aconst_null, 1) := by decide +kernel
theorem dR_found_1 : decode cR_found 1 = .ok (.astore_n 3, 1) := by decide +kernel
theorem dR_found_2 : decode cR_found 2 = .ok (.aload_n 1, 1) := by decide +kernel
theorem dR_found_3 : decode cR_found 3 = .ok (.ifnull 31, 3) := by decide +kernel
theorem dR_found_6 : decode cR_found 6 = .ok (.aload_n 0, 1) := by decide +kernel
theorem dR_found_7 : decode cR_found 7 = .ok (.aload_n 1, 1) := by decide +kernel
theorem dR_found_8 : decode cR_found 8 = .ok (.iload_n 2, 1) := by decide +kernel
theorem dR_found_9 : decode cR_found 9 = .ok (.invokevirtual 63, 3) := by decide +kernel
theorem dR_found_12 : decode cR_found 12 = .ok (.astore_n 3, 1) := by decide +kernel
theorem dR_found_13 : decode cR_found 13 = .ok (.aload_n 3, 1) := by decide +kernel
theorem dR_found_14 : decode cR_found 14 = .ok (.ifnonnull 9, 3) := by decide +kernel
theorem dR_found_17 : decode cR_found 17 = .ok (.aload_n 1, 1) := by decide +kernel
theorem dR_found_18 : decode cR_found 18 = .ok (.iload_n 2, 1) := by decide +kernel
theorem dR_found_19 : decode cR_found 19 = .ok (.invokestatic 196, 3) := by decide +kernel
theorem dR_found_22 : decode cR_found 22 = .ok (.astore_n 3, 1) := by decide +kernel
theorem dR_found_23 : decode cR_found 23 = .ok (.aload_n 3, 1) := by decide +kernel
theorem dR_found_24 : decode cR_found 24 = .ok (.ifnonnull 10, 3) := by decide +kernel
theorem dR_found_27 : decode cR_found 27 = .ok (.aload_n 0, 1) := by decide +kernel
theorem dR_found_28 : decode cR_found 28 = .ok (.aload_n 1, 1) := by decide +kernel
theorem dR_found_29 : decode cR_found 29 = .ok (.iload_n 2, 1) := by decide +kernel
theorem dR_found_30 : decode cR_found 30 = .ok (.invokevirtual 199, 3) := by decide +kernel
theorem dR_found_33 : decode cR_found 33 = .ok (.astore_n 3, 1) := by decide +kernel
theorem dR_found_34 : decode cR_found 34 = .ok (.aload_n 3, 1) := by decide +kernel
theorem dR_found_35 : decode cR_found 35 = .ok (.ifnull 7, 3) := by decide +kernel
theorem dR_found_38 : decode cR_found 38 = .ok (.aload_n 3, 1) := by decide +kernel
theorem dR_found_39 : decode cR_found 39 = .ok (.goto 9, 3) := by decide +kernel
theorem dR_found_42 : decode cR_found 42 = .ok (.aload_n 0, 1) := by decide +kernel
theorem dR_found_43 : decode cR_found 43 = .ok (.aconst_null, 1) := by decide +kernel
theorem dR_found_44 : decode cR_found 44 = .ok (.iload_n 2, 1) := by decide +kernel
theorem dR_found_45 : decode cR_found 45 = .ok (.invokevirtual 63, 3) := by decide +kernel
theorem dR_found_48 : decode cR_found 48 = .ok (.areturn, 1) := by decide +kernel
theorem dR_recursiveAround_0 : decode cR_recursiveAround 0 = .ok (.aload_n 0, 1) := by decide +kernel
theorem dR_recursiveAround_1 : decode cR_recursiveAround 1 = .ok (.astore_n 2, 1) := by decide +kernel
theorem dR_recursiveAround_2 : decode cR_recursiveAround 2 = .ok (.aload_n 2, 1) := by decide +kernel
theorem dR_recursiveAround_3 : decode cR_recursiveAround 3 = .ok (.ifnull 29, 3) := by decide +kernel
theorem dR_recursiveAround_6 : decode cR_recursiveAround 6 = .ok (.aload_n 2, 1) := by decide +kernel
theorem dR_recursiveAround_7 : decode cR_recursiveAround 7 = .ok (.iconst 4, 1) := by decide +kernel
theorem dR_recursiveAround_8 : decode cR_recursiveAround 8 = .ok (.invokevirtual 103, 3) := by decide +kernel
theorem dR_recursiveAround_11 : decode cR_recursiveAround 11 = .ok (.ifCond .eq 13, 3) := by decide +kernel
theorem dR_recursiveAround_14 : decode cR_recursiveAround 14 = .ok (.aload_n 2, 1) := by decide +kernel
theorem dR_recursiveAround_15 : decode cR_recursiveAround 15 = .ok (.getfield 205, 3) := by decide +kernel
theorem dR_recursiveAround_18 : decode cR_recursiveAround 18 = .ok (.iload_n 1, 1) := by decide +kernel
theorem dR_recursiveAround_19 : decode cR_recursiveAround 19 = .ok (.if_icmp .ne 5, 3) := by decide +kernel
theorem dR_recursiveAround_22 : decode cR_recursiveAround 22 = .ok (.aload_n 2, 1) := by decide +kernel
theorem dR_recursiveAround_23 : decode cR_recursiveAround 23 = .ok (.areturn, 1) := by decide +kernel
theorem dR_recursiveAround_24 : decode cR_recursiveAround 24 = .ok (.aload_n 2, 1) := by decide +kernel
theorem dR_recursiveAround_25 : decode cR_recursiveAround 25 = .ok (.getfield 202, 3) := by decide +kernel
theorem dR_recursiveAround_28 : decode cR_recursiveAround 28 = .ok (.astore_n 2, 1) := by decide +kernel
theorem dR_recursiveAround_29 : decode cR_recursiveAround 29 = .ok (.goto (-27), 3) := by decide +kernel
theorem dR_recursiveAround_32 : decode cR_recursiveAround 32 = .ok (.aconst_null, 1) := by decide +kernel
theorem dR_recursiveAround_33 : decode cR_recursiveAround 33 = .ok (.areturn, 1) := by decide +kernel
theorem dR_commonAround_0 : decode cR_commonAround 0 = .ok (.aload_n 1, 1) := by decide +kernel
theorem dR_commonAround_1 : decode cR_commonAround 1 = .ok (.getfield 202, 3) := by decide +kernel
theorem dR_commonAround_4 : decode cR_commonAround 4 = .ok (.astore_n 3, 1) := by decide +kernel
theorem dR_commonAround_5 : decode cR_commonAround 5 = .ok (.aload_n 3, 1) := by decide +kernel
theorem dR_commonAround_6 : decode cR_commonAround 6 = .ok (.ifnull 45, 3) := by decide +kernel
theorem dR_commonAround_9 : decode cR_commonAround 9 = .ok (.aload_n 0, 1) := by decide +kernel
theorem dR_commonAround_10 : decode cR_commonAround 10 = .ok (.aload_n 3, 1) := by decide +kernel
theorem dR_commonAround_11 : decode cR_commonAround 11 = .ok (.iload_n 2, 1) := by decide +kernel
theorem dR_commonAround_12 : decode cR_commonAround 12 = .ok (.invokevirtual 63, 3) := by decide +kernel
theorem dR_commonAround_15 : decode cR_commonAround 15 = .ok (.astore 4, 2) := by decide +kernel
theorem dR_commonAround_17 : decode cR_commonAround 17 = .ok (.aload 4, 2) := by decide +kernel
theorem dR_commonAround_19 : decode cR_commonAround 19 = .ok (.ifnull 24, 3) := by decide +kernel
theorem dR_commonAround_22 : decode cR_commonAround 22 = .ok (.aload 4, 2) := by decide +kernel
theorem dR_commonAround_24 : decode cR_commonAround 24 = .ok (.iconst 2, 1) := by decide +kernel
theorem dR_commonAround_25 : decode cR_commonAround 25 = .ok (.invokevirtual 103, 3) := by decide +kernel
theorem dR_commonAround_28 : decode cR_commonAround 28 = .ok (.ifCond .eq 15, 3) := by decide +kernel
theorem dR_commonAround_31 : decode cR_commonAround 31 = .ok (.aload_n 1, 1) := by decide +kernel
theorem dR_commonAround_32 : decode cR_commonAround 32 = .ok (.aload 4, 2) := by decide +kernel
theorem dR_commonAround_34 : decode cR_commonAround 34 = .ok (.invokevirtual 208, 3) := by decide +kernel
theorem dR_commonAround_37 : decode cR_commonAround 37 = .ok (.ifCond .ne 6, 3) := by decide +kernel
theorem dR_commonAround_40 : decode cR_commonAround 40 = .ok (.aload 4, 2) := by decide +kernel
theorem dR_commonAround_42 : decode cR_commonAround 42 = .ok (.areturn, 1) := by decide +kernel
theorem dR_commonAround_43 : decode cR_commonAround 43 = .ok (.aload_n 3, 1) := by decide +kernel
theorem dR_commonAround_44 : decode cR_commonAround 44 = .ok (.getfield 202, 3) := by decide +kernel
theorem dR_commonAround_47 : decode cR_commonAround 47 = .ok (.astore_n 3, 1) := by decide +kernel
theorem dR_commonAround_48 : decode cR_commonAround 48 = .ok (.goto (-43), 3) := by decide +kernel
theorem dR_commonAround_51 : decode cR_commonAround 51 = .ok (.aconst_null, 1) := by decide +kernel
theorem dR_commonAround_52 : decode cR_commonAround 52 = .ok (.areturn, 1) := by decide +kernel
theorem dR_levelAbove_0 : decode cR_levelAbove 0 = .ok (.aload_n 0, 1) := by decide +kernel
theorem dR_levelAbove_1 : decode cR_levelAbove 1 = .ok (.getfield 211, 3) := by decide +kernel
theorem dR_levelAbove_4 : decode cR_levelAbove 4 = .ok (.ifnonnull 15, 3) := by decide +kernel
theorem dR_levelAbove_7 : decode cR_levelAbove 7 = .ok (.aload_n 0, 1) := by decide +kernel
theorem dR_levelAbove_8 : decode cR_levelAbove 8 = .ok (.new 26, 3) := by decide +kernel
theorem dR_levelAbove_11 : decode cR_levelAbove 11 = .ok (.dup, 1) := by decide +kernel
theorem dR_levelAbove_12 : decode cR_levelAbove 12 = .ok (.aload_n 0, 1) := by decide +kernel
theorem dR_levelAbove_13 : decode cR_levelAbove 13 = .ok (.invokespecial 28, 3) := by decide +kernel
theorem dR_levelAbove_16 : decode cR_levelAbove 16 = .ok (.putfield 211, 3) := by decide +kernel
theorem dR_levelAbove_19 : decode cR_levelAbove 19 = .ok (.aload_n 0, 1) := by decide +kernel
theorem dR_levelAbove_20 : decode cR_levelAbove 20 = .ok (.getfield 211, 3) := by decide +kernel
theorem dR_levelAbove_23 : decode cR_levelAbove 23 = .ok (.areturn, 1) := by decide +kernel
theorem dR_actual_0 : decode cR_actual 0 = .ok (.aload_n 0, 1) := by decide +kernel
theorem dR_actual_1 : decode cR_actual 1 = .ok (.getfield 86, 3) := by decide +kernel
theorem dR_actual_4 : decode cR_actual 4 = .ok (.ifnonnull 6, 3) := by decide +kernel
theorem dR_actual_7 : decode cR_actual 7 = .ok (.bipush (-4), 2) := by decide +kernel
theorem dR_actual_9 : decode cR_actual 9 = .ok (.ireturn, 1) := by decide +kernel
theorem dR_actual_10 : decode cR_actual 10 = .ok (.iload_n 2, 1) := by decide +kernel
theorem dR_actual_11 : decode cR_actual 11 = .ok (.ifCond .lt 8, 3) := by decide +kernel
theorem dR_actual_14 : decode cR_actual 14 = .ok (.iload_n 2, 1) := by decide +kernel
theorem dR_actual_15 : decode cR_actual 15 = .ok (.iconst 2, 1) := by decide +kernel
theorem dR_actual_16 : decode cR_actual 16 = .ok (.if_icmp .le 6, 3) := by decide +kernel
theorem dR_actual_19 : decode cR_actual 19 = .ok (.bipush (-2), 2) := by decide +kernel
theorem dR_actual_21 : decode cR_actual 21 = .ok (.ireturn, 1) := by decide +kernel
theorem dR_actual_22 : decode cR_actual 22 = .ok (.iload_n 2, 1) := by decide +kernel
theorem dR_actual_23 : decode cR_actual 23 = .ok (.iconst 2, 1) := by decide +kernel
theorem dR_actual_24 : decode cR_actual 24 = .ok (.if_icmp .ne 7, 3) := by decide +kernel
theorem dR_actual_27 : decode cR_actual 27 = .ok (.aconst_null, 1) := by decide +kernel
theorem dR_actual_28 : decode cR_actual 28 = .ok (.goto 8, 3) := by decide +kernel
theorem dR_actual_31 : decode cR_actual 31 = .ok (.aload_n 0, 1) := by decide +kernel
theorem dR_actual_32 : decode cR_actual 32 = .ok (.iload_n 1, 1) := by decide +kernel
theorem dR_actual_33 : decode cR_actual 33 = .ok (.invokevirtual 117, 3) := by decide +kernel
theorem dR_actual_36 : decode cR_actual 36 = .ok (.astore_n 3, 1) := by decide +kernel
theorem dR_actual_37 : decode cR_actual 37 = .ok (.iload_n 2, 1) := by decide +kernel
theorem dR_actual_38 : decode cR_actual 38 = .ok (.iconst 2, 1) := by decide +kernel
theorem dR_actual_39 : decode cR_actual 39 = .ok (.if_icmp .eq 10, 3) := by decide +kernel
theorem dR_actual_42 : decode cR_actual 42 = .ok (.aload_n 3, 1) := by decide +kernel
theorem dR_actual_43 : decode cR_actual 43 = .ok (.ifnonnull 6, 3) := by decide +kernel
theorem dR_actual_46 : decode cR_actual 46 = .ok (.bipush (-2), 2) := by decide +kernel
theorem dR_actual_48 : decode cR_actual 48 = .ok (.ireturn, 1) := by decide +kernel
theorem dR_actual_49 : decode cR_actual 49 = .ok (.aload_n 0, 1) := by decide +kernel
theorem dR_actual_50 : decode cR_actual 50 = .ok (.getfield 86, 3) := by decide +kernel
theorem dR_actual_53 : decode cR_actual 53 = .ok (.getfield 121, 3) := by decide +kernel
theorem dR_actual_56 : decode cR_actual 56 = .ok (.istore 4, 2) := by decide +kernel
theorem dR_actual_58 : decode cR_actual 58 = .ok (.iload 4, 2) := by decide +kernel
theorem dR_actual_60 : decode cR_actual 60 = .ok (.bipush 16, 2) := by decide +kernel
theorem dR_actual_62 : decode cR_actual 62 = .ok (.if_icmp .lt 5, 3) := by decide +kernel
theorem dR_actual_65 : decode cR_actual 65 = .ok (.iconst (-1), 1) := by decide +kernel
theorem dR_actual_66 : decode cR_actual 66 = .ok (.ireturn, 1) := by decide +kernel
theorem dR_actual_67 : decode cR_actual 67 = .ok (.aload_n 3, 1) := by decide +kernel
theorem dR_actual_68 : decode cR_actual 68 = .ok (.ifnull 23, 3) := by decide +kernel
theorem dR_actual_71 : decode cR_actual 71 = .ok (.aload_n 0, 1) := by decide +kernel
theorem dR_actual_72 : decode cR_actual 72 = .ok (.getfield 86, 3) := by decide +kernel
theorem dR_actual_75 : decode cR_actual 75 = .ok (.iload 4, 2) := by decide +kernel
theorem dR_actual_77 : decode cR_actual 77 = .ok (.aload_n 3, 1) := by decide +kernel
theorem dR_actual_78 : decode cR_actual 78 = .ok (.aload_n 0, 1) := by decide +kernel
theorem dR_actual_79 : decode cR_actual 79 = .ok (.iload_n 1, 1) := by decide +kernel
theorem dR_actual_80 : decode cR_actual 80 = .ok (.invokevirtual 124, 3) := by decide +kernel
theorem dR_actual_83 : decode cR_actual 83 = .ok (.aload_n 0, 1) := by decide +kernel
theorem dR_actual_84 : decode cR_actual 84 = .ok (.iload_n 1, 1) := by decide +kernel
theorem dR_actual_85 : decode cR_actual 85 = .ok (.invokevirtual 128, 3) := by decide +kernel
theorem dR_actual_88 : decode cR_actual 88 = .ok (.invokevirtual 131, 3) := by decide +kernel
theorem dR_actual_91 : decode cR_actual 91 = .ok (.iload_n 2, 1) := by decide +kernel
theorem dR_actual_92 : decode cR_actual 92 = .ok (.iconst 1, 1) := by decide +kernel
theorem dR_actual_93 : decode cR_actual 93 = .ok (.if_icmp .ne 12, 3) := by decide +kernel
theorem dR_actual_96 : decode cR_actual 96 = .ok (.aload_n 0, 1) := by decide +kernel
theorem dR_actual_97 : decode cR_actual 97 = .ok (.getfield 86, 3) := by decide +kernel
theorem dR_actual_100 : decode cR_actual 100 = .ok (.iload 4, 2) := by decide +kernel
theorem dR_actual_102 : decode cR_actual 102 = .ok (.invokevirtual 135, 3) := by decide +kernel
theorem dR_actual_105 : decode cR_actual 105 = .ok (.aload_n 0, 1) := by decide +kernel
theorem dR_actual_106 : decode cR_actual 106 = .ok (.getfield 86, 3) := by decide +kernel
theorem dR_actual_109 : decode cR_actual 109 = .ok (.dup, 1) := by decide +kernel
theorem dR_actual_110 : decode cR_actual 110 = .ok (.getfield 121, 3) := by decide +kernel
theorem dR_actual_113 : decode cR_actual 113 = .ok (.iconst 1, 1) := by decide +kernel
theorem dR_actual_114 : decode cR_actual 114 = .ok (.iadd, 1) := by decide +kernel
theorem dR_actual_115 : decode cR_actual 115 = .ok (.putfield 121, 3) := by decide +kernel
theorem dR_actual_118 : decode cR_actual 118 = .ok (.iload 4, 2) := by decide +kernel
theorem dR_actual_120 : decode cR_actual 120 = .ok (.ireturn, 1) := by decide +kernel
theorem dR_holderOf_0 : decode cR_holderOf 0 = .ok (.aload_n 0, 1) := by decide +kernel
theorem dR_holderOf_1 : decode cR_holderOf 1 = .ok (.getfield 35, 3) := by decide +kernel
theorem dR_holderOf_4 : decode cR_holderOf 4 = .ok (.getfield 89, 3) := by decide +kernel
theorem dR_holderOf_7 : decode cR_holderOf 7 = .ok (.astore_n 2, 1) := by decide +kernel
theorem dR_holderOf_8 : decode cR_holderOf 8 = .ok (.iload_n 1, 1) := by decide +kernel
theorem dR_holderOf_9 : decode cR_holderOf 9 = .ok (.ifCond .ge 27, 3) := by decide +kernel
theorem dR_holderOf_12 : decode cR_holderOf 12 = .ok (.aload_n 0, 1) := by decide +kernel
theorem dR_holderOf_13 : decode cR_holderOf 13 = .ok (.iload_n 1, 1) := by decide +kernel
theorem dR_holderOf_14 : decode cR_holderOf 14 = .ok (.invokevirtual 214, 3) := by decide +kernel
theorem dR_holderOf_17 : decode cR_holderOf 17 = .ok (.ifCond .eq 17, 3) := by decide +kernel
theorem dR_holderOf_20 : decode cR_holderOf 20 = .ok (.aload_n 0, 1) := by decide +kernel
theorem dR_holderOf_21 : decode cR_holderOf 21 = .ok (.getfield 35, 3) := by decide +kernel
theorem dR_holderOf_24 : decode cR_holderOf 24 = .ok (.getfield 217, 3) := by decide +kernel
theorem dR_holderOf_27 : decode cR_holderOf 27 = .ok (.iconst (-1), 1) := by decide +kernel
theorem dR_holderOf_28 : decode cR_holderOf 28 = .ok (.iload_n 1, 1) := by decide +kernel
theorem dR_holderOf_29 : decode cR_holderOf 29 = .ok (.isub, 1) := by decide +kernel
theorem dR_holderOf_30 : decode cR_holderOf 30 = .ok (.aaload, 1) := by decide +kernel
theorem dR_holderOf_31 : decode cR_holderOf 31 = .ok (.goto 4, 3) := by decide +kernel
theorem dR_holderOf_34 : decode cR_holderOf 34 = .ok (.aconst_null, 1) := by decide +kernel
theorem dR_holderOf_35 : decode cR_holderOf 35 = .ok (.areturn, 1) := by decide +kernel
theorem dR_holderOf_36 : decode cR_holderOf 36 = .ok (.iload_n 1, 1) := by decide +kernel
theorem dR_holderOf_37 : decode cR_holderOf 37 = .ok (.aload_n 0, 1) := by decide +kernel
theorem dR_holderOf_38 : decode cR_holderOf 38 = .ok (.getfield 193, 3) := by decide +kernel
theorem dR_holderOf_41 : decode cR_holderOf 41 = .ok (.if_icmp .lt 5, 3) := by decide +kernel
theorem dR_holderOf_44 : decode cR_holderOf 44 = .ok (.aconst_null, 1) := by decide +kernel
theorem dR_holderOf_45 : decode cR_holderOf 45 = .ok (.areturn, 1) := by decide +kernel
theorem dR_holderOf_46 : decode cR_holderOf 46 = .ok (.aload_n 0, 1) := by decide +kernel
theorem dR_holderOf_47 : decode cR_holderOf 47 = .ok (.getfield 15, 3) := by decide +kernel
theorem dR_holderOf_50 : decode cR_holderOf 50 = .ok (.iload_n 1, 1) := by decide +kernel
theorem dR_holderOf_51 : decode cR_holderOf 51 = .ok (.aaload, 1) := by decide +kernel
theorem dR_holderOf_52 : decode cR_holderOf 52 = .ok (.astore_n 3, 1) := by decide +kernel
theorem dR_holderOf_53 : decode cR_holderOf 53 = .ok (.aload_n 3, 1) := by decide +kernel
theorem dR_holderOf_54 : decode cR_holderOf 54 = .ok (.ifnonnull 8, 3) := by decide +kernel
theorem dR_holderOf_57 : decode cR_holderOf 57 = .ok (.aload_n 0, 1) := by decide +kernel
theorem dR_holderOf_58 : decode cR_holderOf 58 = .ok (.getfield 31, 3) := by decide +kernel
theorem dR_holderOf_61 : decode cR_holderOf 61 = .ok (.areturn, 1) := by decide +kernel
theorem dR_holderOf_62 : decode cR_holderOf 62 = .ok (.aload_n 2, 1) := by decide +kernel
theorem dR_holderOf_63 : decode cR_holderOf 63 = .ok (.ifnull 19, 3) := by decide +kernel
theorem dR_holderOf_66 : decode cR_holderOf 66 = .ok (.aload_n 2, 1) := by decide +kernel
theorem dR_holderOf_67 : decode cR_holderOf 67 = .ok (.aload_n 3, 1) := by decide +kernel
theorem dR_holderOf_68 : decode cR_holderOf 68 = .ok (.invokestatic 221, 3) := by decide +kernel
theorem dR_holderOf_71 : decode cR_holderOf 71 = .ok (.ifCond .eq 11, 3) := by decide +kernel
theorem dR_holderOf_74 : decode cR_holderOf 74 = .ok (.aload_n 0, 1) := by decide +kernel
theorem dR_holderOf_75 : decode cR_holderOf 75 = .ok (.aload_n 3, 1) := by decide +kernel
theorem dR_holderOf_76 : decode cR_holderOf 76 = .ok (.invokevirtual 225, 3) := by decide +kernel
theorem dR_holderOf_79 : decode cR_holderOf 79 = .ok (.goto 4, 3) := by decide +kernel
theorem dR_holderOf_82 : decode cR_holderOf 82 = .ok (.aconst_null, 1) := by decide +kernel
theorem dR_holderOf_83 : decode cR_holderOf 83 = .ok (.areturn, 1) := by decide +kernel
theorem dR_seesCellsOf_0 : decode cR_seesCellsOf 0 = .ok (.aload_n 0, 1) := by decide +kernel
theorem dR_seesCellsOf_1 : decode cR_seesCellsOf 1 = .ok (.aload_n 1, 1) := by decide +kernel
theorem dR_seesCellsOf_2 : decode cR_seesCellsOf 2 = .ok (.if_acmp .eq 20, 3) := by decide +kernel
theorem dR_seesCellsOf_5 : decode cR_seesCellsOf 5 = .ok (.aload_n 1, 1) := by decide +kernel
theorem dR_seesCellsOf_6 : decode cR_seesCellsOf 6 = .ok (.bipush 8, 2) := by decide +kernel
theorem dR_seesCellsOf_8 : decode cR_seesCellsOf 8 = .ok (.invokevirtual 103, 3) := by decide +kernel
theorem dR_seesCellsOf_11 : decode cR_seesCellsOf 11 = .ok (.ifCond .eq 15, 3) := by decide +kernel
theorem dR_seesCellsOf_14 : decode cR_seesCellsOf 14 = .ok (.aload_n 0, 1) := by decide +kernel
theorem dR_seesCellsOf_15 : decode cR_seesCellsOf 15 = .ok (.aload_n 1, 1) := by decide +kernel
theorem dR_seesCellsOf_16 : decode cR_seesCellsOf 16 = .ok (.invokevirtual 208, 3) := by decide +kernel
theorem dR_seesCellsOf_19 : decode cR_seesCellsOf 19 = .ok (.ifCond .eq 7, 3) := by decide +kernel
theorem dR_seesCellsOf_22 : decode cR_seesCellsOf 22 = .ok (.iconst 1, 1) := by decide +kernel
theorem dR_seesCellsOf_23 : decode cR_seesCellsOf 23 = .ok (.goto 4, 3) := by decide +kernel
theorem dR_seesCellsOf_26 : decode cR_seesCellsOf 26 = .ok (.iconst 0, 1) := by decide +kernel
theorem dR_seesCellsOf_27 : decode cR_seesCellsOf 27 = .ok (.ireturn, 1) := by decide +kernel
theorem dR_dataOf_0 : decode cR_dataOf 0 = .ok (.aload_n 1, 1) := by decide +kernel
theorem dR_dataOf_1 : decode cR_dataOf 1 = .ok (.iconst 4, 1) := by decide +kernel
theorem dR_dataOf_2 : decode cR_dataOf 2 = .ok (.invokevirtual 103, 3) := by decide +kernel
theorem dR_dataOf_5 : decode cR_dataOf 5 = .ok (.ifCond .eq 17, 3) := by decide +kernel
theorem dR_dataOf_8 : decode cR_dataOf 8 = .ok (.aload_n 1, 1) := by decide +kernel
theorem dR_dataOf_9 : decode cR_dataOf 9 = .ok (.getfield 100, 3) := by decide +kernel
theorem dR_dataOf_12 : decode cR_dataOf 12 = .ok (.ifnull 10, 3) := by decide +kernel
theorem dR_dataOf_15 : decode cR_dataOf 15 = .ok (.aload_n 1, 1) := by decide +kernel
theorem dR_dataOf_16 : decode cR_dataOf 16 = .ok (.getfield 100, 3) := by decide +kernel
theorem dR_dataOf_19 : decode cR_dataOf 19 = .ok (.goto 7, 3) := by decide +kernel
theorem dR_dataOf_22 : decode cR_dataOf 22 = .ok (.aload_n 0, 1) := by decide +kernel
theorem dR_dataOf_23 : decode cR_dataOf 23 = .ok (.getfield 31, 3) := by decide +kernel
theorem dR_dataOf_26 : decode cR_dataOf 26 = .ok (.areturn, 1) := by decide +kernel
theorem dR_bytesOf_0 : decode cR_bytesOf 0 = .ok (.aload_n 0, 1) := by decide +kernel
theorem dR_bytesOf_1 : decode cR_bytesOf 1 = .ok (.iload_n 1, 1) := by decide +kernel
theorem dR_bytesOf_2 : decode cR_bytesOf 2 = .ok (.invokevirtual 214, 3) := by decide +kernel
theorem dR_bytesOf_5 : decode cR_bytesOf 5 = .ok (.ifCond .eq 17, 3) := by decide +kernel
theorem dR_bytesOf_8 : decode cR_bytesOf 8 = .ok (.aload_n 0, 1) := by decide +kernel
theorem dR_bytesOf_9 : decode cR_bytesOf 9 = .ok (.getfield 35, 3) := by decide +kernel
theorem dR_bytesOf_12 : decode cR_bytesOf 12 = .ok (.getfield 232, 3) := by decide +kernel
theorem dR_bytesOf_15 : decode cR_bytesOf 15 = .ok (.iconst (-1), 1) := by decide +kernel
theorem dR_bytesOf_16 : decode cR_bytesOf 16 = .ok (.iload_n 1, 1) := by decide +kernel
theorem dR_bytesOf_17 : decode cR_bytesOf 17 = .ok (.isub, 1) := by decide +kernel
theorem dR_bytesOf_18 : decode cR_bytesOf 18 = .ok (.iaload, 1) := by decide +kernel
theorem dR_bytesOf_19 : decode cR_bytesOf 19 = .ok (.goto 5, 3) := by decide +kernel
theorem dR_bytesOf_22 : decode cR_bytesOf 22 = .ok (.bipush 8, 2) := by decide +kernel
theorem dR_bytesOf_24 : decode cR_bytesOf 24 = .ok (.ireturn, 1) := by decide +kernel
theorem dR_enter_0 : decode cR_enter 0 = .ok (.aload_n 0, 1) := by decide +kernel
theorem dR_enter_1 : decode cR_enter 1 = .ok (.getfield 86, 3) := by decide +kernel
theorem dR_enter_4 : decode cR_enter 4 = .ok (.astore_n 1, 1) := by decide +kernel
theorem dR_enter_5 : decode cR_enter 5 = .ok (.aload_n 1, 1) := by decide +kernel
theorem dR_enter_6 : decode cR_enter 6 = .ok (.ifnull 10, 3) := by decide +kernel
theorem dR_enter_9 : decode cR_enter 9 = .ok (.aload_n 1, 1) := by decide +kernel
theorem dR_enter_10 : decode cR_enter 10 = .ok (.getfield 89, 3) := by decide +kernel
theorem dR_enter_13 : decode cR_enter 13 = .ok (.ifnonnull 6, 3) := by decide +kernel
theorem dR_enter_16 : decode cR_enter 16 = .ok (.bipush (-4), 2) := by decide +kernel
theorem dR_enter_18 : decode cR_enter 18 = .ok (.ireturn, 1) := by decide +kernel
theorem dR_enter_19 : decode cR_enter 19 = .ok (.aload_n 0, 1) := by decide +kernel
theorem dR_enter_20 : decode cR_enter 20 = .ok (.aconst_null, 1) := by decide +kernel
theorem dR_enter_21 : decode cR_enter 21 = .ok (.putfield 86, 3) := by decide +kernel
theorem dR_enter_24 : decode cR_enter 24 = .ok (.aload_n 1, 1) := by decide +kernel
theorem dR_enter_25 : decode cR_enter 25 = .ok (.getfield 89, 3) := by decide +kernel
theorem dR_enter_28 : decode cR_enter 28 = .ok (.astore_n 2, 1) := by decide +kernel
theorem dR_enter_29 : decode cR_enter 29 = .ok (.aload_n 1, 1) := by decide +kernel
theorem dR_enter_30 : decode cR_enter 30 = .ok (.aload_n 2, 1) := by decide +kernel
theorem dR_enter_31 : decode cR_enter 31 = .ok (.invokestatic 139, 3) := by decide +kernel
theorem dR_enter_34 : decode cR_enter 34 = .ok (.ifCond .ne 6, 3) := by decide +kernel
theorem dR_enter_37 : decode cR_enter 37 = .ok (.bipush (-7), 2) := by decide +kernel
theorem dR_enter_39 : decode cR_enter 39 = .ok (.ireturn, 1) := by decide +kernel
theorem dR_enter_40 : decode cR_enter 40 = .ok (.aload_n 1, 1) := by decide +kernel
theorem dR_enter_41 : decode cR_enter 41 = .ok (.aload_n 2, 1) := by decide +kernel
theorem dR_enter_42 : decode cR_enter 42 = .ok (.invokestatic 143, 3) := by decide +kernel
theorem dR_enter_45 : decode cR_enter 45 = .ok (.ifCond .ne 6, 3) := by decide +kernel
theorem dR_enter_48 : decode cR_enter 48 = .ok (.bipush (-8), 2) := by decide +kernel
theorem dR_enter_50 : decode cR_enter 50 = .ok (.ireturn, 1) := by decide +kernel
theorem dR_enter_51 : decode cR_enter 51 = .ok (.aload_n 1, 1) := by decide +kernel
theorem dR_enter_52 : decode cR_enter 52 = .ok (.aload_n 2, 1) := by decide +kernel
theorem dR_enter_53 : decode cR_enter 53 = .ok (.invokestatic 146, 3) := by decide +kernel
theorem dR_enter_56 : decode cR_enter 56 = .ok (.aload_n 1, 1) := by decide +kernel
theorem dR_enter_57 : decode cR_enter 57 = .ok (.aload_n 2, 1) := by decide +kernel
theorem dR_enter_58 : decode cR_enter 58 = .ok (.getfield 100, 3) := by decide +kernel
theorem dR_enter_61 : decode cR_enter 61 = .ok (.putfield 150, 3) := by decide +kernel
theorem dR_enter_64 : decode cR_enter 64 = .ok (.aload_n 2, 1) := by decide +kernel
theorem dR_enter_65 : decode cR_enter 65 = .ok (.aload_n 1, 1) := by decide +kernel
theorem dR_enter_66 : decode cR_enter 66 = .ok (.putfield 100, 3) := by decide +kernel
theorem dR_enter_69 : decode cR_enter 69 = .ok (.aload_n 0, 1) := by decide +kernel
theorem dR_enter_70 : decode cR_enter 70 = .ok (.aload_n 1, 1) := by decide +kernel
theorem dR_enter_71 : decode cR_enter 71 = .ok (.putfield 35, 3) := by decide +kernel
theorem dR_enter_74 : decode cR_enter 74 = .ok (.aload_n 0, 1) := by decide +kernel
theorem dR_enter_75 : decode cR_enter 75 = .ok (.dup, 1) := by decide +kernel
theorem dR_enter_76 : decode cR_enter 76 = .ok (.getfield 60, 3) := by decide +kernel
theorem dR_enter_79 : decode cR_enter 79 = .ok (.iconst 1, 1) := by decide +kernel
theorem dR_enter_80 : decode cR_enter 80 = .ok (.iadd, 1) := by decide +kernel
theorem dR_enter_81 : decode cR_enter 81 = .ok (.putfield 60, 3) := by decide +kernel
theorem dR_enter_84 : decode cR_enter 84 = .ok (.aload_n 2, 1) := by decide +kernel
theorem dR_enter_85 : decode cR_enter 85 = .ok (.invokevirtual 153, 3) := by decide +kernel
theorem dR_enter_88 : decode cR_enter 88 = .ok (.ifCond .ne 8, 3) := by decide +kernel
theorem dR_enter_91 : decode cR_enter 91 = .ok (.aload_n 0, 1) := by decide +kernel
theorem dR_enter_92 : decode cR_enter 92 = .ok (.aload_n 2, 1) := by decide +kernel
theorem dR_enter_93 : decode cR_enter 93 = .ok (.invokevirtual 157, 3) := by decide +kernel
theorem dR_enter_96 : decode cR_enter 96 = .ok (.iconst 1, 1) := by decide +kernel
theorem dR_enter_97 : decode cR_enter 97 = .ok (.ireturn, 1) := by decide +kernel
theorem dR_argumentsFit_0 : decode cR_argumentsFit 0 = .ok (.aload_n 0, 1) := by decide +kernel
theorem dR_argumentsFit_1 : decode cR_argumentsFit 1 = .ok (.getfield 121, 3) := by decide +kernel
theorem dR_argumentsFit_4 : decode cR_argumentsFit 4 = .ok (.aload_n 1, 1) := by decide +kernel
theorem dR_argumentsFit_5 : decode cR_argumentsFit 5 = .ok (.getfield 77, 3) := by decide +kernel
theorem dR_argumentsFit_8 : decode cR_argumentsFit 8 = .ok (.if_icmp .le 5, 3) := by decide +kernel
theorem dR_argumentsFit_11 : decode cR_argumentsFit 11 = .ok (.iconst 0, 1) := by decide +kernel
theorem dR_argumentsFit_12 : decode cR_argumentsFit 12 = .ok (.ireturn, 1) := by decide +kernel
theorem dR_argumentsFit_13 : decode cR_argumentsFit 13 = .ok (.iconst 0, 1) := by decide +kernel
theorem dR_argumentsFit_14 : decode cR_argumentsFit 14 = .ok (.istore_n 2, 1) := by decide +kernel
theorem dR_argumentsFit_15 : decode cR_argumentsFit 15 = .ok (.iload_n 2, 1) := by decide +kernel
theorem dR_argumentsFit_16 : decode cR_argumentsFit 16 = .ok (.aload_n 1, 1) := by decide +kernel
theorem dR_argumentsFit_17 : decode cR_argumentsFit 17 = .ok (.getfield 77, 3) := by decide +kernel
theorem dR_argumentsFit_20 : decode cR_argumentsFit 20 = .ok (.if_icmp .ge 31, 3) := by decide +kernel
theorem dR_argumentsFit_23 : decode cR_argumentsFit 23 = .ok (.aload_n 0, 1) := by decide +kernel
theorem dR_argumentsFit_24 : decode cR_argumentsFit 24 = .ok (.getfield 217, 3) := by decide +kernel
theorem dR_argumentsFit_27 : decode cR_argumentsFit 27 = .ok (.iload_n 2, 1) := by decide +kernel
theorem dR_argumentsFit_28 : decode cR_argumentsFit 28 = .ok (.aaload, 1) := by decide +kernel
theorem dR_argumentsFit_29 : decode cR_argumentsFit 29 = .ok (.ifnonnull 16, 3) := by decide +kernel
theorem dR_argumentsFit_32 : decode cR_argumentsFit 32 = .ok (.aload_n 1, 1) := by decide +kernel
theorem dR_argumentsFit_33 : decode cR_argumentsFit 33 = .ok (.getfield 80, 3) := by decide +kernel
theorem dR_argumentsFit_36 : decode cR_argumentsFit 36 = .ok (.iload_n 2, 1) := by decide +kernel
theorem dR_argumentsFit_37 : decode cR_argumentsFit 37 = .ok (.iaload, 1) := by decide +kernel
theorem dR_argumentsFit_38 : decode cR_argumentsFit 38 = .ok (.iconst 2, 1) := by decide +kernel
theorem dR_argumentsFit_39 : decode cR_argumentsFit 39 = .ok (.iand, 1) := by decide +kernel
theorem dR_argumentsFit_40 : decode cR_argumentsFit 40 = .ok (.ifCond .ne 5, 3) := by decide +kernel
theorem dR_argumentsFit_43 : decode cR_argumentsFit 43 = .ok (.iconst 0, 1) := by decide +kernel
theorem dR_argumentsFit_44 : decode cR_argumentsFit 44 = .ok (.ireturn, 1) := by decide +kernel
theorem dR_argumentsFit_45 : decode cR_argumentsFit 45 = .ok (.iinc 2 1, 3) := by decide +kernel
theorem dR_argumentsFit_48 : decode cR_argumentsFit 48 = .ok (.goto (-33), 3) := by decide +kernel
theorem dR_argumentsFit_51 : decode cR_argumentsFit 51 = .ok (.iconst 1, 1) := by decide +kernel
theorem dR_argumentsFit_52 : decode cR_argumentsFit 52 = .ok (.ireturn, 1) := by decide +kernel
theorem dR_bytesSuffice_0 : decode cR_bytesSuffice 0 = .ok (.iconst 0, 1) := by decide +kernel
theorem dR_bytesSuffice_1 : decode cR_bytesSuffice 1 = .ok (.istore_n 2, 1) := by decide +kernel
theorem dR_bytesSuffice_2 : decode cR_bytesSuffice 2 = .ok (.iload_n 2, 1) := by decide +kernel
theorem dR_bytesSuffice_3 : decode cR_bytesSuffice 3 = .ok (.aload_n 1, 1) := by decide +kernel
theorem dR_bytesSuffice_4 : decode cR_bytesSuffice 4 = .ok (.getfield 77, 3) := by decide +kernel
theorem dR_bytesSuffice_7 : decode cR_bytesSuffice 7 = .ok (.if_icmp .ge 35, 3) := by decide +kernel
theorem dR_bytesSuffice_10 : decode cR_bytesSuffice 10 = .ok (.aload_n 0, 1) := by decide +kernel
theorem dR_bytesSuffice_11 : decode cR_bytesSuffice 11 = .ok (.getfield 217, 3) := by decide +kernel
theorem dR_bytesSuffice_14 : decode cR_bytesSuffice 14 = .ok (.iload_n 2, 1) := by decide +kernel
theorem dR_bytesSuffice_15 : decode cR_bytesSuffice 15 = .ok (.aaload, 1) := by decide +kernel
theorem dR_bytesSuffice_16 : decode cR_bytesSuffice 16 = .ok (.ifnull 20, 3) := by decide +kernel
theorem dR_bytesSuffice_19 : decode cR_bytesSuffice 19 = .ok (.aload_n 0, 1) := by decide +kernel
theorem dR_bytesSuffice_20 : decode cR_bytesSuffice 20 = .ok (.getfield 232, 3) := by decide +kernel
theorem dR_bytesSuffice_23 : decode cR_bytesSuffice 23 = .ok (.iload_n 2, 1) := by decide +kernel
theorem dR_bytesSuffice_24 : decode cR_bytesSuffice 24 = .ok (.iaload, 1) := by decide +kernel
theorem dR_bytesSuffice_25 : decode cR_bytesSuffice 25 = .ok (.aload_n 1, 1) := by decide +kernel
theorem dR_bytesSuffice_26 : decode cR_bytesSuffice 26 = .ok (.getfield 83, 3) := by decide +kernel
theorem dR_bytesSuffice_29 : decode cR_bytesSuffice 29 = .ok (.iload_n 2, 1) := by decide +kernel
theorem dR_bytesSuffice_30 : decode cR_bytesSuffice 30 = .ok (.iaload, 1) := by decide +kernel
theorem dR_bytesSuffice_31 : decode cR_bytesSuffice 31 = .ok (.if_icmp .ge 5, 3) := by decide +kernel
theorem dR_bytesSuffice_34 : decode cR_bytesSuffice 34 = .ok (.iconst 0, 1) := by decide +kernel
theorem dR_bytesSuffice_35 : decode cR_bytesSuffice 35 = .ok (.ireturn, 1) := by decide +kernel
theorem dR_bytesSuffice_36 : decode cR_bytesSuffice 36 = .ok (.iinc 2 1, 3) := by decide +kernel
theorem dR_bytesSuffice_39 : decode cR_bytesSuffice 39 = .ok (.goto (-37), 3) := by decide +kernel
theorem dR_bytesSuffice_42 : decode cR_bytesSuffice 42 = .ok (.iconst 1, 1) := by decide +kernel
theorem dR_bytesSuffice_43 : decode cR_bytesSuffice 43 = .ok (.ireturn, 1) := by decide +kernel
theorem dR_makeFormals_0 : decode cR_makeFormals 0 = .ok (.iconst 0, 1) := by decide +kernel
theorem dR_makeFormals_1 : decode cR_makeFormals 1 = .ok (.istore_n 2, 1) := by decide +kernel
theorem dR_makeFormals_2 : decode cR_makeFormals 2 = .ok (.iload_n 2, 1) := by decide +kernel
theorem dR_makeFormals_3 : decode cR_makeFormals 3 = .ok (.aload_n 1, 1) := by decide +kernel
theorem dR_makeFormals_4 : decode cR_makeFormals 4 = .ok (.getfield 77, 3) := by decide +kernel
theorem dR_makeFormals_7 : decode cR_makeFormals 7 = .ok (.if_icmp .ge 37, 3) := by decide +kernel
theorem dR_makeFormals_10 : decode cR_makeFormals 10 = .ok (.aload_n 0, 1) := by decide +kernel
theorem dR_makeFormals_11 : decode cR_makeFormals 11 = .ok (.getfield 232, 3) := by decide +kernel
theorem dR_makeFormals_14 : decode cR_makeFormals 14 = .ok (.iload_n 2, 1) := by decide +kernel
theorem dR_makeFormals_15 : decode cR_makeFormals 15 = .ok (.aload_n 1, 1) := by decide +kernel
theorem dR_makeFormals_16 : decode cR_makeFormals 16 = .ok (.getfield 83, 3) := by decide +kernel
theorem dR_makeFormals_19 : decode cR_makeFormals 19 = .ok (.iload_n 2, 1) := by decide +kernel
theorem dR_makeFormals_20 : decode cR_makeFormals 20 = .ok (.iaload, 1) := by decide +kernel
theorem dR_makeFormals_21 : decode cR_makeFormals 21 = .ok (.iastore, 1) := by decide +kernel
theorem dR_makeFormals_22 : decode cR_makeFormals 22 = .ok (.aload_n 1, 1) := by decide +kernel
theorem dR_makeFormals_23 : decode cR_makeFormals 23 = .ok (.getfield 80, 3) := by decide +kernel
theorem dR_makeFormals_26 : decode cR_makeFormals 26 = .ok (.iload_n 2, 1) := by decide +kernel
theorem dR_makeFormals_27 : decode cR_makeFormals 27 = .ok (.iaload, 1) := by decide +kernel
theorem dR_makeFormals_28 : decode cR_makeFormals 28 = .ok (.iconst 1, 1) := by decide +kernel
theorem dR_makeFormals_29 : decode cR_makeFormals 29 = .ok (.iand, 1) := by decide +kernel
theorem dR_makeFormals_30 : decode cR_makeFormals 30 = .ok (.ifCond .eq 8, 3) := by decide +kernel
theorem dR_makeFormals_33 : decode cR_makeFormals 33 = .ok (.aload_n 0, 1) := by decide +kernel
theorem dR_makeFormals_34 : decode cR_makeFormals 34 = .ok (.iload_n 2, 1) := by decide +kernel
theorem dR_makeFormals_35 : decode cR_makeFormals 35 = .ok (.invokevirtual 135, 3) := by decide +kernel
theorem dR_makeFormals_38 : decode cR_makeFormals 38 = .ok (.iinc 2 1, 3) := by decide +kernel
theorem dR_makeFormals_41 : decode cR_makeFormals 41 = .ok (.goto (-39), 3) := by decide +kernel
theorem dR_makeFormals_44 : decode cR_makeFormals 44 = .ok (.return_, 1) := by decide +kernel
theorem dR_giveFirstValues_0 : decode cR_giveFirstValues 0 = .ok (.aload_n 0, 1) := by decide +kernel
theorem dR_giveFirstValues_1 : decode cR_giveFirstValues 1 = .ok (.aload_n 1, 1) := by decide +kernel
theorem dR_giveFirstValues_2 : decode cR_giveFirstValues 2 = .ok (.invokevirtual 225, 3) := by decide +kernel
theorem dR_giveFirstValues_5 : decode cR_giveFirstValues 5 = .ok (.astore_n 2, 1) := by decide +kernel
theorem dR_giveFirstValues_6 : decode cR_giveFirstValues 6 = .ok (.iconst 0, 1) := by decide +kernel
theorem dR_giveFirstValues_7 : decode cR_giveFirstValues 7 = .ok (.istore_n 3, 1) := by decide +kernel
theorem dR_giveFirstValues_8 : decode cR_giveFirstValues 8 = .ok (.iload_n 3, 1) := by decide +kernel
theorem dR_giveFirstValues_9 : decode cR_giveFirstValues 9 = .ok (.aload_n 0, 1) := by decide +kernel
theorem dR_giveFirstValues_10 : decode cR_giveFirstValues 10 = .ok (.getfield 193, 3) := by decide +kernel
theorem dR_giveFirstValues_13 : decode cR_giveFirstValues 13 = .ok (.if_icmp .ge 35, 3) := by decide +kernel
theorem dR_giveFirstValues_16 : decode cR_giveFirstValues 16 = .ok (.aload_n 0, 1) := by decide +kernel
theorem dR_giveFirstValues_17 : decode cR_giveFirstValues 17 = .ok (.getfield 15, 3) := by decide +kernel
theorem dR_giveFirstValues_20 : decode cR_giveFirstValues 20 = .ok (.iload_n 3, 1) := by decide +kernel
theorem dR_giveFirstValues_21 : decode cR_giveFirstValues 21 = .ok (.aaload, 1) := by decide +kernel
theorem dR_giveFirstValues_22 : decode cR_giveFirstValues 22 = .ok (.aload_n 1, 1) := by decide +kernel
theorem dR_giveFirstValues_23 : decode cR_giveFirstValues 23 = .ok (.if_acmp .ne 19, 3) := by decide +kernel
theorem dR_giveFirstValues_26 : decode cR_giveFirstValues 26 = .ok (.aload_n 2, 1) := by decide +kernel
theorem dR_giveFirstValues_27 : decode cR_giveFirstValues 27 = .ok (.getfield 165, 3) := by decide +kernel
theorem dR_giveFirstValues_30 : decode cR_giveFirstValues 30 = .ok (.aload_n 0, 1) := by decide +kernel
theorem dR_giveFirstValues_31 : decode cR_giveFirstValues 31 = .ok (.iload_n 3, 1) := by decide +kernel
theorem dR_giveFirstValues_32 : decode cR_giveFirstValues 32 = .ok (.invokevirtual 124, 3) := by decide +kernel
theorem dR_giveFirstValues_35 : decode cR_giveFirstValues 35 = .ok (.aload_n 0, 1) := by decide +kernel
theorem dR_giveFirstValues_36 : decode cR_giveFirstValues 36 = .ok (.getfield 18, 3) := by decide +kernel
theorem dR_giveFirstValues_39 : decode cR_giveFirstValues 39 = .ok (.iload_n 3, 1) := by decide +kernel
theorem dR_giveFirstValues_40 : decode cR_giveFirstValues 40 = .ok (.laload, 1) := by decide +kernel
theorem dR_giveFirstValues_41 : decode cR_giveFirstValues 41 = .ok (.lastore, 1) := by decide +kernel
theorem dR_giveFirstValues_42 : decode cR_giveFirstValues 42 = .ok (.iinc 3 1, 3) := by decide +kernel
theorem dR_giveFirstValues_45 : decode cR_giveFirstValues 45 = .ok (.goto (-37), 3) := by decide +kernel
theorem dR_giveFirstValues_48 : decode cR_giveFirstValues 48 = .ok (.return_, 1) := by decide +kernel
theorem dR_set_0 : decode cR_set 0 = .ok (.aload_n 0, 1) := by decide +kernel
theorem dR_set_1 : decode cR_set 1 = .ok (.iload_n 1, 1) := by decide +kernel
theorem dR_set_2 : decode cR_set 2 = .ok (.invokevirtual 117, 3) := by decide +kernel
theorem dR_set_5 : decode cR_set 5 = .ok (.astore 4, 2) := by decide +kernel
theorem dR_set_7 : decode cR_set 7 = .ok (.aload 4, 2) := by decide +kernel
theorem dR_set_9 : decode cR_set 9 = .ok (.ifnonnull 6, 3) := by decide +kernel
theorem dR_set_12 : decode cR_set 12 = .ok (.bipush (-2), 2) := by decide +kernel
theorem dR_set_14 : decode cR_set 14 = .ok (.ireturn, 1) := by decide +kernel
theorem dR_set_15 : decode cR_set 15 = .ok (.ldc2_w 160, 3) := by decide +kernel
theorem dR_set_18 : decode cR_set 18 = .ok (.aload_n 0, 1) := by decide +kernel
theorem dR_set_19 : decode cR_set 19 = .ok (.iload_n 1, 1) := by decide +kernel
theorem dR_set_20 : decode cR_set 20 = .ok (.invokevirtual 162, 3) := by decide +kernel
theorem dR_set_23 : decode cR_set 23 = .ok (.lushr, 1) := by decide +kernel
theorem dR_set_24 : decode cR_set 24 = .ok (.lstore 5, 2) := by decide +kernel
theorem dR_set_26 : decode cR_set 26 = .ok (.aload_n 0, 1) := by decide +kernel
theorem dR_set_27 : decode cR_set 27 = .ok (.iload_n 1, 1) := by decide +kernel
theorem dR_set_28 : decode cR_set 28 = .ok (.invokevirtual 124, 3) := by decide +kernel
theorem dR_set_31 : decode cR_set 31 = .ok (.istore 7, 2) := by decide +kernel
theorem dR_set_33 : decode cR_set 33 = .ok (.aload 4, 2) := by decide +kernel
theorem dR_set_35 : decode cR_set 35 = .ok (.getfield 165, 3) := by decide +kernel
theorem dR_set_38 : decode cR_set 38 = .ok (.iload 7, 2) := by decide +kernel
theorem dR_set_40 : decode cR_set 40 = .ok (.aload 4, 2) := by decide +kernel
theorem dR_set_42 : decode cR_set 42 = .ok (.getfield 165, 3) := by decide +kernel
theorem dR_set_45 : decode cR_set 45 = .ok (.iload 7, 2) := by decide +kernel
theorem dR_set_47 : decode cR_set 47 = .ok (.laload, 1) := by decide +kernel
theorem dR_set_48 : decode cR_set 48 = .ok (.lload 5, 2) := by decide +kernel
theorem dR_set_50 : decode cR_set 50 = .ok (.ldc2_w 160, 3) := by decide +kernel
theorem dR_set_53 : decode cR_set 53 = .ok (.lxor, 1) := by decide +kernel
theorem dR_set_54 : decode cR_set 54 = .ok (.land, 1) := by decide +kernel
theorem dR_set_55 : decode cR_set 55 = .ok (.lload_n 2, 1) := by decide +kernel
theorem dR_set_56 : decode cR_set 56 = .ok (.lload 5, 2) := by decide +kernel
theorem dR_set_58 : decode cR_set 58 = .ok (.land, 1) := by decide +kernel
theorem dR_set_59 : decode cR_set 59 = .ok (.lor, 1) := by decide +kernel
theorem dR_set_60 : decode cR_set 60 = .ok (.lastore, 1) := by decide +kernel
theorem dR_set_61 : decode cR_set 61 = .ok (.iconst 1, 1) := by decide +kernel
theorem dR_set_62 : decode cR_set 62 = .ok (.ireturn, 1) := by decide +kernel
theorem dR_unusedBits_0 : decode cR_unusedBits 0 = .ok (.bipush 8, 2) := by decide +kernel
theorem dR_unusedBits_2 : decode cR_unusedBits 2 = .ok (.bipush 8, 2) := by decide +kernel
theorem dR_unusedBits_4 : decode cR_unusedBits 4 = .ok (.aload_n 0, 1) := by decide +kernel
theorem dR_unusedBits_5 : decode cR_unusedBits 5 = .ok (.iload_n 1, 1) := by decide +kernel
theorem dR_unusedBits_6 : decode cR_unusedBits 6 = .ok (.invokevirtual 128, 3) := by decide +kernel
theorem dR_unusedBits_9 : decode cR_unusedBits 9 = .ok (.isub, 1) := by decide +kernel
theorem dR_unusedBits_10 : decode cR_unusedBits 10 = .ok (.imul, 1) := by decide +kernel
theorem dR_unusedBits_11 : decode cR_unusedBits 11 = .ok (.ireturn, 1) := by decide +kernel
theorem dR_leave_0 : decode cR_leave 0 = .ok (.aload_n 0, 1) := by decide +kernel
theorem dR_leave_1 : decode cR_leave 1 = .ok (.getfield 35, 3) := by decide +kernel
theorem dR_leave_4 : decode cR_leave 4 = .ok (.getfield 89, 3) := by decide +kernel
theorem dR_leave_7 : decode cR_leave 7 = .ok (.astore_n 3, 1) := by decide +kernel
theorem dR_leave_8 : decode cR_leave 8 = .ok (.aload_n 0, 1) := by decide +kernel
theorem dR_leave_9 : decode cR_leave 9 = .ok (.getfield 35, 3) := by decide +kernel
theorem dR_leave_12 : decode cR_leave 12 = .ok (.getfield 168, 3) := by decide +kernel
theorem dR_leave_15 : decode cR_leave 15 = .ok (.astore 4, 2) := by decide +kernel
theorem dR_leave_17 : decode cR_leave 17 = .ok (.aload_n 3, 1) := by decide +kernel
theorem dR_leave_18 : decode cR_leave 18 = .ok (.ifnull 8, 3) := by decide +kernel
theorem dR_leave_21 : decode cR_leave 21 = .ok (.aload 4, 2) := by decide +kernel
theorem dR_leave_23 : decode cR_leave 23 = .ok (.ifnonnull 6, 3) := by decide +kernel
theorem dR_leave_26 : decode cR_leave 26 = .ok (.bipush (-4), 2) := by decide +kernel
theorem dR_leave_28 : decode cR_leave 28 = .ok (.ireturn, 1) := by decide +kernel
theorem dR_leave_29 : decode cR_leave 29 = .ok (.aload_n 3, 1) := by decide +kernel
theorem dR_leave_30 : decode cR_leave 30 = .ok (.aload_n 0, 1) := by decide +kernel
theorem dR_leave_31 : decode cR_leave 31 = .ok (.getfield 35, 3) := by decide +kernel
theorem dR_leave_34 : decode cR_leave 34 = .ok (.getfield 150, 3) := by decide +kernel
theorem dR_leave_37 : decode cR_leave 37 = .ok (.putfield 100, 3) := by decide +kernel
theorem dR_leave_40 : decode cR_leave 40 = .ok (.aload_n 3, 1) := by decide +kernel
theorem dR_leave_41 : decode cR_leave 41 = .ok (.aload_n 3, 1) := by decide +kernel
theorem dR_leave_42 : decode cR_leave 42 = .ok (.invokevirtual 153, 3) := by decide +kernel
theorem dR_leave_45 : decode cR_leave 45 = .ok (.putfield 171, 3) := by decide +kernel
theorem dR_leave_48 : decode cR_leave 48 = .ok (.aload_n 0, 1) := by decide +kernel
theorem dR_leave_49 : decode cR_leave 49 = .ok (.aload 4, 2) := by decide +kernel
theorem dR_leave_51 : decode cR_leave 51 = .ok (.putfield 35, 3) := by decide +kernel
theorem dR_leave_54 : decode cR_leave 54 = .ok (.aload_n 0, 1) := by decide +kernel
theorem dR_leave_55 : decode cR_leave 55 = .ok (.dup, 1) := by decide +kernel
theorem dR_leave_56 : decode cR_leave 56 = .ok (.getfield 60, 3) := by decide +kernel
theorem dR_leave_59 : decode cR_leave 59 = .ok (.iconst 1, 1) := by decide +kernel
theorem dR_leave_60 : decode cR_leave 60 = .ok (.isub, 1) := by decide +kernel
theorem dR_leave_61 : decode cR_leave 61 = .ok (.putfield 60, 3) := by decide +kernel
theorem dR_leave_64 : decode cR_leave 64 = .ok (.aload_n 0, 1) := by decide +kernel
theorem dR_leave_65 : decode cR_leave 65 = .ok (.aconst_null, 1) := by decide +kernel
theorem dR_leave_66 : decode cR_leave 66 = .ok (.putfield 86, 3) := by decide +kernel
theorem dR_leave_69 : decode cR_leave 69 = .ok (.aload_n 0, 1) := by decide +kernel
theorem dR_leave_70 : decode cR_leave 70 = .ok (.lload_n 1, 1) := by decide +kernel
theorem dR_leave_71 : decode cR_leave 71 = .ok (.putfield 175, 3) := by decide +kernel
theorem dR_leave_74 : decode cR_leave 74 = .ok (.aload_n 0, 1) := by decide +kernel
theorem dR_leave_75 : decode cR_leave 75 = .ok (.getfield 35, 3) := by decide +kernel
theorem dR_leave_78 : decode cR_leave 78 = .ok (.getfield 89, 3) := by decide +kernel
theorem dR_leave_81 : decode cR_leave 81 = .ok (.invokestatic 93, 3) := by decide +kernel
theorem dR_leave_84 : decode cR_leave 84 = .ok (.ireturn, 1) := by decide +kernel
theorem dR_cancel_0 : decode cR_cancel 0 = .ok (.iload_n 1, 1) := by decide +kernel
theorem dR_cancel_1 : decode cR_cancel 1 = .ok (.aload_n 0, 1) := by decide +kernel
theorem dR_cancel_2 : decode cR_cancel 2 = .ok (.getfield 35, 3) := by decide +kernel
theorem dR_cancel_5 : decode cR_cancel 5 = .ok (.getfield 89, 3) := by decide +kernel
theorem dR_cancel_8 : decode cR_cancel 8 = .ok (.invokestatic 93, 3) := by decide +kernel
theorem dR_cancel_11 : decode cR_cancel 11 = .ok (.if_icmp .ne 10, 3) := by decide +kernel
theorem dR_cancel_14 : decode cR_cancel 14 = .ok (.iload_n 2, 1) := by decide +kernel
theorem dR_cancel_15 : decode cR_cancel 15 = .ok (.invokestatic 56, 3) := by decide +kernel
theorem dR_cancel_18 : decode cR_cancel 18 = .ok (.ifCond .ne 6, 3) := by decide +kernel
theorem dR_cancel_21 : decode cR_cancel 21 = .ok (.bipush (-2), 2) := by decide +kernel
theorem dR_cancel_23 : decode cR_cancel 23 = .ok (.ireturn, 1) := by decide +kernel
theorem dR_cancel_24 : decode cR_cancel 24 = .ok (.aload_n 0, 1) := by decide +kernel
theorem dR_cancel_25 : decode cR_cancel 25 = .ok (.aload_n 0, 1) := by decide +kernel
theorem dR_cancel_26 : decode cR_cancel 26 = .ok (.getfield 35, 3) := by decide +kernel
theorem dR_cancel_29 : decode cR_cancel 29 = .ok (.getfield 89, 3) := by decide +kernel
theorem dR_cancel_32 : decode cR_cancel 32 = .ok (.iload_n 2, 1) := by decide +kernel
theorem dR_cancel_33 : decode cR_cancel 33 = .ok (.invokevirtual 97, 3) := by decide +kernel
theorem dR_cancel_36 : decode cR_cancel 36 = .ok (.astore_n 3, 1) := by decide +kernel
theorem dR_cancel_37 : decode cR_cancel 37 = .ok (.aload_n 3, 1) := by decide +kernel
theorem dR_cancel_38 : decode cR_cancel 38 = .ok (.ifnonnull 6, 3) := by decide +kernel
theorem dR_cancel_41 : decode cR_cancel 41 = .ok (.bipush (-3), 2) := by decide +kernel
theorem dR_cancel_43 : decode cR_cancel 43 = .ok (.ireturn, 1) := by decide +kernel
theorem dR_cancel_44 : decode cR_cancel 44 = .ok (.aload_n 0, 1) := by decide +kernel
theorem dR_cancel_45 : decode cR_cancel 45 = .ok (.aload_n 3, 1) := by decide +kernel
theorem dR_cancel_46 : decode cR_cancel 46 = .ok (.invokevirtual 186, 3) := by decide +kernel
theorem dR_cancel_49 : decode cR_cancel 49 = .ok (.ifCond .eq 6, 3) := by decide +kernel
theorem dR_cancel_52 : decode cR_cancel 52 = .ok (.bipush (-5), 2) := by decide +kernel
theorem dR_cancel_54 : decode cR_cancel 54 = .ok (.ireturn, 1) := by decide +kernel
theorem dR_cancel_55 : decode cR_cancel 55 = .ok (.aload_n 0, 1) := by decide +kernel
theorem dR_cancel_56 : decode cR_cancel 56 = .ok (.aload_n 3, 1) := by decide +kernel
theorem dR_cancel_57 : decode cR_cancel 57 = .ok (.invokevirtual 190, 3) := by decide +kernel
theorem dR_cancel_60 : decode cR_cancel 60 = .ok (.ireturn, 1) := by decide +kernel
theorem dR_anyActiveOf_0 : decode cR_anyActiveOf 0 = .ok (.iconst 1, 1) := by decide +kernel
theorem dR_anyActiveOf_1 : decode cR_anyActiveOf 1 = .ok (.istore_n 2, 1) := by decide +kernel
theorem dR_anyActiveOf_2 : decode cR_anyActiveOf 2 = .ok (.iload_n 2, 1) := by decide +kernel
theorem dR_anyActiveOf_3 : decode cR_anyActiveOf 3 = .ok (.aload_n 0, 1) := by decide +kernel
theorem dR_anyActiveOf_4 : decode cR_anyActiveOf 4 = .ok (.getfield 67, 3) := by decide +kernel
theorem dR_anyActiveOf_7 : decode cR_anyActiveOf 7 = .ok (.if_icmp .gt 37, 3) := by decide +kernel
theorem dR_anyActiveOf_10 : decode cR_anyActiveOf 10 = .ok (.aload_n 0, 1) := by decide +kernel
theorem dR_anyActiveOf_11 : decode cR_anyActiveOf 11 = .ok (.getfield 11, 3) := by decide +kernel
theorem dR_anyActiveOf_14 : decode cR_anyActiveOf 14 = .ok (.iload_n 2, 1) := by decide +kernel
theorem dR_anyActiveOf_15 : decode cR_anyActiveOf 15 = .ok (.aaload, 1) := by decide +kernel
theorem dR_anyActiveOf_16 : decode cR_anyActiveOf 16 = .ok (.astore_n 3, 1) := by decide +kernel
theorem dR_anyActiveOf_17 : decode cR_anyActiveOf 17 = .ok (.aload_n 3, 1) := by decide +kernel
theorem dR_anyActiveOf_18 : decode cR_anyActiveOf 18 = .ok (.ifnull 20, 3) := by decide +kernel
theorem dR_anyActiveOf_21 : decode cR_anyActiveOf 21 = .ok (.aload_n 3, 1) := by decide +kernel
theorem dR_anyActiveOf_22 : decode cR_anyActiveOf 22 = .ok (.getfield 100, 3) := by decide +kernel
theorem dR_anyActiveOf_25 : decode cR_anyActiveOf 25 = .ok (.ifnull 13, 3) := by decide +kernel
theorem dR_anyActiveOf_28 : decode cR_anyActiveOf 28 = .ok (.aload_n 3, 1) := by decide +kernel
theorem dR_anyActiveOf_29 : decode cR_anyActiveOf 29 = .ok (.aload_n 1, 1) := by decide +kernel
theorem dR_anyActiveOf_30 : decode cR_anyActiveOf 30 = .ok (.invokevirtual 208, 3) := by decide +kernel
theorem dR_anyActiveOf_33 : decode cR_anyActiveOf 33 = .ok (.ifCond .eq 5, 3) := by decide +kernel
theorem dR_anyActiveOf_36 : decode cR_anyActiveOf 36 = .ok (.iconst 1, 1) := by decide +kernel
theorem dR_anyActiveOf_37 : decode cR_anyActiveOf 37 = .ok (.ireturn, 1) := by decide +kernel
theorem dR_anyActiveOf_38 : decode cR_anyActiveOf 38 = .ok (.iinc 2 1, 3) := by decide +kernel
theorem dR_anyActiveOf_41 : decode cR_anyActiveOf 41 = .ok (.goto (-39), 3) := by decide +kernel
theorem dR_anyActiveOf_44 : decode cR_anyActiveOf 44 = .ok (.iconst 0, 1) := by decide +kernel
theorem dR_anyActiveOf_45 : decode cR_anyActiveOf 45 = .ok (.ireturn, 1) := by decide +kernel
theorem dR_makeFresh_0 : decode cR_makeFresh 0 = .ok (.iconst 0, 1) := by decide +kernel
theorem dR_makeFresh_1 : decode cR_makeFresh 1 = .ok (.istore_n 2, 1) := by decide +kernel
theorem dR_makeFresh_2 : decode cR_makeFresh 2 = .ok (.iconst 1, 1) := by decide +kernel
theorem dR_makeFresh_3 : decode cR_makeFresh 3 = .ok (.istore_n 3, 1) := by decide +kernel
theorem dR_makeFresh_4 : decode cR_makeFresh 4 = .ok (.iload_n 3, 1) := by decide +kernel
theorem dR_makeFresh_5 : decode cR_makeFresh 5 = .ok (.aload_n 0, 1) := by decide +kernel
theorem dR_makeFresh_6 : decode cR_makeFresh 6 = .ok (.getfield 67, 3) := by decide +kernel
theorem dR_makeFresh_9 : decode cR_makeFresh 9 = .ok (.if_icmp .gt 59, 3) := by decide +kernel
theorem dR_makeFresh_12 : decode cR_makeFresh 12 = .ok (.aload_n 0, 1) := by decide +kernel
theorem dR_makeFresh_13 : decode cR_makeFresh 13 = .ok (.getfield 11, 3) := by decide +kernel
theorem dR_makeFresh_16 : decode cR_makeFresh 16 = .ok (.iload_n 3, 1) := by decide +kernel
theorem dR_makeFresh_17 : decode cR_makeFresh 17 = .ok (.aaload, 1) := by decide +kernel
theorem dR_makeFresh_18 : decode cR_makeFresh 18 = .ok (.astore 4, 2) := by decide +kernel
theorem dR_makeFresh_20 : decode cR_makeFresh 20 = .ok (.aload 4, 2) := by decide +kernel
theorem dR_makeFresh_22 : decode cR_makeFresh 22 = .ok (.ifnull 40, 3) := by decide +kernel
theorem dR_makeFresh_25 : decode cR_makeFresh 25 = .ok (.aload 4, 2) := by decide +kernel
theorem dR_makeFresh_27 : decode cR_makeFresh 27 = .ok (.aload_n 1, 1) := by decide +kernel
theorem dR_makeFresh_28 : decode cR_makeFresh 28 = .ok (.invokevirtual 208, 3) := by decide +kernel
theorem dR_makeFresh_31 : decode cR_makeFresh 31 = .ok (.ifCond .eq 31, 3) := by decide +kernel
theorem dR_makeFresh_34 : decode cR_makeFresh 34 = .ok (.iload_n 2, 1) := by decide +kernel
theorem dR_makeFresh_35 : decode cR_makeFresh 35 = .ok (.aload 4, 2) := by decide +kernel
theorem dR_makeFresh_37 : decode cR_makeFresh 37 = .ok (.getfield 171, 3) := by decide +kernel
theorem dR_makeFresh_40 : decode cR_makeFresh 40 = .ok (.ifCond .eq 7, 3) := by decide +kernel
theorem dR_makeFresh_43 : decode cR_makeFresh 43 = .ok (.iconst 1, 1) := by decide +kernel
theorem dR_makeFresh_44 : decode cR_makeFresh 44 = .ok (.goto 4, 3) := by decide +kernel
theorem dR_makeFresh_47 : decode cR_makeFresh 47 = .ok (.iconst 0, 1) := by decide +kernel
theorem dR_makeFresh_48 : decode cR_makeFresh 48 = .ok (.iadd, 1) := by decide +kernel
theorem dR_makeFresh_49 : decode cR_makeFresh 49 = .ok (.istore_n 2, 1) := by decide +kernel
theorem dR_makeFresh_50 : decode cR_makeFresh 50 = .ok (.aload 4, 2) := by decide +kernel
theorem dR_makeFresh_52 : decode cR_makeFresh 52 = .ok (.iconst 0, 1) := by decide +kernel
theorem dR_makeFresh_53 : decode cR_makeFresh 53 = .ok (.putfield 171, 3) := by decide +kernel
theorem dR_makeFresh_56 : decode cR_makeFresh 56 = .ok (.aload_n 0, 1) := by decide +kernel
theorem dR_makeFresh_57 : decode cR_makeFresh 57 = .ok (.aload 4, 2) := by decide +kernel
theorem dR_makeFresh_59 : decode cR_makeFresh 59 = .ok (.invokevirtual 157, 3) := by decide +kernel
theorem dR_makeFresh_62 : decode cR_makeFresh 62 = .ok (.iinc 3 1, 3) := by decide +kernel
theorem dR_makeFresh_65 : decode cR_makeFresh 65 = .ok (.goto (-61), 3) := by decide +kernel
theorem dR_makeFresh_68 : decode cR_makeFresh 68 = .ok (.iload_n 2, 1) := by decide +kernel
theorem dR_makeFresh_69 : decode cR_makeFresh 69 = .ok (.ireturn, 1) := by decide +kernel
theorem dR_shared_0 : decode cR_shared 0 = .ok (.iload_n 1, 1) := by decide +kernel
theorem dR_shared_1 : decode cR_shared 1 = .ok (.invokestatic 56, 3) := by decide +kernel
theorem dR_shared_4 : decode cR_shared 4 = .ok (.ifCond .ne 6, 3) := by decide +kernel
theorem dR_shared_7 : decode cR_shared 7 = .ok (.bipush (-2), 2) := by decide +kernel
theorem dR_shared_9 : decode cR_shared 9 = .ok (.ireturn, 1) := by decide +kernel
theorem dR_shared_10 : decode cR_shared 10 = .ok (.aload_n 0, 1) := by decide +kernel
theorem dR_shared_11 : decode cR_shared 11 = .ok (.getfield 22, 3) := by decide +kernel
theorem dR_shared_14 : decode cR_shared 14 = .ok (.iload_n 1, 1) := by decide +kernel
theorem dR_shared_15 : decode cR_shared 15 = .ok (.iaload, 1) := by decide +kernel
theorem dR_shared_16 : decode cR_shared 16 = .ok (.iconst (-1), 1) := by decide +kernel
theorem dR_shared_17 : decode cR_shared 17 = .ok (.if_icmp .ne 15, 3) := by decide +kernel
theorem dR_shared_20 : decode cR_shared 20 = .ok (.aload_n 0, 1) := by decide +kernel
theorem dR_shared_21 : decode cR_shared 21 = .ok (.getfield 22, 3) := by decide +kernel
theorem dR_shared_24 : decode cR_shared 24 = .ok (.iload_n 1, 1) := by decide +kernel
theorem dR_shared_25 : decode cR_shared 25 = .ok (.aload_n 0, 1) := by decide +kernel
theorem dR_shared_26 : decode cR_shared 26 = .ok (.aconst_null, 1) := by decide +kernel
theorem dR_shared_27 : decode cR_shared 27 = .ok (.lconst 0, 1) := by decide +kernel
theorem dR_shared_28 : decode cR_shared 28 = .ok (.invokevirtual 73, 3) := by decide +kernel
theorem dR_shared_31 : decode cR_shared 31 = .ok (.iastore, 1) := by decide +kernel
theorem dR_shared_32 : decode cR_shared 32 = .ok (.aload_n 0, 1) := by decide +kernel
theorem dR_shared_33 : decode cR_shared 33 = .ok (.getfield 22, 3) := by decide +kernel
theorem dR_shared_36 : decode cR_shared 36 = .ok (.iload_n 1, 1) := by decide +kernel
theorem dR_shared_37 : decode cR_shared 37 = .ok (.iaload, 1) := by decide +kernel
theorem dR_shared_38 : decode cR_shared 38 = .ok (.ireturn, 1) := by decide +kernel
theorem dR_state_0 : decode cR_state 0 = .ok (.aload_n 0, 1) := by decide +kernel
theorem dR_state_1 : decode cR_state 1 = .ok (.iload_n 1, 1) := by decide +kernel
theorem dR_state_2 : decode cR_state 2 = .ok (.invokevirtual 52, 3) := by decide +kernel
theorem dR_state_5 : decode cR_state 5 = .ok (.astore_n 2, 1) := by decide +kernel
theorem dR_state_6 : decode cR_state 6 = .ok (.aload_n 2, 1) := by decide +kernel
theorem dR_state_7 : decode cR_state 7 = .ok (.ifnonnull 5, 3) := by decide +kernel
theorem dR_state_10 : decode cR_state 10 = .ok (.iconst (-1), 1) := by decide +kernel
theorem dR_state_11 : decode cR_state 11 = .ok (.ireturn, 1) := by decide +kernel
theorem dR_state_12 : decode cR_state 12 = .ok (.aload_n 2, 1) := by decide +kernel
theorem dR_state_13 : decode cR_state 13 = .ok (.getfield 100, 3) := by decide +kernel
theorem dR_state_16 : decode cR_state 16 = .ok (.ifnull 5, 3) := by decide +kernel
theorem dR_state_19 : decode cR_state 19 = .ok (.iconst 2, 1) := by decide +kernel
theorem dR_state_20 : decode cR_state 20 = .ok (.ireturn, 1) := by decide +kernel
theorem dR_state_21 : decode cR_state 21 = .ok (.aload_n 2, 1) := by decide +kernel
theorem dR_state_22 : decode cR_state 22 = .ok (.getfield 171, 3) := by decide +kernel
theorem dR_state_25 : decode cR_state 25 = .ok (.ifCond .eq 7, 3) := by decide +kernel
theorem dR_state_28 : decode cR_state 28 = .ok (.iconst 1, 1) := by decide +kernel
theorem dR_state_29 : decode cR_state 29 = .ok (.goto 4, 3) := by decide +kernel
theorem dR_state_32 : decode cR_state 32 = .ok (.iconst 0, 1) := by decide +kernel
theorem dR_state_33 : decode cR_state 33 = .ok (.ireturn, 1) := by decide +kernel
theorem dR_returned_0 : decode cR_returned 0 = .ok (.aload_n 0, 1) := by decide +kernel
theorem dR_returned_1 : decode cR_returned 1 = .ok (.getfield 175, 3) := by decide +kernel
theorem dR_returned_4 : decode cR_returned 4 = .ok (.lreturn, 1) := by decide +kernel
theorem dR_count_0 : decode cR_count 0 = .ok (.iload_n 1, 1) := by decide +kernel
theorem dR_count_1 : decode cR_count 1 = .ok (.tableswitch 135 0 6 #[43, 48, 53, 58, 69, 91, 110], 43) := by decide +kernel
theorem dR_count_44 : decode cR_count 44 = .ok (.aload_n 0, 1) := by decide +kernel
theorem dR_count_45 : decode cR_count 45 = .ok (.getfield 67, 3) := by decide +kernel
theorem dR_count_48 : decode cR_count 48 = .ok (.ireturn, 1) := by decide +kernel
theorem dR_count_49 : decode cR_count 49 = .ok (.aload_n 0, 1) := by decide +kernel
theorem dR_count_50 : decode cR_count 50 = .ok (.getfield 193, 3) := by decide +kernel
theorem dR_count_53 : decode cR_count 53 = .ok (.ireturn, 1) := by decide +kernel
theorem dR_count_54 : decode cR_count 54 = .ok (.aload_n 0, 1) := by decide +kernel
theorem dR_count_55 : decode cR_count 55 = .ok (.getfield 60, 3) := by decide +kernel
theorem dR_count_58 : decode cR_count 58 = .ok (.ireturn, 1) := by decide +kernel
theorem dR_count_59 : decode cR_count 59 = .ok (.aload_n 0, 1) := by decide +kernel
theorem dR_count_60 : decode cR_count 60 = .ok (.getfield 35, 3) := by decide +kernel
theorem dR_count_63 : decode cR_count 63 = .ok (.getfield 89, 3) := by decide +kernel
theorem dR_count_66 : decode cR_count 66 = .ok (.invokestatic 93, 3) := by decide +kernel
theorem dR_count_69 : decode cR_count 69 = .ok (.ireturn, 1) := by decide +kernel
theorem dR_count_70 : decode cR_count 70 = .ok (.aload_n 0, 1) := by decide +kernel
theorem dR_count_71 : decode cR_count 71 = .ok (.getfield 86, 3) := by decide +kernel
theorem dR_count_74 : decode cR_count 74 = .ok (.ifnonnull 7, 3) := by decide +kernel
theorem dR_count_77 : decode cR_count 77 = .ok (.iconst 0, 1) := by decide +kernel
theorem dR_count_78 : decode cR_count 78 = .ok (.goto 13, 3) := by decide +kernel
theorem dR_count_81 : decode cR_count 81 = .ok (.aload_n 0, 1) := by decide +kernel
theorem dR_count_82 : decode cR_count 82 = .ok (.getfield 86, 3) := by decide +kernel
theorem dR_count_85 : decode cR_count 85 = .ok (.getfield 89, 3) := by decide +kernel
theorem dR_count_88 : decode cR_count 88 = .ok (.invokestatic 93, 3) := by decide +kernel
theorem dR_count_91 : decode cR_count 91 = .ok (.ireturn, 1) := by decide +kernel
theorem dR_count_92 : decode cR_count 92 = .ok (.aload_n 0, 1) := by decide +kernel
theorem dR_count_93 : decode cR_count 93 = .ok (.getfield 86, 3) := by decide +kernel
theorem dR_count_96 : decode cR_count 96 = .ok (.ifnonnull 7, 3) := by decide +kernel
theorem dR_count_99 : decode cR_count 99 = .ok (.iconst 0, 1) := by decide +kernel
theorem dR_count_100 : decode cR_count 100 = .ok (.goto 10, 3) := by decide +kernel
theorem dR_count_103 : decode cR_count 103 = .ok (.aload_n 0, 1) := by decide +kernel
theorem dR_count_104 : decode cR_count 104 = .ok (.getfield 86, 3) := by decide +kernel
theorem dR_count_107 : decode cR_count 107 = .ok (.getfield 121, 3) := by decide +kernel
theorem dR_count_110 : decode cR_count 110 = .ok (.ireturn, 1) := by decide +kernel
theorem dR_count_111 : decode cR_count 111 = .ok (.aload_n 0, 1) := by decide +kernel
theorem dR_count_112 : decode cR_count 112 = .ok (.getfield 35, 3) := by decide +kernel
theorem dR_count_115 : decode cR_count 115 = .ok (.getfield 89, 3) := by decide +kernel
theorem dR_count_118 : decode cR_count 118 = .ok (.ifnonnull 7, 3) := by decide +kernel
theorem dR_count_121 : decode cR_count 121 = .ok (.iconst 0, 1) := by decide +kernel
theorem dR_count_122 : decode cR_count 122 = .ok (.goto 13, 3) := by decide +kernel
theorem dR_count_125 : decode cR_count 125 = .ok (.aload_n 0, 1) := by decide +kernel
theorem dR_count_126 : decode cR_count 126 = .ok (.getfield 35, 3) := by decide +kernel
theorem dR_count_129 : decode cR_count 129 = .ok (.getfield 89, 3) := by decide +kernel
theorem dR_count_132 : decode cR_count 132 = .ok (.getfield 77, 3) := by decide +kernel
theorem dR_count_135 : decode cR_count 135 = .ok (.ireturn, 1) := by decide +kernel
theorem dR_count_136 : decode cR_count 136 = .ok (.iconst (-1), 1) := by decide +kernel
theorem dR_count_137 : decode cR_count 137 = .ok (.ireturn, 1) := by decide +kernel
theorem dR_get_0 : decode cR_get 0 = .ok (.aload_n 0, 1) := by decide +kernel
theorem dR_get_1 : decode cR_get 1 = .ok (.iload_n 1, 1) := by decide +kernel
theorem dR_get_2 : decode cR_get 2 = .ok (.invokevirtual 117, 3) := by decide +kernel
theorem dR_get_5 : decode cR_get 5 = .ok (.astore_n 2, 1) := by decide +kernel
theorem dR_get_6 : decode cR_get 6 = .ok (.aload_n 2, 1) := by decide +kernel
theorem dR_get_7 : decode cR_get 7 = .ok (.ifnonnull 13, 3) := by decide +kernel
theorem dR_get_10 : decode cR_get 10 = .ok (.new 179, 3) := by decide +kernel
theorem dR_get_13 : decode cR_get 13 = .ok (.dup, 1) := by decide +kernel
theorem dR_get_14 : decode cR_get 14 = .ok (.ldc 181, 2) := by decide +kernel
theorem dR_get_16 : decode cR_get 16 = .ok (.invokespecial 183, 3) := by decide +kernel
theorem dR_get_19 : decode cR_get 19 = .ok (.athrow, 1) := by decide +kernel
theorem dR_get_20 : decode cR_get 20 = .ok (.aload_n 0, 1) := by decide +kernel
theorem dR_get_21 : decode cR_get 21 = .ok (.iload_n 1, 1) := by decide +kernel
theorem dR_get_22 : decode cR_get 22 = .ok (.invokevirtual 162, 3) := by decide +kernel
theorem dR_get_25 : decode cR_get 25 = .ok (.istore_n 3, 1) := by decide +kernel
theorem dR_get_26 : decode cR_get 26 = .ok (.aload_n 2, 1) := by decide +kernel
theorem dR_get_27 : decode cR_get 27 = .ok (.getfield 165, 3) := by decide +kernel
theorem dR_get_30 : decode cR_get 30 = .ok (.aload_n 0, 1) := by decide +kernel
theorem dR_get_31 : decode cR_get 31 = .ok (.iload_n 1, 1) := by decide +kernel
theorem dR_get_32 : decode cR_get 32 = .ok (.invokevirtual 124, 3) := by decide +kernel
theorem dR_get_35 : decode cR_get 35 = .ok (.laload, 1) := by decide +kernel
theorem dR_get_36 : decode cR_get 36 = .ok (.iload_n 3, 1) := by decide +kernel
theorem dR_get_37 : decode cR_get 37 = .ok (.lshl, 1) := by decide +kernel
theorem dR_get_38 : decode cR_get 38 = .ok (.iload_n 3, 1) := by decide +kernel
theorem dR_get_39 : decode cR_get 39 = .ok (.lshr, 1) := by decide +kernel
theorem dR_get_40 : decode cR_get 40 = .ok (.lreturn, 1) := by decide +kernel
