theorem d_BT_run_9 : decode b_BT_run 9 = .ok (.if_icmp .gt 13, 3) := by decide +kernel
theorem d_BT_run_12 : decode b_BT_run 12 = .ok (.aload_n 0, 1) := by decide +kernel
theorem d_BT_run_13 : decode b_BT_run 13 = .ok (.getfield 10, 3) := by decide +kernel
theorem d_BT_run_16 : decode b_BT_run 16 = .ok (.getfield 124, 3) := by decide +kernel
theorem d_BT_run_19 : decode b_BT_run 19 = .ok (.ifCond .ne 5, 3) := by decide +kernel
theorem d_BT_run_22 : decode b_BT_run 22 = .ok (.iconst (-1), 1) := by decide +kernel
theorem d_BT_run_23 : decode b_BT_run 23 = .ok (.ireturn, 1) := by decide +kernel
theorem d_BT_run_24 : decode b_BT_run 24 = .ok (.aload_n 0, 1) := by decide +kernel
theorem d_BT_run_25 : decode b_BT_run 25 = .ok (.getfield 33, 3) := by decide +kernel
theorem d_BT_run_28 : decode b_BT_run 28 = .ok (.getfield 127, 3) := by decide +kernel
theorem d_BT_run_31 : decode b_BT_run 31 = .ok (.ifCond .ne 10, 3) := by decide +kernel
theorem d_BT_run_34 : decode b_BT_run 34 = .ok (.aload_n 0, 1) := by decide +kernel
theorem d_BT_run_35 : decode b_BT_run 35 = .ok (.getfield 57, 3) := by decide +kernel
theorem d_BT_run_38 : decode b_BT_run 38 = .ok (.invokevirtual 130, 3) := by decide +kernel
theorem d_BT_run_41 : decode b_BT_run 41 = .ok (.iconst 0, 1) := by decide +kernel
theorem d_BT_run_42 : decode b_BT_run 42 = .ok (.istore_n 2, 1) := by decide +kernel
theorem d_BT_run_43 : decode b_BT_run 43 = .ok (.iload_n 2, 1) := by decide +kernel
theorem d_BT_run_44 : decode b_BT_run 44 = .ok (.iload_n 1, 1) := by decide +kernel
theorem d_BT_run_45 : decode b_BT_run 45 = .ok (.if_icmp .ge 44, 3) := by decide +kernel
theorem d_BT_run_48 : decode b_BT_run 48 = .ok (.aload_n 0, 1) := by decide +kernel
theorem d_BT_run_49 : decode b_BT_run 49 = .ok (.getfield 33, 3) := by decide +kernel
theorem d_BT_run_52 : decode b_BT_run 52 = .ok (.aload_n 0, 1) := by decide +kernel
theorem d_BT_run_53 : decode b_BT_run 53 = .ok (.getfield 41, 3) := by decide +kernel
theorem d_BT_run_56 : decode b_BT_run 56 = .ok (.iconst 0, 1) := by decide +kernel
theorem d_BT_run_57 : decode b_BT_run 57 = .ok (.iaload, 1) := by decide +kernel
theorem d_BT_run_58 : decode b_BT_run 58 = .ok (.invokevirtual 133, 3) := by decide +kernel
theorem d_BT_run_61 : decode b_BT_run 61 = .ok (.astore_n 3, 1) := by decide +kernel
theorem d_BT_run_62 : decode b_BT_run 62 = .ok (.aload_n 3, 1) := by decide +kernel
theorem d_BT_run_63 : decode b_BT_run 63 = .ok (.ifnonnull 6, 3) := by decide +kernel
theorem d_BT_run_66 : decode b_BT_run 66 = .ok (.goto 23, 3) := by decide +kernel
theorem d_BT_run_69 : decode b_BT_run 69 = .ok (.aload_n 0, 1) := by decide +kernel
theorem d_BT_run_70 : decode b_BT_run 70 = .ok (.getfield 57, 3) := by decide +kernel
theorem d_BT_run_73 : decode b_BT_run 73 = .ok (.aload_n 3, 1) := by decide +kernel
theorem d_BT_run_74 : decode b_BT_run 74 = .ok (.invokevirtual 137, 3) := by decide +kernel
theorem d_BT_run_77 : decode b_BT_run 77 = .ok (.ifCond .ne 6, 3) := by decide +kernel
theorem d_BT_run_80 : decode b_BT_run 80 = .ok (.bipush (-3), 2) := by decide +kernel
theorem d_BT_run_82 : decode b_BT_run 82 = .ok (.ireturn, 1) := by decide +kernel
theorem d_BT_run_83 : decode b_BT_run 83 = .ok (.iinc 2 1, 3) := by decide +kernel
theorem d_BT_run_86 : decode b_BT_run 86 = .ok (.goto (-43), 3) := by decide +kernel
theorem d_BT_run_89 : decode b_BT_run 89 = .ok (.aload_n 0, 1) := by decide +kernel
theorem d_BT_run_90 : decode b_BT_run 90 = .ok (.getfield 33, 3) := by decide +kernel
theorem d_BT_run_93 : decode b_BT_run 93 = .ok (.iconst 0, 1) := by decide +kernel
theorem d_BT_run_94 : decode b_BT_run 94 = .ok (.invokevirtual 141, 3) := by decide +kernel
theorem d_BT_run_97 : decode b_BT_run 97 = .ok (.ifCond .le 5, 3) := by decide +kernel
theorem d_BT_run_100 : decode b_BT_run 100 = .ok (.iconst 2, 1) := by decide +kernel
theorem d_BT_run_101 : decode b_BT_run 101 = .ok (.ireturn, 1) := by decide +kernel
theorem d_BT_run_102 : decode b_BT_run 102 = .ok (.aload_n 0, 1) := by decide +kernel
theorem d_BT_run_103 : decode b_BT_run 103 = .ok (.getfield 19, 3) := by decide +kernel
theorem d_BT_run_106 : decode b_BT_run 106 = .ok (.getfield 145, 3) := by decide +kernel
theorem d_BT_run_109 : decode b_BT_run 109 = .ok (.ifCond .eq 7, 3) := by decide +kernel
theorem d_BT_run_112 : decode b_BT_run 112 = .ok (.iconst 1, 1) := by decide +kernel
theorem d_BT_run_113 : decode b_BT_run 113 = .ok (.goto 4, 3) := by decide +kernel
theorem d_BT_run_116 : decode b_BT_run 116 = .ok (.iconst 0, 1) := by decide +kernel
theorem d_BT_run_117 : decode b_BT_run 117 = .ok (.ireturn, 1) := by decide +kernel
theorem d_Se_plantRoot_0 : decode b_Se_plantRoot 0 = .ok (.aload_n 0, 1) := by decide +kernel
theorem d_Se_plantRoot_1 : decode b_Se_plantRoot 1 = .ok (.getfield 23, 3) := by decide +kernel
theorem d_Se_plantRoot_4 : decode b_Se_plantRoot 4 = .ok (.invokevirtual 35, 3) := by decide +kernel
theorem d_Se_plantRoot_7 : decode b_Se_plantRoot 7 = .ok (.astore_n 1, 1) := by decide +kernel
theorem d_Se_plantRoot_8 : decode b_Se_plantRoot 8 = .ok (.aload_n 1, 1) := by decide +kernel
theorem d_Se_plantRoot_9 : decode b_Se_plantRoot 9 = .ok (.ifnull 30, 3) := by decide +kernel
theorem d_Se_plantRoot_12 : decode b_Se_plantRoot 12 = .ok (.aload_n 1, 1) := by decide +kernel
theorem d_Se_plantRoot_13 : decode b_Se_plantRoot 13 = .ok (.aload_n 0, 1) := by decide +kernel
theorem d_Se_plantRoot_14 : decode b_Se_plantRoot 14 = .ok (.getfield 9, 3) := by decide +kernel
theorem d_Se_plantRoot_17 : decode b_Se_plantRoot 17 = .ok (.invokevirtual 41, 3) := by decide +kernel
theorem d_Se_plantRoot_20 : decode b_Se_plantRoot 20 = .ok (.aload_n 1, 1) := by decide +kernel
theorem d_Se_plantRoot_21 : decode b_Se_plantRoot 21 = .ok (.aload_n 0, 1) := by decide +kernel
theorem d_Se_plantRoot_22 : decode b_Se_plantRoot 22 = .ok (.getfield 27, 3) := by decide +kernel
theorem d_Se_plantRoot_25 : decode b_Se_plantRoot 25 = .ok (.aload_n 1, 1) := by decide +kernel
theorem d_Se_plantRoot_26 : decode b_Se_plantRoot 26 = .ok (.getfield 47, 3) := by decide +kernel
theorem d_Se_plantRoot_29 : decode b_Se_plantRoot 29 = .ok (.invokevirtual 51, 3) := by decide +kernel
theorem d_Se_plantRoot_32 : decode b_Se_plantRoot 32 = .ok (.aload_n 0, 1) := by decide +kernel
theorem d_Se_plantRoot_33 : decode b_Se_plantRoot 33 = .ok (.getfield 9, 3) := by decide +kernel
theorem d_Se_plantRoot_36 : decode b_Se_plantRoot 36 = .ok (.invokevirtual 57, 3) := by decide +kernel
theorem d_Se_plantRoot_39 : decode b_Se_plantRoot 39 = .ok (.return_, 1) := by decide +kernel
theorem d_Tr_grow_0 : decode b_Tr_grow 0 = .ok (.aload_n 0, 1) := by decide +kernel
theorem d_Tr_grow_1 : decode b_Tr_grow 1 = .ok (.getfield 17, 3) := by decide +kernel
theorem d_Tr_grow_4 : decode b_Tr_grow 4 = .ok (.sipush 600, 3) := by decide +kernel
theorem d_Tr_grow_7 : decode b_Tr_grow 7 = .ok (.if_icmp .lt 5, 3) := by decide +kernel
theorem d_Tr_grow_10 : decode b_Tr_grow 10 = .ok (.aconst_null, 1) := by decide +kernel
theorem d_Tr_grow_11 : decode b_Tr_grow 11 = .ok (.areturn, 1) := by decide +kernel
theorem d_Tr_grow_12 : decode b_Tr_grow 12 = .ok (.aload_n 0, 1) := by decide +kernel
theorem d_Tr_grow_13 : decode b_Tr_grow 13 = .ok (.getfield 11, 3) := by decide +kernel
theorem d_Tr_grow_16 : decode b_Tr_grow 16 = .ok (.aload_n 0, 1) := by decide +kernel
theorem d_Tr_grow_17 : decode b_Tr_grow 17 = .ok (.getfield 17, 3) := by decide +kernel
theorem d_Tr_grow_20 : decode b_Tr_grow 20 = .ok (.aaload, 1) := by decide +kernel
theorem d_Tr_grow_21 : decode b_Tr_grow 21 = .ok (.ifnonnull 23, 3) := by decide +kernel
theorem d_Tr_grow_24 : decode b_Tr_grow 24 = .ok (.aload_n 0, 1) := by decide +kernel
theorem d_Tr_grow_25 : decode b_Tr_grow 25 = .ok (.getfield 11, 3) := by decide +kernel
theorem d_Tr_grow_28 : decode b_Tr_grow 28 = .ok (.aload_n 0, 1) := by decide +kernel
theorem d_Tr_grow_29 : decode b_Tr_grow 29 = .ok (.getfield 17, 3) := by decide +kernel
theorem d_Tr_grow_32 : decode b_Tr_grow 32 = .ok (.new 9, 3) := by decide +kernel
theorem d_Tr_grow_35 : decode b_Tr_grow 35 = .ok (.dup, 1) := by decide +kernel
theorem d_Tr_grow_36 : decode b_Tr_grow 36 = .ok (.aload_n 0, 1) := by decide +kernel
theorem d_Tr_grow_37 : decode b_Tr_grow 37 = .ok (.getfield 17, 3) := by decide +kernel
theorem d_Tr_grow_40 : decode b_Tr_grow 40 = .ok (.invokespecial 24, 3) := by decide +kernel
theorem d_Tr_grow_43 : decode b_Tr_grow 43 = .ok (.aastore, 1) := by decide +kernel
theorem d_Tr_grow_44 : decode b_Tr_grow 44 = .ok (.aload_n 0, 1) := by decide +kernel
theorem d_Tr_grow_45 : decode b_Tr_grow 45 = .ok (.dup, 1) := by decide +kernel
theorem d_Tr_grow_46 : decode b_Tr_grow 46 = .ok (.getfield 17, 3) := by decide +kernel
theorem d_Tr_grow_49 : decode b_Tr_grow 49 = .ok (.iconst 1, 1) := by decide +kernel
theorem d_Tr_grow_50 : decode b_Tr_grow 50 = .ok (.iadd, 1) := by decide +kernel
theorem d_Tr_grow_51 : decode b_Tr_grow 51 = .ok (.putfield 17, 3) := by decide +kernel
theorem d_Tr_grow_54 : decode b_Tr_grow 54 = .ok (.aload_n 0, 1) := by decide +kernel
theorem d_Tr_grow_55 : decode b_Tr_grow 55 = .ok (.getfield 11, 3) := by decide +kernel
theorem d_Tr_grow_58 : decode b_Tr_grow 58 = .ok (.aload_n 0, 1) := by decide +kernel
theorem d_Tr_grow_59 : decode b_Tr_grow 59 = .ok (.getfield 17, 3) := by decide +kernel
theorem d_Tr_grow_62 : decode b_Tr_grow 62 = .ok (.iconst 1, 1) := by decide +kernel
theorem d_Tr_grow_63 : decode b_Tr_grow 63 = .ok (.isub, 1) := by decide +kernel
theorem d_Tr_grow_64 : decode b_Tr_grow 64 = .ok (.aaload, 1) := by decide +kernel
theorem d_Tr_grow_65 : decode b_Tr_grow 65 = .ok (.areturn, 1) := by decide +kernel
theorem d_Nd_init_0 : decode b_Nd_init 0 = .ok (.aload_n 0, 1) := by decide +kernel
theorem d_Nd_init_1 : decode b_Nd_init 1 = .ok (.invokespecial 3, 3) := by decide +kernel
theorem d_Nd_init_4 : decode b_Nd_init 4 = .ok (.aload_n 0, 1) := by decide +kernel
theorem d_Nd_init_5 : decode b_Nd_init 5 = .ok (.new 9, 3) := by decide +kernel
theorem d_Nd_init_8 : decode b_Nd_init 8 = .ok (.dup, 1) := by decide +kernel
theorem d_Nd_init_9 : decode b_Nd_init 9 = .ok (.invokespecial 11, 3) := by decide +kernel
theorem d_Nd_init_12 : decode b_Nd_init 12 = .ok (.putfield 12, 3) := by decide +kernel
theorem d_Nd_init_15 : decode b_Nd_init 15 = .ok (.aload_n 0, 1) := by decide +kernel
theorem d_Nd_init_16 : decode b_Nd_init 16 = .ok (.iload_n 1, 1) := by decide +kernel
theorem d_Nd_init_17 : decode b_Nd_init 17 = .ok (.putfield 18, 3) := by decide +kernel
theorem d_Nd_init_20 : decode b_Nd_init 20 = .ok (.return_, 1) := by decide +kernel
theorem d_Nd_becomeRoot_0 : decode b_Nd_becomeRoot 0 = .ok (.aload_n 0, 1) := by decide +kernel
theorem d_Nd_becomeRoot_1 : decode b_Nd_becomeRoot 1 = .ok (.iconst (-1), 1) := by decide +kernel
theorem d_Nd_becomeRoot_2 : decode b_Nd_becomeRoot 2 = .ok (.putfield 22, 3) := by decide +kernel
theorem d_Nd_becomeRoot_5 : decode b_Nd_becomeRoot 5 = .ok (.aload_n 0, 1) := by decide +kernel
theorem d_Nd_becomeRoot_6 : decode b_Nd_becomeRoot 6 = .ok (.iconst (-1), 1) := by decide +kernel
theorem d_Nd_becomeRoot_7 : decode b_Nd_becomeRoot 7 = .ok (.putfield 25, 3) := by decide +kernel
theorem d_Nd_becomeRoot_10 : decode b_Nd_becomeRoot 10 = .ok (.aload_n 0, 1) := by decide +kernel
theorem d_Nd_becomeRoot_11 : decode b_Nd_becomeRoot 11 = .ok (.iconst 0, 1) := by decide +kernel
theorem d_Nd_becomeRoot_12 : decode b_Nd_becomeRoot 12 = .ok (.putfield 28, 3) := by decide +kernel
theorem d_Nd_becomeRoot_15 : decode b_Nd_becomeRoot 15 = .ok (.aload_n 0, 1) := by decide +kernel
theorem d_Nd_becomeRoot_16 : decode b_Nd_becomeRoot 16 = .ok (.iconst 0, 1) := by decide +kernel
theorem d_Nd_becomeRoot_17 : decode b_Nd_becomeRoot 17 = .ok (.putfield 31, 3) := by decide +kernel
theorem d_Nd_becomeRoot_20 : decode b_Nd_becomeRoot 20 = .ok (.aload_n 0, 1) := by decide +kernel
theorem d_Nd_becomeRoot_21 : decode b_Nd_becomeRoot 21 = .ok (.iconst 0, 1) := by decide +kernel
theorem d_Nd_becomeRoot_22 : decode b_Nd_becomeRoot 22 = .ok (.putfield 34, 3) := by decide +kernel
theorem d_Nd_becomeRoot_25 : decode b_Nd_becomeRoot 25 = .ok (.aload_n 0, 1) := by decide +kernel
theorem d_Nd_becomeRoot_26 : decode b_Nd_becomeRoot 26 = .ok (.getfield 12, 3) := by decide +kernel
theorem d_Nd_becomeRoot_29 : decode b_Nd_becomeRoot 29 = .ok (.aload_n 1, 1) := by decide +kernel
theorem d_Nd_becomeRoot_30 : decode b_Nd_becomeRoot 30 = .ok (.getfield 37, 3) := by decide +kernel
theorem d_Nd_becomeRoot_33 : decode b_Nd_becomeRoot 33 = .ok (.aload_n 1, 1) := by decide +kernel
theorem d_Nd_becomeRoot_34 : decode b_Nd_becomeRoot 34 = .ok (.getfield 43, 3) := by decide +kernel
theorem d_Nd_becomeRoot_37 : decode b_Nd_becomeRoot 37 = .ok (.invokevirtual 46, 3) := by decide +kernel
theorem d_Nd_becomeRoot_40 : decode b_Nd_becomeRoot 40 = .ok (.return_, 1) := by decide +kernel
theorem d_Bx_copyFrom_0 : decode b_Bx_copyFrom 0 = .ok (.iconst 0, 1) := by decide +kernel
theorem d_Bx_copyFrom_1 : decode b_Bx_copyFrom 1 = .ok (.istore_n 3, 1) := by decide +kernel
theorem d_Bx_copyFrom_2 : decode b_Bx_copyFrom 2 = .ok (.iload_n 3, 1) := by decide +kernel
theorem d_Bx_copyFrom_3 : decode b_Bx_copyFrom 3 = .ok (.bipush 8, 2) := by decide +kernel
theorem d_Bx_copyFrom_5 : decode b_Bx_copyFrom 5 = .ok (.if_icmp .ge 27, 3) := by decide +kernel
theorem d_Bx_copyFrom_8 : decode b_Bx_copyFrom 8 = .ok (.aload_n 0, 1) := by decide +kernel
theorem d_Bx_copyFrom_9 : decode b_Bx_copyFrom 9 = .ok (.getfield 9, 3) := by decide +kernel
theorem d_Bx_copyFrom_12 : decode b_Bx_copyFrom 12 = .ok (.iload_n 3, 1) := by decide +kernel
theorem d_Bx_copyFrom_13 : decode b_Bx_copyFrom 13 = .ok (.aload_n 1, 1) := by decide +kernel
theorem d_Bx_copyFrom_14 : decode b_Bx_copyFrom 14 = .ok (.iload_n 3, 1) := by decide +kernel
theorem d_Bx_copyFrom_15 : decode b_Bx_copyFrom 15 = .ok (.iaload, 1) := by decide +kernel
theorem d_Bx_copyFrom_16 : decode b_Bx_copyFrom 16 = .ok (.iastore, 1) := by decide +kernel
theorem d_Bx_copyFrom_17 : decode b_Bx_copyFrom 17 = .ok (.aload_n 0, 1) := by decide +kernel
theorem d_Bx_copyFrom_18 : decode b_Bx_copyFrom 18 = .ok (.getfield 15, 3) := by decide +kernel
theorem d_Bx_copyFrom_21 : decode b_Bx_copyFrom 21 = .ok (.iload_n 3, 1) := by decide +kernel
theorem d_Bx_copyFrom_22 : decode b_Bx_copyFrom 22 = .ok (.aload_n 2, 1) := by decide +kernel
theorem d_Bx_copyFrom_23 : decode b_Bx_copyFrom 23 = .ok (.iload_n 3, 1) := by decide +kernel
theorem d_Bx_copyFrom_24 : decode b_Bx_copyFrom 24 = .ok (.iaload, 1) := by decide +kernel
theorem d_Bx_copyFrom_25 : decode b_Bx_copyFrom 25 = .ok (.iastore, 1) := by decide +kernel
theorem d_Bx_copyFrom_26 : decode b_Bx_copyFrom 26 = .ok (.iinc 3 1, 3) := by decide +kernel
theorem d_Bx_copyFrom_29 : decode b_Bx_copyFrom 29 = .ok (.goto (-27), 3) := by decide +kernel
theorem d_Bx_copyFrom_32 : decode b_Bx_copyFrom 32 = .ok (.return_, 1) := by decide +kernel
theorem d_Nr_narrow_0 : decode b_Nr_narrow 0 = .ok (.iconst 0, 1) := by decide +kernel
theorem d_Nr_narrow_1 : decode b_Nr_narrow 1 = .ok (.istore_n 2, 1) := by decide +kernel
theorem d_Nr_narrow_2 : decode b_Nr_narrow 2 = .ok (.iload_n 2, 1) := by decide +kernel
theorem d_Nr_narrow_3 : decode b_Nr_narrow 3 = .ok (.sipush 1000, 3) := by decide +kernel
theorem d_Nr_narrow_6 : decode b_Nr_narrow 6 = .ok (.if_icmp .ge 35, 3) := by decide +kernel
theorem d_Nr_narrow_9 : decode b_Nr_narrow 9 = .ok (.aload_n 0, 1) := by decide +kernel
theorem d_Nr_narrow_10 : decode b_Nr_narrow 10 = .ok (.iconst 0, 1) := by decide +kernel
theorem d_Nr_narrow_11 : decode b_Nr_narrow 11 = .ok (.putfield 19, 3) := by decide +kernel
theorem d_Nr_narrow_14 : decode b_Nr_narrow 14 = .ok (.aload_n 0, 1) := by decide +kernel
theorem d_Nr_narrow_15 : decode b_Nr_narrow 15 = .ok (.aload_n 1, 1) := by decide +kernel
theorem d_Nr_narrow_16 : decode b_Nr_narrow 16 = .ok (.invokevirtual 23, 3) := by decide +kernel
theorem d_Nr_narrow_19 : decode b_Nr_narrow 19 = .ok (.istore_n 3, 1) := by decide +kernel
theorem d_Nr_narrow_20 : decode b_Nr_narrow 20 = .ok (.iload_n 3, 1) := by decide +kernel
theorem d_Nr_narrow_21 : decode b_Nr_narrow 21 = .ok (.bipush (-2), 2) := by decide +kernel
theorem d_Nr_narrow_23 : decode b_Nr_narrow 23 = .ok (.if_icmp .ne 10, 3) := by decide +kernel
theorem d_Nr_narrow_26 : decode b_Nr_narrow 26 = .ok (.aload_n 0, 1) := by decide +kernel
theorem d_Nr_narrow_27 : decode b_Nr_narrow 27 = .ok (.getfield 19, 3) := by decide +kernel
theorem d_Nr_narrow_30 : decode b_Nr_narrow 30 = .ok (.ifCond .ne 5, 3) := by decide +kernel
theorem d_Nr_narrow_33 : decode b_Nr_narrow 33 = .ok (.iload_n 3, 1) := by decide +kernel
theorem d_Nr_narrow_34 : decode b_Nr_narrow 34 = .ok (.ireturn, 1) := by decide +kernel
theorem d_Nr_narrow_35 : decode b_Nr_narrow 35 = .ok (.iinc 2 1, 3) := by decide +kernel
theorem d_Nr_narrow_38 : decode b_Nr_narrow 38 = .ok (.goto (-36), 3) := by decide +kernel
theorem d_Nr_narrow_41 : decode b_Nr_narrow 41 = .ok (.bipush (-2), 2) := by decide +kernel
theorem d_Nr_narrow_43 : decode b_Nr_narrow 43 = .ok (.ireturn, 1) := by decide +kernel
theorem d_Nr_goRound_0 : decode b_Nr_goRound 0 = .ok (.iconst 0, 1) := by decide +kernel
theorem d_Nr_goRound_1 : decode b_Nr_goRound 1 = .ok (.istore_n 2, 1) := by decide +kernel
theorem d_Nr_goRound_2 : decode b_Nr_goRound 2 = .ok (.iload_n 2, 1) := by decide +kernel
theorem d_Nr_goRound_3 : decode b_Nr_goRound 3 = .ok (.aload_n 0, 1) := by decide +kernel
theorem d_Nr_goRound_4 : decode b_Nr_goRound 4 = .ok (.getfield 9, 3) := by decide +kernel
theorem d_Nr_goRound_7 : decode b_Nr_goRound 7 = .ok (.getfield 27, 3) := by decide +kernel
theorem d_Nr_goRound_10 : decode b_Nr_goRound 10 = .ok (.if_icmp .ge 65, 3) := by decide +kernel
theorem d_Nr_goRound_13 : decode b_Nr_goRound 13 = .ok (.iconst 1, 1) := by decide +kernel
theorem d_Nr_goRound_14 : decode b_Nr_goRound 14 = .ok (.istore_n 3, 1) := by decide +kernel
theorem d_Nr_goRound_15 : decode b_Nr_goRound 15 = .ok (.iload_n 3, 1) := by decide +kernel
theorem d_Nr_goRound_16 : decode b_Nr_goRound 16 = .ok (.iconst (-1), 1) := by decide +kernel
theorem d_Nr_goRound_17 : decode b_Nr_goRound 17 = .ok (.if_icmp .lt 52, 3) := by decide +kernel
theorem d_Nr_goRound_20 : decode b_Nr_goRound 20 = .ok (.aload_n 0, 1) := by decide +kernel
theorem d_Nr_goRound_21 : decode b_Nr_goRound 21 = .ok (.getfield 9, 3) := by decide +kernel
theorem d_Nr_goRound_24 : decode b_Nr_goRound 24 = .ok (.iload_n 2, 1) := by decide +kernel
theorem d_Nr_goRound_25 : decode b_Nr_goRound 25 = .ok (.iload_n 3, 1) := by decide +kernel
theorem d_Nr_goRound_26 : decode b_Nr_goRound 26 = .ok (.invokevirtual 33, 3) := by decide +kernel
theorem d_Nr_goRound_29 : decode b_Nr_goRound 29 = .ok (.ifCond .eq 34, 3) := by decide +kernel
theorem d_Nr_goRound_32 : decode b_Nr_goRound 32 = .ok (.aload_n 0, 1) := by decide +kernel
theorem d_Nr_goRound_33 : decode b_Nr_goRound 33 = .ok (.aload_n 1, 1) := by decide +kernel
theorem d_Nr_goRound_34 : decode b_Nr_goRound 34 = .ok (.aload_n 0, 1) := by decide +kernel
theorem d_Nr_goRound_35 : decode b_Nr_goRound 35 = .ok (.getfield 9, 3) := by decide +kernel
theorem d_Nr_goRound_38 : decode b_Nr_goRound 38 = .ok (.getfield 37, 3) := by decide +kernel
theorem d_Nr_goRound_41 : decode b_Nr_goRound 41 = .ok (.iload_n 2, 1) := by decide +kernel
theorem d_Nr_goRound_42 : decode b_Nr_goRound 42 = .ok (.aaload, 1) := by decide +kernel
theorem d_Nr_goRound_43 : decode b_Nr_goRound 43 = .ok (.iload_n 3, 1) := by decide +kernel
theorem d_Nr_goRound_44 : decode b_Nr_goRound 44 = .ok (.iload_n 3, 1) := by decide +kernel
theorem d_Nr_goRound_45 : decode b_Nr_goRound 45 = .ok (.aload_n 0, 1) := by decide +kernel
theorem d_Nr_goRound_46 : decode b_Nr_goRound 46 = .ok (.getfield 9, 3) := by decide +kernel
theorem d_Nr_goRound_49 : decode b_Nr_goRound 49 = .ok (.getfield 41, 3) := by decide +kernel
theorem d_Nr_goRound_52 : decode b_Nr_goRound 52 = .ok (.iload_n 2, 1) := by decide +kernel
theorem d_Nr_goRound_53 : decode b_Nr_goRound 53 = .ok (.iaload, 1) := by decide +kernel
theorem d_Nr_goRound_54 : decode b_Nr_goRound 54 = .ok (.imul, 1) := by decide +kernel
theorem d_Nr_goRound_55 : decode b_Nr_goRound 55 = .ok (.invokevirtual 45, 3) := by decide +kernel
theorem d_Nr_goRound_58 : decode b_Nr_goRound 58 = .ok (.ifCond .eq 5, 3) := by decide +kernel
theorem d_Nr_goRound_61 : decode b_Nr_goRound 61 = .ok (.iload_n 2, 1) := by decide +kernel
theorem d_Nr_goRound_62 : decode b_Nr_goRound 62 = .ok (.ireturn, 1) := by decide +kernel
theorem d_Nr_goRound_63 : decode b_Nr_goRound 63 = .ok (.iinc 3 (-2), 3) := by decide +kernel
theorem d_Nr_goRound_66 : decode b_Nr_goRound 66 = .ok (.goto (-51), 3) := by decide +kernel
theorem d_Nr_goRound_69 : decode b_Nr_goRound 69 = .ok (.iinc 2 1, 3) := by decide +kernel
theorem d_Nr_goRound_72 : decode b_Nr_goRound 72 = .ok (.goto (-70), 3) := by decide +kernel
theorem d_Nr_goRound_75 : decode b_Nr_goRound 75 = .ok (.aload_n 0, 1) := by decide +kernel
theorem d_Nr_goRound_76 : decode b_Nr_goRound 76 = .ok (.getfield 15, 3) := by decide +kernel
theorem d_Nr_goRound_79 : decode b_Nr_goRound 79 = .ok (.getfield 49, 3) := by decide +kernel
theorem d_Nr_goRound_82 : decode b_Nr_goRound 82 = .ok (.ifCond .eq 31, 3) := by decide +kernel
theorem d_Nr_goRound_85 : decode b_Nr_goRound 85 = .ok (.aload_n 0, 1) := by decide +kernel
theorem d_Nr_goRound_86 : decode b_Nr_goRound 86 = .ok (.aload_n 1, 1) := by decide +kernel
theorem d_Nr_goRound_87 : decode b_Nr_goRound 87 = .ok (.aload_n 0, 1) := by decide +kernel
theorem d_Nr_goRound_88 : decode b_Nr_goRound 88 = .ok (.getfield 9, 3) := by decide +kernel
theorem d_Nr_goRound_91 : decode b_Nr_goRound 91 = .ok (.getfield 54, 3) := by decide +kernel
theorem d_Nr_goRound_94 : decode b_Nr_goRound 94 = .ok (.iconst 1, 1) := by decide +kernel
theorem d_Nr_goRound_95 : decode b_Nr_goRound 95 = .ok (.aload_n 0, 1) := by decide +kernel
theorem d_Nr_goRound_96 : decode b_Nr_goRound 96 = .ok (.getfield 15, 3) := by decide +kernel
theorem d_Nr_goRound_99 : decode b_Nr_goRound 99 = .ok (.getfield 57, 3) := by decide +kernel
theorem d_Nr_goRound_102 : decode b_Nr_goRound 102 = .ok (.iconst 1, 1) := by decide +kernel
theorem d_Nr_goRound_103 : decode b_Nr_goRound 103 = .ok (.isub, 1) := by decide +kernel
theorem d_Nr_goRound_104 : decode b_Nr_goRound 104 = .ok (.invokevirtual 45, 3) := by decide +kernel
theorem d_Nr_goRound_107 : decode b_Nr_goRound 107 = .ok (.ifCond .eq 6, 3) := by decide +kernel
theorem d_Nr_goRound_110 : decode b_Nr_goRound 110 = .ok (.bipush 16, 2) := by decide +kernel
theorem d_Nr_goRound_112 : decode b_Nr_goRound 112 = .ok (.ireturn, 1) := by decide +kernel
theorem d_Nr_goRound_113 : decode b_Nr_goRound 113 = .ok (.bipush (-2), 2) := by decide +kernel
theorem d_Nr_goRound_115 : decode b_Nr_goRound 115 = .ok (.ireturn, 1) := by decide +kernel
theorem d_Nr_closes_0 : decode b_Nr_closes 0 = .ok (.iload 4, 2) := by decide +kernel
theorem d_Nr_closes_2 : decode b_Nr_closes 2 = .ok (.aload_n 1, 1) := by decide +kernel
theorem d_Nr_closes_3 : decode b_Nr_closes 3 = .ok (.aload_n 2, 1) := by decide +kernel
theorem d_Nr_closes_4 : decode b_Nr_closes 4 = .ok (.iload_n 3, 1) := by decide +kernel
theorem d_Nr_closes_5 : decode b_Nr_closes 5 = .ok (.aload_n 0, 1) := by decide +kernel
theorem d_Nr_closes_6 : decode b_Nr_closes 6 = .ok (.getfield 9, 3) := by decide +kernel
theorem d_Nr_closes_9 : decode b_Nr_closes 9 = .ok (.getfield 60, 3) := by decide +kernel
theorem d_Nr_closes_12 : decode b_Nr_closes 12 = .ok (.invokevirtual 63, 3) := by decide +kernel
theorem d_Nr_closes_15 : decode b_Nr_closes 15 = .ok (.isub, 1) := by decide +kernel
theorem d_Nr_closes_16 : decode b_Nr_closes 16 = .ok (.istore 5, 2) := by decide +kernel
theorem d_Nr_closes_18 : decode b_Nr_closes 18 = .ok (.iload 5, 2) := by decide +kernel
theorem d_Nr_closes_20 : decode b_Nr_closes 20 = .ok (.ifCond .ge 5, 3) := by decide +kernel
theorem d_Nr_closes_23 : decode b_Nr_closes 23 = .ok (.iconst 1, 1) := by decide +kernel
theorem d_Nr_closes_24 : decode b_Nr_closes 24 = .ok (.ireturn, 1) := by decide +kernel
theorem d_Nr_closes_25 : decode b_Nr_closes 25 = .ok (.iconst 0, 1) := by decide +kernel
theorem d_Nr_closes_26 : decode b_Nr_closes 26 = .ok (.istore 6, 2) := by decide +kernel
theorem d_Nr_closes_28 : decode b_Nr_closes 28 = .ok (.iload 6, 2) := by decide +kernel
theorem d_Nr_closes_30 : decode b_Nr_closes 30 = .ok (.aload_n 0, 1) := by decide +kernel
theorem d_Nr_closes_31 : decode b_Nr_closes 31 = .ok (.getfield 9, 3) := by decide +kernel
theorem d_Nr_closes_34 : decode b_Nr_closes 34 = .ok (.getfield 60, 3) := by decide +kernel
theorem d_Nr_closes_37 : decode b_Nr_closes 37 = .ok (.if_icmp .ge 126, 3) := by decide +kernel
theorem d_Nr_closes_40 : decode b_Nr_closes 40 = .ok (.iload_n 3, 1) := by decide +kernel
theorem d_Nr_closes_41 : decode b_Nr_closes 41 = .ok (.aload_n 2, 1) := by decide +kernel
theorem d_Nr_closes_42 : decode b_Nr_closes 42 = .ok (.iload 6, 2) := by decide +kernel
theorem d_Nr_closes_44 : decode b_Nr_closes 44 = .ok (.iaload, 1) := by decide +kernel
theorem d_Nr_closes_45 : decode b_Nr_closes 45 = .ok (.imul, 1) := by decide +kernel
theorem d_Nr_closes_46 : decode b_Nr_closes 46 = .ok (.istore 7, 2) := by decide +kernel
theorem d_Nr_closes_48 : decode b_Nr_closes 48 = .ok (.iload 7, 2) := by decide +kernel
theorem d_Nr_closes_50 : decode b_Nr_closes 50 = .ok (.ifCond .le 54, 3) := by decide +kernel
theorem d_Nr_closes_53 : decode b_Nr_closes 53 = .ok (.aload_n 1, 1) := by decide +kernel
theorem d_Nr_closes_54 : decode b_Nr_closes 54 = .ok (.getfield 69, 3) := by decide +kernel
theorem d_Nr_closes_57 : decode b_Nr_closes 57 = .ok (.iload 6, 2) := by decide +kernel
theorem d_Nr_closes_59 : decode b_Nr_closes 59 = .ok (.iaload, 1) := by decide +kernel
theorem d_Nr_closes_60 : decode b_Nr_closes 60 = .ok (.aload_n 1, 1) := by decide +kernel
theorem d_Nr_closes_61 : decode b_Nr_closes 61 = .ok (.getfield 72, 3) := by decide +kernel
theorem d_Nr_closes_64 : decode b_Nr_closes 64 = .ok (.iload 6, 2) := by decide +kernel
theorem d_Nr_closes_66 : decode b_Nr_closes 66 = .ok (.iaload, 1) := by decide +kernel
theorem d_Nr_closes_67 : decode b_Nr_closes 67 = .ok (.iload 5, 2) := by decide +kernel
theorem d_Nr_closes_69 : decode b_Nr_closes 69 = .ok (.iload 7, 2) := by decide +kernel
theorem d_Nr_closes_71 : decode b_Nr_closes 71 = .ok (.idiv, 1) := by decide +kernel
theorem d_Nr_closes_72 : decode b_Nr_closes 72 = .ok (.iadd, 1) := by decide +kernel
theorem d_Nr_closes_73 : decode b_Nr_closes 73 = .ok (.if_icmp .le 31, 3) := by decide +kernel
theorem d_Nr_closes_76 : decode b_Nr_closes 76 = .ok (.aload_n 1, 1) := by decide +kernel
theorem d_Nr_closes_77 : decode b_Nr_closes 77 = .ok (.getfield 69, 3) := by decide +kernel
theorem d_Nr_closes_80 : decode b_Nr_closes 80 = .ok (.iload 6, 2) := by decide +kernel
theorem d_Nr_closes_82 : decode b_Nr_closes 82 = .ok (.aload_n 1, 1) := by decide +kernel
theorem d_Nr_closes_83 : decode b_Nr_closes 83 = .ok (.getfield 72, 3) := by decide +kernel
theorem d_Nr_closes_86 : decode b_Nr_closes 86 = .ok (.iload 6, 2) := by decide +kernel
theorem d_Nr_closes_88 : decode b_Nr_closes 88 = .ok (.iaload, 1) := by decide +kernel
theorem d_Nr_closes_89 : decode b_Nr_closes 89 = .ok (.iload 5, 2) := by decide +kernel
theorem d_Nr_closes_91 : decode b_Nr_closes 91 = .ok (.iload 7, 2) := by decide +kernel
theorem d_Nr_closes_93 : decode b_Nr_closes 93 = .ok (.idiv, 1) := by decide +kernel
theorem d_Nr_closes_94 : decode b_Nr_closes 94 = .ok (.iadd, 1) := by decide +kernel
theorem d_Nr_closes_95 : decode b_Nr_closes 95 = .ok (.iastore, 1) := by decide +kernel
theorem d_Nr_closes_96 : decode b_Nr_closes 96 = .ok (.aload_n 0, 1) := by decide +kernel
theorem d_Nr_closes_97 : decode b_Nr_closes 97 = .ok (.iconst 1, 1) := by decide +kernel
theorem d_Nr_closes_98 : decode b_Nr_closes 98 = .ok (.putfield 19, 3) := by decide +kernel
theorem d_Nr_closes_101 : decode b_Nr_closes 101 = .ok (.goto 56, 3) := by decide +kernel
theorem d_Nr_closes_104 : decode b_Nr_closes 104 = .ok (.iload 7, 2) := by decide +kernel
theorem d_Nr_closes_106 : decode b_Nr_closes 106 = .ok (.ifCond .ge 51, 3) := by decide +kernel
theorem d_Nr_closes_109 : decode b_Nr_closes 109 = .ok (.aload_n 1, 1) := by decide +kernel
theorem d_Nr_closes_110 : decode b_Nr_closes 110 = .ok (.getfield 72, 3) := by decide +kernel
theorem d_Nr_closes_113 : decode b_Nr_closes 113 = .ok (.iload 6, 2) := by decide +kernel
theorem d_Nr_closes_115 : decode b_Nr_closes 115 = .ok (.iaload, 1) := by decide +kernel
theorem d_Nr_closes_116 : decode b_Nr_closes 116 = .ok (.aload_n 1, 1) := by decide +kernel
theorem d_Nr_closes_117 : decode b_Nr_closes 117 = .ok (.getfield 69, 3) := by decide +kernel
theorem d_Nr_closes_120 : decode b_Nr_closes 120 = .ok (.iload 6, 2) := by decide +kernel
theorem d_Nr_closes_122 : decode b_Nr_closes 122 = .ok (.iaload, 1) := by decide +kernel
theorem d_Nr_closes_123 : decode b_Nr_closes 123 = .ok (.iload 5, 2) := by decide +kernel
theorem d_Nr_closes_125 : decode b_Nr_closes 125 = .ok (.iload 7, 2) := by decide +kernel
theorem d_Nr_closes_127 : decode b_Nr_closes 127 = .ok (.idiv, 1) := by decide +kernel
theorem d_Nr_closes_128 : decode b_Nr_closes 128 = .ok (.iadd, 1) := by decide +kernel
theorem d_Nr_closes_129 : decode b_Nr_closes 129 = .ok (.if_icmp .ge 28, 3) := by decide +kernel
theorem d_Nr_closes_132 : decode b_Nr_closes 132 = .ok (.aload_n 1, 1) := by decide +kernel
theorem d_Nr_closes_133 : decode b_Nr_closes 133 = .ok (.getfield 72, 3) := by decide +kernel
theorem d_Nr_closes_136 : decode b_Nr_closes 136 = .ok (.iload 6, 2) := by decide +kernel
theorem d_Nr_closes_138 : decode b_Nr_closes 138 = .ok (.aload_n 1, 1) := by decide +kernel
theorem d_Nr_closes_139 : decode b_Nr_closes 139 = .ok (.getfield 69, 3) := by decide +kernel
theorem d_Nr_closes_142 : decode b_Nr_closes 142 = .ok (.iload 6, 2) := by decide +kernel
theorem d_Nr_closes_144 : decode b_Nr_closes 144 = .ok (.iaload, 1) := by decide +kernel
theorem d_Nr_closes_145 : decode b_Nr_closes 145 = .ok (.iload 5, 2) := by decide +kernel
theorem d_Nr_closes_147 : decode b_Nr_closes 147 = .ok (.iload 7, 2) := by decide +kernel
theorem d_Nr_closes_149 : decode b_Nr_closes 149 = .ok (.idiv, 1) := by decide +kernel
theorem d_Nr_closes_150 : decode b_Nr_closes 150 = .ok (.iadd, 1) := by decide +kernel
theorem d_Nr_closes_151 : decode b_Nr_closes 151 = .ok (.iastore, 1) := by decide +kernel
theorem d_Nr_closes_152 : decode b_Nr_closes 152 = .ok (.aload_n 0, 1) := by decide +kernel
theorem d_Nr_closes_153 : decode b_Nr_closes 153 = .ok (.iconst 1, 1) := by decide +kernel
theorem d_Nr_closes_154 : decode b_Nr_closes 154 = .ok (.putfield 19, 3) := by decide +kernel
theorem d_Nr_closes_157 : decode b_Nr_closes 157 = .ok (.iinc 6 1, 3) := by decide +kernel
theorem d_Nr_closes_160 : decode b_Nr_closes 160 = .ok (.goto (-132), 3) := by decide +kernel
theorem d_Nr_closes_163 : decode b_Nr_closes 163 = .ok (.iconst 0, 1) := by decide +kernel
theorem d_Nr_closes_164 : decode b_Nr_closes 164 = .ok (.ireturn, 1) := by decide +kernel
theorem d_Bx_leastOf_0 : decode b_Bx_leastOf 0 = .ok (.iconst 0, 1) := by decide +kernel
theorem d_Bx_leastOf_1 : decode b_Bx_leastOf 1 = .ok (.istore 4, 2) := by decide +kernel
theorem d_Bx_leastOf_3 : decode b_Bx_leastOf 3 = .ok (.iconst 0, 1) := by decide +kernel
theorem d_Bx_leastOf_4 : decode b_Bx_leastOf 4 = .ok (.istore 5, 2) := by decide +kernel
theorem d_Bx_leastOf_6 : decode b_Bx_leastOf 6 = .ok (.iload 5, 2) := by decide +kernel
theorem d_Bx_leastOf_8 : decode b_Bx_leastOf 8 = .ok (.iload_n 3, 1) := by decide +kernel
theorem d_Bx_leastOf_9 : decode b_Bx_leastOf 9 = .ok (.if_icmp .ge 47, 3) := by decide +kernel
theorem d_Bx_leastOf_12 : decode b_Bx_leastOf 12 = .ok (.iload_n 2, 1) := by decide +kernel
theorem d_Bx_leastOf_13 : decode b_Bx_leastOf 13 = .ok (.aload_n 1, 1) := by decide +kernel
theorem d_Bx_leastOf_14 : decode b_Bx_leastOf 14 = .ok (.iload 5, 2) := by decide +kernel
theorem d_Bx_leastOf_16 : decode b_Bx_leastOf 16 = .ok (.iaload, 1) := by decide +kernel
theorem d_Bx_leastOf_17 : decode b_Bx_leastOf 17 = .ok (.imul, 1) := by decide +kernel
theorem d_Bx_leastOf_18 : decode b_Bx_leastOf 18 = .ok (.istore 6, 2) := by decide +kernel
theorem d_Bx_leastOf_20 : decode b_Bx_leastOf 20 = .ok (.iload 4, 2) := by decide +kernel
theorem d_Bx_leastOf_22 : decode b_Bx_leastOf 22 = .ok (.iload 6, 2) := by decide +kernel
theorem d_Bx_leastOf_24 : decode b_Bx_leastOf 24 = .ok (.iload 6, 2) := by decide +kernel
theorem d_Bx_leastOf_26 : decode b_Bx_leastOf 26 = .ok (.ifCond .le 13, 3) := by decide +kernel
theorem d_Bx_leastOf_29 : decode b_Bx_leastOf 29 = .ok (.aload_n 0, 1) := by decide +kernel
theorem d_Bx_leastOf_30 : decode b_Bx_leastOf 30 = .ok (.getfield 9, 3) := by decide +kernel
theorem d_Bx_leastOf_33 : decode b_Bx_leastOf 33 = .ok (.iload 5, 2) := by decide +kernel
theorem d_Bx_leastOf_35 : decode b_Bx_leastOf 35 = .ok (.iaload, 1) := by decide +kernel
theorem d_Bx_leastOf_36 : decode b_Bx_leastOf 36 = .ok (.goto 10, 3) := by decide +kernel
theorem d_Bx_leastOf_39 : decode b_Bx_leastOf 39 = .ok (.aload_n 0, 1) := by decide +kernel
theorem d_Bx_leastOf_40 : decode b_Bx_leastOf 40 = .ok (.getfield 15, 3) := by decide +kernel
theorem d_Bx_leastOf_43 : decode b_Bx_leastOf 43 = .ok (.iload 5, 2) := by decide +kernel
theorem d_Bx_leastOf_45 : decode b_Bx_leastOf 45 = .ok (.iaload, 1) := by decide +kernel
theorem d_Bx_leastOf_46 : decode b_Bx_leastOf 46 = .ok (.imul, 1) := by decide +kernel
theorem d_Bx_leastOf_47 : decode b_Bx_leastOf 47 = .ok (.iadd, 1) := by decide +kernel
theorem d_Bx_leastOf_48 : decode b_Bx_leastOf 48 = .ok (.istore 4, 2) := by decide +kernel
theorem d_Bx_leastOf_50 : decode b_Bx_leastOf 50 = .ok (.iinc 5 1, 3) := by decide +kernel
theorem d_Bx_leastOf_53 : decode b_Bx_leastOf 53 = .ok (.goto (-47), 3) := by decide +kernel
theorem d_Bx_leastOf_56 : decode b_Bx_leastOf 56 = .ok (.iload 4, 2) := by decide +kernel
theorem d_Bx_leastOf_58 : decode b_Bx_leastOf 58 = .ok (.ireturn, 1) := by decide +kernel
theorem d_Nd_settle_0 : decode b_Nd_settle 0 = .ok (.aload_n 0, 1) := by decide +kernel
theorem d_Nd_settle_1 : decode b_Nd_settle 1 = .ok (.iload_n 1, 1) := by decide +kernel
theorem d_Nd_settle_2 : decode b_Nd_settle 2 = .ok (.putfield 60, 3) := by decide +kernel
theorem d_Nd_settle_5 : decode b_Nd_settle 5 = .ok (.aload_n 0, 1) := by decide +kernel
theorem d_Nd_settle_6 : decode b_Nd_settle 6 = .ok (.iload_n 1, 1) := by decide +kernel
theorem d_Nd_settle_7 : decode b_Nd_settle 7 = .ok (.bipush (-2), 2) := by decide +kernel
theorem d_Nd_settle_9 : decode b_Nd_settle 9 = .ok (.if_icmp .ne 7, 3) := by decide +kernel
theorem d_Nd_settle_12 : decode b_Nd_settle 12 = .ok (.iconst 0, 1) := by decide +kernel
theorem d_Nd_settle_13 : decode b_Nd_settle 13 = .ok (.goto 4, 3) := by decide +kernel
theorem d_Nd_settle_16 : decode b_Nd_settle 16 = .ok (.iconst 2, 1) := by decide +kernel
theorem d_Nd_settle_17 : decode b_Nd_settle 17 = .ok (.putfield 63, 3) := by decide +kernel
theorem d_Nd_settle_20 : decode b_Nd_settle 20 = .ok (.aload_n 0, 1) := by decide +kernel
theorem d_Nd_settle_21 : decode b_Nd_settle 21 = .ok (.aload_n 0, 1) := by decide +kernel
theorem d_Nd_settle_22 : decode b_Nd_settle 22 = .ok (.getfield 12, 3) := by decide +kernel
theorem d_Nd_settle_25 : decode b_Nd_settle 25 = .ok (.aload_n 2, 1) := by decide +kernel
theorem d_Nd_settle_26 : decode b_Nd_settle 26 = .ok (.getfield 66, 3) := by decide +kernel
theorem d_Nd_settle_29 : decode b_Nd_settle 29 = .ok (.iconst 1, 1) := by decide +kernel
theorem d_Nd_settle_30 : decode b_Nd_settle 30 = .ok (.aload_n 2, 1) := by decide +kernel
theorem d_Nd_settle_31 : decode b_Nd_settle 31 = .ok (.getfield 69, 3) := by decide +kernel
theorem d_Nd_settle_34 : decode b_Nd_settle 34 = .ok (.invokevirtual 72, 3) := by decide +kernel
theorem d_Nd_settle_37 : decode b_Nd_settle 37 = .ok (.putfield 76, 3) := by decide +kernel
theorem d_Nd_settle_40 : decode b_Nd_settle 40 = .ok (.aload_n 0, 1) := by decide +kernel
theorem d_Nd_settle_41 : decode b_Nd_settle 41 = .ok (.bipush (-2), 2) := by decide +kernel
theorem d_Nd_settle_43 : decode b_Nd_settle 43 = .ok (.putfield 79, 3) := by decide +kernel
theorem d_Nd_settle_46 : decode b_Nd_settle 46 = .ok (.return_, 1) := by decide +kernel
theorem d_Tr_pick_0 : decode b_Tr_pick 0 = .ok (.aconst_null, 1) := by decide +kernel
theorem d_Tr_pick_1 : decode b_Tr_pick 1 = .ok (.astore_n 2, 1) := by decide +kernel
theorem d_Tr_pick_2 : decode b_Tr_pick 2 = .ok (.iconst 0, 1) := by decide +kernel
theorem d_Tr_pick_3 : decode b_Tr_pick 3 = .ok (.istore_n 3, 1) := by decide +kernel
theorem d_Tr_pick_4 : decode b_Tr_pick 4 = .ok (.iload_n 3, 1) := by decide +kernel
theorem d_Tr_pick_5 : decode b_Tr_pick 5 = .ok (.aload_n 0, 1) := by decide +kernel
theorem d_Tr_pick_6 : decode b_Tr_pick 6 = .ok (.getfield 17, 3) := by decide +kernel
theorem d_Tr_pick_9 : decode b_Tr_pick 9 = .ok (.if_icmp .ge 47, 3) := by decide +kernel
theorem d_Tr_pick_12 : decode b_Tr_pick 12 = .ok (.aload_n 0, 1) := by decide +kernel
theorem d_Tr_pick_13 : decode b_Tr_pick 13 = .ok (.getfield 11, 3) := by decide +kernel
theorem d_Tr_pick_16 : decode b_Tr_pick 16 = .ok (.iload_n 3, 1) := by decide +kernel
theorem d_Tr_pick_17 : decode b_Tr_pick 17 = .ok (.aaload, 1) := by decide +kernel
theorem d_Tr_pick_18 : decode b_Tr_pick 18 = .ok (.astore 4, 2) := by decide +kernel
theorem d_Tr_pick_20 : decode b_Tr_pick 20 = .ok (.aload 4, 2) := by decide +kernel
theorem d_Tr_pick_22 : decode b_Tr_pick 22 = .ok (.ifnull 28, 3) := by decide +kernel
theorem d_Tr_pick_25 : decode b_Tr_pick 25 = .ok (.aload 4, 2) := by decide +kernel
theorem d_Tr_pick_27 : decode b_Tr_pick 27 = .ok (.getfield 27, 3) := by decide +kernel
theorem d_Tr_pick_30 : decode b_Tr_pick 30 = .ok (.ifCond .ne 20, 3) := by decide +kernel
theorem d_Tr_pick_33 : decode b_Tr_pick 33 = .ok (.aload_n 2, 1) := by decide +kernel
theorem d_Tr_pick_34 : decode b_Tr_pick 34 = .ok (.ifnull 13, 3) := by decide +kernel
theorem d_Tr_pick_37 : decode b_Tr_pick 37 = .ok (.aload 4, 2) := by decide +kernel
theorem d_Tr_pick_39 : decode b_Tr_pick 39 = .ok (.aload_n 2, 1) := by decide +kernel
theorem d_Tr_pick_40 : decode b_Tr_pick 40 = .ok (.iload_n 1, 1) := by decide +kernel
theorem d_Tr_pick_41 : decode b_Tr_pick 41 = .ok (.invokestatic 30, 3) := by decide +kernel
theorem d_Tr_pick_44 : decode b_Tr_pick 44 = .ok (.ifCond .eq 6, 3) := by decide +kernel
theorem d_Tr_pick_47 : decode b_Tr_pick 47 = .ok (.aload 4, 2) := by decide +kernel
theorem d_Tr_pick_49 : decode b_Tr_pick 49 = .ok (.astore_n 2, 1) := by decide +kernel
theorem d_Tr_pick_50 : decode b_Tr_pick 50 = .ok (.iinc 3 1, 3) := by decide +kernel
theorem d_Tr_pick_53 : decode b_Tr_pick 53 = .ok (.goto (-49), 3) := by decide +kernel
theorem d_Tr_pick_56 : decode b_Tr_pick 56 = .ok (.aload_n 2, 1) := by decide +kernel
theorem d_Tr_pick_57 : decode b_Tr_pick 57 = .ok (.areturn, 1) := by decide +kernel
theorem d_Tr_isBetter_0 : decode b_Tr_isBetter 0 = .ok (.iload_n 2, 1) := by decide +kernel
theorem d_Tr_isBetter_1 : decode b_Tr_isBetter 1 = .ok (.ifCond .eq 19, 3) := by decide +kernel
theorem d_Tr_isBetter_4 : decode b_Tr_isBetter 4 = .ok (.iload_n 2, 1) := by decide +kernel
theorem d_Tr_isBetter_5 : decode b_Tr_isBetter 5 = .ok (.iconst 1, 1) := by decide +kernel
theorem d_Tr_isBetter_6 : decode b_Tr_isBetter 6 = .ok (.if_icmp .ne 18, 3) := by decide +kernel
theorem d_Tr_isBetter_9 : decode b_Tr_isBetter 9 = .ok (.aload_n 0, 1) := by decide +kernel
theorem d_Tr_isBetter_10 : decode b_Tr_isBetter 10 = .ok (.getfield 34, 3) := by decide +kernel
theorem d_Tr_isBetter_13 : decode b_Tr_isBetter 13 = .ok (.aload_n 1, 1) := by decide +kernel
theorem d_Tr_isBetter_14 : decode b_Tr_isBetter 14 = .ok (.getfield 34, 3) := by decide +kernel
theorem d_Tr_isBetter_17 : decode b_Tr_isBetter 17 = .ok (.if_icmp .ge 7, 3) := by decide +kernel
theorem d_Tr_isBetter_20 : decode b_Tr_isBetter 20 = .ok (.iconst 1, 1) := by decide +kernel
theorem d_Tr_isBetter_21 : decode b_Tr_isBetter 21 = .ok (.goto 4, 3) := by decide +kernel
theorem d_Tr_isBetter_24 : decode b_Tr_isBetter 24 = .ok (.iconst 0, 1) := by decide +kernel
theorem d_Tr_isBetter_25 : decode b_Tr_isBetter 25 = .ok (.ireturn, 1) := by decide +kernel
theorem d_Se_workAt_0 : decode b_Se_workAt 0 = .ok (.aload_n 0, 1) := by decide +kernel
theorem d_Se_workAt_1 : decode b_Se_workAt 1 = .ok (.getfield 15, 3) := by decide +kernel
theorem d_Se_workAt_4 : decode b_Se_workAt 4 = .ok (.aload_n 1, 1) := by decide +kernel
theorem d_Se_workAt_5 : decode b_Se_workAt 5 = .ok (.getfield 61, 3) := by decide +kernel
theorem d_Se_workAt_8 : decode b_Se_workAt 8 = .ok (.invokevirtual 65, 3) := by decide +kernel
theorem d_Se_workAt_11 : decode b_Se_workAt 11 = .ok (.ifCond .eq 11, 3) := by decide +kernel
theorem d_Se_workAt_14 : decode b_Se_workAt 14 = .ok (.aload_n 1, 1) := by decide +kernel
theorem d_Se_workAt_15 : decode b_Se_workAt 15 = .ok (.iconst 3, 1) := by decide +kernel
theorem d_Se_workAt_16 : decode b_Se_workAt 16 = .ok (.putfield 71, 3) := by decide +kernel
theorem d_Se_workAt_19 : decode b_Se_workAt 19 = .ok (.goto 65, 3) := by decide +kernel
theorem d_Se_workAt_22 : decode b_Se_workAt 22 = .ok (.aload_n 0, 1) := by decide +kernel
theorem d_Se_workAt_23 : decode b_Se_workAt 23 = .ok (.aload_n 1, 1) := by decide +kernel
theorem d_Se_workAt_24 : decode b_Se_workAt 24 = .ok (.getfield 47, 3) := by decide +kernel
theorem d_Se_workAt_27 : decode b_Se_workAt 27 = .ok (.invokevirtual 74, 3) := by decide +kernel
theorem d_Se_workAt_30 : decode b_Se_workAt 30 = .ok (.istore_n 2, 1) := by decide +kernel
theorem d_Se_workAt_31 : decode b_Se_workAt 31 = .ok (.iload_n 2, 1) := by decide +kernel
theorem d_Se_workAt_32 : decode b_Se_workAt 32 = .ok (.bipush (-2), 2) := by decide +kernel
theorem d_Se_workAt_34 : decode b_Se_workAt 34 = .ok (.if_icmp .ne 29, 3) := by decide +kernel
theorem d_Se_workAt_37 : decode b_Se_workAt 37 = .ok (.aload_n 1, 1) := by decide +kernel
theorem d_Se_workAt_38 : decode b_Se_workAt 38 = .ok (.iconst 4, 1) := by decide +kernel
theorem d_Se_workAt_39 : decode b_Se_workAt 39 = .ok (.putfield 71, 3) := by decide +kernel
theorem d_Se_workAt_42 : decode b_Se_workAt 42 = .ok (.aload_n 0, 1) := by decide +kernel
theorem d_Se_workAt_43 : decode b_Se_workAt 43 = .ok (.getfield 15, 3) := by decide +kernel
theorem d_Se_workAt_46 : decode b_Se_workAt 46 = .ok (.aload_n 1, 1) := by decide +kernel
theorem d_Se_workAt_47 : decode b_Se_workAt 47 = .ok (.getfield 47, 3) := by decide +kernel
theorem d_Se_workAt_50 : decode b_Se_workAt 50 = .ok (.getfield 77, 3) := by decide +kernel
theorem d_Se_workAt_53 : decode b_Se_workAt 53 = .ok (.aload_n 1, 1) := by decide +kernel
theorem d_Se_workAt_54 : decode b_Se_workAt 54 = .ok (.getfield 61, 3) := by decide +kernel
theorem d_Se_workAt_57 : decode b_Se_workAt 57 = .ok (.invokevirtual 82, 3) := by decide +kernel
theorem d_Se_workAt_60 : decode b_Se_workAt 60 = .ok (.goto 24, 3) := by decide +kernel
theorem d_Se_workAt_63 : decode b_Se_workAt 63 = .ok (.aload_n 0, 1) := by decide +kernel
theorem d_Se_workAt_64 : decode b_Se_workAt 64 = .ok (.getfield 23, 3) := by decide +kernel
theorem d_Se_workAt_67 : decode b_Se_workAt 67 = .ok (.invokevirtual 86, 3) := by decide +kernel
theorem d_Se_workAt_70 : decode b_Se_workAt 70 = .ok (.ifCond .eq 12, 3) := by decide +kernel
theorem d_Se_workAt_73 : decode b_Se_workAt 73 = .ok (.aload_n 0, 1) := by decide +kernel
theorem d_Se_workAt_74 : decode b_Se_workAt 74 = .ok (.aload_n 1, 1) := by decide +kernel
theorem d_Se_workAt_75 : decode b_Se_workAt 75 = .ok (.iload_n 2, 1) := by decide +kernel
theorem d_Se_workAt_76 : decode b_Se_workAt 76 = .ok (.invokevirtual 90, 3) := by decide +kernel
theorem d_Se_workAt_79 : decode b_Se_workAt 79 = .ok (.goto 5, 3) := by decide +kernel
theorem d_Se_workAt_82 : decode b_Se_workAt 82 = .ok (.iconst 0, 1) := by decide +kernel
theorem d_Se_workAt_83 : decode b_Se_workAt 83 = .ok (.ireturn, 1) := by decide +kernel
theorem d_Se_workAt_84 : decode b_Se_workAt 84 = .ok (.aload_n 0, 1) := by decide +kernel
theorem d_Se_workAt_85 : decode b_Se_workAt 85 = .ok (.getfield 23, 3) := by decide +kernel
theorem d_Se_workAt_88 : decode b_Se_workAt 88 = .ok (.dup, 1) := by decide +kernel
theorem d_Se_workAt_89 : decode b_Se_workAt 89 = .ok (.getfield 94, 3) := by decide +kernel
theorem d_Se_workAt_92 : decode b_Se_workAt 92 = .ok (.iconst 1, 1) := by decide +kernel
theorem d_Se_workAt_93 : decode b_Se_workAt 93 = .ok (.iadd, 1) := by decide +kernel
theorem d_Se_workAt_94 : decode b_Se_workAt 94 = .ok (.putfield 94, 3) := by decide +kernel
theorem d_Se_workAt_97 : decode b_Se_workAt 97 = .ok (.iconst 1, 1) := by decide +kernel
theorem d_Se_workAt_98 : decode b_Se_workAt 98 = .ok (.ireturn, 1) := by decide +kernel
theorem d_Se_choose_0 : decode b_Se_choose 0 = .ok (.bipush (-2), 2) := by decide +kernel
theorem d_Se_choose_2 : decode b_Se_choose 2 = .ok (.istore_n 2, 1) := by decide +kernel
theorem d_Se_choose_3 : decode b_Se_choose 3 = .ok (.iconst 0, 1) := by decide +kernel
theorem d_Se_choose_4 : decode b_Se_choose 4 = .ok (.istore_n 3, 1) := by decide +kernel
theorem d_Se_choose_5 : decode b_Se_choose 5 = .ok (.iconst 0, 1) := by decide +kernel
theorem d_Se_choose_6 : decode b_Se_choose 6 = .ok (.istore 4, 2) := by decide +kernel
theorem d_Se_choose_8 : decode b_Se_choose 8 = .ok (.iload 4, 2) := by decide +kernel
theorem d_Se_choose_10 : decode b_Se_choose 10 = .ok (.aload_n 0, 1) := by decide +kernel
theorem d_Se_choose_11 : decode b_Se_choose 11 = .ok (.getfield 9, 3) := by decide +kernel
theorem d_Se_choose_14 : decode b_Se_choose 14 = .ok (.getfield 97, 3) := by decide +kernel
theorem d_Se_choose_17 : decode b_Se_choose 17 = .ok (.if_icmp .ge 53, 3) := by decide +kernel
theorem d_Se_choose_20 : decode b_Se_choose 20 = .ok (.aload_n 1, 1) := by decide +kernel
theorem d_Se_choose_21 : decode b_Se_choose 21 = .ok (.getfield 77, 3) := by decide +kernel
theorem d_Se_choose_24 : decode b_Se_choose 24 = .ok (.iload 4, 2) := by decide +kernel
theorem d_Se_choose_26 : decode b_Se_choose 26 = .ok (.iaload, 1) := by decide +kernel
theorem d_Se_choose_27 : decode b_Se_choose 27 = .ok (.aload_n 1, 1) := by decide +kernel
theorem d_Se_choose_28 : decode b_Se_choose 28 = .ok (.getfield 102, 3) := by decide +kernel
theorem d_Se_choose_31 : decode b_Se_choose 31 = .ok (.iload 4, 2) := by decide +kernel
theorem d_Se_choose_33 : decode b_Se_choose 33 = .ok (.iaload, 1) := by decide +kernel
theorem d_Se_choose_34 : decode b_Se_choose 34 = .ok (.if_icmp .ge 30, 3) := by decide +kernel
theorem d_Se_choose_37 : decode b_Se_choose 37 = .ok (.aload_n 0, 1) := by decide +kernel
theorem d_Se_choose_38 : decode b_Se_choose 38 = .ok (.aload_n 1, 1) := by decide +kernel
theorem d_Se_choose_39 : decode b_Se_choose 39 = .ok (.iload 4, 2) := by decide +kernel
theorem d_Se_choose_41 : decode b_Se_choose 41 = .ok (.invokevirtual 105, 3) := by decide +kernel
theorem d_Se_choose_44 : decode b_Se_choose 44 = .ok (.istore 5, 2) := by decide +kernel
theorem d_Se_choose_46 : decode b_Se_choose 46 = .ok (.iload_n 2, 1) := by decide +kernel
theorem d_Se_choose_47 : decode b_Se_choose 47 = .ok (.bipush (-2), 2) := by decide +kernel
theorem d_Se_choose_49 : decode b_Se_choose 49 = .ok (.if_icmp .eq 9, 3) := by decide +kernel
theorem d_Se_choose_52 : decode b_Se_choose 52 = .ok (.iload 5, 2) := by decide +kernel
theorem d_Se_choose_54 : decode b_Se_choose 54 = .ok (.iload_n 3, 1) := by decide +kernel
theorem d_Se_choose_55 : decode b_Se_choose 55 = .ok (.if_icmp .le 9, 3) := by decide +kernel
theorem d_Se_choose_58 : decode b_Se_choose 58 = .ok (.iload 4, 2) := by decide +kernel
theorem d_Se_choose_60 : decode b_Se_choose 60 = .ok (.istore_n 2, 1) := by decide +kernel
theorem d_Se_choose_61 : decode b_Se_choose 61 = .ok (.iload 5, 2) := by decide +kernel
theorem d_Se_choose_63 : decode b_Se_choose 63 = .ok (.istore_n 3, 1) := by decide +kernel
theorem d_Se_choose_64 : decode b_Se_choose 64 = .ok (.iinc 4 1, 3) := by decide +kernel
theorem d_Se_choose_67 : decode b_Se_choose 67 = .ok (.goto (-59), 3) := by decide +kernel
theorem d_Se_choose_70 : decode b_Se_choose 70 = .ok (.iload_n 2, 1) := by decide +kernel
theorem d_Se_choose_71 : decode b_Se_choose 71 = .ok (.ireturn, 1) := by decide +kernel
theorem d_Se_meritOf_0 : decode b_Se_meritOf 0 = .ok (.aload_n 0, 1) := by decide +kernel
theorem d_Se_meritOf_1 : decode b_Se_meritOf 1 = .ok (.getfield 31, 3) := by decide +kernel
theorem d_Se_meritOf_4 : decode b_Se_meritOf 4 = .ok (.iconst 1, 1) := by decide +kernel
theorem d_Se_meritOf_5 : decode b_Se_meritOf 5 = .ok (.iaload, 1) := by decide +kernel
theorem d_Se_meritOf_6 : decode b_Se_meritOf 6 = .ok (.tableswitch 62 1 3 #[26, 40, 49], 26) := by decide +kernel
theorem d_Se_meritOf_32 : decode b_Se_meritOf 32 = .ok (.aload_n 1, 1) := by decide +kernel
theorem d_Se_meritOf_33 : decode b_Se_meritOf 33 = .ok (.getfield 77, 3) := by decide +kernel
theorem d_Se_meritOf_36 : decode b_Se_meritOf 36 = .ok (.iload_n 2, 1) := by decide +kernel
theorem d_Se_meritOf_37 : decode b_Se_meritOf 37 = .ok (.iaload, 1) := by decide +kernel
theorem d_Se_meritOf_38 : decode b_Se_meritOf 38 = .ok (.aload_n 1, 1) := by decide +kernel
theorem d_Se_meritOf_39 : decode b_Se_meritOf 39 = .ok (.getfield 102, 3) := by decide +kernel
theorem d_Se_meritOf_42 : decode b_Se_meritOf 42 = .ok (.iload_n 2, 1) := by decide +kernel
theorem d_Se_meritOf_43 : decode b_Se_meritOf 43 = .ok (.iaload, 1) := by decide +kernel
theorem d_Se_meritOf_44 : decode b_Se_meritOf 44 = .ok (.isub, 1) := by decide +kernel
theorem d_Se_meritOf_45 : decode b_Se_meritOf 45 = .ok (.ireturn, 1) := by decide +kernel
theorem d_Se_meritOf_46 : decode b_Se_meritOf 46 = .ok (.aload_n 0, 1) := by decide +kernel
theorem d_Se_meritOf_47 : decode b_Se_meritOf 47 = .ok (.getfield 19, 3) := by decide +kernel
theorem d_Se_meritOf_50 : decode b_Se_meritOf 50 = .ok (.iload_n 2, 1) := by decide +kernel
theorem d_Se_meritOf_51 : decode b_Se_meritOf 51 = .ok (.invokevirtual 109, 3) := by decide +kernel
theorem d_Se_meritOf_54 : decode b_Se_meritOf 54 = .ok (.ireturn, 1) := by decide +kernel
theorem d_Se_meritOf_55 : decode b_Se_meritOf 55 = .ok (.aload_n 0, 1) := by decide +kernel
theorem d_Se_meritOf_56 : decode b_Se_meritOf 56 = .ok (.getfield 9, 3) := by decide +kernel
theorem d_Se_meritOf_59 : decode b_Se_meritOf 59 = .ok (.getfield 115, 3) := by decide +kernel
theorem d_Se_meritOf_62 : decode b_Se_meritOf 62 = .ok (.iload_n 2, 1) := by decide +kernel
theorem d_Se_meritOf_63 : decode b_Se_meritOf 63 = .ok (.iaload, 1) := by decide +kernel
theorem d_Se_meritOf_64 : decode b_Se_meritOf 64 = .ok (.invokestatic 118, 3) := by decide +kernel
theorem d_Se_meritOf_67 : decode b_Se_meritOf 67 = .ok (.ireturn, 1) := by decide +kernel
theorem d_Se_meritOf_68 : decode b_Se_meritOf 68 = .ok (.iconst 0, 1) := by decide +kernel
theorem d_Se_meritOf_69 : decode b_Se_meritOf 69 = .ok (.ireturn, 1) := by decide +kernel
theorem d_Pr_priceOf_0 : decode b_Pr_priceOf 0 = .ok (.aload_n 0, 1) := by decide +kernel
theorem d_Pr_priceOf_1 : decode b_Pr_priceOf 1 = .ok (.getfield 15, 3) := by decide +kernel
theorem d_Pr_priceOf_4 : decode b_Pr_priceOf 4 = .ok (.iload_n 1, 1) := by decide +kernel
theorem d_Pr_priceOf_5 : decode b_Pr_priceOf 5 = .ok (.iaload, 1) := by decide +kernel
theorem d_Pr_priceOf_6 : decode b_Pr_priceOf 6 = .ok (.ifCond .le 25, 3) := by decide +kernel
theorem d_Pr_priceOf_9 : decode b_Pr_priceOf 9 = .ok (.ldc2_w 19, 3) := by decide +kernel
theorem d_Pr_priceOf_12 : decode b_Pr_priceOf 12 = .ok (.aload_n 0, 1) := by decide +kernel
theorem d_Pr_priceOf_13 : decode b_Pr_priceOf 13 = .ok (.getfield 9, 3) := by decide +kernel
theorem d_Pr_priceOf_16 : decode b_Pr_priceOf 16 = .ok (.iload_n 1, 1) := by decide +kernel
theorem d_Pr_priceOf_17 : decode b_Pr_priceOf 17 = .ok (.laload, 1) := by decide +kernel
theorem d_Pr_priceOf_18 : decode b_Pr_priceOf 18 = .ok (.lmul, 1) := by decide +kernel
theorem d_Pr_priceOf_19 : decode b_Pr_priceOf 19 = .ok (.aload_n 0, 1) := by decide +kernel
theorem d_Pr_priceOf_20 : decode b_Pr_priceOf 20 = .ok (.getfield 15, 3) := by decide +kernel
theorem d_Pr_priceOf_23 : decode b_Pr_priceOf 23 = .ok (.iload_n 1, 1) := by decide +kernel
theorem d_Pr_priceOf_24 : decode b_Pr_priceOf 24 = .ok (.iaload, 1) := by decide +kernel
theorem d_Pr_priceOf_25 : decode b_Pr_priceOf 25 = .ok (.i2l, 1) := by decide +kernel
theorem d_Pr_priceOf_26 : decode b_Pr_priceOf 26 = .ok (.ldiv, 1) := by decide +kernel
theorem d_Pr_priceOf_27 : decode b_Pr_priceOf 27 = .ok (.l2i, 1) := by decide +kernel
theorem d_Pr_priceOf_28 : decode b_Pr_priceOf 28 = .ok (.goto 4, 3) := by decide +kernel
theorem d_Pr_priceOf_31 : decode b_Pr_priceOf 31 = .ok (.iconst 0, 1) := by decide +kernel
theorem d_Pr_priceOf_32 : decode b_Pr_priceOf 32 = .ok (.ireturn, 1) := by decide +kernel
theorem d_Ma_abs_0 : decode b_Ma_abs 0 = .ok (.iload_n 0, 1) := by decide +kernel
theorem d_Ma_abs_1 : decode b_Ma_abs 1 = .ok (.ifCond .ge 8, 3) := by decide +kernel
theorem d_Ma_abs_4 : decode b_Ma_abs 4 = .ok (.iload_n 0, 1) := by decide +kernel
theorem d_Ma_abs_5 : decode b_Ma_abs 5 = .ok (.ineg, 1) := by decide +kernel
theorem d_Ma_abs_6 : decode b_Ma_abs 6 = .ok (.goto 4, 3) := by decide +kernel
theorem d_Ma_abs_9 : decode b_Ma_abs 9 = .ok (.iload_n 0, 1) := by decide +kernel
theorem d_Ma_abs_10 : decode b_Ma_abs 10 = .ok (.ireturn, 1) := by decide +kernel
theorem d_Tr_hasRoomForTwo_0 : decode b_Tr_hasRoomForTwo 0 = .ok (.aload_n 0, 1) := by decide +kernel
theorem d_Tr_hasRoomForTwo_1 : decode b_Tr_hasRoomForTwo 1 = .ok (.getfield 17, 3) := by decide +kernel
theorem d_Tr_hasRoomForTwo_4 : decode b_Tr_hasRoomForTwo 4 = .ok (.iconst 2, 1) := by decide +kernel
theorem d_Tr_hasRoomForTwo_5 : decode b_Tr_hasRoomForTwo 5 = .ok (.iadd, 1) := by decide +kernel
theorem d_Tr_hasRoomForTwo_6 : decode b_Tr_hasRoomForTwo 6 = .ok (.sipush 600, 3) := by decide +kernel
theorem d_Tr_hasRoomForTwo_9 : decode b_Tr_hasRoomForTwo 9 = .ok (.if_icmp .gt 7, 3) := by decide +kernel
theorem d_Tr_hasRoomForTwo_12 : decode b_Tr_hasRoomForTwo 12 = .ok (.iconst 1, 1) := by decide +kernel
theorem d_Tr_hasRoomForTwo_13 : decode b_Tr_hasRoomForTwo 13 = .ok (.goto 4, 3) := by decide +kernel
theorem d_Tr_hasRoomForTwo_16 : decode b_Tr_hasRoomForTwo 16 = .ok (.iconst 0, 1) := by decide +kernel
theorem d_Tr_hasRoomForTwo_17 : decode b_Tr_hasRoomForTwo 17 = .ok (.ireturn, 1) := by decide +kernel
theorem d_Se_part_0 : decode b_Se_part 0 = .ok (.aload_n 1, 1) := by decide +kernel
theorem d_Se_part_1 : decode b_Se_part 1 = .ok (.getfield 47, 3) := by decide +kernel
theorem d_Se_part_4 : decode b_Se_part 4 = .ok (.getfield 77, 3) := by decide +kernel
theorem d_Se_part_7 : decode b_Se_part 7 = .ok (.iload_n 2, 1) := by decide +kernel
theorem d_Se_part_8 : decode b_Se_part 8 = .ok (.iaload, 1) := by decide +kernel
theorem d_Se_part_9 : decode b_Se_part 9 = .ok (.aload_n 1, 1) := by decide +kernel
theorem d_Se_part_10 : decode b_Se_part 10 = .ok (.getfield 47, 3) := by decide +kernel
theorem d_Se_part_13 : decode b_Se_part 13 = .ok (.getfield 102, 3) := by decide +kernel
theorem d_Se_part_16 : decode b_Se_part 16 = .ok (.iload_n 2, 1) := by decide +kernel
theorem d_Se_part_17 : decode b_Se_part 17 = .ok (.iaload, 1) := by decide +kernel
theorem d_Se_part_18 : decode b_Se_part 18 = .ok (.iadd, 1) := by decide +kernel
theorem d_Se_part_19 : decode b_Se_part 19 = .ok (.iconst 2, 1) := by decide +kernel
theorem d_Se_part_20 : decode b_Se_part 20 = .ok (.invokestatic 123, 3) := by decide +kernel
theorem d_Se_part_23 : decode b_Se_part 23 = .ok (.istore_n 3, 1) := by decide +kernel
theorem d_Se_part_24 : decode b_Se_part 24 = .ok (.aload_n 1, 1) := by decide +kernel
theorem d_Se_part_25 : decode b_Se_part 25 = .ok (.iconst 1, 1) := by decide +kernel
theorem d_Se_part_26 : decode b_Se_part 26 = .ok (.putfield 71, 3) := by decide +kernel
theorem d_Se_part_29 : decode b_Se_part 29 = .ok (.aload_n 1, 1) := by decide +kernel
theorem d_Se_part_30 : decode b_Se_part 30 = .ok (.iload_n 2, 1) := by decide +kernel
theorem d_Se_part_31 : decode b_Se_part 31 = .ok (.putfield 127, 3) := by decide +kernel
theorem d_Se_part_34 : decode b_Se_part 34 = .ok (.aload_n 0, 1) := by decide +kernel
theorem d_Se_part_35 : decode b_Se_part 35 = .ok (.getfield 31, 3) := by decide +kernel
theorem d_Se_part_38 : decode b_Se_part 38 = .ok (.iconst 2, 1) := by decide +kernel
theorem d_Se_part_39 : decode b_Se_part 39 = .ok (.iaload, 1) := by decide +kernel
theorem d_Se_part_40 : decode b_Se_part 40 = .ok (.istore 4, 2) := by decide +kernel
theorem d_Se_part_42 : decode b_Se_part 42 = .ok (.iconst 0, 1) := by decide +kernel
theorem d_Se_part_43 : decode b_Se_part 43 = .ok (.istore 5, 2) := by decide +kernel
theorem d_Se_part_45 : decode b_Se_part 45 = .ok (.iconst 0, 1) := by decide +kernel
theorem d_Se_part_46 : decode b_Se_part 46 = .ok (.istore 6, 2) := by decide +kernel
theorem d_Se_part_48 : decode b_Se_part 48 = .ok (.iload 6, 2) := by decide +kernel
theorem d_Se_part_50 : decode b_Se_part 50 = .ok (.iconst 2, 1) := by decide +kernel
theorem d_Se_part_51 : decode b_Se_part 51 = .ok (.if_icmp .ge 91, 3) := by decide +kernel
theorem d_Se_part_54 : decode b_Se_part 54 = .ok (.aload_n 0, 1) := by decide +kernel
theorem d_Se_part_55 : decode b_Se_part 55 = .ok (.getfield 23, 3) := by decide +kernel
theorem d_Se_part_58 : decode b_Se_part 58 = .ok (.invokevirtual 35, 3) := by decide +kernel
theorem d_Se_part_61 : decode b_Se_part 61 = .ok (.astore 7, 2) := by decide +kernel
theorem d_Se_part_63 : decode b_Se_part 63 = .ok (.aload 7, 2) := by decide +kernel
theorem d_Se_part_65 : decode b_Se_part 65 = .ok (.ifnull 65, 3) := by decide +kernel
theorem d_Se_part_68 : decode b_Se_part 68 = .ok (.aload 7, 2) := by decide +kernel
theorem d_Se_part_70 : decode b_Se_part 70 = .ok (.aload_n 1, 1) := by decide +kernel
theorem d_Se_part_71 : decode b_Se_part 71 = .ok (.iload_n 2, 1) := by decide +kernel
theorem d_Se_part_72 : decode b_Se_part 72 = .ok (.iload 4, 2) := by decide +kernel
theorem d_Se_part_74 : decode b_Se_part 74 = .ok (.iload_n 3, 1) := by decide +kernel
theorem d_Se_part_75 : decode b_Se_part 75 = .ok (.iload 4, 2) := by decide +kernel
theorem d_Se_part_77 : decode b_Se_part 77 = .ok (.iadd, 1) := by decide +kernel
theorem d_Se_part_78 : decode b_Se_part 78 = .ok (.invokevirtual 130, 3) := by decide +kernel
theorem d_Se_part_81 : decode b_Se_part 81 = .ok (.aload 7, 2) := by decide +kernel
theorem d_Se_part_83 : decode b_Se_part 83 = .ok (.aload_n 0, 1) := by decide +kernel
theorem d_Se_part_84 : decode b_Se_part 84 = .ok (.getfield 27, 3) := by decide +kernel
theorem d_Se_part_87 : decode b_Se_part 87 = .ok (.aload 7, 2) := by decide +kernel
theorem d_Se_part_89 : decode b_Se_part 89 = .ok (.getfield 47, 3) := by decide +kernel
theorem d_Se_part_92 : decode b_Se_part 92 = .ok (.invokevirtual 51, 3) := by decide +kernel
theorem d_Se_part_95 : decode b_Se_part 95 = .ok (.aload_n 0, 1) := by decide +kernel
theorem d_Se_part_96 : decode b_Se_part 96 = .ok (.getfield 9, 3) := by decide +kernel
theorem d_Se_part_99 : decode b_Se_part 99 = .ok (.invokevirtual 57, 3) := by decide +kernel
theorem d_Se_part_102 : decode b_Se_part 102 = .ok (.iload 5, 2) := by decide +kernel
theorem d_Se_part_104 : decode b_Se_part 104 = .ok (.aload 7, 2) := by decide +kernel
theorem d_Se_part_106 : decode b_Se_part 106 = .ok (.getfield 71, 3) := by decide +kernel
theorem d_Se_part_109 : decode b_Se_part 109 = .ok (.ifCond .ne 16, 3) := by decide +kernel
theorem d_Se_part_112 : decode b_Se_part 112 = .ok (.aload 7, 2) := by decide +kernel
theorem d_Se_part_114 : decode b_Se_part 114 = .ok (.getfield 61, 3) := by decide +kernel
theorem d_Se_part_117 : decode b_Se_part 117 = .ok (.aload_n 1, 1) := by decide +kernel
theorem d_Se_part_118 : decode b_Se_part 118 = .ok (.getfield 61, 3) := by decide +kernel
theorem d_Se_part_121 : decode b_Se_part 121 = .ok (.isub, 1) := by decide +kernel
theorem d_Se_part_122 : decode b_Se_part 122 = .ok (.goto 5, 3) := by decide +kernel
theorem d_Se_part_125 : decode b_Se_part 125 = .ok (.bipush 50, 2) := by decide +kernel
theorem d_Se_part_127 : decode b_Se_part 127 = .ok (.iadd, 1) := by decide +kernel
theorem d_Se_part_128 : decode b_Se_part 128 = .ok (.istore 5, 2) := by decide +kernel
theorem d_Se_part_130 : decode b_Se_part 130 = .ok (.iconst 1, 1) := by decide +kernel
theorem d_Se_part_131 : decode b_Se_part 131 = .ok (.iload 4, 2) := by decide +kernel
theorem d_Se_part_133 : decode b_Se_part 133 = .ok (.isub, 1) := by decide +kernel
theorem d_Se_part_134 : decode b_Se_part 134 = .ok (.istore 4, 2) := by decide +kernel
theorem d_Se_part_136 : decode b_Se_part 136 = .ok (.iinc 6 1, 3) := by decide +kernel
theorem d_Se_part_139 : decode b_Se_part 139 = .ok (.goto (-91), 3) := by decide +kernel
theorem d_Se_part_142 : decode b_Se_part 142 = .ok (.aload_n 0, 1) := by decide +kernel
theorem d_Se_part_143 : decode b_Se_part 143 = .ok (.getfield 19, 3) := by decide +kernel
theorem d_Se_part_146 : decode b_Se_part 146 = .ok (.iload_n 2, 1) := by decide +kernel
theorem d_Se_part_147 : decode b_Se_part 147 = .ok (.iload 5, 2) := by decide +kernel
theorem d_Se_part_149 : decode b_Se_part 149 = .ok (.invokevirtual 134, 3) := by decide +kernel
theorem d_Se_part_152 : decode b_Se_part 152 = .ok (.return_, 1) := by decide +kernel
theorem d_Ma_floorDiv_0 : decode b_Ma_floorDiv 0 = .ok (.iload_n 0, 1) := by decide +kernel
theorem d_Ma_floorDiv_1 : decode b_Ma_floorDiv 1 = .ok (.iload_n 1, 1) := by decide +kernel
theorem d_Ma_floorDiv_2 : decode b_Ma_floorDiv 2 = .ok (.idiv, 1) := by decide +kernel
theorem d_Ma_floorDiv_3 : decode b_Ma_floorDiv 3 = .ok (.istore_n 2, 1) := by decide +kernel
theorem d_Ma_floorDiv_4 : decode b_Ma_floorDiv 4 = .ok (.iload_n 0, 1) := by decide +kernel
theorem d_Ma_floorDiv_5 : decode b_Ma_floorDiv 5 = .ok (.iload_n 1, 1) := by decide +kernel
theorem d_Ma_floorDiv_6 : decode b_Ma_floorDiv 6 = .ok (.ixor, 1) := by decide +kernel
theorem d_Ma_floorDiv_7 : decode b_Ma_floorDiv 7 = .ok (.ifCond .ge 14, 3) := by decide +kernel
theorem d_Ma_floorDiv_10 : decode b_Ma_floorDiv 10 = .ok (.iload_n 2, 1) := by decide +kernel
theorem d_Ma_floorDiv_11 : decode b_Ma_floorDiv 11 = .ok (.iload_n 1, 1) := by decide +kernel
theorem d_Ma_floorDiv_12 : decode b_Ma_floorDiv 12 = .ok (.imul, 1) := by decide +kernel
theorem d_Ma_floorDiv_13 : decode b_Ma_floorDiv 13 = .ok (.iload_n 0, 1) := by decide +kernel
theorem d_Ma_floorDiv_14 : decode b_Ma_floorDiv 14 = .ok (.if_icmp .eq 7, 3) := by decide +kernel
theorem d_Ma_floorDiv_17 : decode b_Ma_floorDiv 17 = .ok (.iload_n 2, 1) := by decide +kernel
theorem d_Ma_floorDiv_18 : decode b_Ma_floorDiv 18 = .ok (.iconst 1, 1) := by decide +kernel
theorem d_Ma_floorDiv_19 : decode b_Ma_floorDiv 19 = .ok (.isub, 1) := by decide +kernel
theorem d_Ma_floorDiv_20 : decode b_Ma_floorDiv 20 = .ok (.ireturn, 1) := by decide +kernel
theorem d_Ma_floorDiv_21 : decode b_Ma_floorDiv 21 = .ok (.iload_n 2, 1) := by decide +kernel
theorem d_Ma_floorDiv_22 : decode b_Ma_floorDiv 22 = .ok (.ireturn, 1) := by decide +kernel
theorem d_Nd_becomeChild_0 : decode b_Nd_becomeChild 0 = .ok (.aload_n 0, 1) := by decide +kernel
theorem d_Nd_becomeChild_1 : decode b_Nd_becomeChild 1 = .ok (.aload_n 1, 1) := by decide +kernel
theorem d_Nd_becomeChild_2 : decode b_Nd_becomeChild 2 = .ok (.getfield 18, 3) := by decide +kernel
theorem d_Nd_becomeChild_5 : decode b_Nd_becomeChild 5 = .ok (.putfield 22, 3) := by decide +kernel
theorem d_Nd_becomeChild_8 : decode b_Nd_becomeChild 8 = .ok (.aload_n 0, 1) := by decide +kernel
theorem d_Nd_becomeChild_9 : decode b_Nd_becomeChild 9 = .ok (.iload_n 2, 1) := by decide +kernel
theorem d_Nd_becomeChild_10 : decode b_Nd_becomeChild 10 = .ok (.putfield 25, 3) := by decide +kernel
theorem d_Nd_becomeChild_13 : decode b_Nd_becomeChild 13 = .ok (.aload_n 0, 1) := by decide +kernel
theorem d_Nd_becomeChild_14 : decode b_Nd_becomeChild 14 = .ok (.iload_n 3, 1) := by decide +kernel
theorem d_Nd_becomeChild_15 : decode b_Nd_becomeChild 15 = .ok (.putfield 28, 3) := by decide +kernel
theorem d_Nd_becomeChild_18 : decode b_Nd_becomeChild 18 = .ok (.aload_n 0, 1) := by decide +kernel
theorem d_Nd_becomeChild_19 : decode b_Nd_becomeChild 19 = .ok (.iload 4, 2) := by decide +kernel
theorem d_Nd_becomeChild_21 : decode b_Nd_becomeChild 21 = .ok (.putfield 31, 3) := by decide +kernel
theorem d_Nd_becomeChild_24 : decode b_Nd_becomeChild 24 = .ok (.aload_n 0, 1) := by decide +kernel
theorem d_Nd_becomeChild_25 : decode b_Nd_becomeChild 25 = .ok (.aload_n 1, 1) := by decide +kernel
theorem d_Nd_becomeChild_26 : decode b_Nd_becomeChild 26 = .ok (.getfield 34, 3) := by decide +kernel
theorem d_Nd_becomeChild_29 : decode b_Nd_becomeChild 29 = .ok (.iconst 1, 1) := by decide +kernel
theorem d_Nd_becomeChild_30 : decode b_Nd_becomeChild 30 = .ok (.iadd, 1) := by decide +kernel
theorem d_Nd_becomeChild_31 : decode b_Nd_becomeChild 31 = .ok (.putfield 34, 3) := by decide +kernel
theorem d_Nd_becomeChild_34 : decode b_Nd_becomeChild 34 = .ok (.aload_n 0, 1) := by decide +kernel
theorem d_Nd_becomeChild_35 : decode b_Nd_becomeChild 35 = .ok (.getfield 12, 3) := by decide +kernel
theorem d_Nd_becomeChild_38 : decode b_Nd_becomeChild 38 = .ok (.aload_n 1, 1) := by decide +kernel
theorem d_Nd_becomeChild_39 : decode b_Nd_becomeChild 39 = .ok (.getfield 12, 3) := by decide +kernel
theorem d_Nd_becomeChild_42 : decode b_Nd_becomeChild 42 = .ok (.getfield 50, 3) := by decide +kernel
theorem d_Nd_becomeChild_45 : decode b_Nd_becomeChild 45 = .ok (.aload_n 1, 1) := by decide +kernel
theorem d_Nd_becomeChild_46 : decode b_Nd_becomeChild 46 = .ok (.getfield 12, 3) := by decide +kernel
theorem d_Nd_becomeChild_49 : decode b_Nd_becomeChild 49 = .ok (.getfield 53, 3) := by decide +kernel
theorem d_Nd_becomeChild_52 : decode b_Nd_becomeChild 52 = .ok (.invokevirtual 46, 3) := by decide +kernel
theorem d_Nd_becomeChild_55 : decode b_Nd_becomeChild 55 = .ok (.aload_n 0, 1) := by decide +kernel
theorem d_Nd_becomeChild_56 : decode b_Nd_becomeChild 56 = .ok (.getfield 12, 3) := by decide +kernel
theorem d_Nd_becomeChild_59 : decode b_Nd_becomeChild 59 = .ok (.iload_n 2, 1) := by decide +kernel
theorem d_Nd_becomeChild_60 : decode b_Nd_becomeChild 60 = .ok (.iload_n 3, 1) := by decide +kernel
theorem d_Nd_becomeChild_61 : decode b_Nd_becomeChild 61 = .ok (.iload 4, 2) := by decide +kernel
theorem d_Nd_becomeChild_63 : decode b_Nd_becomeChild 63 = .ok (.invokevirtual 56, 3) := by decide +kernel
theorem d_Nd_becomeChild_66 : decode b_Nd_becomeChild 66 = .ok (.return_, 1) := by decide +kernel
theorem d_Bx_cut_0 : decode b_Bx_cut 0 = .ok (.iload_n 2, 1) := by decide +kernel
theorem d_Bx_cut_1 : decode b_Bx_cut 1 = .ok (.ifCond .ne 22, 3) := by decide +kernel
theorem d_Bx_cut_4 : decode b_Bx_cut 4 = .ok (.aload_n 0, 1) := by decide +kernel
theorem d_Bx_cut_5 : decode b_Bx_cut 5 = .ok (.getfield 15, 3) := by decide +kernel
theorem d_Bx_cut_8 : decode b_Bx_cut 8 = .ok (.iload_n 1, 1) := by decide +kernel
theorem d_Bx_cut_9 : decode b_Bx_cut 9 = .ok (.aload_n 0, 1) := by decide +kernel
theorem d_Bx_cut_10 : decode b_Bx_cut 10 = .ok (.getfield 15, 3) := by decide +kernel
theorem d_Bx_cut_13 : decode b_Bx_cut 13 = .ok (.iload_n 1, 1) := by decide +kernel
theorem d_Bx_cut_14 : decode b_Bx_cut 14 = .ok (.iaload, 1) := by decide +kernel
theorem d_Bx_cut_15 : decode b_Bx_cut 15 = .ok (.iload_n 3, 1) := by decide +kernel
theorem d_Bx_cut_16 : decode b_Bx_cut 16 = .ok (.invokestatic 18, 3) := by decide +kernel
theorem d_Bx_cut_19 : decode b_Bx_cut 19 = .ok (.iastore, 1) := by decide +kernel
theorem d_Bx_cut_20 : decode b_Bx_cut 20 = .ok (.goto 19, 3) := by decide +kernel
theorem d_Bx_cut_23 : decode b_Bx_cut 23 = .ok (.aload_n 0, 1) := by decide +kernel
theorem d_Bx_cut_24 : decode b_Bx_cut 24 = .ok (.getfield 9, 3) := by decide +kernel
theorem d_Bx_cut_27 : decode b_Bx_cut 27 = .ok (.iload_n 1, 1) := by decide +kernel
theorem d_Bx_cut_28 : decode b_Bx_cut 28 = .ok (.aload_n 0, 1) := by decide +kernel
theorem d_Bx_cut_29 : decode b_Bx_cut 29 = .ok (.getfield 9, 3) := by decide +kernel
theorem d_Bx_cut_32 : decode b_Bx_cut 32 = .ok (.iload_n 1, 1) := by decide +kernel
theorem d_Bx_cut_33 : decode b_Bx_cut 33 = .ok (.iaload, 1) := by decide +kernel
theorem d_Bx_cut_34 : decode b_Bx_cut 34 = .ok (.iload_n 3, 1) := by decide +kernel
theorem d_Bx_cut_35 : decode b_Bx_cut 35 = .ok (.invokestatic 24, 3) := by decide +kernel
theorem d_Bx_cut_38 : decode b_Bx_cut 38 = .ok (.iastore, 1) := by decide +kernel
theorem d_Bx_cut_39 : decode b_Bx_cut 39 = .ok (.return_, 1) := by decide +kernel
theorem d_Ma_min_0 : decode b_Ma_min 0 = .ok (.iload_n 0, 1) := by decide +kernel
theorem d_Ma_min_1 : decode b_Ma_min 1 = .ok (.iload_n 1, 1) := by decide +kernel
theorem d_Ma_min_2 : decode b_Ma_min 2 = .ok (.if_icmp .gt 7, 3) := by decide +kernel
theorem d_Ma_min_5 : decode b_Ma_min 5 = .ok (.iload_n 0, 1) := by decide +kernel
theorem d_Ma_min_6 : decode b_Ma_min 6 = .ok (.goto 4, 3) := by decide +kernel
theorem d_Ma_min_9 : decode b_Ma_min 9 = .ok (.iload_n 1, 1) := by decide +kernel
theorem d_Ma_min_10 : decode b_Ma_min 10 = .ok (.ireturn, 1) := by decide +kernel
theorem d_Ma_max_0 : decode b_Ma_max 0 = .ok (.iload_n 0, 1) := by decide +kernel
theorem d_Ma_max_1 : decode b_Ma_max 1 = .ok (.iload_n 1, 1) := by decide +kernel
theorem d_Ma_max_2 : decode b_Ma_max 2 = .ok (.if_icmp .lt 7, 3) := by decide +kernel
theorem d_Ma_max_5 : decode b_Ma_max 5 = .ok (.iload_n 0, 1) := by decide +kernel
theorem d_Ma_max_6 : decode b_Ma_max 6 = .ok (.goto 4, 3) := by decide +kernel
theorem d_Ma_max_9 : decode b_Ma_max 9 = .ok (.iload_n 1, 1) := by decide +kernel
theorem d_Ma_max_10 : decode b_Ma_max 10 = .ok (.ireturn, 1) := by decide +kernel
theorem d_Pr_learn_0 : decode b_Pr_learn 0 = .ok (.aload_n 0, 1) := by decide +kernel
theorem d_Pr_learn_1 : decode b_Pr_learn 1 = .ok (.getfield 9, 3) := by decide +kernel
theorem d_Pr_learn_4 : decode b_Pr_learn 4 = .ok (.iload_n 1, 1) := by decide +kernel
theorem d_Pr_learn_5 : decode b_Pr_learn 5 = .ok (.dup2, 1) := by decide +kernel
theorem d_Pr_learn_6 : decode b_Pr_learn 6 = .ok (.laload, 1) := by decide +kernel
theorem d_Pr_learn_7 : decode b_Pr_learn 7 = .ok (.iload_n 2, 1) := by decide +kernel
theorem d_Pr_learn_8 : decode b_Pr_learn 8 = .ok (.i2l, 1) := by decide +kernel
theorem d_Pr_learn_9 : decode b_Pr_learn 9 = .ok (.ladd, 1) := by decide +kernel
theorem d_Pr_learn_10 : decode b_Pr_learn 10 = .ok (.lastore, 1) := by decide +kernel
theorem d_Pr_learn_11 : decode b_Pr_learn 11 = .ok (.aload_n 0, 1) := by decide +kernel
theorem d_Pr_learn_12 : decode b_Pr_learn 12 = .ok (.getfield 15, 3) := by decide +kernel
theorem d_Pr_learn_15 : decode b_Pr_learn 15 = .ok (.iload_n 1, 1) := by decide +kernel
theorem d_Pr_learn_16 : decode b_Pr_learn 16 = .ok (.dup2, 1) := by decide +kernel
theorem d_Pr_learn_17 : decode b_Pr_learn 17 = .ok (.iaload, 1) := by decide +kernel
theorem d_Pr_learn_18 : decode b_Pr_learn 18 = .ok (.iconst 2, 1) := by decide +kernel
theorem d_Pr_learn_19 : decode b_Pr_learn 19 = .ok (.iadd, 1) := by decide +kernel
theorem d_Pr_learn_20 : decode b_Pr_learn 20 = .ok (.iastore, 1) := by decide +kernel
theorem d_Pr_learn_21 : decode b_Pr_learn 21 = .ok (.return_, 1) := by decide +kernel
theorem d_Tr_countOf_0 : decode b_Tr_countOf 0 = .ok (.iconst 0, 1) := by decide +kernel
theorem d_Tr_countOf_1 : decode b_Tr_countOf 1 = .ok (.istore_n 2, 1) := by decide +kernel
theorem d_Tr_countOf_2 : decode b_Tr_countOf 2 = .ok (.iconst 0, 1) := by decide +kernel
theorem d_Tr_countOf_3 : decode b_Tr_countOf 3 = .ok (.istore_n 3, 1) := by decide +kernel
theorem d_Tr_countOf_4 : decode b_Tr_countOf 4 = .ok (.iload_n 3, 1) := by decide +kernel
theorem d_Tr_countOf_5 : decode b_Tr_countOf 5 = .ok (.aload_n 0, 1) := by decide +kernel
theorem d_Tr_countOf_6 : decode b_Tr_countOf 6 = .ok (.getfield 17, 3) := by decide +kernel
theorem d_Tr_countOf_9 : decode b_Tr_countOf 9 = .ok (.if_icmp .ge 34, 3) := by decide +kernel
theorem d_Tr_countOf_12 : decode b_Tr_countOf 12 = .ok (.aload_n 0, 1) := by decide +kernel
theorem d_Tr_countOf_13 : decode b_Tr_countOf 13 = .ok (.getfield 11, 3) := by decide +kernel
theorem d_Tr_countOf_16 : decode b_Tr_countOf 16 = .ok (.iload_n 3, 1) := by decide +kernel
theorem d_Tr_countOf_17 : decode b_Tr_countOf 17 = .ok (.aaload, 1) := by decide +kernel
theorem d_Tr_countOf_18 : decode b_Tr_countOf 18 = .ok (.astore 4, 2) := by decide +kernel
theorem d_Tr_countOf_20 : decode b_Tr_countOf 20 = .ok (.aload 4, 2) := by decide +kernel
theorem d_Tr_countOf_22 : decode b_Tr_countOf 22 = .ok (.ifnull 15, 3) := by decide +kernel
theorem d_Tr_countOf_25 : decode b_Tr_countOf 25 = .ok (.aload 4, 2) := by decide +kernel
theorem d_Tr_countOf_27 : decode b_Tr_countOf 27 = .ok (.getfield 27, 3) := by decide +kernel
theorem d_Tr_countOf_30 : decode b_Tr_countOf 30 = .ok (.iload_n 1, 1) := by decide +kernel
theorem d_Tr_countOf_31 : decode b_Tr_countOf 31 = .ok (.if_icmp .ne 6, 3) := by decide +kernel
theorem d_Tr_countOf_34 : decode b_Tr_countOf 34 = .ok (.iinc 2 1, 3) := by decide +kernel
theorem d_Tr_countOf_37 : decode b_Tr_countOf 37 = .ok (.iinc 3 1, 3) := by decide +kernel
theorem d_Tr_countOf_40 : decode b_Tr_countOf 40 = .ok (.goto (-36), 3) := by decide +kernel
theorem d_Tr_countOf_43 : decode b_Tr_countOf 43 = .ok (.iload_n 2, 1) := by decide +kernel
theorem d_Tr_countOf_44 : decode b_Tr_countOf 44 = .ok (.ireturn, 1) := by decide +kernel
theorem d_BT_restart_0 : decode b_BT_restart 0 = .ok (.aload_n 0, 1) := by decide +kernel
theorem d_BT_restart_1 : decode b_BT_restart 1 = .ok (.getfield 33, 3) := by decide +kernel
theorem d_BT_restart_4 : decode b_BT_restart 4 = .ok (.getfield 127, 3) := by decide +kernel
theorem d_BT_restart_7 : decode b_BT_restart 7 = .ok (.istore_n 1, 1) := by decide +kernel
theorem d_BT_restart_8 : decode b_BT_restart 8 = .ok (.aload_n 0, 1) := by decide +kernel
theorem d_BT_restart_9 : decode b_BT_restart 9 = .ok (.getfield 33, 3) := by decide +kernel
theorem d_BT_restart_12 : decode b_BT_restart 12 = .ok (.invokevirtual 149, 3) := by decide +kernel
theorem d_BT_restart_15 : decode b_BT_restart 15 = .ok (.iload_n 1, 1) := by decide +kernel
theorem d_BT_restart_16 : decode b_BT_restart 16 = .ok (.ireturn, 1) := by decide +kernel
theorem d_BT_best_0 : decode b_BT_best 0 = .ok (.aload_n 0, 1) := by decide +kernel
theorem d_BT_best_1 : decode b_BT_best 1 = .ok (.getfield 19, 3) := by decide +kernel
theorem d_BT_best_4 : decode b_BT_best 4 = .ok (.getfield 145, 3) := by decide +kernel
theorem d_BT_best_7 : decode b_BT_best 7 = .ok (.ifCond .eq 16, 3) := by decide +kernel
theorem d_BT_best_10 : decode b_BT_best 10 = .ok (.iload_n 1, 1) := by decide +kernel
theorem d_BT_best_11 : decode b_BT_best 11 = .ok (.iconst (-1), 1) := by decide +kernel
theorem d_BT_best_12 : decode b_BT_best 12 = .ok (.if_icmp .ne 11, 3) := by decide +kernel
theorem d_BT_best_15 : decode b_BT_best 15 = .ok (.aload_n 0, 1) := by decide +kernel
theorem d_BT_best_16 : decode b_BT_best 16 = .ok (.getfield 19, 3) := by decide +kernel
theorem d_BT_best_19 : decode b_BT_best 19 = .ok (.getfield 152, 3) := by decide +kernel
theorem d_BT_best_22 : decode b_BT_best 22 = .ok (.ireturn, 1) := by decide +kernel
theorem d_BT_best_23 : decode b_BT_best 23 = .ok (.aload_n 0, 1) := by decide +kernel
theorem d_BT_best_24 : decode b_BT_best 24 = .ok (.getfield 19, 3) := by decide +kernel
theorem d_BT_best_27 : decode b_BT_best 27 = .ok (.getfield 145, 3) := by decide +kernel
theorem d_BT_best_30 : decode b_BT_best 30 = .ok (.ifCond .eq 14, 3) := by decide +kernel
theorem d_BT_best_33 : decode b_BT_best 33 = .ok (.aload_n 0, 1) := by decide +kernel
theorem d_BT_best_34 : decode b_BT_best 34 = .ok (.getfield 10, 3) := by decide +kernel
theorem d_BT_best_37 : decode b_BT_best 37 = .ok (.iload_n 1, 1) := by decide +kernel
theorem d_BT_best_38 : decode b_BT_best 38 = .ok (.invokevirtual 88, 3) := by decide +kernel
theorem d_BT_best_41 : decode b_BT_best 41 = .ok (.ifCond .ne 6, 3) := by decide +kernel
theorem d_BT_best_44 : decode b_BT_best 44 = .ok (.ldc 155, 2) := by decide +kernel
theorem d_BT_best_46 : decode b_BT_best 46 = .ok (.ireturn, 1) := by decide +kernel
theorem d_BT_best_47 : decode b_BT_best 47 = .ok (.aload_n 0, 1) := by decide +kernel
theorem d_BT_best_48 : decode b_BT_best 48 = .ok (.getfield 19, 3) := by decide +kernel
theorem d_BT_best_51 : decode b_BT_best 51 = .ok (.getfield 156, 3) := by decide +kernel
theorem d_BT_best_54 : decode b_BT_best 54 = .ok (.iload_n 1, 1) := by decide +kernel
theorem d_BT_best_55 : decode b_BT_best 55 = .ok (.iaload, 1) := by decide +kernel
theorem d_BT_best_56 : decode b_BT_best 56 = .ok (.ireturn, 1) := by decide +kernel
theorem d_BT_bound_0 : decode b_BT_bound 0 = .ok (.aload_n 0, 1) := by decide +kernel
theorem d_BT_bound_1 : decode b_BT_bound 1 = .ok (.getfield 33, 3) := by decide +kernel
theorem d_BT_bound_4 : decode b_BT_bound 4 = .ok (.getfield 127, 3) := by decide +kernel
theorem d_BT_bound_7 : decode b_BT_bound 7 = .ok (.ifCond .ne 6, 3) := by decide +kernel
theorem d_BT_bound_10 : decode b_BT_bound 10 = .ok (.ldc 155, 2) := by decide +kernel
theorem d_BT_bound_12 : decode b_BT_bound 12 = .ok (.ireturn, 1) := by decide +kernel
theorem d_BT_bound_13 : decode b_BT_bound 13 = .ok (.aload_n 0, 1) := by decide +kernel
theorem d_BT_bound_14 : decode b_BT_bound 14 = .ok (.getfield 33, 3) := by decide +kernel
theorem d_BT_bound_17 : decode b_BT_bound 17 = .ok (.aload_n 0, 1) := by decide +kernel
theorem d_BT_bound_18 : decode b_BT_bound 18 = .ok (.getfield 19, 3) := by decide +kernel
theorem d_BT_bound_21 : decode b_BT_bound 21 = .ok (.getfield 145, 3) := by decide +kernel
theorem d_BT_bound_24 : decode b_BT_bound 24 = .ok (.ifCond .eq 13, 3) := by decide +kernel
theorem d_BT_bound_27 : decode b_BT_bound 27 = .ok (.aload_n 0, 1) := by decide +kernel
theorem d_BT_bound_28 : decode b_BT_bound 28 = .ok (.getfield 19, 3) := by decide +kernel
theorem d_BT_bound_31 : decode b_BT_bound 31 = .ok (.getfield 152, 3) := by decide +kernel
theorem d_BT_bound_34 : decode b_BT_bound 34 = .ok (.goto 5, 3) := by decide +kernel
theorem d_BT_bound_37 : decode b_BT_bound 37 = .ok (.ldc 159, 2) := by decide +kernel
theorem d_BT_bound_39 : decode b_BT_bound 39 = .ok (.invokevirtual 160, 3) := by decide +kernel
theorem d_BT_bound_42 : decode b_BT_bound 42 = .ok (.ireturn, 1) := by decide +kernel
theorem d_Tr_leastOpen_0 : decode b_Tr_leastOpen 0 = .ok (.iload_n 1, 1) := by decide +kernel
theorem d_Tr_leastOpen_1 : decode b_Tr_leastOpen 1 = .ok (.istore_n 2, 1) := by decide +kernel
theorem d_Tr_leastOpen_2 : decode b_Tr_leastOpen 2 = .ok (.iconst 0, 1) := by decide +kernel
theorem d_Tr_leastOpen_3 : decode b_Tr_leastOpen 3 = .ok (.istore_n 3, 1) := by decide +kernel
theorem d_Tr_leastOpen_4 : decode b_Tr_leastOpen 4 = .ok (.iload_n 3, 1) := by decide +kernel
theorem d_Tr_leastOpen_5 : decode b_Tr_leastOpen 5 = .ok (.aload_n 0, 1) := by decide +kernel
theorem d_Tr_leastOpen_6 : decode b_Tr_leastOpen 6 = .ok (.getfield 17, 3) := by decide +kernel
theorem d_Tr_leastOpen_9 : decode b_Tr_leastOpen 9 = .ok (.if_icmp .ge 40, 3) := by decide +kernel
theorem d_Tr_leastOpen_12 : decode b_Tr_leastOpen 12 = .ok (.aload_n 0, 1) := by decide +kernel
theorem d_Tr_leastOpen_13 : decode b_Tr_leastOpen 13 = .ok (.getfield 11, 3) := by decide +kernel
theorem d_Tr_leastOpen_16 : decode b_Tr_leastOpen 16 = .ok (.iload_n 3, 1) := by decide +kernel
theorem d_Tr_leastOpen_17 : decode b_Tr_leastOpen 17 = .ok (.aaload, 1) := by decide +kernel
theorem d_Tr_leastOpen_18 : decode b_Tr_leastOpen 18 = .ok (.astore 4, 2) := by decide +kernel
theorem d_Tr_leastOpen_20 : decode b_Tr_leastOpen 20 = .ok (.aload 4, 2) := by decide +kernel
theorem d_Tr_leastOpen_22 : decode b_Tr_leastOpen 22 = .ok (.ifnull 21, 3) := by decide +kernel
theorem d_Tr_leastOpen_25 : decode b_Tr_leastOpen 25 = .ok (.aload 4, 2) := by decide +kernel
theorem d_Tr_leastOpen_27 : decode b_Tr_leastOpen 27 = .ok (.getfield 27, 3) := by decide +kernel
theorem d_Tr_leastOpen_30 : decode b_Tr_leastOpen 30 = .ok (.ifCond .ne 13, 3) := by decide +kernel
theorem d_Tr_leastOpen_33 : decode b_Tr_leastOpen 33 = .ok (.iload_n 2, 1) := by decide +kernel
theorem d_Tr_leastOpen_34 : decode b_Tr_leastOpen 34 = .ok (.aload 4, 2) := by decide +kernel
theorem d_Tr_leastOpen_36 : decode b_Tr_leastOpen 36 = .ok (.getfield 34, 3) := by decide +kernel
theorem d_Tr_leastOpen_39 : decode b_Tr_leastOpen 39 = .ok (.invokestatic 37, 3) := by decide +kernel
theorem d_Tr_leastOpen_42 : decode b_Tr_leastOpen 42 = .ok (.istore_n 2, 1) := by decide +kernel
theorem d_Tr_leastOpen_43 : decode b_Tr_leastOpen 43 = .ok (.iinc 3 1, 3) := by decide +kernel
theorem d_Tr_leastOpen_46 : decode b_Tr_leastOpen 46 = .ok (.goto (-42), 3) := by decide +kernel
theorem d_Tr_leastOpen_49 : decode b_Tr_leastOpen 49 = .ok (.iload_n 2, 1) := by decide +kernel
theorem d_Tr_leastOpen_50 : decode b_Tr_leastOpen 50 = .ok (.ireturn, 1) := by decide +kernel
