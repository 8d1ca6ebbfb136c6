theorem d_BT_init_0 : decode b_BT_init 0 = .ok (.aload_n 0, 1) := by decide +kernel
theorem d_BT_init_1 : decode b_BT_init 1 = .ok (.invokespecial 1, 3) := by decide +kernel
theorem d_BT_init_4 : decode b_BT_init 4 = .ok (.aload_n 0, 1) := by decide +kernel
theorem d_BT_init_5 : decode b_BT_init 5 = .ok (.new 7, 3) := by decide +kernel
theorem d_BT_init_8 : decode b_BT_init 8 = .ok (.dup, 1) := by decide +kernel
theorem d_BT_init_9 : decode b_BT_init 9 = .ok (.invokespecial 9, 3) := by decide +kernel
theorem d_BT_init_12 : decode b_BT_init 12 = .ok (.putfield 10, 3) := by decide +kernel
theorem d_BT_init_15 : decode b_BT_init 15 = .ok (.aload_n 0, 1) := by decide +kernel
theorem d_BT_init_16 : decode b_BT_init 16 = .ok (.new 16, 3) := by decide +kernel
theorem d_BT_init_19 : decode b_BT_init 19 = .ok (.dup, 1) := by decide +kernel
theorem d_BT_init_20 : decode b_BT_init 20 = .ok (.invokespecial 18, 3) := by decide +kernel
theorem d_BT_init_23 : decode b_BT_init 23 = .ok (.putfield 19, 3) := by decide +kernel
theorem d_BT_init_26 : decode b_BT_init 26 = .ok (.aload_n 0, 1) := by decide +kernel
theorem d_BT_init_27 : decode b_BT_init 27 = .ok (.new 23, 3) := by decide +kernel
theorem d_BT_init_30 : decode b_BT_init 30 = .ok (.dup, 1) := by decide +kernel
theorem d_BT_init_31 : decode b_BT_init 31 = .ok (.invokespecial 25, 3) := by decide +kernel
theorem d_BT_init_34 : decode b_BT_init 34 = .ok (.putfield 26, 3) := by decide +kernel
theorem d_BT_init_37 : decode b_BT_init 37 = .ok (.aload_n 0, 1) := by decide +kernel
theorem d_BT_init_38 : decode b_BT_init 38 = .ok (.new 30, 3) := by decide +kernel
theorem d_BT_init_41 : decode b_BT_init 41 = .ok (.dup, 1) := by decide +kernel
theorem d_BT_init_42 : decode b_BT_init 42 = .ok (.invokespecial 32, 3) := by decide +kernel
theorem d_BT_init_45 : decode b_BT_init 45 = .ok (.putfield 33, 3) := by decide +kernel
theorem d_BT_init_48 : decode b_BT_init 48 = .ok (.aload_n 0, 1) := by decide +kernel
theorem d_BT_init_49 : decode b_BT_init 49 = .ok (.getstatic 37, 3) := by decide +kernel
theorem d_BT_init_52 : decode b_BT_init 52 = .ok (.arraylength, 1) := by decide +kernel
theorem d_BT_init_53 : decode b_BT_init 53 = .ok (.newarray .int, 2) := by decide +kernel
theorem d_BT_init_55 : decode b_BT_init 55 = .ok (.putfield 41, 3) := by decide +kernel
theorem d_BT_init_58 : decode b_BT_init 58 = .ok (.aload_n 0, 1) := by decide +kernel
theorem d_BT_init_59 : decode b_BT_init 59 = .ok (.bipush 8, 2) := by decide +kernel
theorem d_BT_init_61 : decode b_BT_init 61 = .ok (.newarray .int, 2) := by decide +kernel
theorem d_BT_init_63 : decode b_BT_init 63 = .ok (.putfield 44, 3) := by decide +kernel
theorem d_BT_init_66 : decode b_BT_init 66 = .ok (.new 47, 3) := by decide +kernel
theorem d_BT_init_69 : decode b_BT_init 69 = .ok (.dup, 1) := by decide +kernel
theorem d_BT_init_70 : decode b_BT_init 70 = .ok (.aload_n 0, 1) := by decide +kernel
theorem d_BT_init_71 : decode b_BT_init 71 = .ok (.getfield 10, 3) := by decide +kernel
theorem d_BT_init_74 : decode b_BT_init 74 = .ok (.aload_n 0, 1) := by decide +kernel
theorem d_BT_init_75 : decode b_BT_init 75 = .ok (.getfield 19, 3) := by decide +kernel
theorem d_BT_init_78 : decode b_BT_init 78 = .ok (.invokespecial 49, 3) := by decide +kernel
theorem d_BT_init_81 : decode b_BT_init 81 = .ok (.astore_n 1, 1) := by decide +kernel
theorem d_BT_init_82 : decode b_BT_init 82 = .ok (.aload_n 0, 1) := by decide +kernel
theorem d_BT_init_83 : decode b_BT_init 83 = .ok (.new 52, 3) := by decide +kernel
theorem d_BT_init_86 : decode b_BT_init 86 = .ok (.dup, 1) := by decide +kernel
theorem d_BT_init_87 : decode b_BT_init 87 = .ok (.aload_n 0, 1) := by decide +kernel
theorem d_BT_init_88 : decode b_BT_init 88 = .ok (.getfield 10, 3) := by decide +kernel
theorem d_BT_init_91 : decode b_BT_init 91 = .ok (.aload_n 0, 1) := by decide +kernel
theorem d_BT_init_92 : decode b_BT_init 92 = .ok (.getfield 19, 3) := by decide +kernel
theorem d_BT_init_95 : decode b_BT_init 95 = .ok (.aload_n 0, 1) := by decide +kernel
theorem d_BT_init_96 : decode b_BT_init 96 = .ok (.getfield 26, 3) := by decide +kernel
theorem d_BT_init_99 : decode b_BT_init 99 = .ok (.aload_n 0, 1) := by decide +kernel
theorem d_BT_init_100 : decode b_BT_init 100 = .ok (.getfield 33, 3) := by decide +kernel
theorem d_BT_init_103 : decode b_BT_init 103 = .ok (.aload_n 1, 1) := by decide +kernel
theorem d_BT_init_104 : decode b_BT_init 104 = .ok (.aload_n 0, 1) := by decide +kernel
theorem d_BT_init_105 : decode b_BT_init 105 = .ok (.getfield 41, 3) := by decide +kernel
theorem d_BT_init_108 : decode b_BT_init 108 = .ok (.invokespecial 54, 3) := by decide +kernel
theorem d_BT_init_111 : decode b_BT_init 111 = .ok (.putfield 57, 3) := by decide +kernel
theorem d_BT_init_114 : decode b_BT_init 114 = .ok (.aload_n 0, 1) := by decide +kernel
theorem d_BT_init_115 : decode b_BT_init 115 = .ok (.new 61, 3) := by decide +kernel
theorem d_BT_init_118 : decode b_BT_init 118 = .ok (.dup, 1) := by decide +kernel
theorem d_BT_init_119 : decode b_BT_init 119 = .ok (.aload_n 0, 1) := by decide +kernel
theorem d_BT_init_120 : decode b_BT_init 120 = .ok (.getfield 10, 3) := by decide +kernel
theorem d_BT_init_123 : decode b_BT_init 123 = .ok (.aload_n 0, 1) := by decide +kernel
theorem d_BT_init_124 : decode b_BT_init 124 = .ok (.getfield 33, 3) := by decide +kernel
theorem d_BT_init_127 : decode b_BT_init 127 = .ok (.aload_n 1, 1) := by decide +kernel
theorem d_BT_init_128 : decode b_BT_init 128 = .ok (.invokespecial 63, 3) := by decide +kernel
theorem d_BT_init_131 : decode b_BT_init 131 = .ok (.putfield 66, 3) := by decide +kernel
theorem d_BT_init_134 : decode b_BT_init 134 = .ok (.return_, 1) := by decide +kernel
theorem d_Pb_init_0 : decode b_Pb_init 0 = .ok (.aload_n 0, 1) := by decide +kernel
theorem d_Pb_init_1 : decode b_Pb_init 1 = .ok (.invokespecial 3, 3) := by decide +kernel
theorem d_Pb_init_4 : decode b_Pb_init 4 = .ok (.aload_n 0, 1) := by decide +kernel
theorem d_Pb_init_5 : decode b_Pb_init 5 = .ok (.bipush 8, 2) := by decide +kernel
theorem d_Pb_init_7 : decode b_Pb_init 7 = .ok (.newarray .int, 2) := by decide +kernel
theorem d_Pb_init_9 : decode b_Pb_init 9 = .ok (.putfield 9, 3) := by decide +kernel
theorem d_Pb_init_12 : decode b_Pb_init 12 = .ok (.aload_n 0, 1) := by decide +kernel
theorem d_Pb_init_13 : decode b_Pb_init 13 = .ok (.bipush 8, 2) := by decide +kernel
theorem d_Pb_init_15 : decode b_Pb_init 15 = .ok (.newarray .int, 2) := by decide +kernel
theorem d_Pb_init_17 : decode b_Pb_init 17 = .ok (.putfield 15, 3) := by decide +kernel
theorem d_Pb_init_20 : decode b_Pb_init 20 = .ok (.aload_n 0, 1) := by decide +kernel
theorem d_Pb_init_21 : decode b_Pb_init 21 = .ok (.bipush 8, 2) := by decide +kernel
theorem d_Pb_init_23 : decode b_Pb_init 23 = .ok (.newarray .int, 2) := by decide +kernel
theorem d_Pb_init_25 : decode b_Pb_init 25 = .ok (.putfield 18, 3) := by decide +kernel
theorem d_Pb_init_28 : decode b_Pb_init 28 = .ok (.aload_n 0, 1) := by decide +kernel
theorem d_Pb_init_29 : decode b_Pb_init 29 = .ok (.bipush 16, 2) := by decide +kernel
theorem d_Pb_init_31 : decode b_Pb_init 31 = .ok (.newarray .int, 2) := by decide +kernel
theorem d_Pb_init_33 : decode b_Pb_init 33 = .ok (.putfield 21, 3) := by decide +kernel
theorem d_Pb_init_36 : decode b_Pb_init 36 = .ok (.aload_n 0, 1) := by decide +kernel
theorem d_Pb_init_37 : decode b_Pb_init 37 = .ok (.bipush 16, 2) := by decide +kernel
theorem d_Pb_init_39 : decode b_Pb_init 39 = .ok (.newarray .int, 2) := by decide +kernel
theorem d_Pb_init_41 : decode b_Pb_init 41 = .ok (.putfield 24, 3) := by decide +kernel
theorem d_Pb_init_44 : decode b_Pb_init 44 = .ok (.aload_n 0, 1) := by decide +kernel
theorem d_Pb_init_45 : decode b_Pb_init 45 = .ok (.bipush 16, 2) := by decide +kernel
theorem d_Pb_init_47 : decode b_Pb_init 47 = .ok (.newarray .boolean, 2) := by decide +kernel
theorem d_Pb_init_49 : decode b_Pb_init 49 = .ok (.putfield 27, 3) := by decide +kernel
theorem d_Pb_init_52 : decode b_Pb_init 52 = .ok (.aload_n 0, 1) := by decide +kernel
theorem d_Pb_init_53 : decode b_Pb_init 53 = .ok (.bipush 16, 2) := by decide +kernel
theorem d_Pb_init_55 : decode b_Pb_init 55 = .ok (.bipush 8, 2) := by decide +kernel
theorem d_Pb_init_57 : decode b_Pb_init 57 = .ok (.multianewarray 31 2, 4) := by decide +kernel
theorem d_Pb_init_61 : decode b_Pb_init 61 = .ok (.putfield 33, 3) := by decide +kernel
theorem d_Pb_init_64 : decode b_Pb_init 64 = .ok (.return_, 1) := by decide +kernel
theorem d_Be_init_0 : decode b_Be_init 0 = .ok (.aload_n 0, 1) := by decide +kernel
theorem d_Be_init_1 : decode b_Be_init 1 = .ok (.invokespecial 3, 3) := by decide +kernel
theorem d_Be_init_4 : decode b_Be_init 4 = .ok (.aload_n 0, 1) := by decide +kernel
theorem d_Be_init_5 : decode b_Be_init 5 = .ok (.bipush 8, 2) := by decide +kernel
theorem d_Be_init_7 : decode b_Be_init 7 = .ok (.newarray .int, 2) := by decide +kernel
theorem d_Be_init_9 : decode b_Be_init 9 = .ok (.putfield 9, 3) := by decide +kernel
theorem d_Be_init_12 : decode b_Be_init 12 = .ok (.return_, 1) := by decide +kernel
theorem d_Pr_init_0 : decode b_Pr_init 0 = .ok (.aload_n 0, 1) := by decide +kernel
theorem d_Pr_init_1 : decode b_Pr_init 1 = .ok (.invokespecial 3, 3) := by decide +kernel
theorem d_Pr_init_4 : decode b_Pr_init 4 = .ok (.aload_n 0, 1) := by decide +kernel
theorem d_Pr_init_5 : decode b_Pr_init 5 = .ok (.bipush 8, 2) := by decide +kernel
theorem d_Pr_init_7 : decode b_Pr_init 7 = .ok (.newarray .long, 2) := by decide +kernel
theorem d_Pr_init_9 : decode b_Pr_init 9 = .ok (.putfield 9, 3) := by decide +kernel
theorem d_Pr_init_12 : decode b_Pr_init 12 = .ok (.aload_n 0, 1) := by decide +kernel
theorem d_Pr_init_13 : decode b_Pr_init 13 = .ok (.bipush 8, 2) := by decide +kernel
theorem d_Pr_init_15 : decode b_Pr_init 15 = .ok (.newarray .int, 2) := by decide +kernel
theorem d_Pr_init_17 : decode b_Pr_init 17 = .ok (.putfield 15, 3) := by decide +kernel
theorem d_Pr_init_20 : decode b_Pr_init 20 = .ok (.return_, 1) := by decide +kernel
theorem d_Tr_init_0 : decode b_Tr_init 0 = .ok (.aload_n 0, 1) := by decide +kernel
theorem d_Tr_init_1 : decode b_Tr_init 1 = .ok (.invokespecial 3, 3) := by decide +kernel
theorem d_Tr_init_4 : decode b_Tr_init 4 = .ok (.aload_n 0, 1) := by decide +kernel
theorem d_Tr_init_5 : decode b_Tr_init 5 = .ok (.sipush 600, 3) := by decide +kernel
theorem d_Tr_init_8 : decode b_Tr_init 8 = .ok (.anewarray 9, 3) := by decide +kernel
theorem d_Tr_init_11 : decode b_Tr_init 11 = .ok (.putfield 11, 3) := by decide +kernel
theorem d_Tr_init_14 : decode b_Tr_init 14 = .ok (.return_, 1) := by decide +kernel
theorem d_Nr_init_0 : decode b_Nr_init 0 = .ok (.aload_n 0, 1) := by decide +kernel
theorem d_Nr_init_1 : decode b_Nr_init 1 = .ok (.invokespecial 3, 3) := by decide +kernel
theorem d_Nr_init_4 : decode b_Nr_init 4 = .ok (.aload_n 0, 1) := by decide +kernel
theorem d_Nr_init_5 : decode b_Nr_init 5 = .ok (.aload_n 1, 1) := by decide +kernel
theorem d_Nr_init_6 : decode b_Nr_init 6 = .ok (.putfield 9, 3) := by decide +kernel
theorem d_Nr_init_9 : decode b_Nr_init 9 = .ok (.aload_n 0, 1) := by decide +kernel
theorem d_Nr_init_10 : decode b_Nr_init 10 = .ok (.aload_n 2, 1) := by decide +kernel
theorem d_Nr_init_11 : decode b_Nr_init 11 = .ok (.putfield 15, 3) := by decide +kernel
theorem d_Nr_init_14 : decode b_Nr_init 14 = .ok (.return_, 1) := by decide +kernel
theorem d_Se_init_0 : decode b_Se_init 0 = .ok (.aload_n 0, 1) := by decide +kernel
theorem d_Se_init_1 : decode b_Se_init 1 = .ok (.invokespecial 3, 3) := by decide +kernel
theorem d_Se_init_4 : decode b_Se_init 4 = .ok (.aload_n 0, 1) := by decide +kernel
theorem d_Se_init_5 : decode b_Se_init 5 = .ok (.aload_n 1, 1) := by decide +kernel
theorem d_Se_init_6 : decode b_Se_init 6 = .ok (.putfield 9, 3) := by decide +kernel
theorem d_Se_init_9 : decode b_Se_init 9 = .ok (.aload_n 0, 1) := by decide +kernel
theorem d_Se_init_10 : decode b_Se_init 10 = .ok (.aload_n 2, 1) := by decide +kernel
theorem d_Se_init_11 : decode b_Se_init 11 = .ok (.putfield 15, 3) := by decide +kernel
theorem d_Se_init_14 : decode b_Se_init 14 = .ok (.aload_n 0, 1) := by decide +kernel
theorem d_Se_init_15 : decode b_Se_init 15 = .ok (.aload_n 3, 1) := by decide +kernel
theorem d_Se_init_16 : decode b_Se_init 16 = .ok (.putfield 19, 3) := by decide +kernel
theorem d_Se_init_19 : decode b_Se_init 19 = .ok (.aload_n 0, 1) := by decide +kernel
theorem d_Se_init_20 : decode b_Se_init 20 = .ok (.aload 4, 2) := by decide +kernel
theorem d_Se_init_22 : decode b_Se_init 22 = .ok (.putfield 23, 3) := by decide +kernel
theorem d_Se_init_25 : decode b_Se_init 25 = .ok (.aload_n 0, 1) := by decide +kernel
theorem d_Se_init_26 : decode b_Se_init 26 = .ok (.aload 5, 2) := by decide +kernel
theorem d_Se_init_28 : decode b_Se_init 28 = .ok (.putfield 27, 3) := by decide +kernel
theorem d_Se_init_31 : decode b_Se_init 31 = .ok (.aload_n 0, 1) := by decide +kernel
theorem d_Se_init_32 : decode b_Se_init 32 = .ok (.aload 6, 2) := by decide +kernel
theorem d_Se_init_34 : decode b_Se_init 34 = .ok (.putfield 31, 3) := by decide +kernel
theorem d_Se_init_37 : decode b_Se_init 37 = .ok (.return_, 1) := by decide +kernel
theorem d_Pf_init_0 : decode b_Pf_init 0 = .ok (.aload_n 0, 1) := by decide +kernel
theorem d_Pf_init_1 : decode b_Pf_init 1 = .ok (.invokespecial 3, 3) := by decide +kernel
theorem d_Pf_init_4 : decode b_Pf_init 4 = .ok (.aload_n 0, 1) := by decide +kernel
theorem d_Pf_init_5 : decode b_Pf_init 5 = .ok (.new 9, 3) := by decide +kernel
theorem d_Pf_init_8 : decode b_Pf_init 8 = .ok (.dup, 1) := by decide +kernel
theorem d_Pf_init_9 : decode b_Pf_init 9 = .ok (.invokespecial 11, 3) := by decide +kernel
theorem d_Pf_init_12 : decode b_Pf_init 12 = .ok (.putfield 12, 3) := by decide +kernel
theorem d_Pf_init_15 : decode b_Pf_init 15 = .ok (.aload_n 0, 1) := by decide +kernel
theorem d_Pf_init_16 : decode b_Pf_init 16 = .ok (.aload_n 1, 1) := by decide +kernel
theorem d_Pf_init_17 : decode b_Pf_init 17 = .ok (.putfield 18, 3) := by decide +kernel
theorem d_Pf_init_20 : decode b_Pf_init 20 = .ok (.aload_n 0, 1) := by decide +kernel
theorem d_Pf_init_21 : decode b_Pf_init 21 = .ok (.aload_n 2, 1) := by decide +kernel
theorem d_Pf_init_22 : decode b_Pf_init 22 = .ok (.putfield 22, 3) := by decide +kernel
theorem d_Pf_init_25 : decode b_Pf_init 25 = .ok (.aload_n 0, 1) := by decide +kernel
theorem d_Pf_init_26 : decode b_Pf_init 26 = .ok (.aload_n 3, 1) := by decide +kernel
theorem d_Pf_init_27 : decode b_Pf_init 27 = .ok (.putfield 26, 3) := by decide +kernel
theorem d_Pf_init_30 : decode b_Pf_init 30 = .ok (.return_, 1) := by decide +kernel
theorem d_Bx_init_0 : decode b_Bx_init 0 = .ok (.aload_n 0, 1) := by decide +kernel
theorem d_Bx_init_1 : decode b_Bx_init 1 = .ok (.invokespecial 3, 3) := by decide +kernel
theorem d_Bx_init_4 : decode b_Bx_init 4 = .ok (.aload_n 0, 1) := by decide +kernel
theorem d_Bx_init_5 : decode b_Bx_init 5 = .ok (.bipush 8, 2) := by decide +kernel
theorem d_Bx_init_7 : decode b_Bx_init 7 = .ok (.newarray .int, 2) := by decide +kernel
theorem d_Bx_init_9 : decode b_Bx_init 9 = .ok (.putfield 9, 3) := by decide +kernel
theorem d_Bx_init_12 : decode b_Bx_init 12 = .ok (.aload_n 0, 1) := by decide +kernel
theorem d_Bx_init_13 : decode b_Bx_init 13 = .ok (.bipush 8, 2) := by decide +kernel
theorem d_Bx_init_15 : decode b_Bx_init 15 = .ok (.newarray .int, 2) := by decide +kernel
theorem d_Bx_init_17 : decode b_Bx_init 17 = .ok (.putfield 15, 3) := by decide +kernel
theorem d_Bx_init_20 : decode b_Bx_init 20 = .ok (.return_, 1) := by decide +kernel
theorem d_BT_name_0 : decode b_BT_name 0 = .ok (.iload_n 1, 1) := by decide +kernel
theorem d_BT_name_1 : decode b_BT_name 1 = .ok (.bipush 50, 2) := by decide +kernel
theorem d_BT_name_3 : decode b_BT_name 3 = .ok (.invokestatic 70, 3) := by decide +kernel
theorem d_BT_name_6 : decode b_BT_name 6 = .ok (.ifCond .eq 17, 3) := by decide +kernel
theorem d_BT_name_9 : decode b_BT_name 9 = .ok (.iload_n 2, 1) := by decide +kernel
theorem d_BT_name_10 : decode b_BT_name 10 = .ok (.bipush 50, 2) := by decide +kernel
theorem d_BT_name_12 : decode b_BT_name 12 = .ok (.invokestatic 70, 3) := by decide +kernel
theorem d_BT_name_15 : decode b_BT_name 15 = .ok (.ifCond .eq 8, 3) := by decide +kernel
theorem d_BT_name_18 : decode b_BT_name 18 = .ok (.iload_n 1, 1) := by decide +kernel
theorem d_BT_name_19 : decode b_BT_name 19 = .ok (.iload_n 2, 1) := by decide +kernel
theorem d_BT_name_20 : decode b_BT_name 20 = .ok (.if_icmp .le 5, 3) := by decide +kernel
theorem d_BT_name_23 : decode b_BT_name 23 = .ok (.iconst (-1), 1) := by decide +kernel
theorem d_BT_name_24 : decode b_BT_name 24 = .ok (.ireturn, 1) := by decide +kernel
theorem d_BT_name_25 : decode b_BT_name 25 = .ok (.aload_n 0, 1) := by decide +kernel
theorem d_BT_name_26 : decode b_BT_name 26 = .ok (.getfield 10, 3) := by decide +kernel
theorem d_BT_name_29 : decode b_BT_name 29 = .ok (.iload_n 1, 1) := by decide +kernel
theorem d_BT_name_30 : decode b_BT_name 30 = .ok (.iload_n 2, 1) := by decide +kernel
theorem d_BT_name_31 : decode b_BT_name 31 = .ok (.invokevirtual 74, 3) := by decide +kernel
theorem d_BT_name_34 : decode b_BT_name 34 = .ok (.istore_n 3, 1) := by decide +kernel
theorem d_BT_name_35 : decode b_BT_name 35 = .ok (.iload_n 3, 1) := by decide +kernel
theorem d_BT_name_36 : decode b_BT_name 36 = .ok (.bipush (-3), 2) := by decide +kernel
theorem d_BT_name_38 : decode b_BT_name 38 = .ok (.if_icmp .eq 7, 3) := by decide +kernel
theorem d_BT_name_41 : decode b_BT_name 41 = .ok (.aload_n 0, 1) := by decide +kernel
theorem d_BT_name_42 : decode b_BT_name 42 = .ok (.invokevirtual 78, 3) := by decide +kernel
theorem d_BT_name_45 : decode b_BT_name 45 = .ok (.iload_n 3, 1) := by decide +kernel
theorem d_BT_name_46 : decode b_BT_name 46 = .ok (.ireturn, 1) := by decide +kernel
theorem d_BT_isWithin_0 : decode b_BT_isWithin 0 = .ok (.iload_n 0, 1) := by decide +kernel
theorem d_BT_isWithin_1 : decode b_BT_isWithin 1 = .ok (.iload_n 1, 1) := by decide +kernel
theorem d_BT_isWithin_2 : decode b_BT_isWithin 2 = .ok (.ineg, 1) := by decide +kernel
theorem d_BT_isWithin_3 : decode b_BT_isWithin 3 = .ok (.if_icmp .lt 12, 3) := by decide +kernel
theorem d_BT_isWithin_6 : decode b_BT_isWithin 6 = .ok (.iload_n 0, 1) := by decide +kernel
theorem d_BT_isWithin_7 : decode b_BT_isWithin 7 = .ok (.iload_n 1, 1) := by decide +kernel
theorem d_BT_isWithin_8 : decode b_BT_isWithin 8 = .ok (.if_icmp .gt 7, 3) := by decide +kernel
theorem d_BT_isWithin_11 : decode b_BT_isWithin 11 = .ok (.iconst 1, 1) := by decide +kernel
theorem d_BT_isWithin_12 : decode b_BT_isWithin 12 = .ok (.goto 4, 3) := by decide +kernel
theorem d_BT_isWithin_15 : decode b_BT_isWithin 15 = .ok (.iconst 0, 1) := by decide +kernel
theorem d_BT_isWithin_16 : decode b_BT_isWithin 16 = .ok (.ireturn, 1) := by decide +kernel
theorem d_Pb_addName_0 : decode b_Pb_addName 0 = .ok (.aload_n 0, 1) := by decide +kernel
theorem d_Pb_addName_1 : decode b_Pb_addName 1 = .ok (.getfield 36, 3) := by decide +kernel
theorem d_Pb_addName_4 : decode b_Pb_addName 4 = .ok (.bipush 8, 2) := by decide +kernel
theorem d_Pb_addName_6 : decode b_Pb_addName 6 = .ok (.if_icmp .lt 6, 3) := by decide +kernel
theorem d_Pb_addName_9 : decode b_Pb_addName 9 = .ok (.bipush (-3), 2) := by decide +kernel
theorem d_Pb_addName_11 : decode b_Pb_addName 11 = .ok (.ireturn, 1) := by decide +kernel
theorem d_Pb_addName_12 : decode b_Pb_addName 12 = .ok (.aload_n 0, 1) := by decide +kernel
theorem d_Pb_addName_13 : decode b_Pb_addName 13 = .ok (.getfield 9, 3) := by decide +kernel
theorem d_Pb_addName_16 : decode b_Pb_addName 16 = .ok (.aload_n 0, 1) := by decide +kernel
theorem d_Pb_addName_17 : decode b_Pb_addName 17 = .ok (.getfield 36, 3) := by decide +kernel
theorem d_Pb_addName_20 : decode b_Pb_addName 20 = .ok (.iload_n 1, 1) := by decide +kernel
theorem d_Pb_addName_21 : decode b_Pb_addName 21 = .ok (.iastore, 1) := by decide +kernel
theorem d_Pb_addName_22 : decode b_Pb_addName 22 = .ok (.aload_n 0, 1) := by decide +kernel
theorem d_Pb_addName_23 : decode b_Pb_addName 23 = .ok (.getfield 15, 3) := by decide +kernel
theorem d_Pb_addName_26 : decode b_Pb_addName 26 = .ok (.aload_n 0, 1) := by decide +kernel
theorem d_Pb_addName_27 : decode b_Pb_addName 27 = .ok (.getfield 36, 3) := by decide +kernel
theorem d_Pb_addName_30 : decode b_Pb_addName 30 = .ok (.iload_n 2, 1) := by decide +kernel
theorem d_Pb_addName_31 : decode b_Pb_addName 31 = .ok (.iastore, 1) := by decide +kernel
theorem d_Pb_addName_32 : decode b_Pb_addName 32 = .ok (.aload_n 0, 1) := by decide +kernel
theorem d_Pb_addName_33 : decode b_Pb_addName 33 = .ok (.dup, 1) := by decide +kernel
theorem d_Pb_addName_34 : decode b_Pb_addName 34 = .ok (.getfield 36, 3) := by decide +kernel
theorem d_Pb_addName_37 : decode b_Pb_addName 37 = .ok (.iconst 1, 1) := by decide +kernel
theorem d_Pb_addName_38 : decode b_Pb_addName 38 = .ok (.iadd, 1) := by decide +kernel
theorem d_Pb_addName_39 : decode b_Pb_addName 39 = .ok (.putfield 36, 3) := by decide +kernel
theorem d_Pb_addName_42 : decode b_Pb_addName 42 = .ok (.aload_n 0, 1) := by decide +kernel
theorem d_Pb_addName_43 : decode b_Pb_addName 43 = .ok (.getfield 36, 3) := by decide +kernel
theorem d_Pb_addName_46 : decode b_Pb_addName 46 = .ok (.iconst 1, 1) := by decide +kernel
theorem d_Pb_addName_47 : decode b_Pb_addName 47 = .ok (.isub, 1) := by decide +kernel
theorem d_Pb_addName_48 : decode b_Pb_addName 48 = .ok (.ireturn, 1) := by decide +kernel
theorem d_BT_forgetSearch_0 : decode b_BT_forgetSearch 0 = .ok (.aload_n 0, 1) := by decide +kernel
theorem d_BT_forgetSearch_1 : decode b_BT_forgetSearch 1 = .ok (.getfield 33, 3) := by decide +kernel
theorem d_BT_forgetSearch_4 : decode b_BT_forgetSearch 4 = .ok (.invokevirtual 149, 3) := by decide +kernel
theorem d_BT_forgetSearch_7 : decode b_BT_forgetSearch 7 = .ok (.aload_n 0, 1) := by decide +kernel
theorem d_BT_forgetSearch_8 : decode b_BT_forgetSearch 8 = .ok (.getfield 19, 3) := by decide +kernel
theorem d_BT_forgetSearch_11 : decode b_BT_forgetSearch 11 = .ok (.iconst 0, 1) := by decide +kernel
theorem d_BT_forgetSearch_12 : decode b_BT_forgetSearch 12 = .ok (.putfield 145, 3) := by decide +kernel
theorem d_BT_forgetSearch_15 : decode b_BT_forgetSearch 15 = .ok (.aload_n 0, 1) := by decide +kernel
theorem d_BT_forgetSearch_16 : decode b_BT_forgetSearch 16 = .ok (.getfield 26, 3) := by decide +kernel
theorem d_BT_forgetSearch_19 : decode b_BT_forgetSearch 19 = .ok (.invokevirtual 220, 3) := by decide +kernel
theorem d_BT_forgetSearch_22 : decode b_BT_forgetSearch 22 = .ok (.return_, 1) := by decide +kernel
theorem d_Tr_fell_0 : decode b_Tr_fell 0 = .ok (.aload_n 0, 1) := by decide +kernel
theorem d_Tr_fell_1 : decode b_Tr_fell 1 = .ok (.iconst 0, 1) := by decide +kernel
theorem d_Tr_fell_2 : decode b_Tr_fell 2 = .ok (.putfield 17, 3) := by decide +kernel
theorem d_Tr_fell_5 : decode b_Tr_fell 5 = .ok (.aload_n 0, 1) := by decide +kernel
theorem d_Tr_fell_6 : decode b_Tr_fell 6 = .ok (.iconst 0, 1) := by decide +kernel
theorem d_Tr_fell_7 : decode b_Tr_fell 7 = .ok (.putfield 21, 3) := by decide +kernel
theorem d_Tr_fell_10 : decode b_Tr_fell 10 = .ok (.return_, 1) := by decide +kernel
theorem d_Pr_forget_0 : decode b_Pr_forget 0 = .ok (.iconst 0, 1) := by decide +kernel
theorem d_Pr_forget_1 : decode b_Pr_forget 1 = .ok (.istore_n 1, 1) := by decide +kernel
theorem d_Pr_forget_2 : decode b_Pr_forget 2 = .ok (.iload_n 1, 1) := by decide +kernel
theorem d_Pr_forget_3 : decode b_Pr_forget 3 = .ok (.bipush 8, 2) := by decide +kernel
theorem d_Pr_forget_5 : decode b_Pr_forget 5 = .ok (.if_icmp .ge 23, 3) := by decide +kernel
theorem d_Pr_forget_8 : decode b_Pr_forget 8 = .ok (.aload_n 0, 1) := by decide +kernel
theorem d_Pr_forget_9 : decode b_Pr_forget 9 = .ok (.getfield 9, 3) := by decide +kernel
theorem d_Pr_forget_12 : decode b_Pr_forget 12 = .ok (.iload_n 1, 1) := by decide +kernel
theorem d_Pr_forget_13 : decode b_Pr_forget 13 = .ok (.lconst 0, 1) := by decide +kernel
theorem d_Pr_forget_14 : decode b_Pr_forget 14 = .ok (.lastore, 1) := by decide +kernel
theorem d_Pr_forget_15 : decode b_Pr_forget 15 = .ok (.aload_n 0, 1) := by decide +kernel
theorem d_Pr_forget_16 : decode b_Pr_forget 16 = .ok (.getfield 15, 3) := by decide +kernel
theorem d_Pr_forget_19 : decode b_Pr_forget 19 = .ok (.iload_n 1, 1) := by decide +kernel
theorem d_Pr_forget_20 : decode b_Pr_forget 20 = .ok (.iconst 0, 1) := by decide +kernel
theorem d_Pr_forget_21 : decode b_Pr_forget 21 = .ok (.iastore, 1) := by decide +kernel
theorem d_Pr_forget_22 : decode b_Pr_forget 22 = .ok (.iinc 1 1, 3) := by decide +kernel
theorem d_Pr_forget_25 : decode b_Pr_forget 25 = .ok (.goto (-23), 3) := by decide +kernel
theorem d_Pr_forget_28 : decode b_Pr_forget 28 = .ok (.return_, 1) := by decide +kernel
theorem d_BT_row_0 : decode b_BT_row 0 = .ok (.iload_n 1, 1) := by decide +kernel
theorem d_BT_row_1 : decode b_BT_row 1 = .ok (.ifCond .lt 18, 3) := by decide +kernel
theorem d_BT_row_4 : decode b_BT_row 4 = .ok (.iload_n 1, 1) := by decide +kernel
theorem d_BT_row_5 : decode b_BT_row 5 = .ok (.iconst 2, 1) := by decide +kernel
theorem d_BT_row_6 : decode b_BT_row 6 = .ok (.if_icmp .gt 13, 3) := by decide +kernel
theorem d_BT_row_9 : decode b_BT_row 9 = .ok (.iload_n 2, 1) := by decide +kernel
theorem d_BT_row_10 : decode b_BT_row 10 = .ok (.sipush 1000, 3) := by decide +kernel
theorem d_BT_row_13 : decode b_BT_row 13 = .ok (.invokestatic 70, 3) := by decide +kernel
theorem d_BT_row_16 : decode b_BT_row 16 = .ok (.ifCond .ne 5, 3) := by decide +kernel
theorem d_BT_row_19 : decode b_BT_row 19 = .ok (.iconst (-1), 1) := by decide +kernel
theorem d_BT_row_20 : decode b_BT_row 20 = .ok (.ireturn, 1) := by decide +kernel
theorem d_BT_row_21 : decode b_BT_row 21 = .ok (.aload_n 0, 1) := by decide +kernel
theorem d_BT_row_22 : decode b_BT_row 22 = .ok (.getfield 10, 3) := by decide +kernel
theorem d_BT_row_25 : decode b_BT_row 25 = .ok (.iload_n 1, 1) := by decide +kernel
theorem d_BT_row_26 : decode b_BT_row 26 = .ok (.iload_n 2, 1) := by decide +kernel
theorem d_BT_row_27 : decode b_BT_row 27 = .ok (.invokevirtual 81, 3) := by decide +kernel
theorem d_BT_row_30 : decode b_BT_row 30 = .ok (.istore_n 3, 1) := by decide +kernel
theorem d_BT_row_31 : decode b_BT_row 31 = .ok (.iload_n 3, 1) := by decide +kernel
theorem d_BT_row_32 : decode b_BT_row 32 = .ok (.bipush (-3), 2) := by decide +kernel
theorem d_BT_row_34 : decode b_BT_row 34 = .ok (.if_icmp .eq 7, 3) := by decide +kernel
theorem d_BT_row_37 : decode b_BT_row 37 = .ok (.aload_n 0, 1) := by decide +kernel
theorem d_BT_row_38 : decode b_BT_row 38 = .ok (.invokevirtual 78, 3) := by decide +kernel
theorem d_BT_row_41 : decode b_BT_row 41 = .ok (.iload_n 3, 1) := by decide +kernel
theorem d_BT_row_42 : decode b_BT_row 42 = .ok (.ireturn, 1) := by decide +kernel
theorem d_Pb_addRow_0 : decode b_Pb_addRow 0 = .ok (.aload_n 0, 1) := by decide +kernel
theorem d_Pb_addRow_1 : decode b_Pb_addRow 1 = .ok (.getfield 40, 3) := by decide +kernel
theorem d_Pb_addRow_4 : decode b_Pb_addRow 4 = .ok (.bipush 16, 2) := by decide +kernel
theorem d_Pb_addRow_6 : decode b_Pb_addRow 6 = .ok (.if_icmp .lt 6, 3) := by decide +kernel
theorem d_Pb_addRow_9 : decode b_Pb_addRow 9 = .ok (.bipush (-3), 2) := by decide +kernel
theorem d_Pb_addRow_11 : decode b_Pb_addRow 11 = .ok (.ireturn, 1) := by decide +kernel
theorem d_Pb_addRow_12 : decode b_Pb_addRow 12 = .ok (.aload_n 0, 1) := by decide +kernel
theorem d_Pb_addRow_13 : decode b_Pb_addRow 13 = .ok (.getfield 21, 3) := by decide +kernel
theorem d_Pb_addRow_16 : decode b_Pb_addRow 16 = .ok (.aload_n 0, 1) := by decide +kernel
theorem d_Pb_addRow_17 : decode b_Pb_addRow 17 = .ok (.getfield 40, 3) := by decide +kernel
theorem d_Pb_addRow_20 : decode b_Pb_addRow 20 = .ok (.iload_n 1, 1) := by decide +kernel
theorem d_Pb_addRow_21 : decode b_Pb_addRow 21 = .ok (.iastore, 1) := by decide +kernel
theorem d_Pb_addRow_22 : decode b_Pb_addRow 22 = .ok (.aload_n 0, 1) := by decide +kernel
theorem d_Pb_addRow_23 : decode b_Pb_addRow 23 = .ok (.getfield 24, 3) := by decide +kernel
theorem d_Pb_addRow_26 : decode b_Pb_addRow 26 = .ok (.aload_n 0, 1) := by decide +kernel
theorem d_Pb_addRow_27 : decode b_Pb_addRow 27 = .ok (.getfield 40, 3) := by decide +kernel
theorem d_Pb_addRow_30 : decode b_Pb_addRow 30 = .ok (.iload_n 2, 1) := by decide +kernel
theorem d_Pb_addRow_31 : decode b_Pb_addRow 31 = .ok (.iastore, 1) := by decide +kernel
theorem d_Pb_addRow_32 : decode b_Pb_addRow 32 = .ok (.aload_n 0, 1) := by decide +kernel
theorem d_Pb_addRow_33 : decode b_Pb_addRow 33 = .ok (.dup, 1) := by decide +kernel
theorem d_Pb_addRow_34 : decode b_Pb_addRow 34 = .ok (.getfield 40, 3) := by decide +kernel
theorem d_Pb_addRow_37 : decode b_Pb_addRow 37 = .ok (.iconst 1, 1) := by decide +kernel
theorem d_Pb_addRow_38 : decode b_Pb_addRow 38 = .ok (.iadd, 1) := by decide +kernel
theorem d_Pb_addRow_39 : decode b_Pb_addRow 39 = .ok (.putfield 40, 3) := by decide +kernel
theorem d_Pb_addRow_42 : decode b_Pb_addRow 42 = .ok (.aload_n 0, 1) := by decide +kernel
theorem d_Pb_addRow_43 : decode b_Pb_addRow 43 = .ok (.getfield 40, 3) := by decide +kernel
theorem d_Pb_addRow_46 : decode b_Pb_addRow 46 = .ok (.iconst 1, 1) := by decide +kernel
theorem d_Pb_addRow_47 : decode b_Pb_addRow 47 = .ok (.isub, 1) := by decide +kernel
theorem d_Pb_addRow_48 : decode b_Pb_addRow 48 = .ok (.ireturn, 1) := by decide +kernel
theorem d_BT_factor_0 : decode b_BT_factor 0 = .ok (.aload_n 0, 1) := by decide +kernel
theorem d_BT_factor_1 : decode b_BT_factor 1 = .ok (.getfield 10, 3) := by decide +kernel
theorem d_BT_factor_4 : decode b_BT_factor 4 = .ok (.iload_n 1, 1) := by decide +kernel
theorem d_BT_factor_5 : decode b_BT_factor 5 = .ok (.invokevirtual 84, 3) := by decide +kernel
theorem d_BT_factor_8 : decode b_BT_factor 8 = .ok (.ifCond .eq 23, 3) := by decide +kernel
theorem d_BT_factor_11 : decode b_BT_factor 11 = .ok (.aload_n 0, 1) := by decide +kernel
theorem d_BT_factor_12 : decode b_BT_factor 12 = .ok (.getfield 10, 3) := by decide +kernel
theorem d_BT_factor_15 : decode b_BT_factor 15 = .ok (.iload_n 2, 1) := by decide +kernel
theorem d_BT_factor_16 : decode b_BT_factor 16 = .ok (.invokevirtual 88, 3) := by decide +kernel
theorem d_BT_factor_19 : decode b_BT_factor 19 = .ok (.ifCond .eq 12, 3) := by decide +kernel
theorem d_BT_factor_22 : decode b_BT_factor 22 = .ok (.iload_n 3, 1) := by decide +kernel
theorem d_BT_factor_23 : decode b_BT_factor 23 = .ok (.bipush 20, 2) := by decide +kernel
theorem d_BT_factor_25 : decode b_BT_factor 25 = .ok (.invokestatic 70, 3) := by decide +kernel
theorem d_BT_factor_28 : decode b_BT_factor 28 = .ok (.ifCond .ne 7, 3) := by decide +kernel
theorem d_BT_factor_31 : decode b_BT_factor 31 = .ok (.sipush (-1000), 3) := by decide +kernel
theorem d_BT_factor_34 : decode b_BT_factor 34 = .ok (.ireturn, 1) := by decide +kernel
theorem d_BT_factor_35 : decode b_BT_factor 35 = .ok (.aload_n 0, 1) := by decide +kernel
theorem d_BT_factor_36 : decode b_BT_factor 36 = .ok (.getfield 10, 3) := by decide +kernel
theorem d_BT_factor_39 : decode b_BT_factor 39 = .ok (.getfield 91, 3) := by decide +kernel
theorem d_BT_factor_42 : decode b_BT_factor 42 = .ok (.iload_n 1, 1) := by decide +kernel
theorem d_BT_factor_43 : decode b_BT_factor 43 = .ok (.aaload, 1) := by decide +kernel
theorem d_BT_factor_44 : decode b_BT_factor 44 = .ok (.iload_n 2, 1) := by decide +kernel
theorem d_BT_factor_45 : decode b_BT_factor 45 = .ok (.iaload, 1) := by decide +kernel
theorem d_BT_factor_46 : decode b_BT_factor 46 = .ok (.istore 4, 2) := by decide +kernel
theorem d_BT_factor_48 : decode b_BT_factor 48 = .ok (.aload_n 0, 1) := by decide +kernel
theorem d_BT_factor_49 : decode b_BT_factor 49 = .ok (.getfield 10, 3) := by decide +kernel
theorem d_BT_factor_52 : decode b_BT_factor 52 = .ok (.getfield 91, 3) := by decide +kernel
theorem d_BT_factor_55 : decode b_BT_factor 55 = .ok (.iload_n 1, 1) := by decide +kernel
theorem d_BT_factor_56 : decode b_BT_factor 56 = .ok (.aaload, 1) := by decide +kernel
theorem d_BT_factor_57 : decode b_BT_factor 57 = .ok (.iload_n 2, 1) := by decide +kernel
theorem d_BT_factor_58 : decode b_BT_factor 58 = .ok (.iload_n 3, 1) := by decide +kernel
theorem d_BT_factor_59 : decode b_BT_factor 59 = .ok (.iastore, 1) := by decide +kernel
theorem d_BT_factor_60 : decode b_BT_factor 60 = .ok (.aload_n 0, 1) := by decide +kernel
theorem d_BT_factor_61 : decode b_BT_factor 61 = .ok (.invokevirtual 78, 3) := by decide +kernel
theorem d_BT_factor_64 : decode b_BT_factor 64 = .ok (.iload 4, 2) := by decide +kernel
theorem d_BT_factor_66 : decode b_BT_factor 66 = .ok (.ireturn, 1) := by decide +kernel
theorem d_Pb_hasRow_0 : decode b_Pb_hasRow 0 = .ok (.iload_n 1, 1) := by decide +kernel
theorem d_Pb_hasRow_1 : decode b_Pb_hasRow 1 = .ok (.ifCond .lt 15, 3) := by decide +kernel
theorem d_Pb_hasRow_4 : decode b_Pb_hasRow 4 = .ok (.iload_n 1, 1) := by decide +kernel
theorem d_Pb_hasRow_5 : decode b_Pb_hasRow 5 = .ok (.aload_n 0, 1) := by decide +kernel
theorem d_Pb_hasRow_6 : decode b_Pb_hasRow 6 = .ok (.getfield 40, 3) := by decide +kernel
theorem d_Pb_hasRow_9 : decode b_Pb_hasRow 9 = .ok (.if_icmp .ge 7, 3) := by decide +kernel
theorem d_Pb_hasRow_12 : decode b_Pb_hasRow 12 = .ok (.iconst 1, 1) := by decide +kernel
theorem d_Pb_hasRow_13 : decode b_Pb_hasRow 13 = .ok (.goto 4, 3) := by decide +kernel
theorem d_Pb_hasRow_16 : decode b_Pb_hasRow 16 = .ok (.iconst 0, 1) := by decide +kernel
theorem d_Pb_hasRow_17 : decode b_Pb_hasRow 17 = .ok (.ireturn, 1) := by decide +kernel
theorem d_Pb_hasName_0 : decode b_Pb_hasName 0 = .ok (.iload_n 1, 1) := by decide +kernel
theorem d_Pb_hasName_1 : decode b_Pb_hasName 1 = .ok (.ifCond .lt 15, 3) := by decide +kernel
theorem d_Pb_hasName_4 : decode b_Pb_hasName 4 = .ok (.iload_n 1, 1) := by decide +kernel
theorem d_Pb_hasName_5 : decode b_Pb_hasName 5 = .ok (.aload_n 0, 1) := by decide +kernel
theorem d_Pb_hasName_6 : decode b_Pb_hasName 6 = .ok (.getfield 36, 3) := by decide +kernel
theorem d_Pb_hasName_9 : decode b_Pb_hasName 9 = .ok (.if_icmp .ge 7, 3) := by decide +kernel
theorem d_Pb_hasName_12 : decode b_Pb_hasName 12 = .ok (.iconst 1, 1) := by decide +kernel
theorem d_Pb_hasName_13 : decode b_Pb_hasName 13 = .ok (.goto 4, 3) := by decide +kernel
theorem d_Pb_hasName_16 : decode b_Pb_hasName 16 = .ok (.iconst 0, 1) := by decide +kernel
theorem d_Pb_hasName_17 : decode b_Pb_hasName 17 = .ok (.ireturn, 1) := by decide +kernel
theorem d_BT_cost_0 : decode b_BT_cost 0 = .ok (.aload_n 0, 1) := by decide +kernel
theorem d_BT_cost_1 : decode b_BT_cost 1 = .ok (.getfield 10, 3) := by decide +kernel
theorem d_BT_cost_4 : decode b_BT_cost 4 = .ok (.iload_n 1, 1) := by decide +kernel
theorem d_BT_cost_5 : decode b_BT_cost 5 = .ok (.invokevirtual 88, 3) := by decide +kernel
theorem d_BT_cost_8 : decode b_BT_cost 8 = .ok (.ifCond .eq 12, 3) := by decide +kernel
theorem d_BT_cost_11 : decode b_BT_cost 11 = .ok (.iload_n 2, 1) := by decide +kernel
theorem d_BT_cost_12 : decode b_BT_cost 12 = .ok (.bipush 20, 2) := by decide +kernel
theorem d_BT_cost_14 : decode b_BT_cost 14 = .ok (.invokestatic 70, 3) := by decide +kernel
theorem d_BT_cost_17 : decode b_BT_cost 17 = .ok (.ifCond .ne 7, 3) := by decide +kernel
theorem d_BT_cost_20 : decode b_BT_cost 20 = .ok (.sipush (-1000), 3) := by decide +kernel
theorem d_BT_cost_23 : decode b_BT_cost 23 = .ok (.ireturn, 1) := by decide +kernel
theorem d_BT_cost_24 : decode b_BT_cost 24 = .ok (.aload_n 0, 1) := by decide +kernel
theorem d_BT_cost_25 : decode b_BT_cost 25 = .ok (.getfield 10, 3) := by decide +kernel
theorem d_BT_cost_28 : decode b_BT_cost 28 = .ok (.getfield 95, 3) := by decide +kernel
theorem d_BT_cost_31 : decode b_BT_cost 31 = .ok (.iload_n 1, 1) := by decide +kernel
theorem d_BT_cost_32 : decode b_BT_cost 32 = .ok (.iaload, 1) := by decide +kernel
theorem d_BT_cost_33 : decode b_BT_cost 33 = .ok (.istore_n 3, 1) := by decide +kernel
theorem d_BT_cost_34 : decode b_BT_cost 34 = .ok (.aload_n 0, 1) := by decide +kernel
theorem d_BT_cost_35 : decode b_BT_cost 35 = .ok (.getfield 10, 3) := by decide +kernel
theorem d_BT_cost_38 : decode b_BT_cost 38 = .ok (.getfield 95, 3) := by decide +kernel
theorem d_BT_cost_41 : decode b_BT_cost 41 = .ok (.iload_n 1, 1) := by decide +kernel
theorem d_BT_cost_42 : decode b_BT_cost 42 = .ok (.iload_n 2, 1) := by decide +kernel
theorem d_BT_cost_43 : decode b_BT_cost 43 = .ok (.iastore, 1) := by decide +kernel
theorem d_BT_cost_44 : decode b_BT_cost 44 = .ok (.aload_n 0, 1) := by decide +kernel
theorem d_BT_cost_45 : decode b_BT_cost 45 = .ok (.invokevirtual 78, 3) := by decide +kernel
theorem d_BT_cost_48 : decode b_BT_cost 48 = .ok (.iload_n 3, 1) := by decide +kernel
theorem d_BT_cost_49 : decode b_BT_cost 49 = .ok (.ireturn, 1) := by decide +kernel
theorem d_BT_alike_0 : decode b_BT_alike 0 = .ok (.aload_n 0, 1) := by decide +kernel
theorem d_BT_alike_1 : decode b_BT_alike 1 = .ok (.getfield 10, 3) := by decide +kernel
theorem d_BT_alike_4 : decode b_BT_alike 4 = .ok (.iload_n 1, 1) := by decide +kernel
theorem d_BT_alike_5 : decode b_BT_alike 5 = .ok (.invokevirtual 88, 3) := by decide +kernel
theorem d_BT_alike_8 : decode b_BT_alike 8 = .ok (.ifCond .eq 14, 3) := by decide +kernel
theorem d_BT_alike_11 : decode b_BT_alike 11 = .ok (.aload_n 0, 1) := by decide +kernel
theorem d_BT_alike_12 : decode b_BT_alike 12 = .ok (.getfield 10, 3) := by decide +kernel
theorem d_BT_alike_15 : decode b_BT_alike 15 = .ok (.iload_n 2, 1) := by decide +kernel
theorem d_BT_alike_16 : decode b_BT_alike 16 = .ok (.invokevirtual 88, 3) := by decide +kernel
theorem d_BT_alike_19 : decode b_BT_alike 19 = .ok (.ifCond .ne 5, 3) := by decide +kernel
theorem d_BT_alike_22 : decode b_BT_alike 22 = .ok (.iconst (-1), 1) := by decide +kernel
theorem d_BT_alike_23 : decode b_BT_alike 23 = .ok (.ireturn, 1) := by decide +kernel
theorem d_BT_alike_24 : decode b_BT_alike 24 = .ok (.aload_n 0, 1) := by decide +kernel
theorem d_BT_alike_25 : decode b_BT_alike 25 = .ok (.getfield 10, 3) := by decide +kernel
theorem d_BT_alike_28 : decode b_BT_alike 28 = .ok (.iload_n 1, 1) := by decide +kernel
theorem d_BT_alike_29 : decode b_BT_alike 29 = .ok (.iload_n 2, 1) := by decide +kernel
theorem d_BT_alike_30 : decode b_BT_alike 30 = .ok (.invokevirtual 98, 3) := by decide +kernel
theorem d_BT_alike_33 : decode b_BT_alike 33 = .ok (.ifCond .eq 7, 3) := by decide +kernel
theorem d_BT_alike_36 : decode b_BT_alike 36 = .ok (.iconst 1, 1) := by decide +kernel
theorem d_BT_alike_37 : decode b_BT_alike 37 = .ok (.goto 4, 3) := by decide +kernel
theorem d_BT_alike_40 : decode b_BT_alike 40 = .ok (.iconst 0, 1) := by decide +kernel
theorem d_BT_alike_41 : decode b_BT_alike 41 = .ok (.ireturn, 1) := by decide +kernel
theorem d_Pb_canSwap_0 : decode b_Pb_canSwap 0 = .ok (.aload_n 0, 1) := by decide +kernel
theorem d_Pb_canSwap_1 : decode b_Pb_canSwap 1 = .ok (.getfield 9, 3) := by decide +kernel
theorem d_Pb_canSwap_4 : decode b_Pb_canSwap 4 = .ok (.iload_n 1, 1) := by decide +kernel
theorem d_Pb_canSwap_5 : decode b_Pb_canSwap 5 = .ok (.iaload, 1) := by decide +kernel
theorem d_Pb_canSwap_6 : decode b_Pb_canSwap 6 = .ok (.aload_n 0, 1) := by decide +kernel
theorem d_Pb_canSwap_7 : decode b_Pb_canSwap 7 = .ok (.getfield 9, 3) := by decide +kernel
theorem d_Pb_canSwap_10 : decode b_Pb_canSwap 10 = .ok (.iload_n 2, 1) := by decide +kernel
theorem d_Pb_canSwap_11 : decode b_Pb_canSwap 11 = .ok (.iaload, 1) := by decide +kernel
theorem d_Pb_canSwap_12 : decode b_Pb_canSwap 12 = .ok (.if_icmp .ne 33, 3) := by decide +kernel
theorem d_Pb_canSwap_15 : decode b_Pb_canSwap 15 = .ok (.aload_n 0, 1) := by decide +kernel
theorem d_Pb_canSwap_16 : decode b_Pb_canSwap 16 = .ok (.getfield 15, 3) := by decide +kernel
theorem d_Pb_canSwap_19 : decode b_Pb_canSwap 19 = .ok (.iload_n 1, 1) := by decide +kernel
theorem d_Pb_canSwap_20 : decode b_Pb_canSwap 20 = .ok (.iaload, 1) := by decide +kernel
theorem d_Pb_canSwap_21 : decode b_Pb_canSwap 21 = .ok (.aload_n 0, 1) := by decide +kernel
theorem d_Pb_canSwap_22 : decode b_Pb_canSwap 22 = .ok (.getfield 15, 3) := by decide +kernel
theorem d_Pb_canSwap_25 : decode b_Pb_canSwap 25 = .ok (.iload_n 2, 1) := by decide +kernel
theorem d_Pb_canSwap_26 : decode b_Pb_canSwap 26 = .ok (.iaload, 1) := by decide +kernel
theorem d_Pb_canSwap_27 : decode b_Pb_canSwap 27 = .ok (.if_icmp .ne 18, 3) := by decide +kernel
theorem d_Pb_canSwap_30 : decode b_Pb_canSwap 30 = .ok (.aload_n 0, 1) := by decide +kernel
theorem d_Pb_canSwap_31 : decode b_Pb_canSwap 31 = .ok (.getfield 18, 3) := by decide +kernel
theorem d_Pb_canSwap_34 : decode b_Pb_canSwap 34 = .ok (.iload_n 1, 1) := by decide +kernel
theorem d_Pb_canSwap_35 : decode b_Pb_canSwap 35 = .ok (.iaload, 1) := by decide +kernel
theorem d_Pb_canSwap_36 : decode b_Pb_canSwap 36 = .ok (.aload_n 0, 1) := by decide +kernel
theorem d_Pb_canSwap_37 : decode b_Pb_canSwap 37 = .ok (.getfield 18, 3) := by decide +kernel
theorem d_Pb_canSwap_40 : decode b_Pb_canSwap 40 = .ok (.iload_n 2, 1) := by decide +kernel
theorem d_Pb_canSwap_41 : decode b_Pb_canSwap 41 = .ok (.iaload, 1) := by decide +kernel
theorem d_Pb_canSwap_42 : decode b_Pb_canSwap 42 = .ok (.if_icmp .eq 5, 3) := by decide +kernel
theorem d_Pb_canSwap_45 : decode b_Pb_canSwap 45 = .ok (.iconst 0, 1) := by decide +kernel
theorem d_Pb_canSwap_46 : decode b_Pb_canSwap 46 = .ok (.ireturn, 1) := by decide +kernel
theorem d_Pb_canSwap_47 : decode b_Pb_canSwap 47 = .ok (.iconst 0, 1) := by decide +kernel
theorem d_Pb_canSwap_48 : decode b_Pb_canSwap 48 = .ok (.istore_n 3, 1) := by decide +kernel
theorem d_Pb_canSwap_49 : decode b_Pb_canSwap 49 = .ok (.iload_n 3, 1) := by decide +kernel
theorem d_Pb_canSwap_50 : decode b_Pb_canSwap 50 = .ok (.aload_n 0, 1) := by decide +kernel
theorem d_Pb_canSwap_51 : decode b_Pb_canSwap 51 = .ok (.getfield 40, 3) := by decide +kernel
theorem d_Pb_canSwap_54 : decode b_Pb_canSwap 54 = .ok (.if_icmp .ge 37, 3) := by decide +kernel
theorem d_Pb_canSwap_57 : decode b_Pb_canSwap 57 = .ok (.aload_n 0, 1) := by decide +kernel
theorem d_Pb_canSwap_58 : decode b_Pb_canSwap 58 = .ok (.getfield 27, 3) := by decide +kernel
theorem d_Pb_canSwap_61 : decode b_Pb_canSwap 61 = .ok (.iload_n 3, 1) := by decide +kernel
theorem d_Pb_canSwap_62 : decode b_Pb_canSwap 62 = .ok (.baload, 1) := by decide +kernel
theorem d_Pb_canSwap_63 : decode b_Pb_canSwap 63 = .ok (.ifCond .ne 22, 3) := by decide +kernel
theorem d_Pb_canSwap_66 : decode b_Pb_canSwap 66 = .ok (.aload_n 0, 1) := by decide +kernel
theorem d_Pb_canSwap_67 : decode b_Pb_canSwap 67 = .ok (.iload_n 3, 1) := by decide +kernel
theorem d_Pb_canSwap_68 : decode b_Pb_canSwap 68 = .ok (.iload_n 1, 1) := by decide +kernel
theorem d_Pb_canSwap_69 : decode b_Pb_canSwap 69 = .ok (.iload_n 2, 1) := by decide +kernel
theorem d_Pb_canSwap_70 : decode b_Pb_canSwap 70 = .ok (.invokevirtual 62, 3) := by decide +kernel
theorem d_Pb_canSwap_73 : decode b_Pb_canSwap 73 = .ok (.aload_n 0, 1) := by decide +kernel
theorem d_Pb_canSwap_74 : decode b_Pb_canSwap 74 = .ok (.iload_n 3, 1) := by decide +kernel
theorem d_Pb_canSwap_75 : decode b_Pb_canSwap 75 = .ok (.iload_n 1, 1) := by decide +kernel
theorem d_Pb_canSwap_76 : decode b_Pb_canSwap 76 = .ok (.iload_n 1, 1) := by decide +kernel
theorem d_Pb_canSwap_77 : decode b_Pb_canSwap 77 = .ok (.invokevirtual 62, 3) := by decide +kernel
theorem d_Pb_canSwap_80 : decode b_Pb_canSwap 80 = .ok (.if_icmp .eq 5, 3) := by decide +kernel
theorem d_Pb_canSwap_83 : decode b_Pb_canSwap 83 = .ok (.iconst 0, 1) := by decide +kernel
theorem d_Pb_canSwap_84 : decode b_Pb_canSwap 84 = .ok (.ireturn, 1) := by decide +kernel
theorem d_Pb_canSwap_85 : decode b_Pb_canSwap 85 = .ok (.iinc 3 1, 3) := by decide +kernel
theorem d_Pb_canSwap_88 : decode b_Pb_canSwap 88 = .ok (.goto (-39), 3) := by decide +kernel
theorem d_Pb_canSwap_91 : decode b_Pb_canSwap 91 = .ok (.iconst 1, 1) := by decide +kernel
theorem d_Pb_canSwap_92 : decode b_Pb_canSwap 92 = .ok (.ireturn, 1) := by decide +kernel
theorem d_Pb_timesFound_0 : decode b_Pb_timesFound 0 = .ok (.iconst 0, 1) := by decide +kernel
theorem d_Pb_timesFound_1 : decode b_Pb_timesFound 1 = .ok (.istore 4, 2) := by decide +kernel
theorem d_Pb_timesFound_3 : decode b_Pb_timesFound 3 = .ok (.iconst 0, 1) := by decide +kernel
theorem d_Pb_timesFound_4 : decode b_Pb_timesFound 4 = .ok (.istore 5, 2) := by decide +kernel
theorem d_Pb_timesFound_6 : decode b_Pb_timesFound 6 = .ok (.iload 5, 2) := by decide +kernel
theorem d_Pb_timesFound_8 : decode b_Pb_timesFound 8 = .ok (.aload_n 0, 1) := by decide +kernel
theorem d_Pb_timesFound_9 : decode b_Pb_timesFound 9 = .ok (.getfield 40, 3) := by decide +kernel
theorem d_Pb_timesFound_12 : decode b_Pb_timesFound 12 = .ok (.if_icmp .ge 34, 3) := by decide +kernel
theorem d_Pb_timesFound_15 : decode b_Pb_timesFound 15 = .ok (.aload_n 0, 1) := by decide +kernel
theorem d_Pb_timesFound_16 : decode b_Pb_timesFound 16 = .ok (.getfield 27, 3) := by decide +kernel
theorem d_Pb_timesFound_19 : decode b_Pb_timesFound 19 = .ok (.iload 5, 2) := by decide +kernel
theorem d_Pb_timesFound_21 : decode b_Pb_timesFound 21 = .ok (.baload, 1) := by decide +kernel
theorem d_Pb_timesFound_22 : decode b_Pb_timesFound 22 = .ok (.ifCond .ne 18, 3) := by decide +kernel
theorem d_Pb_timesFound_25 : decode b_Pb_timesFound 25 = .ok (.aload_n 0, 1) := by decide +kernel
theorem d_Pb_timesFound_26 : decode b_Pb_timesFound 26 = .ok (.iload_n 1, 1) := by decide +kernel
theorem d_Pb_timesFound_27 : decode b_Pb_timesFound 27 = .ok (.iload 5, 2) := by decide +kernel
theorem d_Pb_timesFound_29 : decode b_Pb_timesFound 29 = .ok (.iload_n 2, 1) := by decide +kernel
theorem d_Pb_timesFound_30 : decode b_Pb_timesFound 30 = .ok (.iload_n 3, 1) := by decide +kernel
theorem d_Pb_timesFound_31 : decode b_Pb_timesFound 31 = .ok (.invokevirtual 66, 3) := by decide +kernel
theorem d_Pb_timesFound_34 : decode b_Pb_timesFound 34 = .ok (.ifCond .eq 6, 3) := by decide +kernel
theorem d_Pb_timesFound_37 : decode b_Pb_timesFound 37 = .ok (.iinc 4 1, 3) := by decide +kernel
theorem d_Pb_timesFound_40 : decode b_Pb_timesFound 40 = .ok (.iinc 5 1, 3) := by decide +kernel
theorem d_Pb_timesFound_43 : decode b_Pb_timesFound 43 = .ok (.goto (-37), 3) := by decide +kernel
theorem d_Pb_timesFound_46 : decode b_Pb_timesFound 46 = .ok (.iload 4, 2) := by decide +kernel
theorem d_Pb_timesFound_48 : decode b_Pb_timesFound 48 = .ok (.ireturn, 1) := by decide +kernel
theorem d_Pb_isSwapped_0 : decode b_Pb_isSwapped 0 = .ok (.aload_n 0, 1) := by decide +kernel
theorem d_Pb_isSwapped_1 : decode b_Pb_isSwapped 1 = .ok (.getfield 21, 3) := by decide +kernel
theorem d_Pb_isSwapped_4 : decode b_Pb_isSwapped 4 = .ok (.iload_n 1, 1) := by decide +kernel
theorem d_Pb_isSwapped_5 : decode b_Pb_isSwapped 5 = .ok (.iaload, 1) := by decide +kernel
theorem d_Pb_isSwapped_6 : decode b_Pb_isSwapped 6 = .ok (.aload_n 0, 1) := by decide +kernel
theorem d_Pb_isSwapped_7 : decode b_Pb_isSwapped 7 = .ok (.getfield 21, 3) := by decide +kernel
theorem d_Pb_isSwapped_10 : decode b_Pb_isSwapped 10 = .ok (.iload_n 2, 1) := by decide +kernel
theorem d_Pb_isSwapped_11 : decode b_Pb_isSwapped 11 = .ok (.iaload, 1) := by decide +kernel
theorem d_Pb_isSwapped_12 : decode b_Pb_isSwapped 12 = .ok (.if_icmp .ne 18, 3) := by decide +kernel
theorem d_Pb_isSwapped_15 : decode b_Pb_isSwapped 15 = .ok (.aload_n 0, 1) := by decide +kernel
theorem d_Pb_isSwapped_16 : decode b_Pb_isSwapped 16 = .ok (.getfield 24, 3) := by decide +kernel
theorem d_Pb_isSwapped_19 : decode b_Pb_isSwapped 19 = .ok (.iload_n 1, 1) := by decide +kernel
theorem d_Pb_isSwapped_20 : decode b_Pb_isSwapped 20 = .ok (.iaload, 1) := by decide +kernel
theorem d_Pb_isSwapped_21 : decode b_Pb_isSwapped 21 = .ok (.aload_n 0, 1) := by decide +kernel
theorem d_Pb_isSwapped_22 : decode b_Pb_isSwapped 22 = .ok (.getfield 24, 3) := by decide +kernel
theorem d_Pb_isSwapped_25 : decode b_Pb_isSwapped 25 = .ok (.iload_n 2, 1) := by decide +kernel
theorem d_Pb_isSwapped_26 : decode b_Pb_isSwapped 26 = .ok (.iaload, 1) := by decide +kernel
theorem d_Pb_isSwapped_27 : decode b_Pb_isSwapped 27 = .ok (.if_icmp .eq 5, 3) := by decide +kernel
theorem d_Pb_isSwapped_30 : decode b_Pb_isSwapped 30 = .ok (.iconst 0, 1) := by decide +kernel
theorem d_Pb_isSwapped_31 : decode b_Pb_isSwapped 31 = .ok (.ireturn, 1) := by decide +kernel
theorem d_Pb_isSwapped_32 : decode b_Pb_isSwapped 32 = .ok (.iconst 0, 1) := by decide +kernel
theorem d_Pb_isSwapped_33 : decode b_Pb_isSwapped 33 = .ok (.istore 5, 2) := by decide +kernel
theorem d_Pb_isSwapped_35 : decode b_Pb_isSwapped 35 = .ok (.iload 5, 2) := by decide +kernel
theorem d_Pb_isSwapped_37 : decode b_Pb_isSwapped 37 = .ok (.aload_n 0, 1) := by decide +kernel
theorem d_Pb_isSwapped_38 : decode b_Pb_isSwapped 38 = .ok (.getfield 36, 3) := by decide +kernel
theorem d_Pb_isSwapped_41 : decode b_Pb_isSwapped 41 = .ok (.if_icmp .ge 58, 3) := by decide +kernel
theorem d_Pb_isSwapped_44 : decode b_Pb_isSwapped 44 = .ok (.iload 5, 2) := by decide +kernel
theorem d_Pb_isSwapped_46 : decode b_Pb_isSwapped 46 = .ok (.iload_n 3, 1) := by decide +kernel
theorem d_Pb_isSwapped_47 : decode b_Pb_isSwapped 47 = .ok (.if_icmp .ne 8, 3) := by decide +kernel
theorem d_Pb_isSwapped_50 : decode b_Pb_isSwapped 50 = .ok (.iload 4, 2) := by decide +kernel
theorem d_Pb_isSwapped_52 : decode b_Pb_isSwapped 52 = .ok (.goto 16, 3) := by decide +kernel
theorem d_Pb_isSwapped_55 : decode b_Pb_isSwapped 55 = .ok (.iload 5, 2) := by decide +kernel
theorem d_Pb_isSwapped_57 : decode b_Pb_isSwapped 57 = .ok (.iload 4, 2) := by decide +kernel
theorem d_Pb_isSwapped_59 : decode b_Pb_isSwapped 59 = .ok (.if_icmp .ne 7, 3) := by decide +kernel
theorem d_Pb_isSwapped_62 : decode b_Pb_isSwapped 62 = .ok (.iload_n 3, 1) := by decide +kernel
theorem d_Pb_isSwapped_63 : decode b_Pb_isSwapped 63 = .ok (.goto 5, 3) := by decide +kernel
theorem d_Pb_isSwapped_66 : decode b_Pb_isSwapped 66 = .ok (.iload 5, 2) := by decide +kernel
theorem d_Pb_isSwapped_68 : decode b_Pb_isSwapped 68 = .ok (.istore 6, 2) := by decide +kernel
theorem d_Pb_isSwapped_70 : decode b_Pb_isSwapped 70 = .ok (.aload_n 0, 1) := by decide +kernel
theorem d_Pb_isSwapped_71 : decode b_Pb_isSwapped 71 = .ok (.getfield 33, 3) := by decide +kernel
theorem d_Pb_isSwapped_74 : decode b_Pb_isSwapped 74 = .ok (.iload_n 1, 1) := by decide +kernel
theorem d_Pb_isSwapped_75 : decode b_Pb_isSwapped 75 = .ok (.aaload, 1) := by decide +kernel
theorem d_Pb_isSwapped_76 : decode b_Pb_isSwapped 76 = .ok (.iload 5, 2) := by decide +kernel
theorem d_Pb_isSwapped_78 : decode b_Pb_isSwapped 78 = .ok (.iaload, 1) := by decide +kernel
theorem d_Pb_isSwapped_79 : decode b_Pb_isSwapped 79 = .ok (.aload_n 0, 1) := by decide +kernel
theorem d_Pb_isSwapped_80 : decode b_Pb_isSwapped 80 = .ok (.getfield 33, 3) := by decide +kernel
theorem d_Pb_isSwapped_83 : decode b_Pb_isSwapped 83 = .ok (.iload_n 2, 1) := by decide +kernel
theorem d_Pb_isSwapped_84 : decode b_Pb_isSwapped 84 = .ok (.aaload, 1) := by decide +kernel
theorem d_Pb_isSwapped_85 : decode b_Pb_isSwapped 85 = .ok (.iload 6, 2) := by decide +kernel
theorem d_Pb_isSwapped_87 : decode b_Pb_isSwapped 87 = .ok (.iaload, 1) := by decide +kernel
theorem d_Pb_isSwapped_88 : decode b_Pb_isSwapped 88 = .ok (.if_icmp .eq 5, 3) := by decide +kernel
theorem d_Pb_isSwapped_91 : decode b_Pb_isSwapped 91 = .ok (.iconst 0, 1) := by decide +kernel
theorem d_Pb_isSwapped_92 : decode b_Pb_isSwapped 92 = .ok (.ireturn, 1) := by decide +kernel
theorem d_Pb_isSwapped_93 : decode b_Pb_isSwapped 93 = .ok (.iinc 5 1, 3) := by decide +kernel
theorem d_Pb_isSwapped_96 : decode b_Pb_isSwapped 96 = .ok (.goto (-61), 3) := by decide +kernel
theorem d_Pb_isSwapped_99 : decode b_Pb_isSwapped 99 = .ok (.iconst 1, 1) := by decide +kernel
theorem d_Pb_isSwapped_100 : decode b_Pb_isSwapped 100 = .ok (.ireturn, 1) := by decide +kernel
theorem d_BT_order_0 : decode b_BT_order 0 = .ok (.aload_n 0, 1) := by decide +kernel
theorem d_BT_order_1 : decode b_BT_order 1 = .ok (.getfield 10, 3) := by decide +kernel
theorem d_BT_order_4 : decode b_BT_order 4 = .ok (.getfield 101, 3) := by decide +kernel
theorem d_BT_order_7 : decode b_BT_order 7 = .ok (.ifCond .le 6, 3) := by decide +kernel
theorem d_BT_order_10 : decode b_BT_order 10 = .ok (.bipush (-2), 2) := by decide +kernel
theorem d_BT_order_12 : decode b_BT_order 12 = .ok (.ireturn, 1) := by decide +kernel
theorem d_BT_order_13 : decode b_BT_order 13 = .ok (.aload_n 0, 1) := by decide +kernel
theorem d_BT_order_14 : decode b_BT_order 14 = .ok (.getfield 10, 3) := by decide +kernel
theorem d_BT_order_17 : decode b_BT_order 17 = .ok (.invokevirtual 105, 3) := by decide +kernel
theorem d_BT_order_20 : decode b_BT_order 20 = .ok (.istore_n 1, 1) := by decide +kernel
theorem d_BT_order_21 : decode b_BT_order 21 = .ok (.iload_n 1, 1) := by decide +kernel
theorem d_BT_order_22 : decode b_BT_order 22 = .ok (.ifCond .le 7, 3) := by decide +kernel
theorem d_BT_order_25 : decode b_BT_order 25 = .ok (.aload_n 0, 1) := by decide +kernel
theorem d_BT_order_26 : decode b_BT_order 26 = .ok (.invokevirtual 78, 3) := by decide +kernel
theorem d_BT_order_29 : decode b_BT_order 29 = .ok (.iload_n 1, 1) := by decide +kernel
theorem d_BT_order_30 : decode b_BT_order 30 = .ok (.ireturn, 1) := by decide +kernel
theorem d_Pb_addOrders_0 : decode b_Pb_addOrders 0 = .ok (.iconst 0, 1) := by decide +kernel
theorem d_Pb_addOrders_1 : decode b_Pb_addOrders 1 = .ok (.istore_n 1, 1) := by decide +kernel
theorem d_Pb_addOrders_2 : decode b_Pb_addOrders 2 = .ok (.iload_n 1, 1) := by decide +kernel
theorem d_Pb_addOrders_3 : decode b_Pb_addOrders 3 = .ok (.aload_n 0, 1) := by decide +kernel
theorem d_Pb_addOrders_4 : decode b_Pb_addOrders 4 = .ok (.getfield 36, 3) := by decide +kernel
theorem d_Pb_addOrders_7 : decode b_Pb_addOrders 7 = .ok (.if_icmp .ge 27, 3) := by decide +kernel
theorem d_Pb_addOrders_10 : decode b_Pb_addOrders 10 = .ok (.aload_n 0, 1) := by decide +kernel
theorem d_Pb_addOrders_11 : decode b_Pb_addOrders 11 = .ok (.iload_n 1, 1) := by decide +kernel
theorem d_Pb_addOrders_12 : decode b_Pb_addOrders 12 = .ok (.invokevirtual 43, 3) := by decide +kernel
theorem d_Pb_addOrders_15 : decode b_Pb_addOrders 15 = .ok (.istore_n 2, 1) := by decide +kernel
theorem d_Pb_addOrders_16 : decode b_Pb_addOrders 16 = .ok (.iload_n 2, 1) := by decide +kernel
theorem d_Pb_addOrders_17 : decode b_Pb_addOrders 17 = .ok (.bipush (-2), 2) := by decide +kernel
theorem d_Pb_addOrders_19 : decode b_Pb_addOrders 19 = .ok (.if_icmp .eq 9, 3) := by decide +kernel
theorem d_Pb_addOrders_22 : decode b_Pb_addOrders 22 = .ok (.aload_n 0, 1) := by decide +kernel
theorem d_Pb_addOrders_23 : decode b_Pb_addOrders 23 = .ok (.iload_n 1, 1) := by decide +kernel
theorem d_Pb_addOrders_24 : decode b_Pb_addOrders 24 = .ok (.iload_n 2, 1) := by decide +kernel
theorem d_Pb_addOrders_25 : decode b_Pb_addOrders 25 = .ok (.invokevirtual 47, 3) := by decide +kernel
theorem d_Pb_addOrders_28 : decode b_Pb_addOrders 28 = .ok (.iinc 1 1, 3) := by decide +kernel
theorem d_Pb_addOrders_31 : decode b_Pb_addOrders 31 = .ok (.goto (-29), 3) := by decide +kernel
theorem d_Pb_addOrders_34 : decode b_Pb_addOrders 34 = .ok (.aload_n 0, 1) := by decide +kernel
theorem d_Pb_addOrders_35 : decode b_Pb_addOrders 35 = .ok (.getfield 51, 3) := by decide +kernel
theorem d_Pb_addOrders_38 : decode b_Pb_addOrders 38 = .ok (.ireturn, 1) := by decide +kernel
theorem d_Pb_nextAlike_0 : decode b_Pb_nextAlike 0 = .ok (.iload_n 1, 1) := by decide +kernel
theorem d_Pb_nextAlike_1 : decode b_Pb_nextAlike 1 = .ok (.iconst 1, 1) := by decide +kernel
theorem d_Pb_nextAlike_2 : decode b_Pb_nextAlike 2 = .ok (.iadd, 1) := by decide +kernel
theorem d_Pb_nextAlike_3 : decode b_Pb_nextAlike 3 = .ok (.istore_n 2, 1) := by decide +kernel
theorem d_Pb_nextAlike_4 : decode b_Pb_nextAlike 4 = .ok (.iload_n 2, 1) := by decide +kernel
theorem d_Pb_nextAlike_5 : decode b_Pb_nextAlike 5 = .ok (.aload_n 0, 1) := by decide +kernel
theorem d_Pb_nextAlike_6 : decode b_Pb_nextAlike 6 = .ok (.getfield 36, 3) := by decide +kernel
theorem d_Pb_nextAlike_9 : decode b_Pb_nextAlike 9 = .ok (.if_icmp .ge 20, 3) := by decide +kernel
theorem d_Pb_nextAlike_12 : decode b_Pb_nextAlike 12 = .ok (.aload_n 0, 1) := by decide +kernel
theorem d_Pb_nextAlike_13 : decode b_Pb_nextAlike 13 = .ok (.iload_n 1, 1) := by decide +kernel
theorem d_Pb_nextAlike_14 : decode b_Pb_nextAlike 14 = .ok (.iload_n 2, 1) := by decide +kernel
theorem d_Pb_nextAlike_15 : decode b_Pb_nextAlike 15 = .ok (.invokevirtual 54, 3) := by decide +kernel
theorem d_Pb_nextAlike_18 : decode b_Pb_nextAlike 18 = .ok (.ifCond .eq 5, 3) := by decide +kernel
theorem d_Pb_nextAlike_21 : decode b_Pb_nextAlike 21 = .ok (.iload_n 2, 1) := by decide +kernel
theorem d_Pb_nextAlike_22 : decode b_Pb_nextAlike 22 = .ok (.ireturn, 1) := by decide +kernel
theorem d_Pb_nextAlike_23 : decode b_Pb_nextAlike 23 = .ok (.iinc 2 1, 3) := by decide +kernel
theorem d_Pb_nextAlike_26 : decode b_Pb_nextAlike 26 = .ok (.goto (-22), 3) := by decide +kernel
theorem d_Pb_nextAlike_29 : decode b_Pb_nextAlike 29 = .ok (.bipush (-2), 2) := by decide +kernel
theorem d_Pb_nextAlike_31 : decode b_Pb_nextAlike 31 = .ok (.ireturn, 1) := by decide +kernel
theorem d_Pb_addOrder_0 : decode b_Pb_addOrder 0 = .ok (.aload_n 0, 1) := by decide +kernel
theorem d_Pb_addOrder_1 : decode b_Pb_addOrder 1 = .ok (.iconst 0, 1) := by decide +kernel
theorem d_Pb_addOrder_2 : decode b_Pb_addOrder 2 = .ok (.iconst 0, 1) := by decide +kernel
theorem d_Pb_addOrder_3 : decode b_Pb_addOrder 3 = .ok (.invokevirtual 58, 3) := by decide +kernel
theorem d_Pb_addOrder_6 : decode b_Pb_addOrder 6 = .ok (.istore_n 3, 1) := by decide +kernel
theorem d_Pb_addOrder_7 : decode b_Pb_addOrder 7 = .ok (.iload_n 3, 1) := by decide +kernel
theorem d_Pb_addOrder_8 : decode b_Pb_addOrder 8 = .ok (.bipush (-3), 2) := by decide +kernel
theorem d_Pb_addOrder_10 : decode b_Pb_addOrder 10 = .ok (.if_icmp .eq 38, 3) := by decide +kernel
theorem d_Pb_addOrder_13 : decode b_Pb_addOrder 13 = .ok (.aload_n 0, 1) := by decide +kernel
theorem d_Pb_addOrder_14 : decode b_Pb_addOrder 14 = .ok (.getfield 33, 3) := by decide +kernel
theorem d_Pb_addOrder_17 : decode b_Pb_addOrder 17 = .ok (.iload_n 3, 1) := by decide +kernel
theorem d_Pb_addOrder_18 : decode b_Pb_addOrder 18 = .ok (.aaload, 1) := by decide +kernel
theorem d_Pb_addOrder_19 : decode b_Pb_addOrder 19 = .ok (.iload_n 1, 1) := by decide +kernel
theorem d_Pb_addOrder_20 : decode b_Pb_addOrder 20 = .ok (.iconst 1, 1) := by decide +kernel
theorem d_Pb_addOrder_21 : decode b_Pb_addOrder 21 = .ok (.iastore, 1) := by decide +kernel
theorem d_Pb_addOrder_22 : decode b_Pb_addOrder 22 = .ok (.aload_n 0, 1) := by decide +kernel
theorem d_Pb_addOrder_23 : decode b_Pb_addOrder 23 = .ok (.getfield 33, 3) := by decide +kernel
theorem d_Pb_addOrder_26 : decode b_Pb_addOrder 26 = .ok (.iload_n 3, 1) := by decide +kernel
theorem d_Pb_addOrder_27 : decode b_Pb_addOrder 27 = .ok (.aaload, 1) := by decide +kernel
theorem d_Pb_addOrder_28 : decode b_Pb_addOrder 28 = .ok (.iload_n 2, 1) := by decide +kernel
theorem d_Pb_addOrder_29 : decode b_Pb_addOrder 29 = .ok (.iconst (-1), 1) := by decide +kernel
theorem d_Pb_addOrder_30 : decode b_Pb_addOrder 30 = .ok (.iastore, 1) := by decide +kernel
theorem d_Pb_addOrder_31 : decode b_Pb_addOrder 31 = .ok (.aload_n 0, 1) := by decide +kernel
theorem d_Pb_addOrder_32 : decode b_Pb_addOrder 32 = .ok (.getfield 27, 3) := by decide +kernel
theorem d_Pb_addOrder_35 : decode b_Pb_addOrder 35 = .ok (.iload_n 3, 1) := by decide +kernel
theorem d_Pb_addOrder_36 : decode b_Pb_addOrder 36 = .ok (.iconst 1, 1) := by decide +kernel
theorem d_Pb_addOrder_37 : decode b_Pb_addOrder 37 = .ok (.bastore, 1) := by decide +kernel
theorem d_Pb_addOrder_38 : decode b_Pb_addOrder 38 = .ok (.aload_n 0, 1) := by decide +kernel
theorem d_Pb_addOrder_39 : decode b_Pb_addOrder 39 = .ok (.dup, 1) := by decide +kernel
theorem d_Pb_addOrder_40 : decode b_Pb_addOrder 40 = .ok (.getfield 51, 3) := by decide +kernel
theorem d_Pb_addOrder_43 : decode b_Pb_addOrder 43 = .ok (.iconst 1, 1) := by decide +kernel
theorem d_Pb_addOrder_44 : decode b_Pb_addOrder 44 = .ok (.iadd, 1) := by decide +kernel
theorem d_Pb_addOrder_45 : decode b_Pb_addOrder 45 = .ok (.putfield 51, 3) := by decide +kernel
theorem d_Pb_addOrder_48 : decode b_Pb_addOrder 48 = .ok (.return_, 1) := by decide +kernel
theorem d_BT_rule_0 : decode b_BT_rule 0 = .ok (.iload_n 1, 1) := by decide +kernel
theorem d_BT_rule_1 : decode b_BT_rule 1 = .ok (.ifCond .lt 24, 3) := by decide +kernel
theorem d_BT_rule_4 : decode b_BT_rule 4 = .ok (.iload_n 1, 1) := by decide +kernel
theorem d_BT_rule_5 : decode b_BT_rule 5 = .ok (.getstatic 37, 3) := by decide +kernel
theorem d_BT_rule_8 : decode b_BT_rule 8 = .ok (.arraylength, 1) := by decide +kernel
theorem d_BT_rule_9 : decode b_BT_rule 9 = .ok (.if_icmp .ge 16, 3) := by decide +kernel
theorem d_BT_rule_12 : decode b_BT_rule 12 = .ok (.iload_n 2, 1) := by decide +kernel
theorem d_BT_rule_13 : decode b_BT_rule 13 = .ok (.ifCond .lt 12, 3) := by decide +kernel
theorem d_BT_rule_16 : decode b_BT_rule 16 = .ok (.iload_n 2, 1) := by decide +kernel
theorem d_BT_rule_17 : decode b_BT_rule 17 = .ok (.getstatic 37, 3) := by decide +kernel
theorem d_BT_rule_20 : decode b_BT_rule 20 = .ok (.iload_n 1, 1) := by decide +kernel
theorem d_BT_rule_21 : decode b_BT_rule 21 = .ok (.iaload, 1) := by decide +kernel
theorem d_BT_rule_22 : decode b_BT_rule 22 = .ok (.if_icmp .lt 5, 3) := by decide +kernel
theorem d_BT_rule_25 : decode b_BT_rule 25 = .ok (.iconst (-1), 1) := by decide +kernel
theorem d_BT_rule_26 : decode b_BT_rule 26 = .ok (.ireturn, 1) := by decide +kernel
theorem d_BT_rule_27 : decode b_BT_rule 27 = .ok (.aload_n 0, 1) := by decide +kernel
theorem d_BT_rule_28 : decode b_BT_rule 28 = .ok (.getfield 41, 3) := by decide +kernel
theorem d_BT_rule_31 : decode b_BT_rule 31 = .ok (.iload_n 1, 1) := by decide +kernel
theorem d_BT_rule_32 : decode b_BT_rule 32 = .ok (.iaload, 1) := by decide +kernel
theorem d_BT_rule_33 : decode b_BT_rule 33 = .ok (.istore_n 3, 1) := by decide +kernel
theorem d_BT_rule_34 : decode b_BT_rule 34 = .ok (.aload_n 0, 1) := by decide +kernel
theorem d_BT_rule_35 : decode b_BT_rule 35 = .ok (.getfield 41, 3) := by decide +kernel
theorem d_BT_rule_38 : decode b_BT_rule 38 = .ok (.iload_n 1, 1) := by decide +kernel
theorem d_BT_rule_39 : decode b_BT_rule 39 = .ok (.iload_n 2, 1) := by decide +kernel
theorem d_BT_rule_40 : decode b_BT_rule 40 = .ok (.iastore, 1) := by decide +kernel
theorem d_BT_rule_41 : decode b_BT_rule 41 = .ok (.iload_n 3, 1) := by decide +kernel
theorem d_BT_rule_42 : decode b_BT_rule 42 = .ok (.ireturn, 1) := by decide +kernel
theorem d_BT_start_0 : decode b_BT_start 0 = .ok (.aload_n 0, 1) := by decide +kernel
theorem d_BT_start_1 : decode b_BT_start 1 = .ok (.getfield 10, 3) := by decide +kernel
theorem d_BT_start_4 : decode b_BT_start 4 = .ok (.iload_n 1, 1) := by decide +kernel
theorem d_BT_start_5 : decode b_BT_start 5 = .ok (.invokevirtual 88, 3) := by decide +kernel
theorem d_BT_start_8 : decode b_BT_start 8 = .ok (.ifCond .eq 12, 3) := by decide +kernel
theorem d_BT_start_11 : decode b_BT_start 11 = .ok (.iload_n 2, 1) := by decide +kernel
theorem d_BT_start_12 : decode b_BT_start 12 = .ok (.bipush 50, 2) := by decide +kernel
theorem d_BT_start_14 : decode b_BT_start 14 = .ok (.invokestatic 70, 3) := by decide +kernel
theorem d_BT_start_17 : decode b_BT_start 17 = .ok (.ifCond .ne 7, 3) := by decide +kernel
theorem d_BT_start_20 : decode b_BT_start 20 = .ok (.sipush (-1000), 3) := by decide +kernel
theorem d_BT_start_23 : decode b_BT_start 23 = .ok (.ireturn, 1) := by decide +kernel
theorem d_BT_start_24 : decode b_BT_start 24 = .ok (.aload_n 0, 1) := by decide +kernel
theorem d_BT_start_25 : decode b_BT_start 25 = .ok (.getfield 44, 3) := by decide +kernel
theorem d_BT_start_28 : decode b_BT_start 28 = .ok (.iload_n 1, 1) := by decide +kernel
theorem d_BT_start_29 : decode b_BT_start 29 = .ok (.iaload, 1) := by decide +kernel
theorem d_BT_start_30 : decode b_BT_start 30 = .ok (.istore_n 3, 1) := by decide +kernel
theorem d_BT_start_31 : decode b_BT_start 31 = .ok (.aload_n 0, 1) := by decide +kernel
theorem d_BT_start_32 : decode b_BT_start 32 = .ok (.getfield 44, 3) := by decide +kernel
theorem d_BT_start_35 : decode b_BT_start 35 = .ok (.iload_n 1, 1) := by decide +kernel
theorem d_BT_start_36 : decode b_BT_start 36 = .ok (.iload_n 2, 1) := by decide +kernel
theorem d_BT_start_37 : decode b_BT_start 37 = .ok (.iastore, 1) := by decide +kernel
theorem d_BT_start_38 : decode b_BT_start 38 = .ok (.iload_n 3, 1) := by decide +kernel
theorem d_BT_start_39 : decode b_BT_start 39 = .ok (.ireturn, 1) := by decide +kernel
theorem d_BT_offer_0 : decode b_BT_offer 0 = .ok (.aload_n 0, 1) := by decide +kernel
theorem d_BT_offer_1 : decode b_BT_offer 1 = .ok (.getfield 10, 3) := by decide +kernel
theorem d_BT_offer_4 : decode b_BT_offer 4 = .ok (.aload_n 0, 1) := by decide +kernel
theorem d_BT_offer_5 : decode b_BT_offer 5 = .ok (.getfield 44, 3) := by decide +kernel
theorem d_BT_offer_8 : decode b_BT_offer 8 = .ok (.invokevirtual 109, 3) := by decide +kernel
theorem d_BT_offer_11 : decode b_BT_offer 11 = .ok (.ifCond .ne 5, 3) := by decide +kernel
theorem d_BT_offer_14 : decode b_BT_offer 14 = .ok (.iconst 0, 1) := by decide +kernel
theorem d_BT_offer_15 : decode b_BT_offer 15 = .ok (.ireturn, 1) := by decide +kernel
theorem d_BT_offer_16 : decode b_BT_offer 16 = .ok (.aload_n 0, 1) := by decide +kernel
theorem d_BT_offer_17 : decode b_BT_offer 17 = .ok (.getfield 10, 3) := by decide +kernel
theorem d_BT_offer_20 : decode b_BT_offer 20 = .ok (.aload_n 0, 1) := by decide +kernel
theorem d_BT_offer_21 : decode b_BT_offer 21 = .ok (.getfield 10, 3) := by decide +kernel
theorem d_BT_offer_24 : decode b_BT_offer 24 = .ok (.getfield 95, 3) := by decide +kernel
theorem d_BT_offer_27 : decode b_BT_offer 27 = .ok (.aload_n 0, 1) := by decide +kernel
theorem d_BT_offer_28 : decode b_BT_offer 28 = .ok (.getfield 44, 3) := by decide +kernel
theorem d_BT_offer_31 : decode b_BT_offer 31 = .ok (.invokevirtual 113, 3) := by decide +kernel
theorem d_BT_offer_34 : decode b_BT_offer 34 = .ok (.istore_n 1, 1) := by decide +kernel
theorem d_BT_offer_35 : decode b_BT_offer 35 = .ok (.aload_n 0, 1) := by decide +kernel
theorem d_BT_offer_36 : decode b_BT_offer 36 = .ok (.getfield 19, 3) := by decide +kernel
theorem d_BT_offer_39 : decode b_BT_offer 39 = .ok (.iload_n 1, 1) := by decide +kernel
theorem d_BT_offer_40 : decode b_BT_offer 40 = .ok (.invokevirtual 117, 3) := by decide +kernel
theorem d_BT_offer_43 : decode b_BT_offer 43 = .ok (.ifCond .eq 5, 3) := by decide +kernel
theorem d_BT_offer_46 : decode b_BT_offer 46 = .ok (.iconst 0, 1) := by decide +kernel
theorem d_BT_offer_47 : decode b_BT_offer 47 = .ok (.ireturn, 1) := by decide +kernel
theorem d_BT_offer_48 : decode b_BT_offer 48 = .ok (.aload_n 0, 1) := by decide +kernel
theorem d_BT_offer_49 : decode b_BT_offer 49 = .ok (.getfield 19, 3) := by decide +kernel
theorem d_BT_offer_52 : decode b_BT_offer 52 = .ok (.aload_n 0, 1) := by decide +kernel
theorem d_BT_offer_53 : decode b_BT_offer 53 = .ok (.getfield 44, 3) := by decide +kernel
theorem d_BT_offer_56 : decode b_BT_offer 56 = .ok (.iload_n 1, 1) := by decide +kernel
theorem d_BT_offer_57 : decode b_BT_offer 57 = .ok (.invokevirtual 120, 3) := by decide +kernel
theorem d_BT_offer_60 : decode b_BT_offer 60 = .ok (.iconst 1, 1) := by decide +kernel
theorem d_BT_offer_61 : decode b_BT_offer 61 = .ok (.ireturn, 1) := by decide +kernel
theorem d_Pb_isPlan_0 : decode b_Pb_isPlan 0 = .ok (.iconst 0, 1) := by decide +kernel
theorem d_Pb_isPlan_1 : decode b_Pb_isPlan 1 = .ok (.istore_n 2, 1) := by decide +kernel
theorem d_Pb_isPlan_2 : decode b_Pb_isPlan 2 = .ok (.iload_n 2, 1) := by decide +kernel
theorem d_Pb_isPlan_3 : decode b_Pb_isPlan 3 = .ok (.aload_n 0, 1) := by decide +kernel
theorem d_Pb_isPlan_4 : decode b_Pb_isPlan 4 = .ok (.getfield 36, 3) := by decide +kernel
theorem d_Pb_isPlan_7 : decode b_Pb_isPlan 7 = .ok (.if_icmp .ge 35, 3) := by decide +kernel
theorem d_Pb_isPlan_10 : decode b_Pb_isPlan 10 = .ok (.aload_n 1, 1) := by decide +kernel
theorem d_Pb_isPlan_11 : decode b_Pb_isPlan 11 = .ok (.iload_n 2, 1) := by decide +kernel
theorem d_Pb_isPlan_12 : decode b_Pb_isPlan 12 = .ok (.iaload, 1) := by decide +kernel
theorem d_Pb_isPlan_13 : decode b_Pb_isPlan 13 = .ok (.aload_n 0, 1) := by decide +kernel
theorem d_Pb_isPlan_14 : decode b_Pb_isPlan 14 = .ok (.getfield 9, 3) := by decide +kernel
theorem d_Pb_isPlan_17 : decode b_Pb_isPlan 17 = .ok (.iload_n 2, 1) := by decide +kernel
theorem d_Pb_isPlan_18 : decode b_Pb_isPlan 18 = .ok (.iaload, 1) := by decide +kernel
theorem d_Pb_isPlan_19 : decode b_Pb_isPlan 19 = .ok (.if_icmp .lt 15, 3) := by decide +kernel
theorem d_Pb_isPlan_22 : decode b_Pb_isPlan 22 = .ok (.aload_n 1, 1) := by decide +kernel
theorem d_Pb_isPlan_23 : decode b_Pb_isPlan 23 = .ok (.iload_n 2, 1) := by decide +kernel
theorem d_Pb_isPlan_24 : decode b_Pb_isPlan 24 = .ok (.iaload, 1) := by decide +kernel
theorem d_Pb_isPlan_25 : decode b_Pb_isPlan 25 = .ok (.aload_n 0, 1) := by decide +kernel
theorem d_Pb_isPlan_26 : decode b_Pb_isPlan 26 = .ok (.getfield 15, 3) := by decide +kernel
theorem d_Pb_isPlan_29 : decode b_Pb_isPlan 29 = .ok (.iload_n 2, 1) := by decide +kernel
theorem d_Pb_isPlan_30 : decode b_Pb_isPlan 30 = .ok (.iaload, 1) := by decide +kernel
theorem d_Pb_isPlan_31 : decode b_Pb_isPlan 31 = .ok (.if_icmp .le 5, 3) := by decide +kernel
theorem d_Pb_isPlan_34 : decode b_Pb_isPlan 34 = .ok (.iconst 0, 1) := by decide +kernel
theorem d_Pb_isPlan_35 : decode b_Pb_isPlan 35 = .ok (.ireturn, 1) := by decide +kernel
theorem d_Pb_isPlan_36 : decode b_Pb_isPlan 36 = .ok (.iinc 2 1, 3) := by decide +kernel
theorem d_Pb_isPlan_39 : decode b_Pb_isPlan 39 = .ok (.goto (-37), 3) := by decide +kernel
theorem d_Pb_isPlan_42 : decode b_Pb_isPlan 42 = .ok (.iconst 0, 1) := by decide +kernel
theorem d_Pb_isPlan_43 : decode b_Pb_isPlan 43 = .ok (.istore_n 2, 1) := by decide +kernel
theorem d_Pb_isPlan_44 : decode b_Pb_isPlan 44 = .ok (.iload_n 2, 1) := by decide +kernel
theorem d_Pb_isPlan_45 : decode b_Pb_isPlan 45 = .ok (.aload_n 0, 1) := by decide +kernel
theorem d_Pb_isPlan_46 : decode b_Pb_isPlan 46 = .ok (.getfield 40, 3) := by decide +kernel
theorem d_Pb_isPlan_49 : decode b_Pb_isPlan 49 = .ok (.if_icmp .ge 61, 3) := by decide +kernel
theorem d_Pb_isPlan_52 : decode b_Pb_isPlan 52 = .ok (.aload_n 0, 1) := by decide +kernel
theorem d_Pb_isPlan_53 : decode b_Pb_isPlan 53 = .ok (.aload_n 0, 1) := by decide +kernel
theorem d_Pb_isPlan_54 : decode b_Pb_isPlan 54 = .ok (.getfield 33, 3) := by decide +kernel
theorem d_Pb_isPlan_57 : decode b_Pb_isPlan 57 = .ok (.iload_n 2, 1) := by decide +kernel
theorem d_Pb_isPlan_58 : decode b_Pb_isPlan 58 = .ok (.aaload, 1) := by decide +kernel
theorem d_Pb_isPlan_59 : decode b_Pb_isPlan 59 = .ok (.aload_n 1, 1) := by decide +kernel
theorem d_Pb_isPlan_60 : decode b_Pb_isPlan 60 = .ok (.invokevirtual 70, 3) := by decide +kernel
theorem d_Pb_isPlan_63 : decode b_Pb_isPlan 63 = .ok (.istore_n 3, 1) := by decide +kernel
theorem d_Pb_isPlan_64 : decode b_Pb_isPlan 64 = .ok (.aload_n 0, 1) := by decide +kernel
theorem d_Pb_isPlan_65 : decode b_Pb_isPlan 65 = .ok (.iload_n 2, 1) := by decide +kernel
theorem d_Pb_isPlan_66 : decode b_Pb_isPlan 66 = .ok (.iconst 1, 1) := by decide +kernel
theorem d_Pb_isPlan_67 : decode b_Pb_isPlan 67 = .ok (.invokevirtual 74, 3) := by decide +kernel
theorem d_Pb_isPlan_70 : decode b_Pb_isPlan 70 = .ok (.ifCond .eq 13, 3) := by decide +kernel
theorem d_Pb_isPlan_73 : decode b_Pb_isPlan 73 = .ok (.iload_n 3, 1) := by decide +kernel
theorem d_Pb_isPlan_74 : decode b_Pb_isPlan 74 = .ok (.aload_n 0, 1) := by decide +kernel
theorem d_Pb_isPlan_75 : decode b_Pb_isPlan 75 = .ok (.getfield 24, 3) := by decide +kernel
theorem d_Pb_isPlan_78 : decode b_Pb_isPlan 78 = .ok (.iload_n 2, 1) := by decide +kernel
theorem d_Pb_isPlan_79 : decode b_Pb_isPlan 79 = .ok (.iaload, 1) := by decide +kernel
theorem d_Pb_isPlan_80 : decode b_Pb_isPlan 80 = .ok (.if_icmp .gt 22, 3) := by decide +kernel
theorem d_Pb_isPlan_83 : decode b_Pb_isPlan 83 = .ok (.aload_n 0, 1) := by decide +kernel
theorem d_Pb_isPlan_84 : decode b_Pb_isPlan 84 = .ok (.iload_n 2, 1) := by decide +kernel
theorem d_Pb_isPlan_85 : decode b_Pb_isPlan 85 = .ok (.iconst (-1), 1) := by decide +kernel
theorem d_Pb_isPlan_86 : decode b_Pb_isPlan 86 = .ok (.invokevirtual 74, 3) := by decide +kernel
theorem d_Pb_isPlan_89 : decode b_Pb_isPlan 89 = .ok (.ifCond .eq 15, 3) := by decide +kernel
theorem d_Pb_isPlan_92 : decode b_Pb_isPlan 92 = .ok (.iload_n 3, 1) := by decide +kernel
theorem d_Pb_isPlan_93 : decode b_Pb_isPlan 93 = .ok (.aload_n 0, 1) := by decide +kernel
theorem d_Pb_isPlan_94 : decode b_Pb_isPlan 94 = .ok (.getfield 24, 3) := by decide +kernel
theorem d_Pb_isPlan_97 : decode b_Pb_isPlan 97 = .ok (.iload_n 2, 1) := by decide +kernel
theorem d_Pb_isPlan_98 : decode b_Pb_isPlan 98 = .ok (.iaload, 1) := by decide +kernel
theorem d_Pb_isPlan_99 : decode b_Pb_isPlan 99 = .ok (.if_icmp .ge 5, 3) := by decide +kernel
theorem d_Pb_isPlan_102 : decode b_Pb_isPlan 102 = .ok (.iconst 0, 1) := by decide +kernel
theorem d_Pb_isPlan_103 : decode b_Pb_isPlan 103 = .ok (.ireturn, 1) := by decide +kernel
theorem d_Pb_isPlan_104 : decode b_Pb_isPlan 104 = .ok (.iinc 2 1, 3) := by decide +kernel
theorem d_Pb_isPlan_107 : decode b_Pb_isPlan 107 = .ok (.goto (-63), 3) := by decide +kernel
theorem d_Pb_isPlan_110 : decode b_Pb_isPlan 110 = .ok (.iconst 1, 1) := by decide +kernel
theorem d_Pb_isPlan_111 : decode b_Pb_isPlan 111 = .ok (.ireturn, 1) := by decide +kernel
theorem d_Pb_sumOf_0 : decode b_Pb_sumOf 0 = .ok (.iconst 0, 1) := by decide +kernel
theorem d_Pb_sumOf_1 : decode b_Pb_sumOf 1 = .ok (.istore_n 3, 1) := by decide +kernel
theorem d_Pb_sumOf_2 : decode b_Pb_sumOf 2 = .ok (.iconst 0, 1) := by decide +kernel
theorem d_Pb_sumOf_3 : decode b_Pb_sumOf 3 = .ok (.istore 4, 2) := by decide +kernel
theorem d_Pb_sumOf_5 : decode b_Pb_sumOf 5 = .ok (.iload 4, 2) := by decide +kernel
theorem d_Pb_sumOf_7 : decode b_Pb_sumOf 7 = .ok (.aload_n 0, 1) := by decide +kernel
theorem d_Pb_sumOf_8 : decode b_Pb_sumOf 8 = .ok (.getfield 36, 3) := by decide +kernel
theorem d_Pb_sumOf_11 : decode b_Pb_sumOf 11 = .ok (.if_icmp .ge 21, 3) := by decide +kernel
theorem d_Pb_sumOf_14 : decode b_Pb_sumOf 14 = .ok (.iload_n 3, 1) := by decide +kernel
theorem d_Pb_sumOf_15 : decode b_Pb_sumOf 15 = .ok (.aload_n 1, 1) := by decide +kernel
theorem d_Pb_sumOf_16 : decode b_Pb_sumOf 16 = .ok (.iload 4, 2) := by decide +kernel
theorem d_Pb_sumOf_18 : decode b_Pb_sumOf 18 = .ok (.iaload, 1) := by decide +kernel
theorem d_Pb_sumOf_19 : decode b_Pb_sumOf 19 = .ok (.aload_n 2, 1) := by decide +kernel
theorem d_Pb_sumOf_20 : decode b_Pb_sumOf 20 = .ok (.iload 4, 2) := by decide +kernel
theorem d_Pb_sumOf_22 : decode b_Pb_sumOf 22 = .ok (.iaload, 1) := by decide +kernel
theorem d_Pb_sumOf_23 : decode b_Pb_sumOf 23 = .ok (.imul, 1) := by decide +kernel
theorem d_Pb_sumOf_24 : decode b_Pb_sumOf 24 = .ok (.iadd, 1) := by decide +kernel
theorem d_Pb_sumOf_25 : decode b_Pb_sumOf 25 = .ok (.istore_n 3, 1) := by decide +kernel
theorem d_Pb_sumOf_26 : decode b_Pb_sumOf 26 = .ok (.iinc 4 1, 3) := by decide +kernel
theorem d_Pb_sumOf_29 : decode b_Pb_sumOf 29 = .ok (.goto (-24), 3) := by decide +kernel
theorem d_Pb_sumOf_32 : decode b_Pb_sumOf 32 = .ok (.iload_n 3, 1) := by decide +kernel
theorem d_Pb_sumOf_33 : decode b_Pb_sumOf 33 = .ok (.ireturn, 1) := by decide +kernel
theorem d_Pb_binds_0 : decode b_Pb_binds 0 = .ok (.aload_n 0, 1) := by decide +kernel
theorem d_Pb_binds_1 : decode b_Pb_binds 1 = .ok (.getfield 21, 3) := by decide +kernel
theorem d_Pb_binds_4 : decode b_Pb_binds 4 = .ok (.iload_n 1, 1) := by decide +kernel
theorem d_Pb_binds_5 : decode b_Pb_binds 5 = .ok (.iaload, 1) := by decide +kernel
theorem d_Pb_binds_6 : decode b_Pb_binds 6 = .ok (.iconst 2, 1) := by decide +kernel
theorem d_Pb_binds_7 : decode b_Pb_binds 7 = .ok (.if_icmp .eq 21, 3) := by decide +kernel
theorem d_Pb_binds_10 : decode b_Pb_binds 10 = .ok (.aload_n 0, 1) := by decide +kernel
theorem d_Pb_binds_11 : decode b_Pb_binds 11 = .ok (.getfield 21, 3) := by decide +kernel
theorem d_Pb_binds_14 : decode b_Pb_binds 14 = .ok (.iload_n 1, 1) := by decide +kernel
theorem d_Pb_binds_15 : decode b_Pb_binds 15 = .ok (.iaload, 1) := by decide +kernel
theorem d_Pb_binds_16 : decode b_Pb_binds 16 = .ok (.iload_n 2, 1) := by decide +kernel
theorem d_Pb_binds_17 : decode b_Pb_binds 17 = .ok (.ifCond .le 7, 3) := by decide +kernel
theorem d_Pb_binds_20 : decode b_Pb_binds 20 = .ok (.iconst 0, 1) := by decide +kernel
theorem d_Pb_binds_21 : decode b_Pb_binds 21 = .ok (.goto 4, 3) := by decide +kernel
theorem d_Pb_binds_24 : decode b_Pb_binds 24 = .ok (.iconst 1, 1) := by decide +kernel
theorem d_Pb_binds_25 : decode b_Pb_binds 25 = .ok (.if_icmp .ne 7, 3) := by decide +kernel
theorem d_Pb_binds_28 : decode b_Pb_binds 28 = .ok (.iconst 1, 1) := by decide +kernel
theorem d_Pb_binds_29 : decode b_Pb_binds 29 = .ok (.goto 4, 3) := by decide +kernel
theorem d_Pb_binds_32 : decode b_Pb_binds 32 = .ok (.iconst 0, 1) := by decide +kernel
theorem d_Pb_binds_33 : decode b_Pb_binds 33 = .ok (.ireturn, 1) := by decide +kernel
theorem d_Be_isNotAbove_0 : decode b_Be_isNotAbove 0 = .ok (.aload_n 0, 1) := by decide +kernel
theorem d_Be_isNotAbove_1 : decode b_Be_isNotAbove 1 = .ok (.getfield 15, 3) := by decide +kernel
theorem d_Be_isNotAbove_4 : decode b_Be_isNotAbove 4 = .ok (.ifCond .eq 15, 3) := by decide +kernel
theorem d_Be_isNotAbove_7 : decode b_Be_isNotAbove 7 = .ok (.aload_n 0, 1) := by decide +kernel
theorem d_Be_isNotAbove_8 : decode b_Be_isNotAbove 8 = .ok (.getfield 19, 3) := by decide +kernel
theorem d_Be_isNotAbove_11 : decode b_Be_isNotAbove 11 = .ok (.iload_n 1, 1) := by decide +kernel
theorem d_Be_isNotAbove_12 : decode b_Be_isNotAbove 12 = .ok (.if_icmp .gt 7, 3) := by decide +kernel
theorem d_Be_isNotAbove_15 : decode b_Be_isNotAbove 15 = .ok (.iconst 1, 1) := by decide +kernel
theorem d_Be_isNotAbove_16 : decode b_Be_isNotAbove 16 = .ok (.goto 4, 3) := by decide +kernel
theorem d_Be_isNotAbove_19 : decode b_Be_isNotAbove 19 = .ok (.iconst 0, 1) := by decide +kernel
theorem d_Be_isNotAbove_20 : decode b_Be_isNotAbove 20 = .ok (.ireturn, 1) := by decide +kernel
theorem d_Be_take_0 : decode b_Be_take 0 = .ok (.iconst 0, 1) := by decide +kernel
theorem d_Be_take_1 : decode b_Be_take 1 = .ok (.istore_n 3, 1) := by decide +kernel
theorem d_Be_take_2 : decode b_Be_take 2 = .ok (.iload_n 3, 1) := by decide +kernel
theorem d_Be_take_3 : decode b_Be_take 3 = .ok (.bipush 8, 2) := by decide +kernel
theorem d_Be_take_5 : decode b_Be_take 5 = .ok (.if_icmp .ge 18, 3) := by decide +kernel
theorem d_Be_take_8 : decode b_Be_take 8 = .ok (.aload_n 0, 1) := by decide +kernel
theorem d_Be_take_9 : decode b_Be_take 9 = .ok (.getfield 9, 3) := by decide +kernel
theorem d_Be_take_12 : decode b_Be_take 12 = .ok (.iload_n 3, 1) := by decide +kernel
theorem d_Be_take_13 : decode b_Be_take 13 = .ok (.aload_n 1, 1) := by decide +kernel
theorem d_Be_take_14 : decode b_Be_take 14 = .ok (.iload_n 3, 1) := by decide +kernel
theorem d_Be_take_15 : decode b_Be_take 15 = .ok (.iaload, 1) := by decide +kernel
theorem d_Be_take_16 : decode b_Be_take 16 = .ok (.iastore, 1) := by decide +kernel
theorem d_Be_take_17 : decode b_Be_take 17 = .ok (.iinc 3 1, 3) := by decide +kernel
theorem d_Be_take_20 : decode b_Be_take 20 = .ok (.goto (-18), 3) := by decide +kernel
theorem d_Be_take_23 : decode b_Be_take 23 = .ok (.aload_n 0, 1) := by decide +kernel
theorem d_Be_take_24 : decode b_Be_take 24 = .ok (.iload_n 2, 1) := by decide +kernel
theorem d_Be_take_25 : decode b_Be_take 25 = .ok (.putfield 19, 3) := by decide +kernel
theorem d_Be_take_28 : decode b_Be_take 28 = .ok (.aload_n 0, 1) := by decide +kernel
theorem d_Be_take_29 : decode b_Be_take 29 = .ok (.iconst 1, 1) := by decide +kernel
theorem d_Be_take_30 : decode b_Be_take 30 = .ok (.putfield 15, 3) := by decide +kernel
theorem d_Be_take_33 : decode b_Be_take 33 = .ok (.return_, 1) := by decide +kernel
theorem d_BT_run_0 : decode b_BT_run 0 = .ok (.iload_n 1, 1) := by decide +kernel
theorem d_BT_run_1 : decode b_BT_run 1 = .ok (.iconst 1, 1) := by decide +kernel
theorem d_BT_run_2 : decode b_BT_run 2 = .ok (.if_icmp .lt 20, 3) := by decide +kernel
theorem d_BT_run_5 : decode b_BT_run 5 = .ok (.iload_n 1, 1) := by decide +kernel
theorem d_BT_run_6 : decode b_BT_run 6 = .ok (.sipush 300, 3) := by decide +kernel
