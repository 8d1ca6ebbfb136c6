theorem d_BT_node_0 : decode b_BT_node 0 = .ok (.aload_n 0, 1) := by decide +kernel
theorem d_BT_node_1 : decode b_BT_node 1 = .ok (.getfield 33, 3) := by decide +kernel
theorem d_BT_node_4 : decode b_BT_node 4 = .ok (.iload_n 1, 1) := by decide +kernel
theorem d_BT_node_5 : decode b_BT_node 5 = .ok (.invokevirtual 163, 3) := by decide +kernel
theorem d_BT_node_8 : decode b_BT_node 8 = .ok (.astore_n 3, 1) := by decide +kernel
theorem d_BT_node_9 : decode b_BT_node 9 = .ok (.aload_n 3, 1) := by decide +kernel
theorem d_BT_node_10 : decode b_BT_node 10 = .ok (.ifnonnull 6, 3) := by decide +kernel
theorem d_BT_node_13 : decode b_BT_node 13 = .ok (.ldc 155, 2) := by decide +kernel
theorem d_BT_node_15 : decode b_BT_node 15 = .ok (.ireturn, 1) := by decide +kernel
theorem d_BT_node_16 : decode b_BT_node 16 = .ok (.iload_n 2, 1) := by decide +kernel
theorem d_BT_node_17 : decode b_BT_node 17 = .ok (.tableswitch 96 0 8 #[51, 56, 61, 66, 71, 76, 81, 86, 91], 51) := by decide +kernel
theorem d_BT_node_68 : decode b_BT_node 68 = .ok (.aload_n 3, 1) := by decide +kernel
theorem d_BT_node_69 : decode b_BT_node 69 = .ok (.getfield 166, 3) := by decide +kernel
theorem d_BT_node_72 : decode b_BT_node 72 = .ok (.ireturn, 1) := by decide +kernel
theorem d_BT_node_73 : decode b_BT_node 73 = .ok (.aload_n 3, 1) := by decide +kernel
theorem d_BT_node_74 : decode b_BT_node 74 = .ok (.getfield 171, 3) := by decide +kernel
theorem d_BT_node_77 : decode b_BT_node 77 = .ok (.ireturn, 1) := by decide +kernel
theorem d_BT_node_78 : decode b_BT_node 78 = .ok (.aload_n 3, 1) := by decide +kernel
theorem d_BT_node_79 : decode b_BT_node 79 = .ok (.getfield 174, 3) := by decide +kernel
theorem d_BT_node_82 : decode b_BT_node 82 = .ok (.ireturn, 1) := by decide +kernel
theorem d_BT_node_83 : decode b_BT_node 83 = .ok (.aload_n 3, 1) := by decide +kernel
theorem d_BT_node_84 : decode b_BT_node 84 = .ok (.getfield 177, 3) := by decide +kernel
theorem d_BT_node_87 : decode b_BT_node 87 = .ok (.ireturn, 1) := by decide +kernel
theorem d_BT_node_88 : decode b_BT_node 88 = .ok (.aload_n 3, 1) := by decide +kernel
theorem d_BT_node_89 : decode b_BT_node 89 = .ok (.getfield 180, 3) := by decide +kernel
theorem d_BT_node_92 : decode b_BT_node 92 = .ok (.ireturn, 1) := by decide +kernel
theorem d_BT_node_93 : decode b_BT_node 93 = .ok (.aload_n 3, 1) := by decide +kernel
theorem d_BT_node_94 : decode b_BT_node 94 = .ok (.getfield 183, 3) := by decide +kernel
theorem d_BT_node_97 : decode b_BT_node 97 = .ok (.ireturn, 1) := by decide +kernel
theorem d_BT_node_98 : decode b_BT_node 98 = .ok (.aload_n 3, 1) := by decide +kernel
theorem d_BT_node_99 : decode b_BT_node 99 = .ok (.getfield 186, 3) := by decide +kernel
theorem d_BT_node_102 : decode b_BT_node 102 = .ok (.ireturn, 1) := by decide +kernel
theorem d_BT_node_103 : decode b_BT_node 103 = .ok (.aload_n 3, 1) := by decide +kernel
theorem d_BT_node_104 : decode b_BT_node 104 = .ok (.getfield 189, 3) := by decide +kernel
theorem d_BT_node_107 : decode b_BT_node 107 = .ok (.ireturn, 1) := by decide +kernel
theorem d_BT_node_108 : decode b_BT_node 108 = .ok (.aload_n 3, 1) := by decide +kernel
theorem d_BT_node_109 : decode b_BT_node 109 = .ok (.getfield 192, 3) := by decide +kernel
theorem d_BT_node_112 : decode b_BT_node 112 = .ok (.ireturn, 1) := by decide +kernel
theorem d_BT_node_113 : decode b_BT_node 113 = .ok (.ldc 155, 2) := by decide +kernel
theorem d_BT_node_115 : decode b_BT_node 115 = .ok (.ireturn, 1) := by decide +kernel
theorem d_Tr_at_0 : decode b_Tr_at 0 = .ok (.iload_n 1, 1) := by decide +kernel
theorem d_Tr_at_1 : decode b_Tr_at 1 = .ok (.ifCond .lt 20, 3) := by decide +kernel
theorem d_Tr_at_4 : decode b_Tr_at 4 = .ok (.iload_n 1, 1) := by decide +kernel
theorem d_Tr_at_5 : decode b_Tr_at 5 = .ok (.aload_n 0, 1) := by decide +kernel
theorem d_Tr_at_6 : decode b_Tr_at 6 = .ok (.getfield 17, 3) := by decide +kernel
theorem d_Tr_at_9 : decode b_Tr_at 9 = .ok (.if_icmp .ge 12, 3) := by decide +kernel
theorem d_Tr_at_12 : decode b_Tr_at 12 = .ok (.aload_n 0, 1) := by decide +kernel
theorem d_Tr_at_13 : decode b_Tr_at 13 = .ok (.getfield 11, 3) := by decide +kernel
theorem d_Tr_at_16 : decode b_Tr_at 16 = .ok (.iload_n 1, 1) := by decide +kernel
theorem d_Tr_at_17 : decode b_Tr_at 17 = .ok (.aaload, 1) := by decide +kernel
theorem d_Tr_at_18 : decode b_Tr_at 18 = .ok (.goto 4, 3) := by decide +kernel
theorem d_Tr_at_21 : decode b_Tr_at 21 = .ok (.aconst_null, 1) := by decide +kernel
theorem d_Tr_at_22 : decode b_Tr_at 22 = .ok (.areturn, 1) := by decide +kernel
theorem d_BT_boundOf_0 : decode b_BT_boundOf 0 = .ok (.aload_n 0, 1) := by decide +kernel
theorem d_BT_boundOf_1 : decode b_BT_boundOf 1 = .ok (.getfield 33, 3) := by decide +kernel
theorem d_BT_boundOf_4 : decode b_BT_boundOf 4 = .ok (.iload_n 1, 1) := by decide +kernel
theorem d_BT_boundOf_5 : decode b_BT_boundOf 5 = .ok (.invokevirtual 163, 3) := by decide +kernel
theorem d_BT_boundOf_8 : decode b_BT_boundOf 8 = .ok (.astore 4, 2) := by decide +kernel
theorem d_BT_boundOf_10 : decode b_BT_boundOf 10 = .ok (.aload 4, 2) := by decide +kernel
theorem d_BT_boundOf_12 : decode b_BT_boundOf 12 = .ok (.ifnull 14, 3) := by decide +kernel
theorem d_BT_boundOf_15 : decode b_BT_boundOf 15 = .ok (.aload_n 0, 1) := by decide +kernel
theorem d_BT_boundOf_16 : decode b_BT_boundOf 16 = .ok (.getfield 10, 3) := by decide +kernel
theorem d_BT_boundOf_19 : decode b_BT_boundOf 19 = .ok (.iload_n 2, 1) := by decide +kernel
theorem d_BT_boundOf_20 : decode b_BT_boundOf 20 = .ok (.invokevirtual 88, 3) := by decide +kernel
theorem d_BT_boundOf_23 : decode b_BT_boundOf 23 = .ok (.ifCond .ne 7, 3) := by decide +kernel
theorem d_BT_boundOf_26 : decode b_BT_boundOf 26 = .ok (.sipush (-1000), 3) := by decide +kernel
theorem d_BT_boundOf_29 : decode b_BT_boundOf 29 = .ok (.ireturn, 1) := by decide +kernel
theorem d_BT_boundOf_30 : decode b_BT_boundOf 30 = .ok (.iload_n 3, 1) := by decide +kernel
theorem d_BT_boundOf_31 : decode b_BT_boundOf 31 = .ok (.lookupswitch 47 #[(0, 25), (1, 36)], 25) := by decide +kernel
theorem d_BT_boundOf_56 : decode b_BT_boundOf 56 = .ok (.aload 4, 2) := by decide +kernel
theorem d_BT_boundOf_58 : decode b_BT_boundOf 58 = .ok (.getfield 195, 3) := by decide +kernel
theorem d_BT_boundOf_61 : decode b_BT_boundOf 61 = .ok (.getfield 199, 3) := by decide +kernel
theorem d_BT_boundOf_64 : decode b_BT_boundOf 64 = .ok (.iload_n 2, 1) := by decide +kernel
theorem d_BT_boundOf_65 : decode b_BT_boundOf 65 = .ok (.iaload, 1) := by decide +kernel
theorem d_BT_boundOf_66 : decode b_BT_boundOf 66 = .ok (.ireturn, 1) := by decide +kernel
theorem d_BT_boundOf_67 : decode b_BT_boundOf 67 = .ok (.aload 4, 2) := by decide +kernel
theorem d_BT_boundOf_69 : decode b_BT_boundOf 69 = .ok (.getfield 195, 3) := by decide +kernel
theorem d_BT_boundOf_72 : decode b_BT_boundOf 72 = .ok (.getfield 204, 3) := by decide +kernel
theorem d_BT_boundOf_75 : decode b_BT_boundOf 75 = .ok (.iload_n 2, 1) := by decide +kernel
theorem d_BT_boundOf_76 : decode b_BT_boundOf 76 = .ok (.iaload, 1) := by decide +kernel
theorem d_BT_boundOf_77 : decode b_BT_boundOf 77 = .ok (.ireturn, 1) := by decide +kernel
theorem d_BT_boundOf_78 : decode b_BT_boundOf 78 = .ok (.sipush (-1000), 3) := by decide +kernel
theorem d_BT_boundOf_81 : decode b_BT_boundOf 81 = .ok (.ireturn, 1) := by decide +kernel
theorem d_BT_price_0 : decode b_BT_price 0 = .ok (.aload_n 0, 1) := by decide +kernel
theorem d_BT_price_1 : decode b_BT_price 1 = .ok (.getfield 10, 3) := by decide +kernel
theorem d_BT_price_4 : decode b_BT_price 4 = .ok (.iload_n 1, 1) := by decide +kernel
theorem d_BT_price_5 : decode b_BT_price 5 = .ok (.invokevirtual 88, 3) := by decide +kernel
theorem d_BT_price_8 : decode b_BT_price 8 = .ok (.ifCond .eq 14, 3) := by decide +kernel
theorem d_BT_price_11 : decode b_BT_price 11 = .ok (.aload_n 0, 1) := by decide +kernel
theorem d_BT_price_12 : decode b_BT_price 12 = .ok (.getfield 26, 3) := by decide +kernel
theorem d_BT_price_15 : decode b_BT_price 15 = .ok (.iload_n 1, 1) := by decide +kernel
theorem d_BT_price_16 : decode b_BT_price 16 = .ok (.invokevirtual 207, 3) := by decide +kernel
theorem d_BT_price_19 : decode b_BT_price 19 = .ok (.goto 4, 3) := by decide +kernel
theorem d_BT_price_22 : decode b_BT_price 22 = .ok (.iconst (-1), 1) := by decide +kernel
theorem d_BT_price_23 : decode b_BT_price 23 = .ok (.ireturn, 1) := by decide +kernel
theorem d_BT_check_0 : decode b_BT_check 0 = .ok (.aload_n 0, 1) := by decide +kernel
theorem d_BT_check_1 : decode b_BT_check 1 = .ok (.getfield 33, 3) := by decide +kernel
theorem d_BT_check_4 : decode b_BT_check 4 = .ok (.getfield 127, 3) := by decide +kernel
theorem d_BT_check_7 : decode b_BT_check 7 = .ok (.ifCond .ne 5, 3) := by decide +kernel
theorem d_BT_check_10 : decode b_BT_check 10 = .ok (.iconst (-1), 1) := by decide +kernel
theorem d_BT_check_11 : decode b_BT_check 11 = .ok (.ireturn, 1) := by decide +kernel
theorem d_BT_check_12 : decode b_BT_check 12 = .ok (.aload_n 0, 1) := by decide +kernel
theorem d_BT_check_13 : decode b_BT_check 13 = .ok (.getfield 66, 3) := by decide +kernel
theorem d_BT_check_16 : decode b_BT_check 16 = .ok (.invokevirtual 210, 3) := by decide +kernel
theorem d_BT_check_19 : decode b_BT_check 19 = .ok (.ifCond .eq 7, 3) := by decide +kernel
theorem d_BT_check_22 : decode b_BT_check 22 = .ok (.iconst 1, 1) := by decide +kernel
theorem d_BT_check_23 : decode b_BT_check 23 = .ok (.goto 4, 3) := by decide +kernel
theorem d_BT_check_26 : decode b_BT_check 26 = .ok (.iconst 0, 1) := by decide +kernel
theorem d_BT_check_27 : decode b_BT_check 27 = .ok (.ireturn, 1) := by decide +kernel
theorem d_Pf_holds_0 : decode b_Pf_holds 0 = .ok (.aload_n 0, 1) := by decide +kernel
theorem d_Pf_holds_1 : decode b_Pf_holds 1 = .ok (.getfield 22, 3) := by decide +kernel
theorem d_Pf_holds_4 : decode b_Pf_holds 4 = .ok (.iconst 0, 1) := by decide +kernel
theorem d_Pf_holds_5 : decode b_Pf_holds 5 = .ok (.invokevirtual 30, 3) := by decide +kernel
theorem d_Pf_holds_8 : decode b_Pf_holds 8 = .ok (.ifCond .le 5, 3) := by decide +kernel
theorem d_Pf_holds_11 : decode b_Pf_holds 11 = .ok (.iconst 0, 1) := by decide +kernel
theorem d_Pf_holds_12 : decode b_Pf_holds 12 = .ok (.ireturn, 1) := by decide +kernel
theorem d_Pf_holds_13 : decode b_Pf_holds 13 = .ok (.aload_n 0, 1) := by decide +kernel
theorem d_Pf_holds_14 : decode b_Pf_holds 14 = .ok (.invokevirtual 36, 3) := by decide +kernel
theorem d_Pf_holds_17 : decode b_Pf_holds 17 = .ok (.iconst 0, 1) := by decide +kernel
theorem d_Pf_holds_18 : decode b_Pf_holds 18 = .ok (.istore_n 1, 1) := by decide +kernel
theorem d_Pf_holds_19 : decode b_Pf_holds 19 = .ok (.iload_n 1, 1) := by decide +kernel
theorem d_Pf_holds_20 : decode b_Pf_holds 20 = .ok (.aload_n 0, 1) := by decide +kernel
theorem d_Pf_holds_21 : decode b_Pf_holds 21 = .ok (.getfield 22, 3) := by decide +kernel
theorem d_Pf_holds_24 : decode b_Pf_holds 24 = .ok (.getfield 39, 3) := by decide +kernel
theorem d_Pf_holds_27 : decode b_Pf_holds 27 = .ok (.if_icmp .ge 32, 3) := by decide +kernel
theorem d_Pf_holds_30 : decode b_Pf_holds 30 = .ok (.aload_n 0, 1) := by decide +kernel
theorem d_Pf_holds_31 : decode b_Pf_holds 31 = .ok (.getfield 22, 3) := by decide +kernel
theorem d_Pf_holds_34 : decode b_Pf_holds 34 = .ok (.iload_n 1, 1) := by decide +kernel
theorem d_Pf_holds_35 : decode b_Pf_holds 35 = .ok (.invokevirtual 43, 3) := by decide +kernel
theorem d_Pf_holds_38 : decode b_Pf_holds 38 = .ok (.astore_n 2, 1) := by decide +kernel
theorem d_Pf_holds_39 : decode b_Pf_holds 39 = .ok (.aload_n 2, 1) := by decide +kernel
theorem d_Pf_holds_40 : decode b_Pf_holds 40 = .ok (.ifnull 13, 3) := by decide +kernel
theorem d_Pf_holds_43 : decode b_Pf_holds 43 = .ok (.aload_n 0, 1) := by decide +kernel
theorem d_Pf_holds_44 : decode b_Pf_holds 44 = .ok (.aload_n 2, 1) := by decide +kernel
theorem d_Pf_holds_45 : decode b_Pf_holds 45 = .ok (.invokevirtual 47, 3) := by decide +kernel
theorem d_Pf_holds_48 : decode b_Pf_holds 48 = .ok (.ifCond .ne 5, 3) := by decide +kernel
theorem d_Pf_holds_51 : decode b_Pf_holds 51 = .ok (.iconst 0, 1) := by decide +kernel
theorem d_Pf_holds_52 : decode b_Pf_holds 52 = .ok (.ireturn, 1) := by decide +kernel
theorem d_Pf_holds_53 : decode b_Pf_holds 53 = .ok (.iinc 1 1, 3) := by decide +kernel
theorem d_Pf_holds_56 : decode b_Pf_holds 56 = .ok (.goto (-37), 3) := by decide +kernel
theorem d_Pf_holds_59 : decode b_Pf_holds 59 = .ok (.iconst 1, 1) := by decide +kernel
theorem d_Pf_holds_60 : decode b_Pf_holds 60 = .ok (.ireturn, 1) := by decide +kernel
theorem d_Pf_countChildren_0 : decode b_Pf_countChildren 0 = .ok (.iconst 0, 1) := by decide +kernel
theorem d_Pf_countChildren_1 : decode b_Pf_countChildren 1 = .ok (.istore_n 1, 1) := by decide +kernel
theorem d_Pf_countChildren_2 : decode b_Pf_countChildren 2 = .ok (.iload_n 1, 1) := by decide +kernel
theorem d_Pf_countChildren_3 : decode b_Pf_countChildren 3 = .ok (.aload_n 0, 1) := by decide +kernel
theorem d_Pf_countChildren_4 : decode b_Pf_countChildren 4 = .ok (.getfield 22, 3) := by decide +kernel
theorem d_Pf_countChildren_7 : decode b_Pf_countChildren 7 = .ok (.getfield 39, 3) := by decide +kernel
theorem d_Pf_countChildren_10 : decode b_Pf_countChildren 10 = .ok (.if_icmp .ge 53, 3) := by decide +kernel
theorem d_Pf_countChildren_13 : decode b_Pf_countChildren 13 = .ok (.aload_n 0, 1) := by decide +kernel
theorem d_Pf_countChildren_14 : decode b_Pf_countChildren 14 = .ok (.getfield 22, 3) := by decide +kernel
theorem d_Pf_countChildren_17 : decode b_Pf_countChildren 17 = .ok (.iload_n 1, 1) := by decide +kernel
theorem d_Pf_countChildren_18 : decode b_Pf_countChildren 18 = .ok (.invokevirtual 43, 3) := by decide +kernel
theorem d_Pf_countChildren_21 : decode b_Pf_countChildren 21 = .ok (.astore_n 2, 1) := by decide +kernel
theorem d_Pf_countChildren_22 : decode b_Pf_countChildren 22 = .ok (.aload_n 2, 1) := by decide +kernel
theorem d_Pf_countChildren_23 : decode b_Pf_countChildren 23 = .ok (.ifnull 34, 3) := by decide +kernel
theorem d_Pf_countChildren_26 : decode b_Pf_countChildren 26 = .ok (.aload_n 2, 1) := by decide +kernel
theorem d_Pf_countChildren_27 : decode b_Pf_countChildren 27 = .ok (.iconst 0, 1) := by decide +kernel
theorem d_Pf_countChildren_28 : decode b_Pf_countChildren 28 = .ok (.putfield 51, 3) := by decide +kernel
theorem d_Pf_countChildren_31 : decode b_Pf_countChildren 31 = .ok (.aload_n 0, 1) := by decide +kernel
theorem d_Pf_countChildren_32 : decode b_Pf_countChildren 32 = .ok (.getfield 22, 3) := by decide +kernel
theorem d_Pf_countChildren_35 : decode b_Pf_countChildren 35 = .ok (.aload_n 2, 1) := by decide +kernel
theorem d_Pf_countChildren_36 : decode b_Pf_countChildren 36 = .ok (.getfield 56, 3) := by decide +kernel
theorem d_Pf_countChildren_39 : decode b_Pf_countChildren 39 = .ok (.invokevirtual 43, 3) := by decide +kernel
theorem d_Pf_countChildren_42 : decode b_Pf_countChildren 42 = .ok (.astore_n 3, 1) := by decide +kernel
theorem d_Pf_countChildren_43 : decode b_Pf_countChildren 43 = .ok (.aload_n 3, 1) := by decide +kernel
theorem d_Pf_countChildren_44 : decode b_Pf_countChildren 44 = .ok (.ifnull 13, 3) := by decide +kernel
theorem d_Pf_countChildren_47 : decode b_Pf_countChildren 47 = .ok (.aload_n 3, 1) := by decide +kernel
theorem d_Pf_countChildren_48 : decode b_Pf_countChildren 48 = .ok (.dup, 1) := by decide +kernel
theorem d_Pf_countChildren_49 : decode b_Pf_countChildren 49 = .ok (.getfield 51, 3) := by decide +kernel
theorem d_Pf_countChildren_52 : decode b_Pf_countChildren 52 = .ok (.iconst 1, 1) := by decide +kernel
theorem d_Pf_countChildren_53 : decode b_Pf_countChildren 53 = .ok (.iadd, 1) := by decide +kernel
theorem d_Pf_countChildren_54 : decode b_Pf_countChildren 54 = .ok (.putfield 51, 3) := by decide +kernel
theorem d_Pf_countChildren_57 : decode b_Pf_countChildren 57 = .ok (.iinc 1 1, 3) := by decide +kernel
theorem d_Pf_countChildren_60 : decode b_Pf_countChildren 60 = .ok (.goto (-58), 3) := by decide +kernel
theorem d_Pf_countChildren_63 : decode b_Pf_countChildren 63 = .ok (.return_, 1) := by decide +kernel
theorem d_Pf_isProven_0 : decode b_Pf_isProven 0 = .ok (.aload_n 1, 1) := by decide +kernel
theorem d_Pf_isProven_1 : decode b_Pf_isProven 1 = .ok (.getfield 59, 3) := by decide +kernel
theorem d_Pf_isProven_4 : decode b_Pf_isProven 4 = .ok (.iconst 1, 1) := by decide +kernel
theorem d_Pf_isProven_5 : decode b_Pf_isProven 5 = .ok (.if_icmp .ne 17, 3) := by decide +kernel
theorem d_Pf_isProven_8 : decode b_Pf_isProven 8 = .ok (.aload_n 1, 1) := by decide +kernel
theorem d_Pf_isProven_9 : decode b_Pf_isProven 9 = .ok (.getfield 51, 3) := by decide +kernel
theorem d_Pf_isProven_12 : decode b_Pf_isProven 12 = .ok (.iconst 2, 1) := by decide +kernel
theorem d_Pf_isProven_13 : decode b_Pf_isProven 13 = .ok (.if_icmp .ne 7, 3) := by decide +kernel
theorem d_Pf_isProven_16 : decode b_Pf_isProven 16 = .ok (.iconst 1, 1) := by decide +kernel
theorem d_Pf_isProven_17 : decode b_Pf_isProven 17 = .ok (.goto 4, 3) := by decide +kernel
theorem d_Pf_isProven_20 : decode b_Pf_isProven 20 = .ok (.iconst 0, 1) := by decide +kernel
theorem d_Pf_isProven_21 : decode b_Pf_isProven 21 = .ok (.ireturn, 1) := by decide +kernel
theorem d_Pf_isProven_22 : decode b_Pf_isProven 22 = .ok (.aload_n 0, 1) := by decide +kernel
theorem d_Pf_isProven_23 : decode b_Pf_isProven 23 = .ok (.aload_n 1, 1) := by decide +kernel
theorem d_Pf_isProven_24 : decode b_Pf_isProven 24 = .ok (.invokevirtual 62, 3) := by decide +kernel
theorem d_Pf_isProven_27 : decode b_Pf_isProven 27 = .ok (.aload_n 0, 1) := by decide +kernel
theorem d_Pf_isProven_28 : decode b_Pf_isProven 28 = .ok (.getfield 26, 3) := by decide +kernel
theorem d_Pf_isProven_31 : decode b_Pf_isProven 31 = .ok (.aload_n 0, 1) := by decide +kernel
theorem d_Pf_isProven_32 : decode b_Pf_isProven 32 = .ok (.getfield 12, 3) := by decide +kernel
theorem d_Pf_isProven_35 : decode b_Pf_isProven 35 = .ok (.invokevirtual 66, 3) := by decide +kernel
theorem d_Pf_isProven_38 : decode b_Pf_isProven 38 = .ok (.bipush (-2), 2) := by decide +kernel
theorem d_Pf_isProven_40 : decode b_Pf_isProven 40 = .ok (.if_icmp .eq 7, 3) := by decide +kernel
theorem d_Pf_isProven_43 : decode b_Pf_isProven 43 = .ok (.iconst 1, 1) := by decide +kernel
theorem d_Pf_isProven_44 : decode b_Pf_isProven 44 = .ok (.goto 4, 3) := by decide +kernel
theorem d_Pf_isProven_47 : decode b_Pf_isProven 47 = .ok (.iconst 0, 1) := by decide +kernel
theorem d_Pf_isProven_48 : decode b_Pf_isProven 48 = .ok (.ireturn, 1) := by decide +kernel
theorem d_Pf_cutBox_0 : decode b_Pf_cutBox 0 = .ok (.aload_n 0, 1) := by decide +kernel
theorem d_Pf_cutBox_1 : decode b_Pf_cutBox 1 = .ok (.getfield 12, 3) := by decide +kernel
theorem d_Pf_cutBox_4 : decode b_Pf_cutBox 4 = .ok (.aload_n 0, 1) := by decide +kernel
theorem d_Pf_cutBox_5 : decode b_Pf_cutBox 5 = .ok (.getfield 18, 3) := by decide +kernel
theorem d_Pf_cutBox_8 : decode b_Pf_cutBox 8 = .ok (.getfield 72, 3) := by decide +kernel
theorem d_Pf_cutBox_11 : decode b_Pf_cutBox 11 = .ok (.aload_n 0, 1) := by decide +kernel
theorem d_Pf_cutBox_12 : decode b_Pf_cutBox 12 = .ok (.getfield 18, 3) := by decide +kernel
theorem d_Pf_cutBox_15 : decode b_Pf_cutBox 15 = .ok (.getfield 78, 3) := by decide +kernel
theorem d_Pf_cutBox_18 : decode b_Pf_cutBox 18 = .ok (.invokevirtual 81, 3) := by decide +kernel
theorem d_Pf_cutBox_21 : decode b_Pf_cutBox 21 = .ok (.aload_n 1, 1) := by decide +kernel
theorem d_Pf_cutBox_22 : decode b_Pf_cutBox 22 = .ok (.astore_n 2, 1) := by decide +kernel
theorem d_Pf_cutBox_23 : decode b_Pf_cutBox 23 = .ok (.iconst 0, 1) := by decide +kernel
theorem d_Pf_cutBox_24 : decode b_Pf_cutBox 24 = .ok (.istore_n 3, 1) := by decide +kernel
theorem d_Pf_cutBox_25 : decode b_Pf_cutBox 25 = .ok (.iload_n 3, 1) := by decide +kernel
theorem d_Pf_cutBox_26 : decode b_Pf_cutBox 26 = .ok (.sipush 600, 3) := by decide +kernel
theorem d_Pf_cutBox_29 : decode b_Pf_cutBox 29 = .ok (.if_icmp .ge 58, 3) := by decide +kernel
theorem d_Pf_cutBox_32 : decode b_Pf_cutBox 32 = .ok (.aload_n 2, 1) := by decide +kernel
theorem d_Pf_cutBox_33 : decode b_Pf_cutBox 33 = .ok (.ifnull 54, 3) := by decide +kernel
theorem d_Pf_cutBox_36 : decode b_Pf_cutBox 36 = .ok (.aload_n 0, 1) := by decide +kernel
theorem d_Pf_cutBox_37 : decode b_Pf_cutBox 37 = .ok (.getfield 18, 3) := by decide +kernel
theorem d_Pf_cutBox_40 : decode b_Pf_cutBox 40 = .ok (.aload_n 2, 1) := by decide +kernel
theorem d_Pf_cutBox_41 : decode b_Pf_cutBox 41 = .ok (.getfield 85, 3) := by decide +kernel
theorem d_Pf_cutBox_44 : decode b_Pf_cutBox 44 = .ok (.invokevirtual 88, 3) := by decide +kernel
theorem d_Pf_cutBox_47 : decode b_Pf_cutBox 47 = .ok (.ifCond .eq 22, 3) := by decide +kernel
theorem d_Pf_cutBox_50 : decode b_Pf_cutBox 50 = .ok (.aload_n 0, 1) := by decide +kernel
theorem d_Pf_cutBox_51 : decode b_Pf_cutBox 51 = .ok (.getfield 12, 3) := by decide +kernel
theorem d_Pf_cutBox_54 : decode b_Pf_cutBox 54 = .ok (.aload_n 2, 1) := by decide +kernel
theorem d_Pf_cutBox_55 : decode b_Pf_cutBox 55 = .ok (.getfield 85, 3) := by decide +kernel
theorem d_Pf_cutBox_58 : decode b_Pf_cutBox 58 = .ok (.aload_n 2, 1) := by decide +kernel
theorem d_Pf_cutBox_59 : decode b_Pf_cutBox 59 = .ok (.getfield 92, 3) := by decide +kernel
theorem d_Pf_cutBox_62 : decode b_Pf_cutBox 62 = .ok (.aload_n 2, 1) := by decide +kernel
theorem d_Pf_cutBox_63 : decode b_Pf_cutBox 63 = .ok (.getfield 95, 3) := by decide +kernel
theorem d_Pf_cutBox_66 : decode b_Pf_cutBox 66 = .ok (.invokevirtual 98, 3) := by decide +kernel
theorem d_Pf_cutBox_69 : decode b_Pf_cutBox 69 = .ok (.aload_n 0, 1) := by decide +kernel
theorem d_Pf_cutBox_70 : decode b_Pf_cutBox 70 = .ok (.getfield 22, 3) := by decide +kernel
theorem d_Pf_cutBox_73 : decode b_Pf_cutBox 73 = .ok (.aload_n 2, 1) := by decide +kernel
theorem d_Pf_cutBox_74 : decode b_Pf_cutBox 74 = .ok (.getfield 56, 3) := by decide +kernel
theorem d_Pf_cutBox_77 : decode b_Pf_cutBox 77 = .ok (.invokevirtual 43, 3) := by decide +kernel
theorem d_Pf_cutBox_80 : decode b_Pf_cutBox 80 = .ok (.astore_n 2, 1) := by decide +kernel
theorem d_Pf_cutBox_81 : decode b_Pf_cutBox 81 = .ok (.iinc 3 1, 3) := by decide +kernel
theorem d_Pf_cutBox_84 : decode b_Pf_cutBox 84 = .ok (.goto (-59), 3) := by decide +kernel
theorem d_Pf_cutBox_87 : decode b_Pf_cutBox 87 = .ok (.return_, 1) := by decide +kernel
theorem d_BT_count_0 : decode b_BT_count 0 = .ok (.iload_n 1, 1) := by decide +kernel
theorem d_BT_count_1 : decode b_BT_count 1 = .ok (.tableswitch 147 0 9 #[55, 63, 71, 79, 87, 96, 104, 120, 129, 138], 55) := by decide +kernel
theorem d_BT_count_56 : decode b_BT_count 56 = .ok (.aload_n 0, 1) := by decide +kernel
theorem d_BT_count_57 : decode b_BT_count 57 = .ok (.getfield 10, 3) := by decide +kernel
theorem d_BT_count_60 : decode b_BT_count 60 = .ok (.getfield 124, 3) := by decide +kernel
theorem d_BT_count_63 : decode b_BT_count 63 = .ok (.ireturn, 1) := by decide +kernel
theorem d_BT_count_64 : decode b_BT_count 64 = .ok (.aload_n 0, 1) := by decide +kernel
theorem d_BT_count_65 : decode b_BT_count 65 = .ok (.getfield 10, 3) := by decide +kernel
theorem d_BT_count_68 : decode b_BT_count 68 = .ok (.getfield 214, 3) := by decide +kernel
theorem d_BT_count_71 : decode b_BT_count 71 = .ok (.ireturn, 1) := by decide +kernel
theorem d_BT_count_72 : decode b_BT_count 72 = .ok (.aload_n 0, 1) := by decide +kernel
theorem d_BT_count_73 : decode b_BT_count 73 = .ok (.getfield 10, 3) := by decide +kernel
theorem d_BT_count_76 : decode b_BT_count 76 = .ok (.getfield 101, 3) := by decide +kernel
theorem d_BT_count_79 : decode b_BT_count 79 = .ok (.ireturn, 1) := by decide +kernel
theorem d_BT_count_80 : decode b_BT_count 80 = .ok (.aload_n 0, 1) := by decide +kernel
theorem d_BT_count_81 : decode b_BT_count 81 = .ok (.getfield 33, 3) := by decide +kernel
theorem d_BT_count_84 : decode b_BT_count 84 = .ok (.getfield 127, 3) := by decide +kernel
theorem d_BT_count_87 : decode b_BT_count 87 = .ok (.ireturn, 1) := by decide +kernel
theorem d_BT_count_88 : decode b_BT_count 88 = .ok (.aload_n 0, 1) := by decide +kernel
theorem d_BT_count_89 : decode b_BT_count 89 = .ok (.getfield 33, 3) := by decide +kernel
theorem d_BT_count_92 : decode b_BT_count 92 = .ok (.iconst 0, 1) := by decide +kernel
theorem d_BT_count_93 : decode b_BT_count 93 = .ok (.invokevirtual 141, 3) := by decide +kernel
theorem d_BT_count_96 : decode b_BT_count 96 = .ok (.ireturn, 1) := by decide +kernel
theorem d_BT_count_97 : decode b_BT_count 97 = .ok (.aload_n 0, 1) := by decide +kernel
theorem d_BT_count_98 : decode b_BT_count 98 = .ok (.getfield 33, 3) := by decide +kernel
theorem d_BT_count_101 : decode b_BT_count 101 = .ok (.getfield 217, 3) := by decide +kernel
theorem d_BT_count_104 : decode b_BT_count 104 = .ok (.ireturn, 1) := by decide +kernel
theorem d_BT_count_105 : decode b_BT_count 105 = .ok (.aload_n 0, 1) := by decide +kernel
theorem d_BT_count_106 : decode b_BT_count 106 = .ok (.getfield 19, 3) := by decide +kernel
theorem d_BT_count_109 : decode b_BT_count 109 = .ok (.getfield 145, 3) := by decide +kernel
theorem d_BT_count_112 : decode b_BT_count 112 = .ok (.ifCond .eq 7, 3) := by decide +kernel
theorem d_BT_count_115 : decode b_BT_count 115 = .ok (.iconst 1, 1) := by decide +kernel
theorem d_BT_count_116 : decode b_BT_count 116 = .ok (.goto 4, 3) := by decide +kernel
theorem d_BT_count_119 : decode b_BT_count 119 = .ok (.iconst 0, 1) := by decide +kernel
theorem d_BT_count_120 : decode b_BT_count 120 = .ok (.ireturn, 1) := by decide +kernel
theorem d_BT_count_121 : decode b_BT_count 121 = .ok (.aload_n 0, 1) := by decide +kernel
theorem d_BT_count_122 : decode b_BT_count 122 = .ok (.getfield 33, 3) := by decide +kernel
theorem d_BT_count_125 : decode b_BT_count 125 = .ok (.iconst 2, 1) := by decide +kernel
theorem d_BT_count_126 : decode b_BT_count 126 = .ok (.invokevirtual 141, 3) := by decide +kernel
theorem d_BT_count_129 : decode b_BT_count 129 = .ok (.ireturn, 1) := by decide +kernel
theorem d_BT_count_130 : decode b_BT_count 130 = .ok (.aload_n 0, 1) := by decide +kernel
theorem d_BT_count_131 : decode b_BT_count 131 = .ok (.getfield 33, 3) := by decide +kernel
theorem d_BT_count_134 : decode b_BT_count 134 = .ok (.iconst 3, 1) := by decide +kernel
theorem d_BT_count_135 : decode b_BT_count 135 = .ok (.invokevirtual 141, 3) := by decide +kernel
theorem d_BT_count_138 : decode b_BT_count 138 = .ok (.ireturn, 1) := by decide +kernel
theorem d_BT_count_139 : decode b_BT_count 139 = .ok (.aload_n 0, 1) := by decide +kernel
theorem d_BT_count_140 : decode b_BT_count 140 = .ok (.getfield 33, 3) := by decide +kernel
theorem d_BT_count_143 : decode b_BT_count 143 = .ok (.iconst 4, 1) := by decide +kernel
theorem d_BT_count_144 : decode b_BT_count 144 = .ok (.invokevirtual 141, 3) := by decide +kernel
theorem d_BT_count_147 : decode b_BT_count 147 = .ok (.ireturn, 1) := by decide +kernel
theorem d_BT_count_148 : decode b_BT_count 148 = .ok (.iconst (-1), 1) := by decide +kernel
theorem d_BT_count_149 : decode b_BT_count 149 = .ok (.ireturn, 1) := by decide +kernel
theorem d_Mo_init_0 : decode b_Mo_init 0 = .ok (.aload_n 0, 1) := by decide +kernel
theorem d_Mo_init_1 : decode b_Mo_init 1 = .ok (.invokespecial 7, 3) := by decide +kernel
theorem d_Mo_init_4 : decode b_Mo_init 4 = .ok (.aload_n 0, 1) := by decide +kernel
theorem d_Mo_init_5 : decode b_Mo_init 5 = .ok (.bipush 8, 2) := by decide +kernel
theorem d_Mo_init_7 : decode b_Mo_init 7 = .ok (.newarray .int, 2) := by decide +kernel
theorem d_Mo_init_9 : decode b_Mo_init 9 = .ok (.putfield 13, 3) := by decide +kernel
theorem d_Mo_init_12 : decode b_Mo_init 12 = .ok (.aload_n 0, 1) := by decide +kernel
theorem d_Mo_init_13 : decode b_Mo_init 13 = .ok (.bipush 8, 2) := by decide +kernel
theorem d_Mo_init_15 : decode b_Mo_init 15 = .ok (.newarray .int, 2) := by decide +kernel
theorem d_Mo_init_17 : decode b_Mo_init 17 = .ok (.putfield 17, 3) := by decide +kernel
theorem d_Mo_init_20 : decode b_Mo_init 20 = .ok (.aload_n 0, 1) := by decide +kernel
theorem d_Mo_init_21 : decode b_Mo_init 21 = .ok (.bipush 8, 2) := by decide +kernel
theorem d_Mo_init_23 : decode b_Mo_init 23 = .ok (.newarray .long, 2) := by decide +kernel
theorem d_Mo_init_25 : decode b_Mo_init 25 = .ok (.putfield 20, 3) := by decide +kernel
theorem d_Mo_init_28 : decode b_Mo_init 28 = .ok (.aload_n 0, 1) := by decide +kernel
theorem d_Mo_init_29 : decode b_Mo_init 29 = .ok (.bipush 8, 2) := by decide +kernel
theorem d_Mo_init_31 : decode b_Mo_init 31 = .ok (.newarray .int, 2) := by decide +kernel
theorem d_Mo_init_33 : decode b_Mo_init 33 = .ok (.putfield 24, 3) := by decide +kernel
theorem d_Mo_init_36 : decode b_Mo_init 36 = .ok (.aload_n 0, 1) := by decide +kernel
theorem d_Mo_init_37 : decode b_Mo_init 37 = .ok (.bipush 8, 2) := by decide +kernel
theorem d_Mo_init_39 : decode b_Mo_init 39 = .ok (.newarray .int, 2) := by decide +kernel
theorem d_Mo_init_41 : decode b_Mo_init 41 = .ok (.putfield 27, 3) := by decide +kernel
theorem d_Mo_init_44 : decode b_Mo_init 44 = .ok (.aload_n 0, 1) := by decide +kernel
theorem d_Mo_init_45 : decode b_Mo_init 45 = .ok (.bipush 8, 2) := by decide +kernel
theorem d_Mo_init_47 : decode b_Mo_init 47 = .ok (.newarray .int, 2) := by decide +kernel
theorem d_Mo_init_49 : decode b_Mo_init 49 = .ok (.putfield 30, 3) := by decide +kernel
theorem d_Mo_init_52 : decode b_Mo_init 52 = .ok (.aload_n 0, 1) := by decide +kernel
theorem d_Mo_init_53 : decode b_Mo_init 53 = .ok (.sipush 128, 3) := by decide +kernel
theorem d_Mo_init_56 : decode b_Mo_init 56 = .ok (.newarray .int, 2) := by decide +kernel
theorem d_Mo_init_58 : decode b_Mo_init 58 = .ok (.putfield 33, 3) := by decide +kernel
theorem d_Mo_init_61 : decode b_Mo_init 61 = .ok (.aload_n 0, 1) := by decide +kernel
theorem d_Mo_init_62 : decode b_Mo_init 62 = .ok (.bipush 16, 2) := by decide +kernel
theorem d_Mo_init_64 : decode b_Mo_init 64 = .ok (.newarray .int, 2) := by decide +kernel
theorem d_Mo_init_66 : decode b_Mo_init 66 = .ok (.putfield 36, 3) := by decide +kernel
theorem d_Mo_init_69 : decode b_Mo_init 69 = .ok (.aload_n 0, 1) := by decide +kernel
theorem d_Mo_init_70 : decode b_Mo_init 70 = .ok (.bipush 16, 2) := by decide +kernel
theorem d_Mo_init_72 : decode b_Mo_init 72 = .ok (.newarray .int, 2) := by decide +kernel
theorem d_Mo_init_74 : decode b_Mo_init 74 = .ok (.putfield 39, 3) := by decide +kernel
theorem d_Mo_init_77 : decode b_Mo_init 77 = .ok (.aload_n 0, 1) := by decide +kernel
theorem d_Mo_init_78 : decode b_Mo_init 78 = .ok (.bipush 16, 2) := by decide +kernel
theorem d_Mo_init_80 : decode b_Mo_init 80 = .ok (.newarray .boolean, 2) := by decide +kernel
theorem d_Mo_init_82 : decode b_Mo_init 82 = .ok (.putfield 42, 3) := by decide +kernel
theorem d_Mo_init_85 : decode b_Mo_init 85 = .ok (.aload_n 0, 1) := by decide +kernel
theorem d_Mo_init_86 : decode b_Mo_init 86 = .ok (.iconst 3, 1) := by decide +kernel
theorem d_Mo_init_87 : decode b_Mo_init 87 = .ok (.newarray .int, 2) := by decide +kernel
theorem d_Mo_init_89 : decode b_Mo_init 89 = .ok (.putfield 46, 3) := by decide +kernel
theorem d_Mo_init_92 : decode b_Mo_init 92 = .ok (.aload_n 0, 1) := by decide +kernel
theorem d_Mo_init_93 : decode b_Mo_init 93 = .ok (.bipush 8, 2) := by decide +kernel
theorem d_Mo_init_95 : decode b_Mo_init 95 = .ok (.newarray .int, 2) := by decide +kernel
theorem d_Mo_init_97 : decode b_Mo_init 97 = .ok (.putfield 49, 3) := by decide +kernel
theorem d_Mo_init_100 : decode b_Mo_init 100 = .ok (.aload_n 0, 1) := by decide +kernel
theorem d_Mo_init_101 : decode b_Mo_init 101 = .ok (.sipush 600, 3) := by decide +kernel
theorem d_Mo_init_104 : decode b_Mo_init 104 = .ok (.newarray .int, 2) := by decide +kernel
theorem d_Mo_init_106 : decode b_Mo_init 106 = .ok (.putfield 52, 3) := by decide +kernel
theorem d_Mo_init_109 : decode b_Mo_init 109 = .ok (.aload_n 0, 1) := by decide +kernel
theorem d_Mo_init_110 : decode b_Mo_init 110 = .ok (.sipush 600, 3) := by decide +kernel
theorem d_Mo_init_113 : decode b_Mo_init 113 = .ok (.newarray .int, 2) := by decide +kernel
theorem d_Mo_init_115 : decode b_Mo_init 115 = .ok (.putfield 55, 3) := by decide +kernel
theorem d_Mo_init_118 : decode b_Mo_init 118 = .ok (.aload_n 0, 1) := by decide +kernel
theorem d_Mo_init_119 : decode b_Mo_init 119 = .ok (.sipush 600, 3) := by decide +kernel
theorem d_Mo_init_122 : decode b_Mo_init 122 = .ok (.newarray .int, 2) := by decide +kernel
theorem d_Mo_init_124 : decode b_Mo_init 124 = .ok (.putfield 58, 3) := by decide +kernel
theorem d_Mo_init_127 : decode b_Mo_init 127 = .ok (.aload_n 0, 1) := by decide +kernel
theorem d_Mo_init_128 : decode b_Mo_init 128 = .ok (.sipush 600, 3) := by decide +kernel
theorem d_Mo_init_131 : decode b_Mo_init 131 = .ok (.newarray .int, 2) := by decide +kernel
theorem d_Mo_init_133 : decode b_Mo_init 133 = .ok (.putfield 61, 3) := by decide +kernel
theorem d_Mo_init_136 : decode b_Mo_init 136 = .ok (.aload_n 0, 1) := by decide +kernel
theorem d_Mo_init_137 : decode b_Mo_init 137 = .ok (.sipush 600, 3) := by decide +kernel
theorem d_Mo_init_140 : decode b_Mo_init 140 = .ok (.newarray .int, 2) := by decide +kernel
theorem d_Mo_init_142 : decode b_Mo_init 142 = .ok (.putfield 64, 3) := by decide +kernel
theorem d_Mo_init_145 : decode b_Mo_init 145 = .ok (.aload_n 0, 1) := by decide +kernel
theorem d_Mo_init_146 : decode b_Mo_init 146 = .ok (.sipush 600, 3) := by decide +kernel
theorem d_Mo_init_149 : decode b_Mo_init 149 = .ok (.newarray .int, 2) := by decide +kernel
theorem d_Mo_init_151 : decode b_Mo_init 151 = .ok (.putfield 67, 3) := by decide +kernel
theorem d_Mo_init_154 : decode b_Mo_init 154 = .ok (.aload_n 0, 1) := by decide +kernel
theorem d_Mo_init_155 : decode b_Mo_init 155 = .ok (.sipush 600, 3) := by decide +kernel
theorem d_Mo_init_158 : decode b_Mo_init 158 = .ok (.newarray .int, 2) := by decide +kernel
theorem d_Mo_init_160 : decode b_Mo_init 160 = .ok (.putfield 70, 3) := by decide +kernel
theorem d_Mo_init_163 : decode b_Mo_init 163 = .ok (.aload_n 0, 1) := by decide +kernel
theorem d_Mo_init_164 : decode b_Mo_init 164 = .ok (.sipush 4800, 3) := by decide +kernel
theorem d_Mo_init_167 : decode b_Mo_init 167 = .ok (.newarray .int, 2) := by decide +kernel
theorem d_Mo_init_169 : decode b_Mo_init 169 = .ok (.putfield 73, 3) := by decide +kernel
theorem d_Mo_init_172 : decode b_Mo_init 172 = .ok (.aload_n 0, 1) := by decide +kernel
theorem d_Mo_init_173 : decode b_Mo_init 173 = .ok (.sipush 4800, 3) := by decide +kernel
theorem d_Mo_init_176 : decode b_Mo_init 176 = .ok (.newarray .int, 2) := by decide +kernel
theorem d_Mo_init_178 : decode b_Mo_init 178 = .ok (.putfield 76, 3) := by decide +kernel
theorem d_Mo_init_181 : decode b_Mo_init 181 = .ok (.aload_n 0, 1) := by decide +kernel
theorem d_Mo_init_182 : decode b_Mo_init 182 = .ok (.bipush 8, 2) := by decide +kernel
theorem d_Mo_init_184 : decode b_Mo_init 184 = .ok (.newarray .int, 2) := by decide +kernel
theorem d_Mo_init_186 : decode b_Mo_init 186 = .ok (.putfield 79, 3) := by decide +kernel
theorem d_Mo_init_189 : decode b_Mo_init 189 = .ok (.aload_n 0, 1) := by decide +kernel
theorem d_Mo_init_190 : decode b_Mo_init 190 = .ok (.bipush 8, 2) := by decide +kernel
theorem d_Mo_init_192 : decode b_Mo_init 192 = .ok (.newarray .int, 2) := by decide +kernel
theorem d_Mo_init_194 : decode b_Mo_init 194 = .ok (.putfield 82, 3) := by decide +kernel
theorem d_Mo_init_197 : decode b_Mo_init 197 = .ok (.aload_n 0, 1) := by decide +kernel
theorem d_Mo_init_198 : decode b_Mo_init 198 = .ok (.iconst 0, 1) := by decide +kernel
theorem d_Mo_init_199 : decode b_Mo_init 199 = .ok (.putfield 1, 3) := by decide +kernel
theorem d_Mo_init_202 : decode b_Mo_init 202 = .ok (.return_, 1) := by decide +kernel
theorem d_Mo_name_0 : decode b_Mo_name 0 = .ok (.aload_n 0, 1) := by decide +kernel
theorem d_Mo_name_1 : decode b_Mo_name 1 = .ok (.iconst 0, 1) := by decide +kernel
theorem d_Mo_name_2 : decode b_Mo_name 2 = .ok (.putfield 1, 3) := by decide +kernel
theorem d_Mo_name_5 : decode b_Mo_name 5 = .ok (.iload_n 1, 1) := by decide +kernel
theorem d_Mo_name_6 : decode b_Mo_name 6 = .ok (.i2l, 1) := by decide +kernel
theorem d_Mo_name_7 : decode b_Mo_name 7 = .ok (.ldc2_w 102, 3) := by decide +kernel
theorem d_Mo_name_10 : decode b_Mo_name 10 = .ok (.ldc2_w 104, 3) := by decide +kernel
theorem d_Mo_name_13 : decode b_Mo_name 13 = .ok (.invokestatic 88, 3) := by decide +kernel
theorem d_Mo_name_16 : decode b_Mo_name 16 = .ok (.ifCond .eq 22, 3) := by decide +kernel
theorem d_Mo_name_19 : decode b_Mo_name 19 = .ok (.iload_n 2, 1) := by decide +kernel
theorem d_Mo_name_20 : decode b_Mo_name 20 = .ok (.i2l, 1) := by decide +kernel
theorem d_Mo_name_21 : decode b_Mo_name 21 = .ok (.ldc2_w 102, 3) := by decide +kernel
theorem d_Mo_name_24 : decode b_Mo_name 24 = .ok (.ldc2_w 104, 3) := by decide +kernel
theorem d_Mo_name_27 : decode b_Mo_name 27 = .ok (.invokestatic 88, 3) := by decide +kernel
theorem d_Mo_name_30 : decode b_Mo_name 30 = .ok (.ifCond .eq 8, 3) := by decide +kernel
theorem d_Mo_name_33 : decode b_Mo_name 33 = .ok (.iload_n 1, 1) := by decide +kernel
theorem d_Mo_name_34 : decode b_Mo_name 34 = .ok (.iload_n 2, 1) := by decide +kernel
theorem d_Mo_name_35 : decode b_Mo_name 35 = .ok (.if_icmp .le 5, 3) := by decide +kernel
theorem d_Mo_name_38 : decode b_Mo_name 38 = .ok (.iconst (-1), 1) := by decide +kernel
theorem d_Mo_name_39 : decode b_Mo_name 39 = .ok (.ireturn, 1) := by decide +kernel
theorem d_Mo_name_40 : decode b_Mo_name 40 = .ok (.aload_n 0, 1) := by decide +kernel
theorem d_Mo_name_41 : decode b_Mo_name 41 = .ok (.getfield 85, 3) := by decide +kernel
theorem d_Mo_name_44 : decode b_Mo_name 44 = .ok (.bipush 8, 2) := by decide +kernel
theorem d_Mo_name_46 : decode b_Mo_name 46 = .ok (.if_icmp .ne 6, 3) := by decide +kernel
theorem d_Mo_name_49 : decode b_Mo_name 49 = .ok (.bipush (-3), 2) := by decide +kernel
theorem d_Mo_name_51 : decode b_Mo_name 51 = .ok (.ireturn, 1) := by decide +kernel
theorem d_Mo_name_52 : decode b_Mo_name 52 = .ok (.aload_n 0, 1) := by decide +kernel
theorem d_Mo_name_53 : decode b_Mo_name 53 = .ok (.getfield 13, 3) := by decide +kernel
theorem d_Mo_name_56 : decode b_Mo_name 56 = .ok (.aload_n 0, 1) := by decide +kernel
theorem d_Mo_name_57 : decode b_Mo_name 57 = .ok (.getfield 85, 3) := by decide +kernel
theorem d_Mo_name_60 : decode b_Mo_name 60 = .ok (.iload_n 1, 1) := by decide +kernel
theorem d_Mo_name_61 : decode b_Mo_name 61 = .ok (.iastore, 1) := by decide +kernel
theorem d_Mo_name_62 : decode b_Mo_name 62 = .ok (.aload_n 0, 1) := by decide +kernel
theorem d_Mo_name_63 : decode b_Mo_name 63 = .ok (.getfield 17, 3) := by decide +kernel
theorem d_Mo_name_66 : decode b_Mo_name 66 = .ok (.aload_n 0, 1) := by decide +kernel
theorem d_Mo_name_67 : decode b_Mo_name 67 = .ok (.getfield 85, 3) := by decide +kernel
theorem d_Mo_name_70 : decode b_Mo_name 70 = .ok (.iload_n 2, 1) := by decide +kernel
theorem d_Mo_name_71 : decode b_Mo_name 71 = .ok (.iastore, 1) := by decide +kernel
theorem d_Mo_name_72 : decode b_Mo_name 72 = .ok (.aload_n 0, 1) := by decide +kernel
theorem d_Mo_name_73 : decode b_Mo_name 73 = .ok (.dup, 1) := by decide +kernel
theorem d_Mo_name_74 : decode b_Mo_name 74 = .ok (.getfield 85, 3) := by decide +kernel
theorem d_Mo_name_77 : decode b_Mo_name 77 = .ok (.iconst 1, 1) := by decide +kernel
theorem d_Mo_name_78 : decode b_Mo_name 78 = .ok (.iadd, 1) := by decide +kernel
theorem d_Mo_name_79 : decode b_Mo_name 79 = .ok (.putfield 85, 3) := by decide +kernel
theorem d_Mo_name_82 : decode b_Mo_name 82 = .ok (.aload_n 0, 1) := by decide +kernel
theorem d_Mo_name_83 : decode b_Mo_name 83 = .ok (.invokevirtual 106, 3) := by decide +kernel
theorem d_Mo_name_86 : decode b_Mo_name 86 = .ok (.aload_n 0, 1) := by decide +kernel
theorem d_Mo_name_87 : decode b_Mo_name 87 = .ok (.getfield 85, 3) := by decide +kernel
theorem d_Mo_name_90 : decode b_Mo_name 90 = .ok (.iconst 1, 1) := by decide +kernel
theorem d_Mo_name_91 : decode b_Mo_name 91 = .ok (.isub, 1) := by decide +kernel
theorem d_Mo_name_92 : decode b_Mo_name 92 = .ok (.ireturn, 1) := by decide +kernel
theorem d_Mo_in_0 : decode b_Mo_in 0 = .ok (.lload_n 0, 1) := by decide +kernel
theorem d_Mo_in_1 : decode b_Mo_in 1 = .ok (.lload_n 2, 1) := by decide +kernel
theorem d_Mo_in_2 : decode b_Mo_in 2 = .ok (.lcmp, 1) := by decide +kernel
theorem d_Mo_in_3 : decode b_Mo_in 3 = .ok (.ifCond .lt 14, 3) := by decide +kernel
theorem d_Mo_in_6 : decode b_Mo_in 6 = .ok (.lload_n 0, 1) := by decide +kernel
theorem d_Mo_in_7 : decode b_Mo_in 7 = .ok (.lload 4, 2) := by decide +kernel
theorem d_Mo_in_9 : decode b_Mo_in 9 = .ok (.lcmp, 1) := by decide +kernel
theorem d_Mo_in_10 : decode b_Mo_in 10 = .ok (.ifCond .gt 7, 3) := by decide +kernel
theorem d_Mo_in_13 : decode b_Mo_in 13 = .ok (.iconst 1, 1) := by decide +kernel
theorem d_Mo_in_14 : decode b_Mo_in 14 = .ok (.goto 4, 3) := by decide +kernel
theorem d_Mo_in_17 : decode b_Mo_in 17 = .ok (.iconst 0, 1) := by decide +kernel
theorem d_Mo_in_18 : decode b_Mo_in 18 = .ok (.ireturn, 1) := by decide +kernel
theorem d_Mo_problemTold_0 : decode b_Mo_problemTold 0 = .ok (.aload_n 0, 1) := by decide +kernel
theorem d_Mo_problemTold_1 : decode b_Mo_problemTold 1 = .ok (.iconst 0, 1) := by decide +kernel
theorem d_Mo_problemTold_2 : decode b_Mo_problemTold 2 = .ok (.putfield 92, 3) := by decide +kernel
theorem d_Mo_problemTold_5 : decode b_Mo_problemTold 5 = .ok (.aload_n 0, 1) := by decide +kernel
theorem d_Mo_problemTold_6 : decode b_Mo_problemTold 6 = .ok (.iconst 0, 1) := by decide +kernel
theorem d_Mo_problemTold_7 : decode b_Mo_problemTold 7 = .ok (.putfield 95, 3) := by decide +kernel
theorem d_Mo_problemTold_10 : decode b_Mo_problemTold 10 = .ok (.aload_n 0, 1) := by decide +kernel
theorem d_Mo_problemTold_11 : decode b_Mo_problemTold 11 = .ok (.iconst 0, 1) := by decide +kernel
theorem d_Mo_problemTold_12 : decode b_Mo_problemTold 12 = .ok (.putfield 98, 3) := by decide +kernel
theorem d_Mo_problemTold_15 : decode b_Mo_problemTold 15 = .ok (.iconst 0, 1) := by decide +kernel
theorem d_Mo_problemTold_16 : decode b_Mo_problemTold 16 = .ok (.istore_n 1, 1) := by decide +kernel
theorem d_Mo_problemTold_17 : decode b_Mo_problemTold 17 = .ok (.iload_n 1, 1) := by decide +kernel
theorem d_Mo_problemTold_18 : decode b_Mo_problemTold 18 = .ok (.bipush 8, 2) := by decide +kernel
theorem d_Mo_problemTold_20 : decode b_Mo_problemTold 20 = .ok (.if_icmp .ge 23, 3) := by decide +kernel
theorem d_Mo_problemTold_23 : decode b_Mo_problemTold 23 = .ok (.aload_n 0, 1) := by decide +kernel
theorem d_Mo_problemTold_24 : decode b_Mo_problemTold 24 = .ok (.getfield 20, 3) := by decide +kernel
theorem d_Mo_problemTold_27 : decode b_Mo_problemTold 27 = .ok (.iload_n 1, 1) := by decide +kernel
theorem d_Mo_problemTold_28 : decode b_Mo_problemTold 28 = .ok (.lconst 0, 1) := by decide +kernel
theorem d_Mo_problemTold_29 : decode b_Mo_problemTold 29 = .ok (.lastore, 1) := by decide +kernel
theorem d_Mo_problemTold_30 : decode b_Mo_problemTold 30 = .ok (.aload_n 0, 1) := by decide +kernel
theorem d_Mo_problemTold_31 : decode b_Mo_problemTold 31 = .ok (.getfield 24, 3) := by decide +kernel
theorem d_Mo_problemTold_34 : decode b_Mo_problemTold 34 = .ok (.iload_n 1, 1) := by decide +kernel
theorem d_Mo_problemTold_35 : decode b_Mo_problemTold 35 = .ok (.iconst 0, 1) := by decide +kernel
theorem d_Mo_problemTold_36 : decode b_Mo_problemTold 36 = .ok (.iastore, 1) := by decide +kernel
theorem d_Mo_problemTold_37 : decode b_Mo_problemTold 37 = .ok (.iinc 1 1, 3) := by decide +kernel
theorem d_Mo_problemTold_40 : decode b_Mo_problemTold 40 = .ok (.goto (-23), 3) := by decide +kernel
theorem d_Mo_problemTold_43 : decode b_Mo_problemTold 43 = .ok (.return_, 1) := by decide +kernel
theorem d_Mo_row_0 : decode b_Mo_row 0 = .ok (.aload_n 0, 1) := by decide +kernel
theorem d_Mo_row_1 : decode b_Mo_row 1 = .ok (.iconst 0, 1) := by decide +kernel
theorem d_Mo_row_2 : decode b_Mo_row 2 = .ok (.putfield 1, 3) := by decide +kernel
theorem d_Mo_row_5 : decode b_Mo_row 5 = .ok (.iload_n 1, 1) := by decide +kernel
theorem d_Mo_row_6 : decode b_Mo_row 6 = .ok (.i2l, 1) := by decide +kernel
theorem d_Mo_row_7 : decode b_Mo_row 7 = .ok (.lconst 0, 1) := by decide +kernel
theorem d_Mo_row_8 : decode b_Mo_row 8 = .ok (.ldc2_w 109, 3) := by decide +kernel
theorem d_Mo_row_11 : decode b_Mo_row 11 = .ok (.invokestatic 88, 3) := by decide +kernel
theorem d_Mo_row_14 : decode b_Mo_row 14 = .ok (.ifCond .eq 17, 3) := by decide +kernel
theorem d_Mo_row_17 : decode b_Mo_row 17 = .ok (.iload_n 2, 1) := by decide +kernel
theorem d_Mo_row_18 : decode b_Mo_row 18 = .ok (.i2l, 1) := by decide +kernel
theorem d_Mo_row_19 : decode b_Mo_row 19 = .ok (.ldc2_w 111, 3) := by decide +kernel
theorem d_Mo_row_22 : decode b_Mo_row 22 = .ok (.ldc2_w 113, 3) := by decide +kernel
theorem d_Mo_row_25 : decode b_Mo_row 25 = .ok (.invokestatic 88, 3) := by decide +kernel
theorem d_Mo_row_28 : decode b_Mo_row 28 = .ok (.ifCond .ne 5, 3) := by decide +kernel
theorem d_Mo_row_31 : decode b_Mo_row 31 = .ok (.iconst (-1), 1) := by decide +kernel
theorem d_Mo_row_32 : decode b_Mo_row 32 = .ok (.ireturn, 1) := by decide +kernel
theorem d_Mo_row_33 : decode b_Mo_row 33 = .ok (.aload_n 0, 1) := by decide +kernel
theorem d_Mo_row_34 : decode b_Mo_row 34 = .ok (.getfield 115, 3) := by decide +kernel
theorem d_Mo_row_37 : decode b_Mo_row 37 = .ok (.bipush 16, 2) := by decide +kernel
theorem d_Mo_row_39 : decode b_Mo_row 39 = .ok (.if_icmp .ne 6, 3) := by decide +kernel
theorem d_Mo_row_42 : decode b_Mo_row 42 = .ok (.bipush (-3), 2) := by decide +kernel
theorem d_Mo_row_44 : decode b_Mo_row 44 = .ok (.ireturn, 1) := by decide +kernel
theorem d_Mo_row_45 : decode b_Mo_row 45 = .ok (.aload_n 0, 1) := by decide +kernel
theorem d_Mo_row_46 : decode b_Mo_row 46 = .ok (.getfield 36, 3) := by decide +kernel
theorem d_Mo_row_49 : decode b_Mo_row 49 = .ok (.aload_n 0, 1) := by decide +kernel
theorem d_Mo_row_50 : decode b_Mo_row 50 = .ok (.getfield 115, 3) := by decide +kernel
theorem d_Mo_row_53 : decode b_Mo_row 53 = .ok (.iload_n 1, 1) := by decide +kernel
theorem d_Mo_row_54 : decode b_Mo_row 54 = .ok (.iastore, 1) := by decide +kernel
theorem d_Mo_row_55 : decode b_Mo_row 55 = .ok (.aload_n 0, 1) := by decide +kernel
theorem d_Mo_row_56 : decode b_Mo_row 56 = .ok (.getfield 39, 3) := by decide +kernel
theorem d_Mo_row_59 : decode b_Mo_row 59 = .ok (.aload_n 0, 1) := by decide +kernel
theorem d_Mo_row_60 : decode b_Mo_row 60 = .ok (.getfield 115, 3) := by decide +kernel
theorem d_Mo_row_63 : decode b_Mo_row 63 = .ok (.iload_n 2, 1) := by decide +kernel
theorem d_Mo_row_64 : decode b_Mo_row 64 = .ok (.iastore, 1) := by decide +kernel
theorem d_Mo_row_65 : decode b_Mo_row 65 = .ok (.aload_n 0, 1) := by decide +kernel
theorem d_Mo_row_66 : decode b_Mo_row 66 = .ok (.dup, 1) := by decide +kernel
theorem d_Mo_row_67 : decode b_Mo_row 67 = .ok (.getfield 115, 3) := by decide +kernel
theorem d_Mo_row_70 : decode b_Mo_row 70 = .ok (.iconst 1, 1) := by decide +kernel
theorem d_Mo_row_71 : decode b_Mo_row 71 = .ok (.iadd, 1) := by decide +kernel
theorem d_Mo_row_72 : decode b_Mo_row 72 = .ok (.putfield 115, 3) := by decide +kernel
theorem d_Mo_row_75 : decode b_Mo_row 75 = .ok (.aload_n 0, 1) := by decide +kernel
theorem d_Mo_row_76 : decode b_Mo_row 76 = .ok (.invokevirtual 106, 3) := by decide +kernel
theorem d_Mo_row_79 : decode b_Mo_row 79 = .ok (.aload_n 0, 1) := by decide +kernel
theorem d_Mo_row_80 : decode b_Mo_row 80 = .ok (.getfield 115, 3) := by decide +kernel
theorem d_Mo_row_83 : decode b_Mo_row 83 = .ok (.iconst 1, 1) := by decide +kernel
theorem d_Mo_row_84 : decode b_Mo_row 84 = .ok (.isub, 1) := by decide +kernel
theorem d_Mo_row_85 : decode b_Mo_row 85 = .ok (.ireturn, 1) := by decide +kernel
theorem d_Mo_factor_0 : decode b_Mo_factor 0 = .ok (.aload_n 0, 1) := by decide +kernel
theorem d_Mo_factor_1 : decode b_Mo_factor 1 = .ok (.iconst 0, 1) := by decide +kernel
theorem d_Mo_factor_2 : decode b_Mo_factor 2 = .ok (.putfield 1, 3) := by decide +kernel
theorem d_Mo_factor_5 : decode b_Mo_factor 5 = .ok (.iload_n 1, 1) := by decide +kernel
theorem d_Mo_factor_6 : decode b_Mo_factor 6 = .ok (.i2l, 1) := by decide +kernel
theorem d_Mo_factor_7 : decode b_Mo_factor 7 = .ok (.lconst 0, 1) := by decide +kernel
theorem d_Mo_factor_8 : decode b_Mo_factor 8 = .ok (.aload_n 0, 1) := by decide +kernel
theorem d_Mo_factor_9 : decode b_Mo_factor 9 = .ok (.getfield 115, 3) := by decide +kernel
theorem d_Mo_factor_12 : decode b_Mo_factor 12 = .ok (.iconst 1, 1) := by decide +kernel
theorem d_Mo_factor_13 : decode b_Mo_factor 13 = .ok (.isub, 1) := by decide +kernel
theorem d_Mo_factor_14 : decode b_Mo_factor 14 = .ok (.i2l, 1) := by decide +kernel
theorem d_Mo_factor_15 : decode b_Mo_factor 15 = .ok (.invokestatic 88, 3) := by decide +kernel
theorem d_Mo_factor_18 : decode b_Mo_factor 18 = .ok (.ifCond .eq 25, 3) := by decide +kernel
theorem d_Mo_factor_21 : decode b_Mo_factor 21 = .ok (.aload_n 0, 1) := by decide +kernel
theorem d_Mo_factor_22 : decode b_Mo_factor 22 = .ok (.iload_n 2, 1) := by decide +kernel
theorem d_Mo_factor_23 : decode b_Mo_factor 23 = .ok (.invokevirtual 118, 3) := by decide +kernel
theorem d_Mo_factor_26 : decode b_Mo_factor 26 = .ok (.ifCond .ne 17, 3) := by decide +kernel
theorem d_Mo_factor_29 : decode b_Mo_factor 29 = .ok (.iload_n 3, 1) := by decide +kernel
theorem d_Mo_factor_30 : decode b_Mo_factor 30 = .ok (.i2l, 1) := by decide +kernel
theorem d_Mo_factor_31 : decode b_Mo_factor 31 = .ok (.ldc2_w 122, 3) := by decide +kernel
theorem d_Mo_factor_34 : decode b_Mo_factor 34 = .ok (.ldc2_w 124, 3) := by decide +kernel
theorem d_Mo_factor_37 : decode b_Mo_factor 37 = .ok (.invokestatic 88, 3) := by decide +kernel
theorem d_Mo_factor_40 : decode b_Mo_factor 40 = .ok (.ifCond .ne 7, 3) := by decide +kernel
theorem d_Mo_factor_43 : decode b_Mo_factor 43 = .ok (.sipush (-1000), 3) := by decide +kernel
theorem d_Mo_factor_46 : decode b_Mo_factor 46 = .ok (.ireturn, 1) := by decide +kernel
theorem d_Mo_factor_47 : decode b_Mo_factor 47 = .ok (.aload_n 0, 1) := by decide +kernel
theorem d_Mo_factor_48 : decode b_Mo_factor 48 = .ok (.getfield 33, 3) := by decide +kernel
theorem d_Mo_factor_51 : decode b_Mo_factor 51 = .ok (.bipush 8, 2) := by decide +kernel
theorem d_Mo_factor_53 : decode b_Mo_factor 53 = .ok (.iload_n 1, 1) := by decide +kernel
theorem d_Mo_factor_54 : decode b_Mo_factor 54 = .ok (.imul, 1) := by decide +kernel
theorem d_Mo_factor_55 : decode b_Mo_factor 55 = .ok (.iload_n 2, 1) := by decide +kernel
theorem d_Mo_factor_56 : decode b_Mo_factor 56 = .ok (.iadd, 1) := by decide +kernel
theorem d_Mo_factor_57 : decode b_Mo_factor 57 = .ok (.iaload, 1) := by decide +kernel
theorem d_Mo_factor_58 : decode b_Mo_factor 58 = .ok (.istore 4, 2) := by decide +kernel
theorem d_Mo_factor_60 : decode b_Mo_factor 60 = .ok (.aload_n 0, 1) := by decide +kernel
theorem d_Mo_factor_61 : decode b_Mo_factor 61 = .ok (.getfield 33, 3) := by decide +kernel
theorem d_Mo_factor_64 : decode b_Mo_factor 64 = .ok (.bipush 8, 2) := by decide +kernel
theorem d_Mo_factor_66 : decode b_Mo_factor 66 = .ok (.iload_n 1, 1) := by decide +kernel
theorem d_Mo_factor_67 : decode b_Mo_factor 67 = .ok (.imul, 1) := by decide +kernel
theorem d_Mo_factor_68 : decode b_Mo_factor 68 = .ok (.iload_n 2, 1) := by decide +kernel
theorem d_Mo_factor_69 : decode b_Mo_factor 69 = .ok (.iadd, 1) := by decide +kernel
theorem d_Mo_factor_70 : decode b_Mo_factor 70 = .ok (.iload_n 3, 1) := by decide +kernel
theorem d_Mo_factor_71 : decode b_Mo_factor 71 = .ok (.iastore, 1) := by decide +kernel
theorem d_Mo_factor_72 : decode b_Mo_factor 72 = .ok (.aload_n 0, 1) := by decide +kernel
theorem d_Mo_factor_73 : decode b_Mo_factor 73 = .ok (.invokevirtual 106, 3) := by decide +kernel
theorem d_Mo_factor_76 : decode b_Mo_factor 76 = .ok (.iload 4, 2) := by decide +kernel
theorem d_Mo_factor_78 : decode b_Mo_factor 78 = .ok (.ireturn, 1) := by decide +kernel
theorem d_Mo_noName_0 : decode b_Mo_noName 0 = .ok (.iload_n 1, 1) := by decide +kernel
theorem d_Mo_noName_1 : decode b_Mo_noName 1 = .ok (.i2l, 1) := by decide +kernel
theorem d_Mo_noName_2 : decode b_Mo_noName 2 = .ok (.lconst 0, 1) := by decide +kernel
theorem d_Mo_noName_3 : decode b_Mo_noName 3 = .ok (.aload_n 0, 1) := by decide +kernel
theorem d_Mo_noName_4 : decode b_Mo_noName 4 = .ok (.getfield 85, 3) := by decide +kernel
theorem d_Mo_noName_7 : decode b_Mo_noName 7 = .ok (.iconst 1, 1) := by decide +kernel
theorem d_Mo_noName_8 : decode b_Mo_noName 8 = .ok (.isub, 1) := by decide +kernel
theorem d_Mo_noName_9 : decode b_Mo_noName 9 = .ok (.i2l, 1) := by decide +kernel
theorem d_Mo_noName_10 : decode b_Mo_noName 10 = .ok (.invokestatic 88, 3) := by decide +kernel
theorem d_Mo_noName_13 : decode b_Mo_noName 13 = .ok (.ifCond .ne 7, 3) := by decide +kernel
theorem d_Mo_noName_16 : decode b_Mo_noName 16 = .ok (.iconst 1, 1) := by decide +kernel
theorem d_Mo_noName_17 : decode b_Mo_noName 17 = .ok (.goto 4, 3) := by decide +kernel
theorem d_Mo_noName_20 : decode b_Mo_noName 20 = .ok (.iconst 0, 1) := by decide +kernel
theorem d_Mo_noName_21 : decode b_Mo_noName 21 = .ok (.ireturn, 1) := by decide +kernel
theorem d_Mo_cost_0 : decode b_Mo_cost 0 = .ok (.aload_n 0, 1) := by decide +kernel
theorem d_Mo_cost_1 : decode b_Mo_cost 1 = .ok (.iconst 0, 1) := by decide +kernel
theorem d_Mo_cost_2 : decode b_Mo_cost 2 = .ok (.putfield 1, 3) := by decide +kernel
theorem d_Mo_cost_5 : decode b_Mo_cost 5 = .ok (.aload_n 0, 1) := by decide +kernel
theorem d_Mo_cost_6 : decode b_Mo_cost 6 = .ok (.iload_n 1, 1) := by decide +kernel
theorem d_Mo_cost_7 : decode b_Mo_cost 7 = .ok (.invokevirtual 118, 3) := by decide +kernel
theorem d_Mo_cost_10 : decode b_Mo_cost 10 = .ok (.ifCond .ne 17, 3) := by decide +kernel
theorem d_Mo_cost_13 : decode b_Mo_cost 13 = .ok (.iload_n 2, 1) := by decide +kernel
theorem d_Mo_cost_14 : decode b_Mo_cost 14 = .ok (.i2l, 1) := by decide +kernel
theorem d_Mo_cost_15 : decode b_Mo_cost 15 = .ok (.ldc2_w 122, 3) := by decide +kernel
theorem d_Mo_cost_18 : decode b_Mo_cost 18 = .ok (.ldc2_w 124, 3) := by decide +kernel
theorem d_Mo_cost_21 : decode b_Mo_cost 21 = .ok (.invokestatic 88, 3) := by decide +kernel
theorem d_Mo_cost_24 : decode b_Mo_cost 24 = .ok (.ifCond .ne 7, 3) := by decide +kernel
theorem d_Mo_cost_27 : decode b_Mo_cost 27 = .ok (.sipush (-1000), 3) := by decide +kernel
theorem d_Mo_cost_30 : decode b_Mo_cost 30 = .ok (.ireturn, 1) := by decide +kernel
theorem d_Mo_cost_31 : decode b_Mo_cost 31 = .ok (.aload_n 0, 1) := by decide +kernel
theorem d_Mo_cost_32 : decode b_Mo_cost 32 = .ok (.getfield 27, 3) := by decide +kernel
theorem d_Mo_cost_35 : decode b_Mo_cost 35 = .ok (.iload_n 1, 1) := by decide +kernel
theorem d_Mo_cost_36 : decode b_Mo_cost 36 = .ok (.iaload, 1) := by decide +kernel
theorem d_Mo_cost_37 : decode b_Mo_cost 37 = .ok (.istore_n 3, 1) := by decide +kernel
theorem d_Mo_cost_38 : decode b_Mo_cost 38 = .ok (.aload_n 0, 1) := by decide +kernel
theorem d_Mo_cost_39 : decode b_Mo_cost 39 = .ok (.getfield 27, 3) := by decide +kernel
theorem d_Mo_cost_42 : decode b_Mo_cost 42 = .ok (.iload_n 1, 1) := by decide +kernel
theorem d_Mo_cost_43 : decode b_Mo_cost 43 = .ok (.iload_n 2, 1) := by decide +kernel
theorem d_Mo_cost_44 : decode b_Mo_cost 44 = .ok (.iastore, 1) := by decide +kernel
theorem d_Mo_cost_45 : decode b_Mo_cost 45 = .ok (.aload_n 0, 1) := by decide +kernel
theorem d_Mo_cost_46 : decode b_Mo_cost 46 = .ok (.invokevirtual 106, 3) := by decide +kernel
theorem d_Mo_cost_49 : decode b_Mo_cost 49 = .ok (.iload_n 3, 1) := by decide +kernel
theorem d_Mo_cost_50 : decode b_Mo_cost 50 = .ok (.ireturn, 1) := by decide +kernel
theorem d_Mo_alike_0 : decode b_Mo_alike 0 = .ok (.aload_n 0, 1) := by decide +kernel
theorem d_Mo_alike_1 : decode b_Mo_alike 1 = .ok (.iconst 0, 1) := by decide +kernel
theorem d_Mo_alike_2 : decode b_Mo_alike 2 = .ok (.putfield 1, 3) := by decide +kernel
theorem d_Mo_alike_5 : decode b_Mo_alike 5 = .ok (.aload_n 0, 1) := by decide +kernel
theorem d_Mo_alike_6 : decode b_Mo_alike 6 = .ok (.iload_n 1, 1) := by decide +kernel
theorem d_Mo_alike_7 : decode b_Mo_alike 7 = .ok (.invokevirtual 118, 3) := by decide +kernel
theorem d_Mo_alike_10 : decode b_Mo_alike 10 = .ok (.ifCond .ne 11, 3) := by decide +kernel
theorem d_Mo_alike_13 : decode b_Mo_alike 13 = .ok (.aload_n 0, 1) := by decide +kernel
theorem d_Mo_alike_14 : decode b_Mo_alike 14 = .ok (.iload_n 2, 1) := by decide +kernel
theorem d_Mo_alike_15 : decode b_Mo_alike 15 = .ok (.invokevirtual 118, 3) := by decide +kernel
theorem d_Mo_alike_18 : decode b_Mo_alike 18 = .ok (.ifCond .eq 7, 3) := by decide +kernel
theorem d_Mo_alike_21 : decode b_Mo_alike 21 = .ok (.iconst (-1), 1) := by decide +kernel
theorem d_Mo_alike_22 : decode b_Mo_alike 22 = .ok (.goto 17, 3) := by decide +kernel
theorem d_Mo_alike_25 : decode b_Mo_alike 25 = .ok (.aload_n 0, 1) := by decide +kernel
theorem d_Mo_alike_26 : decode b_Mo_alike 26 = .ok (.iload_n 1, 1) := by decide +kernel
theorem d_Mo_alike_27 : decode b_Mo_alike 27 = .ok (.iload_n 2, 1) := by decide +kernel
theorem d_Mo_alike_28 : decode b_Mo_alike 28 = .ok (.invokevirtual 130, 3) := by decide +kernel
theorem d_Mo_alike_31 : decode b_Mo_alike 31 = .ok (.ifCond .eq 7, 3) := by decide +kernel
theorem d_Mo_alike_34 : decode b_Mo_alike 34 = .ok (.iconst 1, 1) := by decide +kernel
theorem d_Mo_alike_35 : decode b_Mo_alike 35 = .ok (.goto 4, 3) := by decide +kernel
theorem d_Mo_alike_38 : decode b_Mo_alike 38 = .ok (.iconst 0, 1) := by decide +kernel
theorem d_Mo_alike_39 : decode b_Mo_alike 39 = .ok (.ireturn, 1) := by decide +kernel
theorem d_Mo_areAlike_0 : decode b_Mo_areAlike 0 = .ok (.aload_n 0, 1) := by decide +kernel
theorem d_Mo_areAlike_1 : decode b_Mo_areAlike 1 = .ok (.getfield 13, 3) := by decide +kernel
theorem d_Mo_areAlike_4 : decode b_Mo_areAlike 4 = .ok (.iload_n 1, 1) := by decide +kernel
theorem d_Mo_areAlike_5 : decode b_Mo_areAlike 5 = .ok (.iaload, 1) := by decide +kernel
theorem d_Mo_areAlike_6 : decode b_Mo_areAlike 6 = .ok (.aload_n 0, 1) := by decide +kernel
theorem d_Mo_areAlike_7 : decode b_Mo_areAlike 7 = .ok (.getfield 13, 3) := by decide +kernel
theorem d_Mo_areAlike_10 : decode b_Mo_areAlike 10 = .ok (.iload_n 2, 1) := by decide +kernel
theorem d_Mo_areAlike_11 : decode b_Mo_areAlike 11 = .ok (.iaload, 1) := by decide +kernel
theorem d_Mo_areAlike_12 : decode b_Mo_areAlike 12 = .ok (.if_icmp .ne 33, 3) := by decide +kernel
theorem d_Mo_areAlike_15 : decode b_Mo_areAlike 15 = .ok (.aload_n 0, 1) := by decide +kernel
theorem d_Mo_areAlike_16 : decode b_Mo_areAlike 16 = .ok (.getfield 17, 3) := by decide +kernel
theorem d_Mo_areAlike_19 : decode b_Mo_areAlike 19 = .ok (.iload_n 1, 1) := by decide +kernel
theorem d_Mo_areAlike_20 : decode b_Mo_areAlike 20 = .ok (.iaload, 1) := by decide +kernel
theorem d_Mo_areAlike_21 : decode b_Mo_areAlike 21 = .ok (.aload_n 0, 1) := by decide +kernel
theorem d_Mo_areAlike_22 : decode b_Mo_areAlike 22 = .ok (.getfield 17, 3) := by decide +kernel
theorem d_Mo_areAlike_25 : decode b_Mo_areAlike 25 = .ok (.iload_n 2, 1) := by decide +kernel
theorem d_Mo_areAlike_26 : decode b_Mo_areAlike 26 = .ok (.iaload, 1) := by decide +kernel
theorem d_Mo_areAlike_27 : decode b_Mo_areAlike 27 = .ok (.if_icmp .ne 18, 3) := by decide +kernel
theorem d_Mo_areAlike_30 : decode b_Mo_areAlike 30 = .ok (.aload_n 0, 1) := by decide +kernel
theorem d_Mo_areAlike_31 : decode b_Mo_areAlike 31 = .ok (.getfield 27, 3) := by decide +kernel
theorem d_Mo_areAlike_34 : decode b_Mo_areAlike 34 = .ok (.iload_n 1, 1) := by decide +kernel
theorem d_Mo_areAlike_35 : decode b_Mo_areAlike 35 = .ok (.iaload, 1) := by decide +kernel
theorem d_Mo_areAlike_36 : decode b_Mo_areAlike 36 = .ok (.aload_n 0, 1) := by decide +kernel
theorem d_Mo_areAlike_37 : decode b_Mo_areAlike 37 = .ok (.getfield 27, 3) := by decide +kernel
theorem d_Mo_areAlike_40 : decode b_Mo_areAlike 40 = .ok (.iload_n 2, 1) := by decide +kernel
theorem d_Mo_areAlike_41 : decode b_Mo_areAlike 41 = .ok (.iaload, 1) := by decide +kernel
theorem d_Mo_areAlike_42 : decode b_Mo_areAlike 42 = .ok (.if_icmp .eq 5, 3) := by decide +kernel
theorem d_Mo_areAlike_45 : decode b_Mo_areAlike 45 = .ok (.iconst 0, 1) := by decide +kernel
theorem d_Mo_areAlike_46 : decode b_Mo_areAlike 46 = .ok (.ireturn, 1) := by decide +kernel
theorem d_Mo_areAlike_47 : decode b_Mo_areAlike 47 = .ok (.iconst 0, 1) := by decide +kernel
theorem d_Mo_areAlike_48 : decode b_Mo_areAlike 48 = .ok (.istore_n 3, 1) := by decide +kernel
theorem d_Mo_areAlike_49 : decode b_Mo_areAlike 49 = .ok (.iload_n 3, 1) := by decide +kernel
theorem d_Mo_areAlike_50 : decode b_Mo_areAlike 50 = .ok (.aload_n 0, 1) := by decide +kernel
theorem d_Mo_areAlike_51 : decode b_Mo_areAlike 51 = .ok (.getfield 115, 3) := by decide +kernel
theorem d_Mo_areAlike_54 : decode b_Mo_areAlike 54 = .ok (.if_icmp .ge 117, 3) := by decide +kernel
theorem d_Mo_areAlike_57 : decode b_Mo_areAlike 57 = .ok (.iconst 0, 1) := by decide +kernel
theorem d_Mo_areAlike_58 : decode b_Mo_areAlike 58 = .ok (.istore 4, 2) := by decide +kernel
theorem d_Mo_areAlike_60 : decode b_Mo_areAlike 60 = .ok (.iconst 0, 1) := by decide +kernel
theorem d_Mo_areAlike_61 : decode b_Mo_areAlike 61 = .ok (.istore 5, 2) := by decide +kernel
theorem d_Mo_areAlike_63 : decode b_Mo_areAlike 63 = .ok (.iconst 0, 1) := by decide +kernel
theorem d_Mo_areAlike_64 : decode b_Mo_areAlike 64 = .ok (.istore 6, 2) := by decide +kernel
theorem d_Mo_areAlike_66 : decode b_Mo_areAlike 66 = .ok (.iload 6, 2) := by decide +kernel
theorem d_Mo_areAlike_68 : decode b_Mo_areAlike 68 = .ok (.aload_n 0, 1) := by decide +kernel
theorem d_Mo_areAlike_69 : decode b_Mo_areAlike 69 = .ok (.getfield 115, 3) := by decide +kernel
theorem d_Mo_areAlike_72 : decode b_Mo_areAlike 72 = .ok (.if_icmp .ge 84, 3) := by decide +kernel
theorem d_Mo_areAlike_75 : decode b_Mo_areAlike 75 = .ok (.aload_n 0, 1) := by decide +kernel
theorem d_Mo_areAlike_76 : decode b_Mo_areAlike 76 = .ok (.getfield 42, 3) := by decide +kernel
theorem d_Mo_areAlike_79 : decode b_Mo_areAlike 79 = .ok (.iload_n 3, 1) := by decide +kernel
theorem d_Mo_areAlike_80 : decode b_Mo_areAlike 80 = .ok (.baload, 1) := by decide +kernel
theorem d_Mo_areAlike_81 : decode b_Mo_areAlike 81 = .ok (.ifCond .ne 75, 3) := by decide +kernel
theorem d_Mo_areAlike_84 : decode b_Mo_areAlike 84 = .ok (.aload_n 0, 1) := by decide +kernel
theorem d_Mo_areAlike_85 : decode b_Mo_areAlike 85 = .ok (.getfield 42, 3) := by decide +kernel
theorem d_Mo_areAlike_88 : decode b_Mo_areAlike 88 = .ok (.iload 6, 2) := by decide +kernel
theorem d_Mo_areAlike_90 : decode b_Mo_areAlike 90 = .ok (.baload, 1) := by decide +kernel
theorem d_Mo_areAlike_91 : decode b_Mo_areAlike 91 = .ok (.ifCond .ne 22, 3) := by decide +kernel
theorem d_Mo_areAlike_94 : decode b_Mo_areAlike 94 = .ok (.aload_n 0, 1) := by decide +kernel
theorem d_Mo_areAlike_95 : decode b_Mo_areAlike 95 = .ok (.iload_n 3, 1) := by decide +kernel
theorem d_Mo_areAlike_96 : decode b_Mo_areAlike 96 = .ok (.iload 6, 2) := by decide +kernel
theorem d_Mo_areAlike_98 : decode b_Mo_areAlike 98 = .ok (.iload_n 1, 1) := by decide +kernel
theorem d_Mo_areAlike_99 : decode b_Mo_areAlike 99 = .ok (.iload_n 1, 1) := by decide +kernel
theorem d_Mo_areAlike_100 : decode b_Mo_areAlike 100 = .ok (.invokevirtual 126, 3) := by decide +kernel
theorem d_Mo_areAlike_103 : decode b_Mo_areAlike 103 = .ok (.ifCond .eq 10, 3) := by decide +kernel
theorem d_Mo_areAlike_106 : decode b_Mo_areAlike 106 = .ok (.iload 4, 2) := by decide +kernel
theorem d_Mo_areAlike_108 : decode b_Mo_areAlike 108 = .ok (.iconst 1, 1) := by decide +kernel
theorem d_Mo_areAlike_109 : decode b_Mo_areAlike 109 = .ok (.iadd, 1) := by decide +kernel
theorem d_Mo_areAlike_110 : decode b_Mo_areAlike 110 = .ok (.goto 5, 3) := by decide +kernel
theorem d_Mo_areAlike_113 : decode b_Mo_areAlike 113 = .ok (.iload 4, 2) := by decide +kernel
theorem d_Mo_areAlike_115 : decode b_Mo_areAlike 115 = .ok (.istore 4, 2) := by decide +kernel
theorem d_Mo_areAlike_117 : decode b_Mo_areAlike 117 = .ok (.aload_n 0, 1) := by decide +kernel
theorem d_Mo_areAlike_118 : decode b_Mo_areAlike 118 = .ok (.getfield 42, 3) := by decide +kernel
theorem d_Mo_areAlike_121 : decode b_Mo_areAlike 121 = .ok (.iload 6, 2) := by decide +kernel
theorem d_Mo_areAlike_123 : decode b_Mo_areAlike 123 = .ok (.baload, 1) := by decide +kernel
theorem d_Mo_areAlike_124 : decode b_Mo_areAlike 124 = .ok (.ifCond .ne 22, 3) := by decide +kernel
theorem d_Mo_areAlike_127 : decode b_Mo_areAlike 127 = .ok (.aload_n 0, 1) := by decide +kernel
theorem d_Mo_areAlike_128 : decode b_Mo_areAlike 128 = .ok (.iload_n 3, 1) := by decide +kernel
theorem d_Mo_areAlike_129 : decode b_Mo_areAlike 129 = .ok (.iload 6, 2) := by decide +kernel
theorem d_Mo_areAlike_131 : decode b_Mo_areAlike 131 = .ok (.iload_n 1, 1) := by decide +kernel
theorem d_Mo_areAlike_132 : decode b_Mo_areAlike 132 = .ok (.iload_n 2, 1) := by decide +kernel
theorem d_Mo_areAlike_133 : decode b_Mo_areAlike 133 = .ok (.invokevirtual 126, 3) := by decide +kernel
theorem d_Mo_areAlike_136 : decode b_Mo_areAlike 136 = .ok (.ifCond .eq 10, 3) := by decide +kernel
theorem d_Mo_areAlike_139 : decode b_Mo_areAlike 139 = .ok (.iload 5, 2) := by decide +kernel
theorem d_Mo_areAlike_141 : decode b_Mo_areAlike 141 = .ok (.iconst 1, 1) := by decide +kernel
theorem d_Mo_areAlike_142 : decode b_Mo_areAlike 142 = .ok (.iadd, 1) := by decide +kernel
theorem d_Mo_areAlike_143 : decode b_Mo_areAlike 143 = .ok (.goto 5, 3) := by decide +kernel
theorem d_Mo_areAlike_146 : decode b_Mo_areAlike 146 = .ok (.iload 5, 2) := by decide +kernel
theorem d_Mo_areAlike_148 : decode b_Mo_areAlike 148 = .ok (.istore 5, 2) := by decide +kernel
theorem d_Mo_areAlike_150 : decode b_Mo_areAlike 150 = .ok (.iinc 6 1, 3) := by decide +kernel
theorem d_Mo_areAlike_153 : decode b_Mo_areAlike 153 = .ok (.goto (-87), 3) := by decide +kernel
theorem d_Mo_areAlike_156 : decode b_Mo_areAlike 156 = .ok (.iload 4, 2) := by decide +kernel
theorem d_Mo_areAlike_158 : decode b_Mo_areAlike 158 = .ok (.iload 5, 2) := by decide +kernel
theorem d_Mo_areAlike_160 : decode b_Mo_areAlike 160 = .ok (.if_icmp .eq 5, 3) := by decide +kernel
theorem d_Mo_areAlike_163 : decode b_Mo_areAlike 163 = .ok (.iconst 0, 1) := by decide +kernel
theorem d_Mo_areAlike_164 : decode b_Mo_areAlike 164 = .ok (.ireturn, 1) := by decide +kernel
theorem d_Mo_areAlike_165 : decode b_Mo_areAlike 165 = .ok (.iinc 3 1, 3) := by decide +kernel
theorem d_Mo_areAlike_168 : decode b_Mo_areAlike 168 = .ok (.goto (-119), 3) := by decide +kernel
theorem d_Mo_areAlike_171 : decode b_Mo_areAlike 171 = .ok (.iconst 1, 1) := by decide +kernel
theorem d_Mo_areAlike_172 : decode b_Mo_areAlike 172 = .ok (.ireturn, 1) := by decide +kernel
theorem d_Mo_isOther_0 : decode b_Mo_isOther 0 = .ok (.aload_n 0, 1) := by decide +kernel
theorem d_Mo_isOther_1 : decode b_Mo_isOther 1 = .ok (.getfield 36, 3) := by decide +kernel
theorem d_Mo_isOther_4 : decode b_Mo_isOther 4 = .ok (.iload_n 1, 1) := by decide +kernel
theorem d_Mo_isOther_5 : decode b_Mo_isOther 5 = .ok (.iaload, 1) := by decide +kernel
theorem d_Mo_isOther_6 : decode b_Mo_isOther 6 = .ok (.aload_n 0, 1) := by decide +kernel
theorem d_Mo_isOther_7 : decode b_Mo_isOther 7 = .ok (.getfield 36, 3) := by decide +kernel
theorem d_Mo_isOther_10 : decode b_Mo_isOther 10 = .ok (.iload_n 2, 1) := by decide +kernel
theorem d_Mo_isOther_11 : decode b_Mo_isOther 11 = .ok (.iaload, 1) := by decide +kernel
theorem d_Mo_isOther_12 : decode b_Mo_isOther 12 = .ok (.if_icmp .ne 22, 3) := by decide +kernel
theorem d_Mo_isOther_15 : decode b_Mo_isOther 15 = .ok (.aload_n 0, 1) := by decide +kernel
theorem d_Mo_isOther_16 : decode b_Mo_isOther 16 = .ok (.getfield 39, 3) := by decide +kernel
theorem d_Mo_isOther_19 : decode b_Mo_isOther 19 = .ok (.iload_n 1, 1) := by decide +kernel
theorem d_Mo_isOther_20 : decode b_Mo_isOther 20 = .ok (.iaload, 1) := by decide +kernel
theorem d_Mo_isOther_21 : decode b_Mo_isOther 21 = .ok (.aload_n 0, 1) := by decide +kernel
theorem d_Mo_isOther_22 : decode b_Mo_isOther 22 = .ok (.getfield 39, 3) := by decide +kernel
theorem d_Mo_isOther_25 : decode b_Mo_isOther 25 = .ok (.iload_n 2, 1) := by decide +kernel
theorem d_Mo_isOther_26 : decode b_Mo_isOther 26 = .ok (.iaload, 1) := by decide +kernel
theorem d_Mo_isOther_27 : decode b_Mo_isOther 27 = .ok (.if_icmp .ne 7, 3) := by decide +kernel
theorem d_Mo_isOther_30 : decode b_Mo_isOther 30 = .ok (.iconst 1, 1) := by decide +kernel
theorem d_Mo_isOther_31 : decode b_Mo_isOther 31 = .ok (.goto 4, 3) := by decide +kernel
theorem d_Mo_isOther_34 : decode b_Mo_isOther 34 = .ok (.iconst 0, 1) := by decide +kernel
theorem d_Mo_isOther_35 : decode b_Mo_isOther 35 = .ok (.istore 5, 2) := by decide +kernel
theorem d_Mo_isOther_37 : decode b_Mo_isOther 37 = .ok (.iconst 0, 1) := by decide +kernel
theorem d_Mo_isOther_38 : decode b_Mo_isOther 38 = .ok (.istore 6, 2) := by decide +kernel
theorem d_Mo_isOther_40 : decode b_Mo_isOther 40 = .ok (.iload 6, 2) := by decide +kernel
theorem d_Mo_isOther_42 : decode b_Mo_isOther 42 = .ok (.bipush 8, 2) := by decide +kernel
theorem d_Mo_isOther_44 : decode b_Mo_isOther 44 = .ok (.if_icmp .ge 74, 3) := by decide +kernel
theorem d_Mo_isOther_47 : decode b_Mo_isOther 47 = .ok (.iload 5, 2) := by decide +kernel
theorem d_Mo_isOther_49 : decode b_Mo_isOther 49 = .ok (.ifCond .eq 69, 3) := by decide +kernel
theorem d_Mo_isOther_52 : decode b_Mo_isOther 52 = .ok (.iload 6, 2) := by decide +kernel
theorem d_Mo_isOther_54 : decode b_Mo_isOther 54 = .ok (.iload_n 3, 1) := by decide +kernel
theorem d_Mo_isOther_55 : decode b_Mo_isOther 55 = .ok (.if_icmp .ne 8, 3) := by decide +kernel
theorem d_Mo_isOther_58 : decode b_Mo_isOther 58 = .ok (.iload 4, 2) := by decide +kernel
theorem d_Mo_isOther_60 : decode b_Mo_isOther 60 = .ok (.goto 16, 3) := by decide +kernel
theorem d_Mo_isOther_63 : decode b_Mo_isOther 63 = .ok (.iload 6, 2) := by decide +kernel
theorem d_Mo_isOther_65 : decode b_Mo_isOther 65 = .ok (.iload 4, 2) := by decide +kernel
theorem d_Mo_isOther_67 : decode b_Mo_isOther 67 = .ok (.if_icmp .ne 7, 3) := by decide +kernel
theorem d_Mo_isOther_70 : decode b_Mo_isOther 70 = .ok (.iload_n 3, 1) := by decide +kernel
theorem d_Mo_isOther_71 : decode b_Mo_isOther 71 = .ok (.goto 5, 3) := by decide +kernel
theorem d_Mo_isOther_74 : decode b_Mo_isOther 74 = .ok (.iload 6, 2) := by decide +kernel
theorem d_Mo_isOther_76 : decode b_Mo_isOther 76 = .ok (.istore 7, 2) := by decide +kernel
theorem d_Mo_isOther_78 : decode b_Mo_isOther 78 = .ok (.aload_n 0, 1) := by decide +kernel
theorem d_Mo_isOther_79 : decode b_Mo_isOther 79 = .ok (.getfield 33, 3) := by decide +kernel
theorem d_Mo_isOther_82 : decode b_Mo_isOther 82 = .ok (.bipush 8, 2) := by decide +kernel
theorem d_Mo_isOther_84 : decode b_Mo_isOther 84 = .ok (.iload_n 1, 1) := by decide +kernel
theorem d_Mo_isOther_85 : decode b_Mo_isOther 85 = .ok (.imul, 1) := by decide +kernel
theorem d_Mo_isOther_86 : decode b_Mo_isOther 86 = .ok (.iload 7, 2) := by decide +kernel
theorem d_Mo_isOther_88 : decode b_Mo_isOther 88 = .ok (.iadd, 1) := by decide +kernel
theorem d_Mo_isOther_89 : decode b_Mo_isOther 89 = .ok (.iaload, 1) := by decide +kernel
theorem d_Mo_isOther_90 : decode b_Mo_isOther 90 = .ok (.aload_n 0, 1) := by decide +kernel
theorem d_Mo_isOther_91 : decode b_Mo_isOther 91 = .ok (.getfield 33, 3) := by decide +kernel
theorem d_Mo_isOther_94 : decode b_Mo_isOther 94 = .ok (.bipush 8, 2) := by decide +kernel
theorem d_Mo_isOther_96 : decode b_Mo_isOther 96 = .ok (.iload_n 2, 1) := by decide +kernel
theorem d_Mo_isOther_97 : decode b_Mo_isOther 97 = .ok (.imul, 1) := by decide +kernel
theorem d_Mo_isOther_98 : decode b_Mo_isOther 98 = .ok (.iload 6, 2) := by decide +kernel
theorem d_Mo_isOther_100 : decode b_Mo_isOther 100 = .ok (.iadd, 1) := by decide +kernel
theorem d_Mo_isOther_101 : decode b_Mo_isOther 101 = .ok (.iaload, 1) := by decide +kernel
theorem d_Mo_isOther_102 : decode b_Mo_isOther 102 = .ok (.if_icmp .ne 7, 3) := by decide +kernel
theorem d_Mo_isOther_105 : decode b_Mo_isOther 105 = .ok (.iconst 1, 1) := by decide +kernel
theorem d_Mo_isOther_106 : decode b_Mo_isOther 106 = .ok (.goto 4, 3) := by decide +kernel
theorem d_Mo_isOther_109 : decode b_Mo_isOther 109 = .ok (.iconst 0, 1) := by decide +kernel
theorem d_Mo_isOther_110 : decode b_Mo_isOther 110 = .ok (.istore 5, 2) := by decide +kernel
theorem d_Mo_isOther_112 : decode b_Mo_isOther 112 = .ok (.iinc 6 1, 3) := by decide +kernel
theorem d_Mo_isOther_115 : decode b_Mo_isOther 115 = .ok (.goto (-75), 3) := by decide +kernel
theorem d_Mo_isOther_118 : decode b_Mo_isOther 118 = .ok (.iload 5, 2) := by decide +kernel
theorem d_Mo_isOther_120 : decode b_Mo_isOther 120 = .ok (.ireturn, 1) := by decide +kernel
theorem d_Mo_order_0 : decode b_Mo_order 0 = .ok (.aload_n 0, 1) := by decide +kernel
theorem d_Mo_order_1 : decode b_Mo_order 1 = .ok (.iconst 0, 1) := by decide +kernel
theorem d_Mo_order_2 : decode b_Mo_order 2 = .ok (.putfield 1, 3) := by decide +kernel
theorem d_Mo_order_5 : decode b_Mo_order 5 = .ok (.iconst 0, 1) := by decide +kernel
theorem d_Mo_order_6 : decode b_Mo_order 6 = .ok (.istore_n 1, 1) := by decide +kernel
theorem d_Mo_order_7 : decode b_Mo_order 7 = .ok (.iload_n 1, 1) := by decide +kernel
theorem d_Mo_order_8 : decode b_Mo_order 8 = .ok (.aload_n 0, 1) := by decide +kernel
theorem d_Mo_order_9 : decode b_Mo_order 9 = .ok (.getfield 115, 3) := by decide +kernel
theorem d_Mo_order_12 : decode b_Mo_order 12 = .ok (.if_icmp .ge 21, 3) := by decide +kernel
theorem d_Mo_order_15 : decode b_Mo_order 15 = .ok (.aload_n 0, 1) := by decide +kernel
theorem d_Mo_order_16 : decode b_Mo_order 16 = .ok (.getfield 42, 3) := by decide +kernel
theorem d_Mo_order_19 : decode b_Mo_order 19 = .ok (.iload_n 1, 1) := by decide +kernel
theorem d_Mo_order_20 : decode b_Mo_order 20 = .ok (.baload, 1) := by decide +kernel
theorem d_Mo_order_21 : decode b_Mo_order 21 = .ok (.ifCond .eq 6, 3) := by decide +kernel
theorem d_Mo_order_24 : decode b_Mo_order 24 = .ok (.bipush (-2), 2) := by decide +kernel
theorem d_Mo_order_26 : decode b_Mo_order 26 = .ok (.ireturn, 1) := by decide +kernel
theorem d_Mo_order_27 : decode b_Mo_order 27 = .ok (.iinc 1 1, 3) := by decide +kernel
theorem d_Mo_order_30 : decode b_Mo_order 30 = .ok (.goto (-23), 3) := by decide +kernel
theorem d_Mo_order_33 : decode b_Mo_order 33 = .ok (.iconst 0, 1) := by decide +kernel
theorem d_Mo_order_34 : decode b_Mo_order 34 = .ok (.istore_n 1, 1) := by decide +kernel
theorem d_Mo_order_35 : decode b_Mo_order 35 = .ok (.iconst 0, 1) := by decide +kernel
theorem d_Mo_order_36 : decode b_Mo_order 36 = .ok (.istore_n 2, 1) := by decide +kernel
theorem d_Mo_order_37 : decode b_Mo_order 37 = .ok (.iload_n 2, 1) := by decide +kernel
theorem d_Mo_order_38 : decode b_Mo_order 38 = .ok (.aload_n 0, 1) := by decide +kernel
theorem d_Mo_order_39 : decode b_Mo_order 39 = .ok (.getfield 85, 3) := by decide +kernel
theorem d_Mo_order_42 : decode b_Mo_order 42 = .ok (.if_icmp .ge 126, 3) := by decide +kernel
theorem d_Mo_order_45 : decode b_Mo_order 45 = .ok (.iload_n 2, 1) := by decide +kernel
theorem d_Mo_order_46 : decode b_Mo_order 46 = .ok (.iconst 1, 1) := by decide +kernel
theorem d_Mo_order_47 : decode b_Mo_order 47 = .ok (.iadd, 1) := by decide +kernel
theorem d_Mo_order_48 : decode b_Mo_order 48 = .ok (.istore_n 3, 1) := by decide +kernel
theorem d_Mo_order_49 : decode b_Mo_order 49 = .ok (.iload_n 3, 1) := by decide +kernel
theorem d_Mo_order_50 : decode b_Mo_order 50 = .ok (.aload_n 0, 1) := by decide +kernel
theorem d_Mo_order_51 : decode b_Mo_order 51 = .ok (.getfield 85, 3) := by decide +kernel
theorem d_Mo_order_54 : decode b_Mo_order 54 = .ok (.if_icmp .ge 18, 3) := by decide +kernel
theorem d_Mo_order_57 : decode b_Mo_order 57 = .ok (.aload_n 0, 1) := by decide +kernel
theorem d_Mo_order_58 : decode b_Mo_order 58 = .ok (.iload_n 2, 1) := by decide +kernel
theorem d_Mo_order_59 : decode b_Mo_order 59 = .ok (.iload_n 3, 1) := by decide +kernel
theorem d_Mo_order_60 : decode b_Mo_order 60 = .ok (.invokevirtual 130, 3) := by decide +kernel
theorem d_Mo_order_63 : decode b_Mo_order 63 = .ok (.ifCond .ne 9, 3) := by decide +kernel
theorem d_Mo_order_66 : decode b_Mo_order 66 = .ok (.iinc 3 1, 3) := by decide +kernel
theorem d_Mo_order_69 : decode b_Mo_order 69 = .ok (.goto (-20), 3) := by decide +kernel
theorem d_Mo_order_72 : decode b_Mo_order 72 = .ok (.iload_n 3, 1) := by decide +kernel
theorem d_Mo_order_73 : decode b_Mo_order 73 = .ok (.aload_n 0, 1) := by decide +kernel
theorem d_Mo_order_74 : decode b_Mo_order 74 = .ok (.getfield 85, 3) := by decide +kernel
theorem d_Mo_order_77 : decode b_Mo_order 77 = .ok (.if_icmp .ge 85, 3) := by decide +kernel
theorem d_Mo_order_80 : decode b_Mo_order 80 = .ok (.aload_n 0, 1) := by decide +kernel
theorem d_Mo_order_81 : decode b_Mo_order 81 = .ok (.getfield 115, 3) := by decide +kernel
theorem d_Mo_order_84 : decode b_Mo_order 84 = .ok (.bipush 16, 2) := by decide +kernel
theorem d_Mo_order_86 : decode b_Mo_order 86 = .ok (.if_icmp .ge 76, 3) := by decide +kernel
theorem d_Mo_order_89 : decode b_Mo_order 89 = .ok (.aload_n 0, 1) := by decide +kernel
theorem d_Mo_order_90 : decode b_Mo_order 90 = .ok (.getfield 33, 3) := by decide +kernel
theorem d_Mo_order_93 : decode b_Mo_order 93 = .ok (.bipush 8, 2) := by decide +kernel
theorem d_Mo_order_95 : decode b_Mo_order 95 = .ok (.aload_n 0, 1) := by decide +kernel
theorem d_Mo_order_96 : decode b_Mo_order 96 = .ok (.getfield 115, 3) := by decide +kernel
theorem d_Mo_order_99 : decode b_Mo_order 99 = .ok (.imul, 1) := by decide +kernel
theorem d_Mo_order_100 : decode b_Mo_order 100 = .ok (.iload_n 2, 1) := by decide +kernel
theorem d_Mo_order_101 : decode b_Mo_order 101 = .ok (.iadd, 1) := by decide +kernel
theorem d_Mo_order_102 : decode b_Mo_order 102 = .ok (.iconst 1, 1) := by decide +kernel
theorem d_Mo_order_103 : decode b_Mo_order 103 = .ok (.iastore, 1) := by decide +kernel
theorem d_Mo_order_104 : decode b_Mo_order 104 = .ok (.aload_n 0, 1) := by decide +kernel
theorem d_Mo_order_105 : decode b_Mo_order 105 = .ok (.getfield 33, 3) := by decide +kernel
theorem d_Mo_order_108 : decode b_Mo_order 108 = .ok (.bipush 8, 2) := by decide +kernel
theorem d_Mo_order_110 : decode b_Mo_order 110 = .ok (.aload_n 0, 1) := by decide +kernel
theorem d_Mo_order_111 : decode b_Mo_order 111 = .ok (.getfield 115, 3) := by decide +kernel
theorem d_Mo_order_114 : decode b_Mo_order 114 = .ok (.imul, 1) := by decide +kernel
theorem d_Mo_order_115 : decode b_Mo_order 115 = .ok (.iload_n 3, 1) := by decide +kernel
theorem d_Mo_order_116 : decode b_Mo_order 116 = .ok (.iadd, 1) := by decide +kernel
theorem d_Mo_order_117 : decode b_Mo_order 117 = .ok (.iconst (-1), 1) := by decide +kernel
theorem d_Mo_order_118 : decode b_Mo_order 118 = .ok (.iastore, 1) := by decide +kernel
theorem d_Mo_order_119 : decode b_Mo_order 119 = .ok (.aload_n 0, 1) := by decide +kernel
theorem d_Mo_order_120 : decode b_Mo_order 120 = .ok (.getfield 36, 3) := by decide +kernel
theorem d_Mo_order_123 : decode b_Mo_order 123 = .ok (.aload_n 0, 1) := by decide +kernel
theorem d_Mo_order_124 : decode b_Mo_order 124 = .ok (.getfield 115, 3) := by decide +kernel
theorem d_Mo_order_127 : decode b_Mo_order 127 = .ok (.iconst 0, 1) := by decide +kernel
theorem d_Mo_order_128 : decode b_Mo_order 128 = .ok (.iastore, 1) := by decide +kernel
theorem d_Mo_order_129 : decode b_Mo_order 129 = .ok (.aload_n 0, 1) := by decide +kernel
theorem d_Mo_order_130 : decode b_Mo_order 130 = .ok (.getfield 39, 3) := by decide +kernel
theorem d_Mo_order_133 : decode b_Mo_order 133 = .ok (.aload_n 0, 1) := by decide +kernel
theorem d_Mo_order_134 : decode b_Mo_order 134 = .ok (.getfield 115, 3) := by decide +kernel
theorem d_Mo_order_137 : decode b_Mo_order 137 = .ok (.iconst 0, 1) := by decide +kernel
theorem d_Mo_order_138 : decode b_Mo_order 138 = .ok (.iastore, 1) := by decide +kernel
theorem d_Mo_order_139 : decode b_Mo_order 139 = .ok (.aload_n 0, 1) := by decide +kernel
theorem d_Mo_order_140 : decode b_Mo_order 140 = .ok (.getfield 42, 3) := by decide +kernel
theorem d_Mo_order_143 : decode b_Mo_order 143 = .ok (.aload_n 0, 1) := by decide +kernel
theorem d_Mo_order_144 : decode b_Mo_order 144 = .ok (.getfield 115, 3) := by decide +kernel
theorem d_Mo_order_147 : decode b_Mo_order 147 = .ok (.iconst 1, 1) := by decide +kernel
theorem d_Mo_order_148 : decode b_Mo_order 148 = .ok (.bastore, 1) := by decide +kernel
theorem d_Mo_order_149 : decode b_Mo_order 149 = .ok (.aload_n 0, 1) := by decide +kernel
theorem d_Mo_order_150 : decode b_Mo_order 150 = .ok (.dup, 1) := by decide +kernel
theorem d_Mo_order_151 : decode b_Mo_order 151 = .ok (.getfield 115, 3) := by decide +kernel
theorem d_Mo_order_154 : decode b_Mo_order 154 = .ok (.iconst 1, 1) := by decide +kernel
theorem d_Mo_order_155 : decode b_Mo_order 155 = .ok (.iadd, 1) := by decide +kernel
theorem d_Mo_order_156 : decode b_Mo_order 156 = .ok (.putfield 115, 3) := by decide +kernel
