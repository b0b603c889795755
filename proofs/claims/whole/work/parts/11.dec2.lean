theorem dX5_replace_42 : decode cX5_replace 42 = .ok (.iconst 0, 1) := by decide +kernel
theorem dX5_replace_43 : decode cX5_replace 43 = .ok (.bastore, 1) := by decide +kernel
theorem dX5_replace_44 : decode cX5_replace 44 = .ok (.iinc 4 1, 3) := by decide +kernel
theorem dX5_replace_47 : decode cX5_replace 47 = .ok (.goto (-33), 3) := by decide +kernel
theorem dX5_replace_50 : decode cX5_replace 50 = .ok (.return_, 1) := by decide +kernel
theorem dX5_patchOf_0 : decode cX5_patchOf 0 = .ok (.iload_n 1, 1) := by decide +kernel
theorem dX5_patchOf_1 : decode cX5_patchOf 1 = .ok (.iconst 5, 1) := by decide +kernel
theorem dX5_patchOf_2 : decode cX5_patchOf 2 = .ok (.imul, 1) := by decide +kernel
theorem dX5_patchOf_3 : decode cX5_patchOf 3 = .ok (.iload_n 2, 1) := by decide +kernel
theorem dX5_patchOf_4 : decode cX5_patchOf 4 = .ok (.iadd, 1) := by decide +kernel
theorem dX5_patchOf_5 : decode cX5_patchOf 5 = .ok (.istore_n 3, 1) := by decide +kernel
theorem dX5_patchOf_6 : decode cX5_patchOf 6 = .ok (.aload_n 0, 1) := by decide +kernel
theorem dX5_patchOf_7 : decode cX5_patchOf 7 = .ok (.getfield 19, 3) := by decide +kernel
theorem dX5_patchOf_10 : decode cX5_patchOf 10 = .ok (.iload_n 3, 1) := by decide +kernel
theorem dX5_patchOf_11 : decode cX5_patchOf 11 = .ok (.aaload, 1) := by decide +kernel
theorem dX5_patchOf_12 : decode cX5_patchOf 12 = .ok (.ifnonnull 16, 3) := by decide +kernel
theorem dX5_patchOf_15 : decode cX5_patchOf 15 = .ok (.aload_n 0, 1) := by decide +kernel
theorem dX5_patchOf_16 : decode cX5_patchOf 16 = .ok (.getfield 19, 3) := by decide +kernel
theorem dX5_patchOf_19 : decode cX5_patchOf 19 = .ok (.iload_n 3, 1) := by decide +kernel
theorem dX5_patchOf_20 : decode cX5_patchOf 20 = .ok (.new 17, 3) := by decide +kernel
theorem dX5_patchOf_23 : decode cX5_patchOf 23 = .ok (.dup, 1) := by decide +kernel
theorem dX5_patchOf_24 : decode cX5_patchOf 24 = .ok (.invokespecial 49, 3) := by decide +kernel
theorem dX5_patchOf_27 : decode cX5_patchOf 27 = .ok (.aastore, 1) := by decide +kernel
theorem dX5_patchOf_28 : decode cX5_patchOf 28 = .ok (.aload_n 0, 1) := by decide +kernel
theorem dX5_patchOf_29 : decode cX5_patchOf 29 = .ok (.getfield 23, 3) := by decide +kernel
theorem dX5_patchOf_32 : decode cX5_patchOf 32 = .ok (.iload_n 3, 1) := by decide +kernel
theorem dX5_patchOf_33 : decode cX5_patchOf 33 = .ok (.baload, 1) := by decide +kernel
theorem dX5_patchOf_34 : decode cX5_patchOf 34 = .ok (.ifCond .ne 35, 3) := by decide +kernel
theorem dX5_patchOf_37 : decode cX5_patchOf 37 = .ok (.aload_n 0, 1) := by decide +kernel
theorem dX5_patchOf_38 : decode cX5_patchOf 38 = .ok (.getfield 30, 3) := by decide +kernel
theorem dX5_patchOf_41 : decode cX5_patchOf 41 = .ok (.aload_n 0, 1) := by decide +kernel
theorem dX5_patchOf_42 : decode cX5_patchOf 42 = .ok (.getfield 11, 3) := by decide +kernel
theorem dX5_patchOf_45 : decode cX5_patchOf 45 = .ok (.iload_n 1, 1) := by decide +kernel
theorem dX5_patchOf_46 : decode cX5_patchOf 46 = .ok (.aaload, 1) := by decide +kernel
theorem dX5_patchOf_47 : decode cX5_patchOf 47 = .ok (.aload_n 0, 1) := by decide +kernel
theorem dX5_patchOf_48 : decode cX5_patchOf 48 = .ok (.getfield 11, 3) := by decide +kernel
theorem dX5_patchOf_51 : decode cX5_patchOf 51 = .ok (.iload_n 2, 1) := by decide +kernel
theorem dX5_patchOf_52 : decode cX5_patchOf 52 = .ok (.aaload, 1) := by decide +kernel
theorem dX5_patchOf_53 : decode cX5_patchOf 53 = .ok (.aload_n 0, 1) := by decide +kernel
theorem dX5_patchOf_54 : decode cX5_patchOf 54 = .ok (.getfield 19, 3) := by decide +kernel
theorem dX5_patchOf_57 : decode cX5_patchOf 57 = .ok (.iload_n 3, 1) := by decide +kernel
theorem dX5_patchOf_58 : decode cX5_patchOf 58 = .ok (.aaload, 1) := by decide +kernel
theorem dX5_patchOf_59 : decode cX5_patchOf 59 = .ok (.invokevirtual 50, 3) := by decide +kernel
theorem dX5_patchOf_62 : decode cX5_patchOf 62 = .ok (.aload_n 0, 1) := by decide +kernel
theorem dX5_patchOf_63 : decode cX5_patchOf 63 = .ok (.getfield 23, 3) := by decide +kernel
theorem dX5_patchOf_66 : decode cX5_patchOf 66 = .ok (.iload_n 3, 1) := by decide +kernel
theorem dX5_patchOf_67 : decode cX5_patchOf 67 = .ok (.iconst 1, 1) := by decide +kernel
theorem dX5_patchOf_68 : decode cX5_patchOf 68 = .ok (.bastore, 1) := by decide +kernel
theorem dX5_patchOf_69 : decode cX5_patchOf 69 = .ok (.aload_n 0, 1) := by decide +kernel
theorem dX5_patchOf_70 : decode cX5_patchOf 70 = .ok (.getfield 19, 3) := by decide +kernel
theorem dX5_patchOf_73 : decode cX5_patchOf 73 = .ok (.iload_n 3, 1) := by decide +kernel
theorem dX5_patchOf_74 : decode cX5_patchOf 74 = .ok (.aaload, 1) := by decide +kernel
theorem dX5_patchOf_75 : decode cX5_patchOf 75 = .ok (.areturn, 1) := by decide +kernel
theorem dX5_priceOf_0 : decode cX5_priceOf 0 = .ok (.aload_n 0, 1) := by decide +kernel
theorem dX5_priceOf_1 : decode cX5_priceOf 1 = .ok (.iload_n 1, 1) := by decide +kernel
theorem dX5_priceOf_2 : decode cX5_priceOf 2 = .ok (.invokevirtual 41, 3) := by decide +kernel
theorem dX5_priceOf_5 : decode cX5_priceOf 5 = .ok (.ifCond .eq 23, 3) := by decide +kernel
theorem dX5_priceOf_8 : decode cX5_priceOf 8 = .ok (.aload_n 0, 1) := by decide +kernel
theorem dX5_priceOf_9 : decode cX5_priceOf 9 = .ok (.iload_n 2, 1) := by decide +kernel
theorem dX5_priceOf_10 : decode cX5_priceOf 10 = .ok (.invokevirtual 41, 3) := by decide +kernel
theorem dX5_priceOf_13 : decode cX5_priceOf 13 = .ok (.ifCond .eq 15, 3) := by decide +kernel
theorem dX5_priceOf_16 : decode cX5_priceOf 16 = .ok (.aload_n 0, 1) := by decide +kernel
theorem dX5_priceOf_17 : decode cX5_priceOf 17 = .ok (.iload_n 1, 1) := by decide +kernel
theorem dX5_priceOf_18 : decode cX5_priceOf 18 = .ok (.iload_n 2, 1) := by decide +kernel
theorem dX5_priceOf_19 : decode cX5_priceOf 19 = .ok (.invokevirtual 54, 3) := by decide +kernel
theorem dX5_priceOf_22 : decode cX5_priceOf 22 = .ok (.getfield 58, 3) := by decide +kernel
theorem dX5_priceOf_25 : decode cX5_priceOf 25 = .ok (.goto 4, 3) := by decide +kernel
theorem dX5_priceOf_28 : decode cX5_priceOf 28 = .ok (.iconst (-1), 1) := by decide +kernel
theorem dX5_priceOf_29 : decode cX5_priceOf 29 = .ok (.ireturn, 1) := by decide +kernel
theorem dX6_init_0 : decode cX6_init 0 = .ok (.aload_n 0, 1) := by decide +kernel
theorem dX6_init_1 : decode cX6_init 1 = .ok (.invokespecial 3, 3) := by decide +kernel
theorem dX6_init_4 : decode cX6_init 4 = .ok (.aload_n 0, 1) := by decide +kernel
theorem dX6_init_5 : decode cX6_init 5 = .ok (.bipush 120, 2) := by decide +kernel
theorem dX6_init_7 : decode cX6_init 7 = .ok (.newarray .int, 2) := by decide +kernel
theorem dX6_init_9 : decode cX6_init 9 = .ok (.putfield 9, 3) := by decide +kernel
theorem dX6_init_12 : decode cX6_init 12 = .ok (.aload_n 0, 1) := by decide +kernel
theorem dX6_init_13 : decode cX6_init 13 = .ok (.bipush 120, 2) := by decide +kernel
theorem dX6_init_15 : decode cX6_init 15 = .ok (.newarray .int, 2) := by decide +kernel
theorem dX6_init_17 : decode cX6_init 17 = .ok (.putfield 15, 3) := by decide +kernel
theorem dX6_init_20 : decode cX6_init 20 = .ok (.aload_n 0, 1) := by decide +kernel
theorem dX6_init_21 : decode cX6_init 21 = .ok (.bipush 120, 2) := by decide +kernel
theorem dX6_init_23 : decode cX6_init 23 = .ok (.newarray .boolean, 2) := by decide +kernel
theorem dX6_init_25 : decode cX6_init 25 = .ok (.putfield 18, 3) := by decide +kernel
theorem dX6_init_28 : decode cX6_init 28 = .ok (.return_, 1) := by decide +kernel
theorem dX6_follow_0 : decode cX6_follow 0 = .ok (.aload_n 0, 1) := by decide +kernel
theorem dX6_follow_1 : decode cX6_follow 1 = .ok (.iconst 0, 1) := by decide +kernel
theorem dX6_follow_2 : decode cX6_follow 2 = .ok (.putfield 22, 3) := by decide +kernel
theorem dX6_follow_5 : decode cX6_follow 5 = .ok (.iconst 0, 1) := by decide +kernel
theorem dX6_follow_6 : decode cX6_follow 6 = .ok (.istore_n 3, 1) := by decide +kernel
theorem dX6_follow_7 : decode cX6_follow 7 = .ok (.iload_n 3, 1) := by decide +kernel
theorem dX6_follow_8 : decode cX6_follow 8 = .ok (.aload_n 1, 1) := by decide +kernel
theorem dX6_follow_9 : decode cX6_follow 9 = .ok (.getfield 26, 3) := by decide +kernel
theorem dX6_follow_12 : decode cX6_follow 12 = .ok (.if_icmp .ge 123, 3) := by decide +kernel
theorem dX6_follow_15 : decode cX6_follow 15 = .ok (.aload_n 1, 1) := by decide +kernel
theorem dX6_follow_16 : decode cX6_follow 16 = .ok (.getfield 31, 3) := by decide +kernel
theorem dX6_follow_19 : decode cX6_follow 19 = .ok (.iload_n 3, 1) := by decide +kernel
theorem dX6_follow_20 : decode cX6_follow 20 = .ok (.iaload, 1) := by decide +kernel
theorem dX6_follow_21 : decode cX6_follow 21 = .ok (.iconst 2, 1) := by decide +kernel
theorem dX6_follow_22 : decode cX6_follow 22 = .ok (.if_icmp .ne 7, 3) := by decide +kernel
theorem dX6_follow_25 : decode cX6_follow 25 = .ok (.iconst 1, 1) := by decide +kernel
theorem dX6_follow_26 : decode cX6_follow 26 = .ok (.goto 4, 3) := by decide +kernel
theorem dX6_follow_29 : decode cX6_follow 29 = .ok (.iconst 0, 1) := by decide +kernel
theorem dX6_follow_30 : decode cX6_follow 30 = .ok (.istore 4, 2) := by decide +kernel
theorem dX6_follow_32 : decode cX6_follow 32 = .ok (.iconst 0, 1) := by decide +kernel
theorem dX6_follow_33 : decode cX6_follow 33 = .ok (.istore 5, 2) := by decide +kernel
theorem dX6_follow_35 : decode cX6_follow 35 = .ok (.iload 5, 2) := by decide +kernel
theorem dX6_follow_37 : decode cX6_follow 37 = .ok (.aload_n 1, 1) := by decide +kernel
theorem dX6_follow_38 : decode cX6_follow 38 = .ok (.getfield 34, 3) := by decide +kernel
theorem dX6_follow_41 : decode cX6_follow 41 = .ok (.iload_n 3, 1) := by decide +kernel
theorem dX6_follow_42 : decode cX6_follow 42 = .ok (.iaload, 1) := by decide +kernel
theorem dX6_follow_43 : decode cX6_follow 43 = .ok (.if_icmp .ge 86, 3) := by decide +kernel
theorem dX6_follow_46 : decode cX6_follow 46 = .ok (.aload_n 0, 1) := by decide +kernel
theorem dX6_follow_47 : decode cX6_follow 47 = .ok (.getfield 22, 3) := by decide +kernel
theorem dX6_follow_50 : decode cX6_follow 50 = .ok (.bipush 120, 2) := by decide +kernel
theorem dX6_follow_52 : decode cX6_follow 52 = .ok (.if_icmp .ge 77, 3) := by decide +kernel
theorem dX6_follow_55 : decode cX6_follow 55 = .ok (.aload_n 0, 1) := by decide +kernel
theorem dX6_follow_56 : decode cX6_follow 56 = .ok (.getfield 9, 3) := by decide +kernel
theorem dX6_follow_59 : decode cX6_follow 59 = .ok (.aload_n 0, 1) := by decide +kernel
theorem dX6_follow_60 : decode cX6_follow 60 = .ok (.getfield 22, 3) := by decide +kernel
theorem dX6_follow_63 : decode cX6_follow 63 = .ok (.iload 4, 2) := by decide +kernel
theorem dX6_follow_65 : decode cX6_follow 65 = .ok (.ifCond .eq 7, 3) := by decide +kernel
theorem dX6_follow_68 : decode cX6_follow 68 = .ok (.iconst (-1), 1) := by decide +kernel
theorem dX6_follow_69 : decode cX6_follow 69 = .ok (.goto 12, 3) := by decide +kernel
theorem dX6_follow_72 : decode cX6_follow 72 = .ok (.aload_n 1, 1) := by decide +kernel
theorem dX6_follow_73 : decode cX6_follow 73 = .ok (.getfield 37, 3) := by decide +kernel
theorem dX6_follow_76 : decode cX6_follow 76 = .ok (.iload_n 3, 1) := by decide +kernel
theorem dX6_follow_77 : decode cX6_follow 77 = .ok (.iaload, 1) := by decide +kernel
theorem dX6_follow_78 : decode cX6_follow 78 = .ok (.iload 5, 2) := by decide +kernel
theorem dX6_follow_80 : decode cX6_follow 80 = .ok (.iadd, 1) := by decide +kernel
theorem dX6_follow_81 : decode cX6_follow 81 = .ok (.iastore, 1) := by decide +kernel
theorem dX6_follow_82 : decode cX6_follow 82 = .ok (.aload_n 0, 1) := by decide +kernel
theorem dX6_follow_83 : decode cX6_follow 83 = .ok (.getfield 15, 3) := by decide +kernel
theorem dX6_follow_86 : decode cX6_follow 86 = .ok (.aload_n 0, 1) := by decide +kernel
theorem dX6_follow_87 : decode cX6_follow 87 = .ok (.getfield 22, 3) := by decide +kernel
theorem dX6_follow_90 : decode cX6_follow 90 = .ok (.iload 4, 2) := by decide +kernel
theorem dX6_follow_92 : decode cX6_follow 92 = .ok (.ifCond .eq 14, 3) := by decide +kernel
theorem dX6_follow_95 : decode cX6_follow 95 = .ok (.aload_n 2, 1) := by decide +kernel
theorem dX6_follow_96 : decode cX6_follow 96 = .ok (.aload_n 0, 1) := by decide +kernel
theorem dX6_follow_97 : decode cX6_follow 97 = .ok (.getfield 22, 3) := by decide +kernel
theorem dX6_follow_100 : decode cX6_follow 100 = .ok (.invokevirtual 38, 3) := by decide +kernel
theorem dX6_follow_103 : decode cX6_follow 103 = .ok (.goto 9, 3) := by decide +kernel
theorem dX6_follow_106 : decode cX6_follow 106 = .ok (.aload_n 1, 1) := by decide +kernel
theorem dX6_follow_107 : decode cX6_follow 107 = .ok (.getfield 44, 3) := by decide +kernel
theorem dX6_follow_110 : decode cX6_follow 110 = .ok (.iload_n 3, 1) := by decide +kernel
theorem dX6_follow_111 : decode cX6_follow 111 = .ok (.iaload, 1) := by decide +kernel
theorem dX6_follow_112 : decode cX6_follow 112 = .ok (.iastore, 1) := by decide +kernel
theorem dX6_follow_113 : decode cX6_follow 113 = .ok (.aload_n 0, 1) := by decide +kernel
theorem dX6_follow_114 : decode cX6_follow 114 = .ok (.dup, 1) := by decide +kernel
theorem dX6_follow_115 : decode cX6_follow 115 = .ok (.getfield 22, 3) := by decide +kernel
theorem dX6_follow_118 : decode cX6_follow 118 = .ok (.iconst 1, 1) := by decide +kernel
theorem dX6_follow_119 : decode cX6_follow 119 = .ok (.iadd, 1) := by decide +kernel
theorem dX6_follow_120 : decode cX6_follow 120 = .ok (.putfield 22, 3) := by decide +kernel
theorem dX6_follow_123 : decode cX6_follow 123 = .ok (.iinc 5 1, 3) := by decide +kernel
theorem dX6_follow_126 : decode cX6_follow 126 = .ok (.goto (-91), 3) := by decide +kernel
theorem dX6_follow_129 : decode cX6_follow 129 = .ok (.iinc 3 1, 3) := by decide +kernel
theorem dX6_follow_132 : decode cX6_follow 132 = .ok (.goto (-125), 3) := by decide +kernel
theorem dX6_follow_135 : decode cX6_follow 135 = .ok (.return_, 1) := by decide +kernel
theorem dX6_take_0 : decode cX6_take 0 = .ok (.aload_n 1, 1) := by decide +kernel
theorem dX6_take_1 : decode cX6_take 1 = .ok (.getfield 9, 3) := by decide +kernel
theorem dX6_take_4 : decode cX6_take 4 = .ok (.iconst 0, 1) := by decide +kernel
theorem dX6_take_5 : decode cX6_take 5 = .ok (.aload_n 0, 1) := by decide +kernel
theorem dX6_take_6 : decode cX6_take 6 = .ok (.getfield 9, 3) := by decide +kernel
theorem dX6_take_9 : decode cX6_take 9 = .ok (.iconst 0, 1) := by decide +kernel
theorem dX6_take_10 : decode cX6_take 10 = .ok (.bipush 120, 2) := by decide +kernel
theorem dX6_take_12 : decode cX6_take 12 = .ok (.invokestatic 47, 3) := by decide +kernel
theorem dX6_take_15 : decode cX6_take 15 = .ok (.aload_n 1, 1) := by decide +kernel
theorem dX6_take_16 : decode cX6_take 16 = .ok (.getfield 15, 3) := by decide +kernel
theorem dX6_take_19 : decode cX6_take 19 = .ok (.iconst 0, 1) := by decide +kernel
theorem dX6_take_20 : decode cX6_take 20 = .ok (.aload_n 0, 1) := by decide +kernel
theorem dX6_take_21 : decode cX6_take 21 = .ok (.getfield 15, 3) := by decide +kernel
theorem dX6_take_24 : decode cX6_take 24 = .ok (.iconst 0, 1) := by decide +kernel
theorem dX6_take_25 : decode cX6_take 25 = .ok (.bipush 120, 2) := by decide +kernel
theorem dX6_take_27 : decode cX6_take 27 = .ok (.invokestatic 47, 3) := by decide +kernel
theorem dX6_take_30 : decode cX6_take 30 = .ok (.aload_n 0, 1) := by decide +kernel
theorem dX6_take_31 : decode cX6_take 31 = .ok (.aload_n 1, 1) := by decide +kernel
theorem dX6_take_32 : decode cX6_take 32 = .ok (.getfield 22, 3) := by decide +kernel
theorem dX6_take_35 : decode cX6_take 35 = .ok (.putfield 22, 3) := by decide +kernel
theorem dX6_take_38 : decode cX6_take 38 = .ok (.return_, 1) := by decide +kernel
theorem dX6_reachThrough_0 : decode cX6_reachThrough 0 = .ok (.iconst 0, 1) := by decide +kernel
theorem dX6_reachThrough_1 : decode cX6_reachThrough 1 = .ok (.istore_n 2, 1) := by decide +kernel
theorem dX6_reachThrough_2 : decode cX6_reachThrough 2 = .ok (.iload_n 2, 1) := by decide +kernel
theorem dX6_reachThrough_3 : decode cX6_reachThrough 3 = .ok (.aload_n 0, 1) := by decide +kernel
theorem dX6_reachThrough_4 : decode cX6_reachThrough 4 = .ok (.getfield 22, 3) := by decide +kernel
theorem dX6_reachThrough_7 : decode cX6_reachThrough 7 = .ok (.if_icmp .ge 63, 3) := by decide +kernel
theorem dX6_reachThrough_10 : decode cX6_reachThrough 10 = .ok (.aload_n 0, 1) := by decide +kernel
theorem dX6_reachThrough_11 : decode cX6_reachThrough 11 = .ok (.getfield 9, 3) := by decide +kernel
theorem dX6_reachThrough_14 : decode cX6_reachThrough 14 = .ok (.iload_n 2, 1) := by decide +kernel
theorem dX6_reachThrough_15 : decode cX6_reachThrough 15 = .ok (.iaload, 1) := by decide +kernel
theorem dX6_reachThrough_16 : decode cX6_reachThrough 16 = .ok (.istore_n 3, 1) := by decide +kernel
theorem dX6_reachThrough_17 : decode cX6_reachThrough 17 = .ok (.iload_n 3, 1) := by decide +kernel
theorem dX6_reachThrough_18 : decode cX6_reachThrough 18 = .ok (.ifCond .lt 46, 3) := by decide +kernel
theorem dX6_reachThrough_21 : decode cX6_reachThrough 21 = .ok (.iload_n 3, 1) := by decide +kernel
theorem dX6_reachThrough_22 : decode cX6_reachThrough 22 = .ok (.aload_n 1, 1) := by decide +kernel
theorem dX6_reachThrough_23 : decode cX6_reachThrough 23 = .ok (.getfield 22, 3) := by decide +kernel
theorem dX6_reachThrough_26 : decode cX6_reachThrough 26 = .ok (.if_icmp .ge 38, 3) := by decide +kernel
theorem dX6_reachThrough_29 : decode cX6_reachThrough 29 = .ok (.aload_n 0, 1) := by decide +kernel
theorem dX6_reachThrough_30 : decode cX6_reachThrough 30 = .ok (.getfield 9, 3) := by decide +kernel
theorem dX6_reachThrough_33 : decode cX6_reachThrough 33 = .ok (.iload_n 2, 1) := by decide +kernel
theorem dX6_reachThrough_34 : decode cX6_reachThrough 34 = .ok (.aload_n 1, 1) := by decide +kernel
theorem dX6_reachThrough_35 : decode cX6_reachThrough 35 = .ok (.getfield 9, 3) := by decide +kernel
theorem dX6_reachThrough_38 : decode cX6_reachThrough 38 = .ok (.iload_n 3, 1) := by decide +kernel
theorem dX6_reachThrough_39 : decode cX6_reachThrough 39 = .ok (.iaload, 1) := by decide +kernel
theorem dX6_reachThrough_40 : decode cX6_reachThrough 40 = .ok (.iastore, 1) := by decide +kernel
theorem dX6_reachThrough_41 : decode cX6_reachThrough 41 = .ok (.aload_n 0, 1) := by decide +kernel
theorem dX6_reachThrough_42 : decode cX6_reachThrough 42 = .ok (.getfield 15, 3) := by decide +kernel
theorem dX6_reachThrough_45 : decode cX6_reachThrough 45 = .ok (.iload_n 2, 1) := by decide +kernel
theorem dX6_reachThrough_46 : decode cX6_reachThrough 46 = .ok (.aload_n 0, 1) := by decide +kernel
theorem dX6_reachThrough_47 : decode cX6_reachThrough 47 = .ok (.getfield 15, 3) := by decide +kernel
theorem dX6_reachThrough_50 : decode cX6_reachThrough 50 = .ok (.iload_n 2, 1) := by decide +kernel
theorem dX6_reachThrough_51 : decode cX6_reachThrough 51 = .ok (.iaload, 1) := by decide +kernel
theorem dX6_reachThrough_52 : decode cX6_reachThrough 52 = .ok (.aload_n 1, 1) := by decide +kernel
theorem dX6_reachThrough_53 : decode cX6_reachThrough 53 = .ok (.getfield 15, 3) := by decide +kernel
theorem dX6_reachThrough_56 : decode cX6_reachThrough 56 = .ok (.iload_n 3, 1) := by decide +kernel
theorem dX6_reachThrough_57 : decode cX6_reachThrough 57 = .ok (.iaload, 1) := by decide +kernel
theorem dX6_reachThrough_58 : decode cX6_reachThrough 58 = .ok (.iadd, 1) := by decide +kernel
theorem dX6_reachThrough_59 : decode cX6_reachThrough 59 = .ok (.sipush 255, 3) := by decide +kernel
theorem dX6_reachThrough_62 : decode cX6_reachThrough 62 = .ok (.iand, 1) := by decide +kernel
theorem dX6_reachThrough_63 : decode cX6_reachThrough 63 = .ok (.iastore, 1) := by decide +kernel
theorem dX6_reachThrough_64 : decode cX6_reachThrough 64 = .ok (.iinc 2 1, 3) := by decide +kernel
theorem dX6_reachThrough_67 : decode cX6_reachThrough 67 = .ok (.goto (-65), 3) := by decide +kernel
theorem dX6_reachThrough_70 : decode cX6_reachThrough 70 = .ok (.return_, 1) := by decide +kernel
theorem dX6_gather_0 : decode cX6_gather 0 = .ok (.aload_n 1, 1) := by decide +kernel
theorem dX6_gather_1 : decode cX6_gather 1 = .ok (.invokevirtual 53, 3) := by decide +kernel
theorem dX6_gather_4 : decode cX6_gather 4 = .ok (.iconst 0, 1) := by decide +kernel
theorem dX6_gather_5 : decode cX6_gather 5 = .ok (.istore_n 2, 1) := by decide +kernel
theorem dX6_gather_6 : decode cX6_gather 6 = .ok (.iconst 0, 1) := by decide +kernel
theorem dX6_gather_7 : decode cX6_gather 7 = .ok (.istore_n 3, 1) := by decide +kernel
theorem dX6_gather_8 : decode cX6_gather 8 = .ok (.iload_n 3, 1) := by decide +kernel
theorem dX6_gather_9 : decode cX6_gather 9 = .ok (.aload_n 0, 1) := by decide +kernel
theorem dX6_gather_10 : decode cX6_gather 10 = .ok (.getfield 22, 3) := by decide +kernel
theorem dX6_gather_13 : decode cX6_gather 13 = .ok (.if_icmp .ge 98, 3) := by decide +kernel
theorem dX6_gather_16 : decode cX6_gather 16 = .ok (.iload_n 3, 1) := by decide +kernel
theorem dX6_gather_17 : decode cX6_gather 17 = .ok (.iload_n 2, 1) := by decide +kernel
theorem dX6_gather_18 : decode cX6_gather 18 = .ok (.if_icmp .ne 87, 3) := by decide +kernel
theorem dX6_gather_21 : decode cX6_gather 21 = .ok (.aload_n 0, 1) := by decide +kernel
theorem dX6_gather_22 : decode cX6_gather 22 = .ok (.getfield 9, 3) := by decide +kernel
theorem dX6_gather_25 : decode cX6_gather 25 = .ok (.iload_n 3, 1) := by decide +kernel
theorem dX6_gather_26 : decode cX6_gather 26 = .ok (.iaload, 1) := by decide +kernel
theorem dX6_gather_27 : decode cX6_gather 27 = .ok (.iconst (-1), 1) := by decide +kernel
theorem dX6_gather_28 : decode cX6_gather 28 = .ok (.if_icmp .ne 11, 3) := by decide +kernel
theorem dX6_gather_31 : decode cX6_gather 31 = .ok (.aload_n 0, 1) := by decide +kernel
theorem dX6_gather_32 : decode cX6_gather 32 = .ok (.iload_n 3, 1) := by decide +kernel
theorem dX6_gather_33 : decode cX6_gather 33 = .ok (.invokevirtual 56, 3) := by decide +kernel
theorem dX6_gather_36 : decode cX6_gather 36 = .ok (.goto 8, 3) := by decide +kernel
theorem dX6_gather_39 : decode cX6_gather 39 = .ok (.aload_n 0, 1) := by decide +kernel
theorem dX6_gather_40 : decode cX6_gather 40 = .ok (.iload_n 3, 1) := by decide +kernel
theorem dX6_gather_41 : decode cX6_gather 41 = .ok (.invokevirtual 59, 3) := by decide +kernel
theorem dX6_gather_44 : decode cX6_gather 44 = .ok (.istore 4, 2) := by decide +kernel
theorem dX6_gather_46 : decode cX6_gather 46 = .ok (.aload_n 0, 1) := by decide +kernel
theorem dX6_gather_47 : decode cX6_gather 47 = .ok (.getfield 9, 3) := by decide +kernel
theorem dX6_gather_50 : decode cX6_gather 50 = .ok (.iload_n 3, 1) := by decide +kernel
theorem dX6_gather_51 : decode cX6_gather 51 = .ok (.iaload, 1) := by decide +kernel
theorem dX6_gather_52 : decode cX6_gather 52 = .ok (.iconst (-1), 1) := by decide +kernel
theorem dX6_gather_53 : decode cX6_gather 53 = .ok (.if_icmp .ne 15, 3) := by decide +kernel
theorem dX6_gather_56 : decode cX6_gather 56 = .ok (.aload_n 1, 1) := by decide +kernel
theorem dX6_gather_57 : decode cX6_gather 57 = .ok (.iconst 2, 1) := by decide +kernel
theorem dX6_gather_58 : decode cX6_gather 58 = .ok (.iload 4, 2) := by decide +kernel
theorem dX6_gather_60 : decode cX6_gather 60 = .ok (.iload_n 3, 1) := by decide +kernel
theorem dX6_gather_61 : decode cX6_gather 61 = .ok (.iconst 0, 1) := by decide +kernel
theorem dX6_gather_62 : decode cX6_gather 62 = .ok (.invokevirtual 62, 3) := by decide +kernel
theorem dX6_gather_65 : decode cX6_gather 65 = .ok (.goto 35, 3) := by decide +kernel
theorem dX6_gather_68 : decode cX6_gather 68 = .ok (.aload_n 1, 1) := by decide +kernel
theorem dX6_gather_69 : decode cX6_gather 69 = .ok (.aload_n 0, 1) := by decide +kernel
theorem dX6_gather_70 : decode cX6_gather 70 = .ok (.getfield 15, 3) := by decide +kernel
theorem dX6_gather_73 : decode cX6_gather 73 = .ok (.iload_n 3, 1) := by decide +kernel
theorem dX6_gather_74 : decode cX6_gather 74 = .ok (.iaload, 1) := by decide +kernel
theorem dX6_gather_75 : decode cX6_gather 75 = .ok (.ifCond .ne 7, 3) := by decide +kernel
theorem dX6_gather_78 : decode cX6_gather 78 = .ok (.iconst 0, 1) := by decide +kernel
theorem dX6_gather_79 : decode cX6_gather 79 = .ok (.goto 4, 3) := by decide +kernel
theorem dX6_gather_82 : decode cX6_gather 82 = .ok (.iconst 1, 1) := by decide +kernel
theorem dX6_gather_83 : decode cX6_gather 83 = .ok (.iload 4, 2) := by decide +kernel
theorem dX6_gather_85 : decode cX6_gather 85 = .ok (.aload_n 0, 1) := by decide +kernel
theorem dX6_gather_86 : decode cX6_gather 86 = .ok (.getfield 9, 3) := by decide +kernel
theorem dX6_gather_89 : decode cX6_gather 89 = .ok (.iload_n 3, 1) := by decide +kernel
theorem dX6_gather_90 : decode cX6_gather 90 = .ok (.iaload, 1) := by decide +kernel
theorem dX6_gather_91 : decode cX6_gather 91 = .ok (.aload_n 0, 1) := by decide +kernel
theorem dX6_gather_92 : decode cX6_gather 92 = .ok (.getfield 15, 3) := by decide +kernel
theorem dX6_gather_95 : decode cX6_gather 95 = .ok (.iload_n 3, 1) := by decide +kernel
theorem dX6_gather_96 : decode cX6_gather 96 = .ok (.iaload, 1) := by decide +kernel
theorem dX6_gather_97 : decode cX6_gather 97 = .ok (.invokevirtual 62, 3) := by decide +kernel
theorem dX6_gather_100 : decode cX6_gather 100 = .ok (.iload_n 3, 1) := by decide +kernel
theorem dX6_gather_101 : decode cX6_gather 101 = .ok (.iload 4, 2) := by decide +kernel
theorem dX6_gather_103 : decode cX6_gather 103 = .ok (.iadd, 1) := by decide +kernel
theorem dX6_gather_104 : decode cX6_gather 104 = .ok (.istore_n 2, 1) := by decide +kernel
theorem dX6_gather_105 : decode cX6_gather 105 = .ok (.iinc 3 1, 3) := by decide +kernel
theorem dX6_gather_108 : decode cX6_gather 108 = .ok (.goto (-100), 3) := by decide +kernel
theorem dX6_gather_111 : decode cX6_gather 111 = .ok (.return_, 1) := by decide +kernel
theorem dX6_addedFrom_0 : decode cX6_addedFrom 0 = .ok (.iconst 1, 1) := by decide +kernel
theorem dX6_addedFrom_1 : decode cX6_addedFrom 1 = .ok (.istore_n 2, 1) := by decide +kernel
theorem dX6_addedFrom_2 : decode cX6_addedFrom 2 = .ok (.iload_n 2, 1) := by decide +kernel
theorem dX6_addedFrom_3 : decode cX6_addedFrom 3 = .ok (.bipush 30, 2) := by decide +kernel
theorem dX6_addedFrom_5 : decode cX6_addedFrom 5 = .ok (.if_icmp .ge 31, 3) := by decide +kernel
theorem dX6_addedFrom_8 : decode cX6_addedFrom 8 = .ok (.iload_n 1, 1) := by decide +kernel
theorem dX6_addedFrom_9 : decode cX6_addedFrom 9 = .ok (.iload_n 2, 1) := by decide +kernel
theorem dX6_addedFrom_10 : decode cX6_addedFrom 10 = .ok (.iadd, 1) := by decide +kernel
theorem dX6_addedFrom_11 : decode cX6_addedFrom 11 = .ok (.aload_n 0, 1) := by decide +kernel
theorem dX6_addedFrom_12 : decode cX6_addedFrom 12 = .ok (.getfield 22, 3) := by decide +kernel
theorem dX6_addedFrom_15 : decode cX6_addedFrom 15 = .ok (.if_icmp .ge 21, 3) := by decide +kernel
theorem dX6_addedFrom_18 : decode cX6_addedFrom 18 = .ok (.aload_n 0, 1) := by decide +kernel
theorem dX6_addedFrom_19 : decode cX6_addedFrom 19 = .ok (.getfield 9, 3) := by decide +kernel
theorem dX6_addedFrom_22 : decode cX6_addedFrom 22 = .ok (.iload_n 1, 1) := by decide +kernel
theorem dX6_addedFrom_23 : decode cX6_addedFrom 23 = .ok (.iload_n 2, 1) := by decide +kernel
theorem dX6_addedFrom_24 : decode cX6_addedFrom 24 = .ok (.iadd, 1) := by decide +kernel
theorem dX6_addedFrom_25 : decode cX6_addedFrom 25 = .ok (.iaload, 1) := by decide +kernel
theorem dX6_addedFrom_26 : decode cX6_addedFrom 26 = .ok (.iconst (-1), 1) := by decide +kernel
theorem dX6_addedFrom_27 : decode cX6_addedFrom 27 = .ok (.if_icmp .ne 9, 3) := by decide +kernel
theorem dX6_addedFrom_30 : decode cX6_addedFrom 30 = .ok (.iinc 2 1, 3) := by decide +kernel
theorem dX6_addedFrom_33 : decode cX6_addedFrom 33 = .ok (.goto (-31), 3) := by decide +kernel
theorem dX6_addedFrom_36 : decode cX6_addedFrom 36 = .ok (.iload_n 2, 1) := by decide +kernel
theorem dX6_addedFrom_37 : decode cX6_addedFrom 37 = .ok (.ireturn, 1) := by decide +kernel
theorem dX6_alikeFrom_0 : decode cX6_alikeFrom 0 = .ok (.iconst 1, 1) := by decide +kernel
theorem dX6_alikeFrom_1 : decode cX6_alikeFrom 1 = .ok (.istore_n 2, 1) := by decide +kernel
theorem dX6_alikeFrom_2 : decode cX6_alikeFrom 2 = .ok (.iload_n 1, 1) := by decide +kernel
theorem dX6_alikeFrom_3 : decode cX6_alikeFrom 3 = .ok (.iload_n 2, 1) := by decide +kernel
theorem dX6_alikeFrom_4 : decode cX6_alikeFrom 4 = .ok (.iadd, 1) := by decide +kernel
theorem dX6_alikeFrom_5 : decode cX6_alikeFrom 5 = .ok (.aload_n 0, 1) := by decide +kernel
theorem dX6_alikeFrom_6 : decode cX6_alikeFrom 6 = .ok (.getfield 22, 3) := by decide +kernel
theorem dX6_alikeFrom_9 : decode cX6_alikeFrom 9 = .ok (.if_icmp .ge 45, 3) := by decide +kernel
theorem dX6_alikeFrom_12 : decode cX6_alikeFrom 12 = .ok (.aload_n 0, 1) := by decide +kernel
theorem dX6_alikeFrom_13 : decode cX6_alikeFrom 13 = .ok (.getfield 9, 3) := by decide +kernel
theorem dX6_alikeFrom_16 : decode cX6_alikeFrom 16 = .ok (.iload_n 1, 1) := by decide +kernel
theorem dX6_alikeFrom_17 : decode cX6_alikeFrom 17 = .ok (.iload_n 2, 1) := by decide +kernel
theorem dX6_alikeFrom_18 : decode cX6_alikeFrom 18 = .ok (.iadd, 1) := by decide +kernel
theorem dX6_alikeFrom_19 : decode cX6_alikeFrom 19 = .ok (.iaload, 1) := by decide +kernel
theorem dX6_alikeFrom_20 : decode cX6_alikeFrom 20 = .ok (.aload_n 0, 1) := by decide +kernel
theorem dX6_alikeFrom_21 : decode cX6_alikeFrom 21 = .ok (.getfield 9, 3) := by decide +kernel
theorem dX6_alikeFrom_24 : decode cX6_alikeFrom 24 = .ok (.iload_n 1, 1) := by decide +kernel
theorem dX6_alikeFrom_25 : decode cX6_alikeFrom 25 = .ok (.iaload, 1) := by decide +kernel
theorem dX6_alikeFrom_26 : decode cX6_alikeFrom 26 = .ok (.iload_n 2, 1) := by decide +kernel
theorem dX6_alikeFrom_27 : decode cX6_alikeFrom 27 = .ok (.iadd, 1) := by decide +kernel
theorem dX6_alikeFrom_28 : decode cX6_alikeFrom 28 = .ok (.if_icmp .ne 26, 3) := by decide +kernel
theorem dX6_alikeFrom_31 : decode cX6_alikeFrom 31 = .ok (.aload_n 0, 1) := by decide +kernel
theorem dX6_alikeFrom_32 : decode cX6_alikeFrom 32 = .ok (.getfield 15, 3) := by decide +kernel
theorem dX6_alikeFrom_35 : decode cX6_alikeFrom 35 = .ok (.iload_n 1, 1) := by decide +kernel
theorem dX6_alikeFrom_36 : decode cX6_alikeFrom 36 = .ok (.iload_n 2, 1) := by decide +kernel
theorem dX6_alikeFrom_37 : decode cX6_alikeFrom 37 = .ok (.iadd, 1) := by decide +kernel
theorem dX6_alikeFrom_38 : decode cX6_alikeFrom 38 = .ok (.iaload, 1) := by decide +kernel
theorem dX6_alikeFrom_39 : decode cX6_alikeFrom 39 = .ok (.aload_n 0, 1) := by decide +kernel
theorem dX6_alikeFrom_40 : decode cX6_alikeFrom 40 = .ok (.getfield 15, 3) := by decide +kernel
theorem dX6_alikeFrom_43 : decode cX6_alikeFrom 43 = .ok (.iload_n 1, 1) := by decide +kernel
theorem dX6_alikeFrom_44 : decode cX6_alikeFrom 44 = .ok (.iaload, 1) := by decide +kernel
theorem dX6_alikeFrom_45 : decode cX6_alikeFrom 45 = .ok (.if_icmp .ne 9, 3) := by decide +kernel
theorem dX6_alikeFrom_48 : decode cX6_alikeFrom 48 = .ok (.iinc 2 1, 3) := by decide +kernel
theorem dX6_alikeFrom_51 : decode cX6_alikeFrom 51 = .ok (.goto (-49), 3) := by decide +kernel
theorem dX6_alikeFrom_54 : decode cX6_alikeFrom 54 = .ok (.iload_n 2, 1) := by decide +kernel
theorem dX6_alikeFrom_55 : decode cX6_alikeFrom 55 = .ok (.ireturn, 1) := by decide +kernel
theorem dX6_countKept_0 : decode cX6_countKept 0 = .ok (.iconst 0, 1) := by decide +kernel
theorem dX6_countKept_1 : decode cX6_countKept 1 = .ok (.istore_n 2, 1) := by decide +kernel
theorem dX6_countKept_2 : decode cX6_countKept 2 = .ok (.iload_n 2, 1) := by decide +kernel
theorem dX6_countKept_3 : decode cX6_countKept 3 = .ok (.bipush 120, 2) := by decide +kernel
theorem dX6_countKept_5 : decode cX6_countKept 5 = .ok (.if_icmp .ge 16, 3) := by decide +kernel
theorem dX6_countKept_8 : decode cX6_countKept 8 = .ok (.aload_n 0, 1) := by decide +kernel
theorem dX6_countKept_9 : decode cX6_countKept 9 = .ok (.getfield 18, 3) := by decide +kernel
theorem dX6_countKept_12 : decode cX6_countKept 12 = .ok (.iload_n 2, 1) := by decide +kernel
theorem dX6_countKept_13 : decode cX6_countKept 13 = .ok (.iconst 0, 1) := by decide +kernel
theorem dX6_countKept_14 : decode cX6_countKept 14 = .ok (.bastore, 1) := by decide +kernel
theorem dX6_countKept_15 : decode cX6_countKept 15 = .ok (.iinc 2 1, 3) := by decide +kernel
theorem dX6_countKept_18 : decode cX6_countKept 18 = .ok (.goto (-16), 3) := by decide +kernel
theorem dX6_countKept_21 : decode cX6_countKept 21 = .ok (.iconst 0, 1) := by decide +kernel
theorem dX6_countKept_22 : decode cX6_countKept 22 = .ok (.istore_n 2, 1) := by decide +kernel
theorem dX6_countKept_23 : decode cX6_countKept 23 = .ok (.iconst 0, 1) := by decide +kernel
theorem dX6_countKept_24 : decode cX6_countKept 24 = .ok (.istore_n 3, 1) := by decide +kernel
theorem dX6_countKept_25 : decode cX6_countKept 25 = .ok (.iload_n 3, 1) := by decide +kernel
theorem dX6_countKept_26 : decode cX6_countKept 26 = .ok (.aload_n 0, 1) := by decide +kernel
theorem dX6_countKept_27 : decode cX6_countKept 27 = .ok (.getfield 22, 3) := by decide +kernel
theorem dX6_countKept_30 : decode cX6_countKept 30 = .ok (.if_icmp .ge 61, 3) := by decide +kernel
theorem dX6_countKept_33 : decode cX6_countKept 33 = .ok (.aload_n 0, 1) := by decide +kernel
theorem dX6_countKept_34 : decode cX6_countKept 34 = .ok (.getfield 9, 3) := by decide +kernel
theorem dX6_countKept_37 : decode cX6_countKept 37 = .ok (.iload_n 3, 1) := by decide +kernel
theorem dX6_countKept_38 : decode cX6_countKept 38 = .ok (.iaload, 1) := by decide +kernel
theorem dX6_countKept_39 : decode cX6_countKept 39 = .ok (.istore 4, 2) := by decide +kernel
theorem dX6_countKept_41 : decode cX6_countKept 41 = .ok (.iload 4, 2) := by decide +kernel
theorem dX6_countKept_43 : decode cX6_countKept 43 = .ok (.ifCond .lt 42, 3) := by decide +kernel
theorem dX6_countKept_46 : decode cX6_countKept 46 = .ok (.iload 4, 2) := by decide +kernel
theorem dX6_countKept_48 : decode cX6_countKept 48 = .ok (.bipush 120, 2) := by decide +kernel
theorem dX6_countKept_50 : decode cX6_countKept 50 = .ok (.if_icmp .ge 35, 3) := by decide +kernel
theorem dX6_countKept_53 : decode cX6_countKept 53 = .ok (.aload_n 0, 1) := by decide +kernel
theorem dX6_countKept_54 : decode cX6_countKept 54 = .ok (.getfield 18, 3) := by decide +kernel
theorem dX6_countKept_57 : decode cX6_countKept 57 = .ok (.iload 4, 2) := by decide +kernel
theorem dX6_countKept_59 : decode cX6_countKept 59 = .ok (.baload, 1) := by decide +kernel
theorem dX6_countKept_60 : decode cX6_countKept 60 = .ok (.ifCond .ne 25, 3) := by decide +kernel
theorem dX6_countKept_63 : decode cX6_countKept 63 = .ok (.aload_n 0, 1) := by decide +kernel
theorem dX6_countKept_64 : decode cX6_countKept 64 = .ok (.iload 4, 2) := by decide +kernel
theorem dX6_countKept_66 : decode cX6_countKept 66 = .ok (.iload_n 3, 1) := by decide +kernel
theorem dX6_countKept_67 : decode cX6_countKept 67 = .ok (.iload_n 1, 1) := by decide +kernel
theorem dX6_countKept_68 : decode cX6_countKept 68 = .ok (.invokevirtual 66, 3) := by decide +kernel
theorem dX6_countKept_71 : decode cX6_countKept 71 = .ok (.ifCond .eq 14, 3) := by decide +kernel
theorem dX6_countKept_74 : decode cX6_countKept 74 = .ok (.aload_n 0, 1) := by decide +kernel
theorem dX6_countKept_75 : decode cX6_countKept 75 = .ok (.getfield 18, 3) := by decide +kernel
theorem dX6_countKept_78 : decode cX6_countKept 78 = .ok (.iload 4, 2) := by decide +kernel
theorem dX6_countKept_80 : decode cX6_countKept 80 = .ok (.iconst 1, 1) := by decide +kernel
theorem dX6_countKept_81 : decode cX6_countKept 81 = .ok (.bastore, 1) := by decide +kernel
theorem dX6_countKept_82 : decode cX6_countKept 82 = .ok (.iinc 2 1, 3) := by decide +kernel
theorem dX6_countKept_85 : decode cX6_countKept 85 = .ok (.iinc 3 1, 3) := by decide +kernel
theorem dX6_countKept_88 : decode cX6_countKept 88 = .ok (.goto (-63), 3) := by decide +kernel
theorem dX6_countKept_91 : decode cX6_countKept 91 = .ok (.iload_n 2, 1) := by decide +kernel
theorem dX6_countKept_92 : decode cX6_countKept 92 = .ok (.ireturn, 1) := by decide +kernel
theorem dX6_comesTooLate_0 : decode cX6_comesTooLate 0 = .ok (.iload_n 1, 1) := by decide +kernel
theorem dX6_comesTooLate_1 : decode cX6_comesTooLate 1 = .ok (.iload_n 2, 1) := by decide +kernel
theorem dX6_comesTooLate_2 : decode cX6_comesTooLate 2 = .ok (.if_icmp .ne 18, 3) := by decide +kernel
theorem dX6_comesTooLate_5 : decode cX6_comesTooLate 5 = .ok (.aload_n 0, 1) := by decide +kernel
theorem dX6_comesTooLate_6 : decode cX6_comesTooLate 6 = .ok (.getfield 15, 3) := by decide +kernel
theorem dX6_comesTooLate_9 : decode cX6_comesTooLate 9 = .ok (.iload_n 2, 1) := by decide +kernel
theorem dX6_comesTooLate_10 : decode cX6_comesTooLate 10 = .ok (.iaload, 1) := by decide +kernel
theorem dX6_comesTooLate_11 : decode cX6_comesTooLate 11 = .ok (.ifCond .eq 7, 3) := by decide +kernel
theorem dX6_comesTooLate_14 : decode cX6_comesTooLate 14 = .ok (.iconst 1, 1) := by decide +kernel
theorem dX6_comesTooLate_15 : decode cX6_comesTooLate 15 = .ok (.goto 4, 3) := by decide +kernel
theorem dX6_comesTooLate_18 : decode cX6_comesTooLate 18 = .ok (.iconst 0, 1) := by decide +kernel
theorem dX6_comesTooLate_19 : decode cX6_comesTooLate 19 = .ok (.ireturn, 1) := by decide +kernel
theorem dX6_comesTooLate_20 : decode cX6_comesTooLate 20 = .ok (.iload_n 3, 1) := by decide +kernel
theorem dX6_comesTooLate_21 : decode cX6_comesTooLate 21 = .ok (.ifCond .ne 16, 3) := by decide +kernel
theorem dX6_comesTooLate_24 : decode cX6_comesTooLate 24 = .ok (.iload_n 2, 1) := by decide +kernel
theorem dX6_comesTooLate_25 : decode cX6_comesTooLate 25 = .ok (.iload_n 1, 1) := by decide +kernel
theorem dX6_comesTooLate_26 : decode cX6_comesTooLate 26 = .ok (.if_icmp .le 7, 3) := by decide +kernel
theorem dX6_comesTooLate_29 : decode cX6_comesTooLate 29 = .ok (.iconst 1, 1) := by decide +kernel
theorem dX6_comesTooLate_30 : decode cX6_comesTooLate 30 = .ok (.goto 17, 3) := by decide +kernel
theorem dX6_comesTooLate_33 : decode cX6_comesTooLate 33 = .ok (.iconst 0, 1) := by decide +kernel
theorem dX6_comesTooLate_34 : decode cX6_comesTooLate 34 = .ok (.goto 13, 3) := by decide +kernel
theorem dX6_comesTooLate_37 : decode cX6_comesTooLate 37 = .ok (.iload_n 2, 1) := by decide +kernel
theorem dX6_comesTooLate_38 : decode cX6_comesTooLate 38 = .ok (.iload_n 1, 1) := by decide +kernel
theorem dX6_comesTooLate_39 : decode cX6_comesTooLate 39 = .ok (.if_icmp .ge 7, 3) := by decide +kernel
theorem dX6_comesTooLate_42 : decode cX6_comesTooLate 42 = .ok (.iconst 1, 1) := by decide +kernel
theorem dX6_comesTooLate_43 : decode cX6_comesTooLate 43 = .ok (.goto 4, 3) := by decide +kernel
theorem dX6_comesTooLate_46 : decode cX6_comesTooLate 46 = .ok (.iconst 0, 1) := by decide +kernel
theorem dX6_comesTooLate_47 : decode cX6_comesTooLate 47 = .ok (.ireturn, 1) := by decide +kernel
theorem dX6_isKept_0 : decode cX6_isKept 0 = .ok (.iload_n 1, 1) := by decide +kernel
theorem dX6_isKept_1 : decode cX6_isKept 1 = .ok (.ifCond .lt 22, 3) := by decide +kernel
theorem dX6_isKept_4 : decode cX6_isKept 4 = .ok (.iload_n 1, 1) := by decide +kernel
theorem dX6_isKept_5 : decode cX6_isKept 5 = .ok (.bipush 120, 2) := by decide +kernel
theorem dX6_isKept_7 : decode cX6_isKept 7 = .ok (.if_icmp .ge 16, 3) := by decide +kernel
theorem dX6_isKept_10 : decode cX6_isKept 10 = .ok (.aload_n 0, 1) := by decide +kernel
theorem dX6_isKept_11 : decode cX6_isKept 11 = .ok (.getfield 18, 3) := by decide +kernel
theorem dX6_isKept_14 : decode cX6_isKept 14 = .ok (.iload_n 1, 1) := by decide +kernel
theorem dX6_isKept_15 : decode cX6_isKept 15 = .ok (.baload, 1) := by decide +kernel
theorem dX6_isKept_16 : decode cX6_isKept 16 = .ok (.ifCond .eq 7, 3) := by decide +kernel
theorem dX6_isKept_19 : decode cX6_isKept 19 = .ok (.iconst 1, 1) := by decide +kernel
theorem dX6_isKept_20 : decode cX6_isKept 20 = .ok (.goto 4, 3) := by decide +kernel
theorem dX6_isKept_23 : decode cX6_isKept 23 = .ok (.iconst 0, 1) := by decide +kernel
theorem dX6_isKept_24 : decode cX6_isKept 24 = .ok (.ireturn, 1) := by decide +kernel
theorem dX7_init_0 : decode cX7_init 0 = .ok (.aload_n 0, 1) := by decide +kernel
theorem dX7_init_1 : decode cX7_init 1 = .ok (.invokespecial 3, 3) := by decide +kernel
theorem dX7_init_4 : decode cX7_init 4 = .ok (.aload_n 0, 1) := by decide +kernel
theorem dX7_init_5 : decode cX7_init 5 = .ok (.new 9, 3) := by decide +kernel
theorem dX7_init_8 : decode cX7_init 8 = .ok (.dup, 1) := by decide +kernel
theorem dX7_init_9 : decode cX7_init 9 = .ok (.sipush 200, 3) := by decide +kernel
theorem dX7_init_12 : decode cX7_init 12 = .ok (.invokespecial 11, 3) := by decide +kernel
theorem dX7_init_15 : decode cX7_init 15 = .ok (.putfield 14, 3) := by decide +kernel
theorem dX7_init_18 : decode cX7_init 18 = .ok (.aload_n 0, 1) := by decide +kernel
theorem dX7_init_19 : decode cX7_init 19 = .ok (.new 18, 3) := by decide +kernel
theorem dX7_init_22 : decode cX7_init 22 = .ok (.dup, 1) := by decide +kernel
theorem dX7_init_23 : decode cX7_init 23 = .ok (.invokespecial 20, 3) := by decide +kernel
theorem dX7_init_26 : decode cX7_init 26 = .ok (.putfield 21, 3) := by decide +kernel
theorem dX7_init_29 : decode cX7_init 29 = .ok (.aload_n 0, 1) := by decide +kernel
theorem dX7_init_30 : decode cX7_init 30 = .ok (.new 25, 3) := by decide +kernel
theorem dX7_init_33 : decode cX7_init 33 = .ok (.dup, 1) := by decide +kernel
theorem dX7_init_34 : decode cX7_init 34 = .ok (.invokespecial 27, 3) := by decide +kernel
theorem dX7_init_37 : decode cX7_init 37 = .ok (.putfield 28, 3) := by decide +kernel
theorem dX7_init_40 : decode cX7_init 40 = .ok (.aload_n 0, 1) := by decide +kernel
theorem dX7_init_41 : decode cX7_init 41 = .ok (.new 25, 3) := by decide +kernel
theorem dX7_init_44 : decode cX7_init 44 = .ok (.dup, 1) := by decide +kernel
theorem dX7_init_45 : decode cX7_init 45 = .ok (.invokespecial 27, 3) := by decide +kernel
theorem dX7_init_48 : decode cX7_init 48 = .ok (.putfield 32, 3) := by decide +kernel
theorem dX7_init_51 : decode cX7_init 51 = .ok (.aload_n 0, 1) := by decide +kernel
theorem dX7_init_52 : decode cX7_init 52 = .ok (.new 35, 3) := by decide +kernel
theorem dX7_init_55 : decode cX7_init 55 = .ok (.dup, 1) := by decide +kernel
theorem dX7_init_56 : decode cX7_init 56 = .ok (.invokespecial 37, 3) := by decide +kernel
theorem dX7_init_59 : decode cX7_init 59 = .ok (.putfield 38, 3) := by decide +kernel
theorem dX7_init_62 : decode cX7_init 62 = .ok (.aload_n 0, 1) := by decide +kernel
theorem dX7_init_63 : decode cX7_init 63 = .ok (.new 42, 3) := by decide +kernel
theorem dX7_init_66 : decode cX7_init 66 = .ok (.dup, 1) := by decide +kernel
theorem dX7_init_67 : decode cX7_init 67 = .ok (.invokespecial 44, 3) := by decide +kernel
theorem dX7_init_70 : decode cX7_init 70 = .ok (.putfield 45, 3) := by decide +kernel
theorem dX7_init_73 : decode cX7_init 73 = .ok (.aload_n 0, 1) := by decide +kernel
theorem dX7_init_74 : decode cX7_init 74 = .ok (.new 49, 3) := by decide +kernel
theorem dX7_init_77 : decode cX7_init 77 = .ok (.dup, 1) := by decide +kernel
theorem dX7_init_78 : decode cX7_init 78 = .ok (.invokespecial 51, 3) := by decide +kernel
theorem dX7_init_81 : decode cX7_init 81 = .ok (.putfield 52, 3) := by decide +kernel
theorem dX7_init_84 : decode cX7_init 84 = .ok (.return_, 1) := by decide +kernel
theorem dX7_feed_0 : decode cX7_feed 0 = .ok (.aload_n 0, 1) := by decide +kernel
theorem dX7_feed_1 : decode cX7_feed 1 = .ok (.getfield 14, 3) := by decide +kernel
theorem dX7_feed_4 : decode cX7_feed 4 = .ok (.getfield 56, 3) := by decide +kernel
theorem dX7_feed_7 : decode cX7_feed 7 = .ok (.bipush 20, 2) := by decide +kernel
theorem dX7_feed_9 : decode cX7_feed 9 = .ok (.iadd, 1) := by decide +kernel
theorem dX7_feed_10 : decode cX7_feed 10 = .ok (.sipush 200, 3) := by decide +kernel
theorem dX7_feed_13 : decode cX7_feed 13 = .ok (.if_icmp .le 5, 3) := by decide +kernel
theorem dX7_feed_16 : decode cX7_feed 16 = .ok (.iconst (-1), 1) := by decide +kernel
theorem dX7_feed_17 : decode cX7_feed 17 = .ok (.ireturn, 1) := by decide +kernel
theorem dX7_feed_18 : decode cX7_feed 18 = .ok (.aload_n 0, 1) := by decide +kernel
theorem dX7_feed_19 : decode cX7_feed 19 = .ok (.getfield 14, 3) := by decide +kernel
theorem dX7_feed_22 : decode cX7_feed 22 = .ok (.iload_n 1, 1) := by decide +kernel
theorem dX7_feed_23 : decode cX7_feed 23 = .ok (.invokevirtual 60, 3) := by decide +kernel
theorem dX7_feed_26 : decode cX7_feed 26 = .ok (.aload_n 0, 1) := by decide +kernel
theorem dX7_feed_27 : decode cX7_feed 27 = .ok (.getfield 14, 3) := by decide +kernel
theorem dX7_feed_30 : decode cX7_feed 30 = .ok (.iload_n 2, 1) := by decide +kernel
theorem dX7_feed_31 : decode cX7_feed 31 = .ok (.invokevirtual 60, 3) := by decide +kernel
theorem dX7_feed_34 : decode cX7_feed 34 = .ok (.aload_n 0, 1) := by decide +kernel
theorem dX7_feed_35 : decode cX7_feed 35 = .ok (.getfield 14, 3) := by decide +kernel
theorem dX7_feed_38 : decode cX7_feed 38 = .ok (.iload_n 3, 1) := by decide +kernel
theorem dX7_feed_39 : decode cX7_feed 39 = .ok (.invokevirtual 60, 3) := by decide +kernel
theorem dX7_feed_42 : decode cX7_feed 42 = .ok (.aload_n 0, 1) := by decide +kernel
theorem dX7_feed_43 : decode cX7_feed 43 = .ok (.getfield 14, 3) := by decide +kernel
theorem dX7_feed_46 : decode cX7_feed 46 = .ok (.iload 4, 2) := by decide +kernel
theorem dX7_feed_48 : decode cX7_feed 48 = .ok (.invokevirtual 60, 3) := by decide +kernel
theorem dX7_feed_51 : decode cX7_feed 51 = .ok (.aload_n 0, 1) := by decide +kernel
theorem dX7_feed_52 : decode cX7_feed 52 = .ok (.getfield 14, 3) := by decide +kernel
theorem dX7_feed_55 : decode cX7_feed 55 = .ok (.iload 5, 2) := by decide +kernel
theorem dX7_feed_57 : decode cX7_feed 57 = .ok (.invokevirtual 60, 3) := by decide +kernel
theorem dX7_feed_60 : decode cX7_feed 60 = .ok (.aload_n 0, 1) := by decide +kernel
theorem dX7_feed_61 : decode cX7_feed 61 = .ok (.getfield 14, 3) := by decide +kernel
theorem dX7_feed_64 : decode cX7_feed 64 = .ok (.getfield 56, 3) := by decide +kernel
theorem dX7_feed_67 : decode cX7_feed 67 = .ok (.ireturn, 1) := by decide +kernel
theorem dX7_version_0 : decode cX7_version 0 = .ok (.iload_n 1, 1) := by decide +kernel
theorem dX7_version_1 : decode cX7_version 1 = .ok (.ifCond .lt 30, 3) := by decide +kernel
theorem dX7_version_4 : decode cX7_version 4 = .ok (.iload_n 1, 1) := by decide +kernel
theorem dX7_version_5 : decode cX7_version 5 = .ok (.iconst 5, 1) := by decide +kernel
theorem dX7_version_6 : decode cX7_version 6 = .ok (.if_icmp .ge 25, 3) := by decide +kernel
theorem dX7_version_9 : decode cX7_version 9 = .ok (.iload_n 2, 1) := by decide +kernel
theorem dX7_version_10 : decode cX7_version 10 = .ok (.iconst 1, 1) := by decide +kernel
theorem dX7_version_11 : decode cX7_version 11 = .ok (.if_icmp .lt 20, 3) := by decide +kernel
theorem dX7_version_14 : decode cX7_version 14 = .ok (.iload_n 2, 1) := by decide +kernel
theorem dX7_version_15 : decode cX7_version 15 = .ok (.bipush 120, 2) := by decide +kernel
theorem dX7_version_17 : decode cX7_version 17 = .ok (.if_icmp .gt 14, 3) := by decide +kernel
theorem dX7_version_20 : decode cX7_version 20 = .ok (.iload_n 2, 1) := by decide +kernel
theorem dX7_version_21 : decode cX7_version 21 = .ok (.aload_n 0, 1) := by decide +kernel
theorem dX7_version_22 : decode cX7_version 22 = .ok (.getfield 14, 3) := by decide +kernel
theorem dX7_version_25 : decode cX7_version 25 = .ok (.getfield 56, 3) := by decide +kernel
theorem dX7_version_28 : decode cX7_version 28 = .ok (.if_icmp .le 5, 3) := by decide +kernel
theorem dX7_version_31 : decode cX7_version 31 = .ok (.iconst (-1), 1) := by decide +kernel
theorem dX7_version_32 : decode cX7_version 32 = .ok (.ireturn, 1) := by decide +kernel
theorem dX7_version_33 : decode cX7_version 33 = .ok (.aload_n 0, 1) := by decide +kernel
theorem dX7_version_34 : decode cX7_version 34 = .ok (.getfield 21, 3) := by decide +kernel
theorem dX7_version_37 : decode cX7_version 37 = .ok (.iload_n 1, 1) := by decide +kernel
theorem dX7_version_38 : decode cX7_version 38 = .ok (.aload_n 0, 1) := by decide +kernel
theorem dX7_version_39 : decode cX7_version 39 = .ok (.getfield 14, 3) := by decide +kernel
theorem dX7_version_42 : decode cX7_version 42 = .ok (.iload_n 2, 1) := by decide +kernel
theorem dX7_version_43 : decode cX7_version 43 = .ok (.invokevirtual 63, 3) := by decide +kernel
theorem dX7_version_46 : decode cX7_version 46 = .ok (.aload_n 0, 1) := by decide +kernel
theorem dX7_version_47 : decode cX7_version 47 = .ok (.getfield 14, 3) := by decide +kernel
theorem dX7_version_50 : decode cX7_version 50 = .ok (.iconst 0, 1) := by decide +kernel
theorem dX7_version_51 : decode cX7_version 51 = .ok (.putfield 56, 3) := by decide +kernel
theorem dX7_version_54 : decode cX7_version 54 = .ok (.iload_n 2, 1) := by decide +kernel
theorem dX7_version_55 : decode cX7_version 55 = .ok (.ireturn, 1) := by decide +kernel
theorem dX7_told_0 : decode cX7_told 0 = .ok (.aload_n 0, 1) := by decide +kernel
theorem dX7_told_1 : decode cX7_told 1 = .ok (.getfield 21, 3) := by decide +kernel
theorem dX7_told_4 : decode cX7_told 4 = .ok (.iload_n 1, 1) := by decide +kernel
theorem dX7_told_5 : decode cX7_told 5 = .ok (.invokevirtual 67, 3) := by decide +kernel
theorem dX7_told_8 : decode cX7_told 8 = .ok (.ifCond .ne 5, 3) := by decide +kernel
theorem dX7_told_11 : decode cX7_told 11 = .ok (.iconst (-1), 1) := by decide +kernel
theorem dX7_told_12 : decode cX7_told 12 = .ok (.ireturn, 1) := by decide +kernel
theorem dX7_told_13 : decode cX7_told 13 = .ok (.aload_n 0, 1) := by decide +kernel
theorem dX7_told_14 : decode cX7_told 14 = .ok (.getfield 21, 3) := by decide +kernel
theorem dX7_told_17 : decode cX7_told 17 = .ok (.iload_n 1, 1) := by decide +kernel
theorem dX7_told_18 : decode cX7_told 18 = .ok (.invokevirtual 71, 3) := by decide +kernel
theorem dX7_told_21 : decode cX7_told 21 = .ok (.astore_n 3, 1) := by decide +kernel
theorem dX7_told_22 : decode cX7_told 22 = .ok (.iload_n 2, 1) := by decide +kernel
theorem dX7_told_23 : decode cX7_told 23 = .ok (.iconst (-1), 1) := by decide +kernel
theorem dX7_told_24 : decode cX7_told 24 = .ok (.if_icmp .ne 10, 3) := by decide +kernel
theorem dX7_told_27 : decode cX7_told 27 = .ok (.aload_n 3, 1) := by decide +kernel
theorem dX7_told_28 : decode cX7_told 28 = .ok (.getfield 56, 3) := by decide +kernel
theorem dX7_told_31 : decode cX7_told 31 = .ok (.goto 8, 3) := by decide +kernel
theorem dX7_told_34 : decode cX7_told 34 = .ok (.aload_n 3, 1) := by decide +kernel
theorem dX7_told_35 : decode cX7_told 35 = .ok (.iload_n 2, 1) := by decide +kernel
theorem dX7_told_36 : decode cX7_told 36 = .ok (.invokevirtual 75, 3) := by decide +kernel
theorem dX7_told_39 : decode cX7_told 39 = .ok (.ireturn, 1) := by decide +kernel
theorem dX7_check_0 : decode cX7_check 0 = .ok (.aload_n 0, 1) := by decide +kernel
theorem dX7_check_1 : decode cX7_check 1 = .ok (.getfield 21, 3) := by decide +kernel
theorem dX7_check_4 : decode cX7_check 4 = .ok (.iload_n 1, 1) := by decide +kernel
theorem dX7_check_5 : decode cX7_check 5 = .ok (.invokevirtual 67, 3) := by decide +kernel
theorem dX7_check_8 : decode cX7_check 8 = .ok (.ifCond .eq 17, 3) := by decide +kernel
theorem dX7_check_11 : decode cX7_check 11 = .ok (.aload_n 0, 1) := by decide +kernel
theorem dX7_check_12 : decode cX7_check 12 = .ok (.getfield 21, 3) := by decide +kernel
theorem dX7_check_15 : decode cX7_check 15 = .ok (.iload_n 1, 1) := by decide +kernel
theorem dX7_check_16 : decode cX7_check 16 = .ok (.invokevirtual 71, 3) := by decide +kernel
theorem dX7_check_19 : decode cX7_check 19 = .ok (.invokevirtual 79, 3) := by decide +kernel
theorem dX7_check_22 : decode cX7_check 22 = .ok (.goto 4, 3) := by decide +kernel
theorem dX7_check_25 : decode cX7_check 25 = .ok (.iconst (-1), 1) := by decide +kernel
theorem dX7_check_26 : decode cX7_check 26 = .ok (.ireturn, 1) := by decide +kernel
theorem dX7_cost_0 : decode cX7_cost 0 = .ok (.aload_n 0, 1) := by decide +kernel
theorem dX7_cost_1 : decode cX7_cost 1 = .ok (.getfield 21, 3) := by decide +kernel
theorem dX7_cost_4 : decode cX7_cost 4 = .ok (.iload_n 1, 1) := by decide +kernel
theorem dX7_cost_5 : decode cX7_cost 5 = .ok (.iload_n 2, 1) := by decide +kernel
theorem dX7_cost_6 : decode cX7_cost 6 = .ok (.invokevirtual 83, 3) := by decide +kernel
theorem dX7_cost_9 : decode cX7_cost 9 = .ok (.ireturn, 1) := by decide +kernel
theorem dX7_step_0 : decode cX7_step 0 = .ok (.aload_n 0, 1) := by decide +kernel
theorem dX7_step_1 : decode cX7_step 1 = .ok (.getfield 21, 3) := by decide +kernel
theorem dX7_step_4 : decode cX7_step 4 = .ok (.iload_n 1, 1) := by decide +kernel
theorem dX7_step_5 : decode cX7_step 5 = .ok (.invokevirtual 67, 3) := by decide +kernel
theorem dX7_step_8 : decode cX7_step 8 = .ok (.ifCond .eq 14, 3) := by decide +kernel
theorem dX7_step_11 : decode cX7_step 11 = .ok (.aload_n 0, 1) := by decide +kernel
theorem dX7_step_12 : decode cX7_step 12 = .ok (.getfield 21, 3) := by decide +kernel
theorem dX7_step_15 : decode cX7_step 15 = .ok (.iload_n 2, 1) := by decide +kernel
theorem dX7_step_16 : decode cX7_step 16 = .ok (.invokevirtual 67, 3) := by decide +kernel
theorem dX7_step_19 : decode cX7_step 19 = .ok (.ifCond .ne 5, 3) := by decide +kernel
theorem dX7_step_22 : decode cX7_step 22 = .ok (.iconst (-1), 1) := by decide +kernel
theorem dX7_step_23 : decode cX7_step 23 = .ok (.ireturn, 1) := by decide +kernel
theorem dX7_step_24 : decode cX7_step 24 = .ok (.aload_n 0, 1) := by decide +kernel
theorem dX7_step_25 : decode cX7_step 25 = .ok (.getfield 21, 3) := by decide +kernel
theorem dX7_step_28 : decode cX7_step 28 = .ok (.iload_n 1, 1) := by decide +kernel
theorem dX7_step_29 : decode cX7_step 29 = .ok (.iload_n 2, 1) := by decide +kernel
theorem dX7_step_30 : decode cX7_step 30 = .ok (.invokevirtual 87, 3) := by decide +kernel
theorem dX7_step_33 : decode cX7_step 33 = .ok (.iload_n 3, 1) := by decide +kernel
theorem dX7_step_34 : decode cX7_step 34 = .ok (.iload 4, 2) := by decide +kernel
theorem dX7_step_36 : decode cX7_step 36 = .ok (.invokevirtual 91, 3) := by decide +kernel
theorem dX7_step_39 : decode cX7_step 39 = .ok (.ireturn, 1) := by decide +kernel
theorem dX7_melt_0 : decode cX7_melt 0 = .ok (.aload_n 0, 1) := by decide +kernel
theorem dX7_melt_1 : decode cX7_melt 1 = .ok (.getfield 21, 3) := by decide +kernel
theorem dX7_melt_4 : decode cX7_melt 4 = .ok (.iload_n 1, 1) := by decide +kernel
theorem dX7_melt_5 : decode cX7_melt 5 = .ok (.invokevirtual 67, 3) := by decide +kernel
theorem dX7_melt_8 : decode cX7_melt 8 = .ok (.ifCond .eq 25, 3) := by decide +kernel
theorem dX7_melt_11 : decode cX7_melt 11 = .ok (.aload_n 0, 1) := by decide +kernel
theorem dX7_melt_12 : decode cX7_melt 12 = .ok (.getfield 21, 3) := by decide +kernel
theorem dX7_melt_15 : decode cX7_melt 15 = .ok (.iload_n 2, 1) := by decide +kernel
theorem dX7_melt_16 : decode cX7_melt 16 = .ok (.invokevirtual 67, 3) := by decide +kernel
theorem dX7_melt_19 : decode cX7_melt 19 = .ok (.ifCond .eq 14, 3) := by decide +kernel
theorem dX7_melt_22 : decode cX7_melt 22 = .ok (.aload_n 0, 1) := by decide +kernel
theorem dX7_melt_23 : decode cX7_melt 23 = .ok (.getfield 21, 3) := by decide +kernel
theorem dX7_melt_26 : decode cX7_melt 26 = .ok (.iload_n 3, 1) := by decide +kernel
theorem dX7_melt_27 : decode cX7_melt 27 = .ok (.invokevirtual 67, 3) := by decide +kernel
theorem dX7_melt_30 : decode cX7_melt 30 = .ok (.ifCond .ne 5, 3) := by decide +kernel
theorem dX7_melt_33 : decode cX7_melt 33 = .ok (.iconst (-1), 1) := by decide +kernel
theorem dX7_melt_34 : decode cX7_melt 34 = .ok (.ireturn, 1) := by decide +kernel
theorem dX7_melt_35 : decode cX7_melt 35 = .ok (.aload_n 0, 1) := by decide +kernel
theorem dX7_melt_36 : decode cX7_melt 36 = .ok (.getfield 32, 3) := by decide +kernel
theorem dX7_melt_39 : decode cX7_melt 39 = .ok (.aload_n 0, 1) := by decide +kernel
theorem dX7_melt_40 : decode cX7_melt 40 = .ok (.getfield 21, 3) := by decide +kernel
theorem dX7_melt_43 : decode cX7_melt 43 = .ok (.iload_n 1, 1) := by decide +kernel
theorem dX7_melt_44 : decode cX7_melt 44 = .ok (.iload_n 2, 1) := by decide +kernel
theorem dX7_melt_45 : decode cX7_melt 45 = .ok (.invokevirtual 87, 3) := by decide +kernel
theorem dX7_melt_48 : decode cX7_melt 48 = .ok (.aload_n 0, 1) := by decide +kernel
theorem dX7_melt_49 : decode cX7_melt 49 = .ok (.getfield 21, 3) := by decide +kernel
theorem dX7_melt_52 : decode cX7_melt 52 = .ok (.iload_n 2, 1) := by decide +kernel
theorem dX7_melt_53 : decode cX7_melt 53 = .ok (.invokevirtual 71, 3) := by decide +kernel
theorem dX7_melt_56 : decode cX7_melt 56 = .ok (.invokevirtual 94, 3) := by decide +kernel
theorem dX7_melt_59 : decode cX7_melt 59 = .ok (.aload_n 0, 1) := by decide +kernel
theorem dX7_melt_60 : decode cX7_melt 60 = .ok (.getfield 28, 3) := by decide +kernel
theorem dX7_melt_63 : decode cX7_melt 63 = .ok (.aload_n 0, 1) := by decide +kernel
theorem dX7_melt_64 : decode cX7_melt 64 = .ok (.getfield 21, 3) := by decide +kernel
theorem dX7_melt_67 : decode cX7_melt 67 = .ok (.iload_n 2, 1) := by decide +kernel
theorem dX7_melt_68 : decode cX7_melt 68 = .ok (.iload_n 3, 1) := by decide +kernel
theorem dX7_melt_69 : decode cX7_melt 69 = .ok (.invokevirtual 87, 3) := by decide +kernel
theorem dX7_melt_72 : decode cX7_melt 72 = .ok (.aload_n 0, 1) := by decide +kernel
theorem dX7_melt_73 : decode cX7_melt 73 = .ok (.getfield 21, 3) := by decide +kernel
theorem dX7_melt_76 : decode cX7_melt 76 = .ok (.iload_n 3, 1) := by decide +kernel
theorem dX7_melt_77 : decode cX7_melt 77 = .ok (.invokevirtual 71, 3) := by decide +kernel
theorem dX7_melt_80 : decode cX7_melt 80 = .ok (.invokevirtual 94, 3) := by decide +kernel
theorem dX7_melt_83 : decode cX7_melt 83 = .ok (.aload_n 0, 1) := by decide +kernel
theorem dX7_melt_84 : decode cX7_melt 84 = .ok (.getfield 28, 3) := by decide +kernel
theorem dX7_melt_87 : decode cX7_melt 87 = .ok (.aload_n 0, 1) := by decide +kernel
theorem dX7_melt_88 : decode cX7_melt 88 = .ok (.getfield 32, 3) := by decide +kernel
theorem dX7_melt_91 : decode cX7_melt 91 = .ok (.invokevirtual 98, 3) := by decide +kernel
theorem dX7_melt_94 : decode cX7_melt 94 = .ok (.aload_n 0, 1) := by decide +kernel
theorem dX7_melt_95 : decode cX7_melt 95 = .ok (.getfield 28, 3) := by decide +kernel
theorem dX7_melt_98 : decode cX7_melt 98 = .ok (.aload_n 0, 1) := by decide +kernel
theorem dX7_melt_99 : decode cX7_melt 99 = .ok (.getfield 38, 3) := by decide +kernel
theorem dX7_melt_102 : decode cX7_melt 102 = .ok (.invokevirtual 102, 3) := by decide +kernel
theorem dX7_melt_105 : decode cX7_melt 105 = .ok (.aload_n 0, 1) := by decide +kernel
theorem dX7_melt_106 : decode cX7_melt 106 = .ok (.getfield 38, 3) := by decide +kernel
theorem dX7_melt_109 : decode cX7_melt 109 = .ok (.getfield 106, 3) := by decide +kernel
theorem dX7_melt_112 : decode cX7_melt 112 = .ok (.ireturn, 1) := by decide +kernel
theorem dX7_melted_0 : decode cX7_melted 0 = .ok (.aload_n 0, 1) := by decide +kernel
theorem dX7_melted_1 : decode cX7_melted 1 = .ok (.getfield 38, 3) := by decide +kernel
theorem dX7_melted_4 : decode cX7_melted 4 = .ok (.getfield 109, 3) := by decide +kernel
theorem dX7_melted_7 : decode cX7_melted 7 = .ok (.ifCond .ne 7, 3) := by decide +kernel
theorem dX7_melted_10 : decode cX7_melted 10 = .ok (.iconst (-1), 1) := by decide +kernel
theorem dX7_melted_11 : decode cX7_melted 11 = .ok (.goto 12, 3) := by decide +kernel
theorem dX7_melted_14 : decode cX7_melted 14 = .ok (.aload_n 0, 1) := by decide +kernel
theorem dX7_melted_15 : decode cX7_melted 15 = .ok (.getfield 38, 3) := by decide +kernel
theorem dX7_melted_18 : decode cX7_melted 18 = .ok (.iload_n 1, 1) := by decide +kernel
theorem dX7_melted_19 : decode cX7_melted 19 = .ok (.iload_n 2, 1) := by decide +kernel
theorem dX7_melted_20 : decode cX7_melted 20 = .ok (.invokevirtual 91, 3) := by decide +kernel
theorem dX7_melted_23 : decode cX7_melted 23 = .ok (.ireturn, 1) := by decide +kernel
theorem dX7_room_0 : decode cX7_room 0 = .ok (.aload_n 0, 1) := by decide +kernel
theorem dX7_room_1 : decode cX7_room 1 = .ok (.getfield 21, 3) := by decide +kernel
theorem dX7_room_4 : decode cX7_room 4 = .ok (.iload_n 1, 1) := by decide +kernel
theorem dX7_room_5 : decode cX7_room 5 = .ok (.invokevirtual 67, 3) := by decide +kernel
theorem dX7_room_8 : decode cX7_room 8 = .ok (.ifCond .eq 23, 3) := by decide +kernel
theorem dX7_room_11 : decode cX7_room 11 = .ok (.aload_n 0, 1) := by decide +kernel
theorem dX7_room_12 : decode cX7_room 12 = .ok (.getfield 21, 3) := by decide +kernel
theorem dX7_room_15 : decode cX7_room 15 = .ok (.iload_n 2, 1) := by decide +kernel
theorem dX7_room_16 : decode cX7_room 16 = .ok (.invokevirtual 67, 3) := by decide +kernel
theorem dX7_room_19 : decode cX7_room 19 = .ok (.ifCond .eq 12, 3) := by decide +kernel
theorem dX7_room_22 : decode cX7_room 22 = .ok (.iload_n 3, 1) := by decide +kernel
theorem dX7_room_23 : decode cX7_room 23 = .ok (.ifCond .lt 8, 3) := by decide +kernel
theorem dX7_room_26 : decode cX7_room 26 = .ok (.iload_n 3, 1) := by decide +kernel
theorem dX7_room_27 : decode cX7_room 27 = .ok (.iconst 2, 1) := by decide +kernel
theorem dX7_room_28 : decode cX7_room 28 = .ok (.if_icmp .le 5, 3) := by decide +kernel
theorem dX7_room_31 : decode cX7_room 31 = .ok (.iconst (-1), 1) := by decide +kernel
theorem dX7_room_32 : decode cX7_room 32 = .ok (.ireturn, 1) := by decide +kernel
theorem dX7_room_33 : decode cX7_room 33 = .ok (.aload_n 0, 1) := by decide +kernel
theorem dX7_room_34 : decode cX7_room 34 = .ok (.getfield 28, 3) := by decide +kernel
theorem dX7_room_37 : decode cX7_room 37 = .ok (.aload_n 0, 1) := by decide +kernel
theorem dX7_room_38 : decode cX7_room 38 = .ok (.getfield 21, 3) := by decide +kernel
theorem dX7_room_41 : decode cX7_room 41 = .ok (.iload_n 1, 1) := by decide +kernel
theorem dX7_room_42 : decode cX7_room 42 = .ok (.iload_n 2, 1) := by decide +kernel
theorem dX7_room_43 : decode cX7_room 43 = .ok (.invokevirtual 87, 3) := by decide +kernel
theorem dX7_room_46 : decode cX7_room 46 = .ok (.aload_n 0, 1) := by decide +kernel
theorem dX7_room_47 : decode cX7_room 47 = .ok (.getfield 21, 3) := by decide +kernel
theorem dX7_room_50 : decode cX7_room 50 = .ok (.iload_n 2, 1) := by decide +kernel
theorem dX7_room_51 : decode cX7_room 51 = .ok (.invokevirtual 71, 3) := by decide +kernel
theorem dX7_room_54 : decode cX7_room 54 = .ok (.invokevirtual 94, 3) := by decide +kernel
theorem dX7_room_57 : decode cX7_room 57 = .ok (.iload_n 3, 1) := by decide +kernel
theorem dX7_room_58 : decode cX7_room 58 = .ok (.iconst 2, 1) := by decide +kernel
theorem dX7_room_59 : decode cX7_room 59 = .ok (.if_icmp .ne 23, 3) := by decide +kernel
theorem dX7_room_62 : decode cX7_room 62 = .ok (.aload_n 0, 1) := by decide +kernel
theorem dX7_room_63 : decode cX7_room 63 = .ok (.getfield 28, 3) := by decide +kernel
theorem dX7_room_66 : decode cX7_room 66 = .ok (.iconst 0, 1) := by decide +kernel
theorem dX7_room_67 : decode cX7_room 67 = .ok (.invokevirtual 112, 3) := by decide +kernel
theorem dX7_room_70 : decode cX7_room 70 = .ok (.aload_n 0, 1) := by decide +kernel
theorem dX7_room_71 : decode cX7_room 71 = .ok (.getfield 28, 3) := by decide +kernel
theorem dX7_room_74 : decode cX7_room 74 = .ok (.iconst 1, 1) := by decide +kernel
theorem dX7_room_75 : decode cX7_room 75 = .ok (.invokevirtual 112, 3) := by decide +kernel
theorem dX7_room_78 : decode cX7_room 78 = .ok (.invokestatic 115, 3) := by decide +kernel
theorem dX7_room_81 : decode cX7_room 81 = .ok (.ireturn, 1) := by decide +kernel
theorem dX7_room_82 : decode cX7_room 82 = .ok (.aload_n 0, 1) := by decide +kernel
theorem dX7_room_83 : decode cX7_room 83 = .ok (.getfield 28, 3) := by decide +kernel
theorem dX7_room_86 : decode cX7_room 86 = .ok (.iload_n 3, 1) := by decide +kernel
theorem dX7_room_87 : decode cX7_room 87 = .ok (.invokevirtual 112, 3) := by decide +kernel
theorem dX7_room_90 : decode cX7_room 90 = .ok (.ireturn, 1) := by decide +kernel
theorem dX7_install_0 : decode cX7_install 0 = .ok (.aload_n 0, 1) := by decide +kernel
theorem dX7_install_1 : decode cX7_install 1 = .ok (.getfield 21, 3) := by decide +kernel
theorem dX7_install_4 : decode cX7_install 4 = .ok (.iload_n 1, 1) := by decide +kernel
theorem dX7_install_5 : decode cX7_install 5 = .ok (.invokevirtual 67, 3) := by decide +kernel
theorem dX7_install_8 : decode cX7_install 8 = .ok (.ifCond .ne 5, 3) := by decide +kernel
theorem dX7_install_11 : decode cX7_install 11 = .ok (.iconst 0, 1) := by decide +kernel
theorem dX7_install_12 : decode cX7_install 12 = .ok (.ireturn, 1) := by decide +kernel
theorem dX7_install_13 : decode cX7_install 13 = .ok (.aload_n 0, 1) := by decide +kernel
theorem dX7_install_14 : decode cX7_install 14 = .ok (.getfield 45, 3) := by decide +kernel
theorem dX7_install_17 : decode cX7_install 17 = .ok (.aload_n 0, 1) := by decide +kernel
theorem dX7_install_18 : decode cX7_install 18 = .ok (.getfield 21, 3) := by decide +kernel
theorem dX7_install_21 : decode cX7_install 21 = .ok (.iload_n 1, 1) := by decide +kernel
theorem dX7_install_22 : decode cX7_install 22 = .ok (.invokevirtual 71, 3) := by decide +kernel
theorem dX7_install_25 : decode cX7_install 25 = .ok (.invokevirtual 120, 3) := by decide +kernel
theorem dX7_install_28 : decode cX7_install 28 = .ok (.iconst 1, 1) := by decide +kernel
theorem dX7_install_29 : decode cX7_install 29 = .ok (.ireturn, 1) := by decide +kernel
theorem dX7_update_0 : decode cX7_update 0 = .ok (.aload_n 0, 1) := by decide +kernel
theorem dX7_update_1 : decode cX7_update 1 = .ok (.getfield 21, 3) := by decide +kernel
theorem dX7_update_4 : decode cX7_update 4 = .ok (.iload_n 1, 1) := by decide +kernel
theorem dX7_update_5 : decode cX7_update 5 = .ok (.invokevirtual 67, 3) := by decide +kernel
theorem dX7_update_8 : decode cX7_update 8 = .ok (.ifCond .eq 14, 3) := by decide +kernel
theorem dX7_update_11 : decode cX7_update 11 = .ok (.aload_n 0, 1) := by decide +kernel
theorem dX7_update_12 : decode cX7_update 12 = .ok (.getfield 21, 3) := by decide +kernel
theorem dX7_update_15 : decode cX7_update 15 = .ok (.iload_n 2, 1) := by decide +kernel
theorem dX7_update_16 : decode cX7_update 16 = .ok (.invokevirtual 67, 3) := by decide +kernel
theorem dX7_update_19 : decode cX7_update 19 = .ok (.ifCond .ne 5, 3) := by decide +kernel
theorem dX7_update_22 : decode cX7_update 22 = .ok (.iconst (-1), 1) := by decide +kernel
theorem dX7_update_23 : decode cX7_update 23 = .ok (.ireturn, 1) := by decide +kernel
theorem dX7_update_24 : decode cX7_update 24 = .ok (.aload_n 0, 1) := by decide +kernel
theorem dX7_update_25 : decode cX7_update 25 = .ok (.getfield 45, 3) := by decide +kernel
theorem dX7_update_28 : decode cX7_update 28 = .ok (.getfield 124, 3) := by decide +kernel
theorem dX7_update_31 : decode cX7_update 31 = .ok (.ifCond .eq 6, 3) := by decide +kernel
theorem dX7_update_34 : decode cX7_update 34 = .ok (.bipush (-2), 2) := by decide +kernel
theorem dX7_update_36 : decode cX7_update 36 = .ok (.ireturn, 1) := by decide +kernel
theorem dX7_update_37 : decode cX7_update 37 = .ok (.aload_n 0, 1) := by decide +kernel
theorem dX7_update_38 : decode cX7_update 38 = .ok (.getfield 45, 3) := by decide +kernel
theorem dX7_update_41 : decode cX7_update 41 = .ok (.aload_n 0, 1) := by decide +kernel
theorem dX7_update_42 : decode cX7_update 42 = .ok (.getfield 21, 3) := by decide +kernel
theorem dX7_update_45 : decode cX7_update 45 = .ok (.iload_n 1, 1) := by decide +kernel
theorem dX7_update_46 : decode cX7_update 46 = .ok (.invokevirtual 71, 3) := by decide +kernel
theorem dX7_update_49 : decode cX7_update 49 = .ok (.invokevirtual 128, 3) := by decide +kernel
theorem dX7_update_52 : decode cX7_update 52 = .ok (.ifCond .ne 6, 3) := by decide +kernel
theorem dX7_update_55 : decode cX7_update 55 = .ok (.bipush (-3), 2) := by decide +kernel
theorem dX7_update_57 : decode cX7_update 57 = .ok (.ireturn, 1) := by decide +kernel
theorem dX7_update_58 : decode cX7_update 58 = .ok (.aload_n 0, 1) := by decide +kernel
theorem dX7_update_59 : decode cX7_update 59 = .ok (.getfield 28, 3) := by decide +kernel
theorem dX7_update_62 : decode cX7_update 62 = .ok (.aload_n 0, 1) := by decide +kernel
theorem dX7_update_63 : decode cX7_update 63 = .ok (.getfield 21, 3) := by decide +kernel
theorem dX7_update_66 : decode cX7_update 66 = .ok (.iload_n 1, 1) := by decide +kernel
theorem dX7_update_67 : decode cX7_update 67 = .ok (.iload_n 2, 1) := by decide +kernel
theorem dX7_update_68 : decode cX7_update 68 = .ok (.invokevirtual 87, 3) := by decide +kernel
theorem dX7_update_71 : decode cX7_update 71 = .ok (.aload_n 0, 1) := by decide +kernel
theorem dX7_update_72 : decode cX7_update 72 = .ok (.getfield 21, 3) := by decide +kernel
theorem dX7_update_75 : decode cX7_update 75 = .ok (.iload_n 2, 1) := by decide +kernel
theorem dX7_update_76 : decode cX7_update 76 = .ok (.invokevirtual 71, 3) := by decide +kernel
theorem dX7_update_79 : decode cX7_update 79 = .ok (.invokevirtual 94, 3) := by decide +kernel
theorem dX7_update_82 : decode cX7_update 82 = .ok (.aload_n 0, 1) := by decide +kernel
theorem dX7_update_83 : decode cX7_update 83 = .ok (.getfield 45, 3) := by decide +kernel
theorem dX7_update_86 : decode cX7_update 86 = .ok (.aload_n 0, 1) := by decide +kernel
theorem dX7_update_87 : decode cX7_update 87 = .ok (.getfield 28, 3) := by decide +kernel
theorem dX7_update_90 : decode cX7_update 90 = .ok (.invokevirtual 132, 3) := by decide +kernel
theorem dX7_update_93 : decode cX7_update 93 = .ok (.aload_n 0, 1) := by decide +kernel
theorem dX7_update_94 : decode cX7_update 94 = .ok (.getfield 45, 3) := by decide +kernel
theorem dX7_update_97 : decode cX7_update 97 = .ok (.invokevirtual 135, 3) := by decide +kernel
theorem dX7_update_100 : decode cX7_update 100 = .ok (.ireturn, 1) := by decide +kernel
theorem dX7_write_0 : decode cX7_write 0 = .ok (.iload_n 1, 1) := by decide +kernel
theorem dX7_write_1 : decode cX7_write 1 = .ok (.ifCond .lt 10, 3) := by decide +kernel
theorem dX7_write_4 : decode cX7_write 4 = .ok (.iload_n 1, 1) := by decide +kernel
theorem dX7_write_5 : decode cX7_write 5 = .ok (.sipush 1000, 3) := by decide +kernel
theorem dX7_write_8 : decode cX7_write 8 = .ok (.if_icmp .le 5, 3) := by decide +kernel
theorem dX7_write_11 : decode cX7_write 11 = .ok (.iconst (-1), 1) := by decide +kernel
theorem dX7_write_12 : decode cX7_write 12 = .ok (.ireturn, 1) := by decide +kernel
theorem dX7_write_13 : decode cX7_write 13 = .ok (.aload_n 0, 1) := by decide +kernel
theorem dX7_write_14 : decode cX7_write 14 = .ok (.getfield 45, 3) := by decide +kernel
theorem dX7_write_17 : decode cX7_write 17 = .ok (.getfield 124, 3) := by decide +kernel
theorem dX7_write_20 : decode cX7_write 20 = .ok (.ifCond .eq 13, 3) := by decide +kernel
theorem dX7_write_23 : decode cX7_write 23 = .ok (.aload_n 0, 1) := by decide +kernel
theorem dX7_write_24 : decode cX7_write 24 = .ok (.getfield 45, 3) := by decide +kernel
theorem dX7_write_27 : decode cX7_write 27 = .ok (.getfield 138, 3) := by decide +kernel
theorem dX7_write_30 : decode cX7_write 30 = .ok (.ifCond .eq 6, 3) := by decide +kernel
theorem dX7_write_33 : decode cX7_write 33 = .ok (.bipush (-2), 2) := by decide +kernel
theorem dX7_write_35 : decode cX7_write 35 = .ok (.ireturn, 1) := by decide +kernel
theorem dX7_write_36 : decode cX7_write 36 = .ok (.aload_n 0, 1) := by decide +kernel
theorem dX7_write_37 : decode cX7_write 37 = .ok (.getfield 45, 3) := by decide +kernel
theorem dX7_write_40 : decode cX7_write 40 = .ok (.iload_n 1, 1) := by decide +kernel
theorem dX7_write_41 : decode cX7_write 41 = .ok (.invokevirtual 141, 3) := by decide +kernel
theorem dX7_write_44 : decode cX7_write 44 = .ok (.ireturn, 1) := by decide +kernel
theorem dX7_cut_0 : decode cX7_cut 0 = .ok (.aload_n 0, 1) := by decide +kernel
theorem dX7_cut_1 : decode cX7_cut 1 = .ok (.getfield 45, 3) := by decide +kernel
theorem dX7_cut_4 : decode cX7_cut 4 = .ok (.getfield 124, 3) := by decide +kernel
theorem dX7_cut_7 : decode cX7_cut 7 = .ok (.ifCond .eq 13, 3) := by decide +kernel
theorem dX7_cut_10 : decode cX7_cut 10 = .ok (.aload_n 0, 1) := by decide +kernel
theorem dX7_cut_11 : decode cX7_cut 11 = .ok (.getfield 45, 3) := by decide +kernel
theorem dX7_cut_14 : decode cX7_cut 14 = .ok (.getfield 138, 3) := by decide +kernel
theorem dX7_cut_17 : decode cX7_cut 17 = .ok (.ifCond .eq 5, 3) := by decide +kernel
theorem dX7_cut_20 : decode cX7_cut 20 = .ok (.iconst 0, 1) := by decide +kernel
theorem dX7_cut_21 : decode cX7_cut 21 = .ok (.ireturn, 1) := by decide +kernel
theorem dX7_cut_22 : decode cX7_cut 22 = .ok (.aload_n 0, 1) := by decide +kernel
theorem dX7_cut_23 : decode cX7_cut 23 = .ok (.getfield 45, 3) := by decide +kernel
theorem dX7_cut_26 : decode cX7_cut 26 = .ok (.iconst 1, 1) := by decide +kernel
theorem dX7_cut_27 : decode cX7_cut 27 = .ok (.putfield 138, 3) := by decide +kernel
theorem dX7_cut_30 : decode cX7_cut 30 = .ok (.iconst 1, 1) := by decide +kernel
theorem dX7_cut_31 : decode cX7_cut 31 = .ok (.ireturn, 1) := by decide +kernel
theorem dX7_on_0 : decode cX7_on 0 = .ok (.aload_n 0, 1) := by decide +kernel
theorem dX7_on_1 : decode cX7_on 1 = .ok (.getfield 45, 3) := by decide +kernel
theorem dX7_on_4 : decode cX7_on 4 = .ok (.getfield 138, 3) := by decide +kernel
theorem dX7_on_7 : decode cX7_on 7 = .ok (.ifCond .ne 6, 3) := by decide +kernel
theorem dX7_on_10 : decode cX7_on 10 = .ok (.bipush (-2), 2) := by decide +kernel
theorem dX7_on_12 : decode cX7_on 12 = .ok (.ireturn, 1) := by decide +kernel
theorem dX7_on_13 : decode cX7_on 13 = .ok (.aload_n 0, 1) := by decide +kernel
theorem dX7_on_14 : decode cX7_on 14 = .ok (.getfield 45, 3) := by decide +kernel
theorem dX7_on_17 : decode cX7_on 17 = .ok (.invokevirtual 144, 3) := by decide +kernel
theorem dX7_on_20 : decode cX7_on 20 = .ok (.aload_n 0, 1) := by decide +kernel
theorem dX7_on_21 : decode cX7_on 21 = .ok (.getfield 45, 3) := by decide +kernel
theorem dX7_on_24 : decode cX7_on 24 = .ok (.invokevirtual 135, 3) := by decide +kernel
theorem dX7_on_27 : decode cX7_on 27 = .ok (.ireturn, 1) := by decide +kernel
theorem dX7_device_0 : decode cX7_device 0 = .ok (.iload_n 1, 1) := by decide +kernel
theorem dX7_device_1 : decode cX7_device 1 = .ok (.bipush 10, 2) := by decide +kernel
theorem dX7_device_3 : decode cX7_device 3 = .ok (.if_icmp .ge 14, 3) := by decide +kernel
theorem dX7_device_6 : decode cX7_device 6 = .ok (.aload_n 0, 1) := by decide +kernel
theorem dX7_device_7 : decode cX7_device 7 = .ok (.getfield 45, 3) := by decide +kernel
theorem dX7_device_10 : decode cX7_device 10 = .ok (.iload_n 1, 1) := by decide +kernel
theorem dX7_device_11 : decode cX7_device 11 = .ok (.invokevirtual 147, 3) := by decide +kernel
theorem dX7_device_14 : decode cX7_device 14 = .ok (.goto 14, 3) := by decide +kernel
theorem dX7_device_17 : decode cX7_device 17 = .ok (.aload_n 0, 1) := by decide +kernel
theorem dX7_device_18 : decode cX7_device 18 = .ok (.getfield 45, 3) := by decide +kernel
theorem dX7_device_21 : decode cX7_device 21 = .ok (.iload_n 1, 1) := by decide +kernel
theorem dX7_device_22 : decode cX7_device 22 = .ok (.bipush 10, 2) := by decide +kernel
theorem dX7_device_24 : decode cX7_device 24 = .ok (.isub, 1) := by decide +kernel
theorem dX7_device_25 : decode cX7_device 25 = .ok (.invokevirtual 149, 3) := by decide +kernel
theorem dX7_device_28 : decode cX7_device 28 = .ok (.ireturn, 1) := by decide +kernel
theorem dX7_fleet_0 : decode cX7_fleet 0 = .ok (.aload_n 0, 1) := by decide +kernel
theorem dX7_fleet_1 : decode cX7_fleet 1 = .ok (.getfield 21, 3) := by decide +kernel
theorem dX7_fleet_4 : decode cX7_fleet 4 = .ok (.iload_n 1, 1) := by decide +kernel
theorem dX7_fleet_5 : decode cX7_fleet 5 = .ok (.invokevirtual 67, 3) := by decide +kernel
theorem dX7_fleet_8 : decode cX7_fleet 8 = .ok (.ifCond .eq 14, 3) := by decide +kernel
theorem dX7_fleet_11 : decode cX7_fleet 11 = .ok (.iload_n 2, 1) := by decide +kernel
theorem dX7_fleet_12 : decode cX7_fleet 12 = .ok (.ifCond .lt 10, 3) := by decide +kernel
theorem dX7_fleet_15 : decode cX7_fleet 15 = .ok (.iload_n 2, 1) := by decide +kernel
theorem dX7_fleet_16 : decode cX7_fleet 16 = .ok (.sipush 1000, 3) := by decide +kernel
theorem dX7_fleet_19 : decode cX7_fleet 19 = .ok (.if_icmp .le 5, 3) := by decide +kernel
theorem dX7_fleet_22 : decode cX7_fleet 22 = .ok (.iconst 0, 1) := by decide +kernel
theorem dX7_fleet_23 : decode cX7_fleet 23 = .ok (.ireturn, 1) := by decide +kernel
theorem dX7_fleet_24 : decode cX7_fleet 24 = .ok (.aload_n 0, 1) := by decide +kernel
theorem dX7_fleet_25 : decode cX7_fleet 25 = .ok (.getfield 52, 3) := by decide +kernel
theorem dX7_fleet_28 : decode cX7_fleet 28 = .ok (.iload_n 1, 1) := by decide +kernel
theorem dX7_fleet_29 : decode cX7_fleet 29 = .ok (.iload_n 2, 1) := by decide +kernel
theorem dX7_fleet_30 : decode cX7_fleet 30 = .ok (.invokevirtual 152, 3) := by decide +kernel
theorem dX7_fleet_33 : decode cX7_fleet 33 = .ok (.iconst 1, 1) := by decide +kernel
theorem dX7_fleet_34 : decode cX7_fleet 34 = .ok (.ireturn, 1) := by decide +kernel
theorem dX7_hold_0 : decode cX7_hold 0 = .ok (.aload_n 0, 1) := by decide +kernel
theorem dX7_hold_1 : decode cX7_hold 1 = .ok (.getfield 21, 3) := by decide +kernel
theorem dX7_hold_4 : decode cX7_hold 4 = .ok (.iload_n 1, 1) := by decide +kernel
theorem dX7_hold_5 : decode cX7_hold 5 = .ok (.invokevirtual 67, 3) := by decide +kernel
theorem dX7_hold_8 : decode cX7_hold 8 = .ok (.ifCond .eq 19, 3) := by decide +kernel
theorem dX7_hold_11 : decode cX7_hold 11 = .ok (.aload_n 0, 1) := by decide +kernel
theorem dX7_hold_12 : decode cX7_hold 12 = .ok (.getfield 21, 3) := by decide +kernel
theorem dX7_hold_15 : decode cX7_hold 15 = .ok (.iload_n 2, 1) := by decide +kernel
theorem dX7_hold_16 : decode cX7_hold 16 = .ok (.invokevirtual 67, 3) := by decide +kernel
theorem dX7_hold_19 : decode cX7_hold 19 = .ok (.ifCond .eq 8, 3) := by decide +kernel
theorem dX7_hold_22 : decode cX7_hold 22 = .ok (.iload_n 1, 1) := by decide +kernel
theorem dX7_hold_23 : decode cX7_hold 23 = .ok (.iload_n 2, 1) := by decide +kernel
theorem dX7_hold_24 : decode cX7_hold 24 = .ok (.if_icmp .lt 5, 3) := by decide +kernel
theorem dX7_hold_27 : decode cX7_hold 27 = .ok (.iconst 0, 1) := by decide +kernel
theorem dX7_hold_28 : decode cX7_hold 28 = .ok (.ireturn, 1) := by decide +kernel
theorem dX7_hold_29 : decode cX7_hold 29 = .ok (.aload_n 0, 1) := by decide +kernel
theorem dX7_hold_30 : decode cX7_hold 30 = .ok (.getfield 52, 3) := by decide +kernel
theorem dX7_hold_33 : decode cX7_hold 33 = .ok (.iload_n 1, 1) := by decide +kernel
theorem dX7_hold_34 : decode cX7_hold 34 = .ok (.iload_n 2, 1) := by decide +kernel
theorem dX7_hold_35 : decode cX7_hold 35 = .ok (.iload_n 3, 1) := by decide +kernel
theorem dX7_hold_36 : decode cX7_hold 36 = .ok (.invokevirtual 156, 3) := by decide +kernel
theorem dX7_hold_39 : decode cX7_hold 39 = .ok (.ireturn, 1) := by decide +kernel
theorem dX7_sent_0 : decode cX7_sent 0 = .ok (.aload_n 0, 1) := by decide +kernel
theorem dX7_sent_1 : decode cX7_sent 1 = .ok (.getfield 21, 3) := by decide +kernel
theorem dX7_sent_4 : decode cX7_sent 4 = .ok (.invokevirtual 160, 3) := by decide +kernel
theorem dX7_sent_7 : decode cX7_sent 7 = .ok (.iconst (-1), 1) := by decide +kernel
theorem dX7_sent_8 : decode cX7_sent 8 = .ok (.if_icmp .ne 5, 3) := by decide +kernel
theorem dX7_sent_11 : decode cX7_sent 11 = .ok (.iconst (-1), 1) := by decide +kernel
theorem dX7_sent_12 : decode cX7_sent 12 = .ok (.ireturn, 1) := by decide +kernel
theorem dX7_sent_13 : decode cX7_sent 13 = .ok (.aload_n 0, 1) := by decide +kernel
theorem dX7_sent_14 : decode cX7_sent 14 = .ok (.getfield 52, 3) := by decide +kernel
theorem dX7_sent_17 : decode cX7_sent 17 = .ok (.aload_n 0, 1) := by decide +kernel
theorem dX7_sent_18 : decode cX7_sent 18 = .ok (.getfield 21, 3) := by decide +kernel
theorem dX7_sent_21 : decode cX7_sent 21 = .ok (.aload_n 0, 1) := by decide +kernel
theorem dX7_sent_22 : decode cX7_sent 22 = .ok (.getfield 52, 3) := by decide +kernel
theorem dX7_sent_25 : decode cX7_sent 25 = .ok (.getfield 163, 3) := by decide +kernel
theorem dX7_sent_28 : decode cX7_sent 28 = .ok (.invokevirtual 166, 3) := by decide +kernel
theorem dX7_sent_31 : decode cX7_sent 31 = .ok (.aload_n 0, 1) := by decide +kernel
theorem dX7_sent_32 : decode cX7_sent 32 = .ok (.getfield 52, 3) := by decide +kernel
theorem dX7_sent_35 : decode cX7_sent 35 = .ok (.aload_n 0, 1) := by decide +kernel
theorem dX7_sent_36 : decode cX7_sent 36 = .ok (.getfield 52, 3) := by decide +kernel
theorem dX7_sent_39 : decode cX7_sent 39 = .ok (.getfield 163, 3) := by decide +kernel
theorem dX7_sent_42 : decode cX7_sent 42 = .ok (.invokevirtual 170, 3) := by decide +kernel
theorem dX7_sent_45 : decode cX7_sent 45 = .ok (.ireturn, 1) := by decide +kernel
theorem dX7_best_0 : decode cX7_best 0 = .ok (.iload_n 1, 1) := by decide +kernel
theorem dX7_best_1 : decode cX7_best 1 = .ok (.ifCond .lt 28, 3) := by decide +kernel
theorem dX7_best_4 : decode cX7_best 4 = .ok (.iload_n 1, 1) := by decide +kernel
theorem dX7_best_5 : decode cX7_best 5 = .ok (.iconst 3, 1) := by decide +kernel
theorem dX7_best_6 : decode cX7_best 6 = .ok (.if_icmp .gt 23, 3) := by decide +kernel
theorem dX7_best_9 : decode cX7_best 9 = .ok (.iload_n 2, 1) := by decide +kernel
theorem dX7_best_10 : decode cX7_best 10 = .ok (.ifCond .lt 19, 3) := by decide +kernel
theorem dX7_best_13 : decode cX7_best 13 = .ok (.iload_n 2, 1) := by decide +kernel
theorem dX7_best_14 : decode cX7_best 14 = .ok (.iconst 2, 1) := by decide +kernel
theorem dX7_best_15 : decode cX7_best 15 = .ok (.if_icmp .gt 14, 3) := by decide +kernel
theorem dX7_best_18 : decode cX7_best 18 = .ok (.aload_n 0, 1) := by decide +kernel
theorem dX7_best_19 : decode cX7_best 19 = .ok (.getfield 21, 3) := by decide +kernel
theorem dX7_best_22 : decode cX7_best 22 = .ok (.invokevirtual 160, 3) := by decide +kernel
theorem dX7_best_25 : decode cX7_best 25 = .ok (.iconst (-1), 1) := by decide +kernel
theorem dX7_best_26 : decode cX7_best 26 = .ok (.if_icmp .ne 5, 3) := by decide +kernel
theorem dX7_best_29 : decode cX7_best 29 = .ok (.iconst (-1), 1) := by decide +kernel
theorem dX7_best_30 : decode cX7_best 30 = .ok (.ireturn, 1) := by decide +kernel
theorem dX7_best_31 : decode cX7_best 31 = .ok (.aload_n 0, 1) := by decide +kernel
theorem dX7_best_32 : decode cX7_best 32 = .ok (.getfield 52, 3) := by decide +kernel
theorem dX7_best_35 : decode cX7_best 35 = .ok (.aload_n 0, 1) := by decide +kernel
theorem dX7_best_36 : decode cX7_best 36 = .ok (.getfield 21, 3) := by decide +kernel
theorem dX7_best_39 : decode cX7_best 39 = .ok (.iload_n 1, 1) := by decide +kernel
theorem dX7_best_40 : decode cX7_best 40 = .ok (.ifCond .ne 7, 3) := by decide +kernel
theorem dX7_best_43 : decode cX7_best 43 = .ok (.iconst 0, 1) := by decide +kernel
theorem dX7_best_44 : decode cX7_best 44 = .ok (.goto 6, 3) := by decide +kernel
theorem dX7_best_47 : decode cX7_best 47 = .ok (.sipush 1023, 3) := by decide +kernel
theorem dX7_best_50 : decode cX7_best 50 = .ok (.invokevirtual 166, 3) := by decide +kernel
theorem dX7_best_53 : decode cX7_best 53 = .ok (.aload_n 0, 1) := by decide +kernel
theorem dX7_best_54 : decode cX7_best 54 = .ok (.getfield 52, 3) := by decide +kernel
theorem dX7_best_57 : decode cX7_best 57 = .ok (.iload_n 1, 1) := by decide +kernel
theorem dX7_best_58 : decode cX7_best 58 = .ok (.invokevirtual 173, 3) := by decide +kernel
theorem dX7_best_61 : decode cX7_best 61 = .ok (.iload_n 2, 1) := by decide +kernel
theorem dX7_best_62 : decode cX7_best 62 = .ok (.lookupswitch 45 #[(0, 26), (1, 34)], 26) := by decide +kernel
theorem dX7_best_88 : decode cX7_best 88 = .ok (.aload_n 0, 1) := by decide +kernel
theorem dX7_best_89 : decode cX7_best 89 = .ok (.getfield 52, 3) := by decide +kernel
theorem dX7_best_92 : decode cX7_best 92 = .ok (.getfield 176, 3) := by decide +kernel
theorem dX7_best_95 : decode cX7_best 95 = .ok (.ireturn, 1) := by decide +kernel
theorem dX7_best_96 : decode cX7_best 96 = .ok (.aload_n 0, 1) := by decide +kernel
theorem dX7_best_97 : decode cX7_best 97 = .ok (.getfield 52, 3) := by decide +kernel
theorem dX7_best_100 : decode cX7_best 100 = .ok (.getfield 179, 3) := by decide +kernel
theorem dX7_best_103 : decode cX7_best 103 = .ok (.invokestatic 182, 3) := by decide +kernel
theorem dX7_best_106 : decode cX7_best 106 = .ok (.ireturn, 1) := by decide +kernel
theorem dX7_best_107 : decode cX7_best 107 = .ok (.aload_n 0, 1) := by decide +kernel
theorem dX7_best_108 : decode cX7_best 108 = .ok (.getfield 52, 3) := by decide +kernel
theorem dX7_best_111 : decode cX7_best 111 = .ok (.getfield 179, 3) := by decide +kernel
theorem dX7_best_114 : decode cX7_best 114 = .ok (.ireturn, 1) := by decide +kernel
theorem dX7_stepPrice_0 : decode cX7_stepPrice 0 = .ok (.iload_n 0, 1) := by decide +kernel
theorem dX7_stepPrice_1 : decode cX7_stepPrice 1 = .ok (.lookupswitch 31 #[(0, 27), (1, 29)], 27) := by decide +kernel
theorem dX7_stepPrice_28 : decode cX7_stepPrice 28 = .ok (.iconst 4, 1) := by decide +kernel
theorem dX7_stepPrice_29 : decode cX7_stepPrice 29 = .ok (.ireturn, 1) := by decide +kernel
theorem dX7_stepPrice_30 : decode cX7_stepPrice 30 = .ok (.iconst 5, 1) := by decide +kernel
theorem dX7_stepPrice_31 : decode cX7_stepPrice 31 = .ok (.ireturn, 1) := by decide +kernel
theorem dX7_stepPrice_32 : decode cX7_stepPrice 32 = .ok (.iconst 1, 1) := by decide +kernel
theorem dX7_stepPrice_33 : decode cX7_stepPrice 33 = .ok (.iload_n 1, 1) := by decide +kernel
theorem dX7_stepPrice_34 : decode cX7_stepPrice 34 = .ok (.iadd, 1) := by decide +kernel
theorem dX7_stepPrice_35 : decode cX7_stepPrice 35 = .ok (.ireturn, 1) := by decide +kernel
theorem dX8_init_0 : decode cX8_init 0 = .ok (.aload_n 0, 1) := by decide +kernel
theorem dX8_init_1 : decode cX8_init 1 = .ok (.invokespecial 1, 3) := by decide +kernel
theorem dX8_init_4 : decode cX8_init 4 = .ok (.aload_n 0, 1) := by decide +kernel
theorem dX8_init_5 : decode cX8_init 5 = .ok (.sipush 200, 3) := by decide +kernel
theorem dX8_init_8 : decode cX8_init 8 = .ok (.newarray .byte, 2) := by decide +kernel
theorem dX8_init_10 : decode cX8_init 10 = .ok (.putfield 7, 3) := by decide +kernel
theorem dX8_init_13 : decode cX8_init 13 = .ok (.aload_n 0, 1) := by decide +kernel
theorem dX8_init_14 : decode cX8_init 14 = .ok (.sipush 600, 3) := by decide +kernel
theorem dX8_init_17 : decode cX8_init 17 = .ok (.newarray .byte, 2) := by decide +kernel
theorem dX8_init_19 : decode cX8_init 19 = .ok (.putfield 13, 3) := by decide +kernel
theorem dX8_init_22 : decode cX8_init 22 = .ok (.aload_n 0, 1) := by decide +kernel
theorem dX8_init_23 : decode cX8_init 23 = .ok (.iconst 5, 1) := by decide +kernel
theorem dX8_init_24 : decode cX8_init 24 = .ok (.newarray .int, 2) := by decide +kernel
theorem dX8_init_26 : decode cX8_init 26 = .ok (.putfield 16, 3) := by decide +kernel
theorem dX8_init_29 : decode cX8_init 29 = .ok (.aload_n 0, 1) := by decide +kernel
theorem dX8_init_30 : decode cX8_init 30 = .ok (.sipush 14641, 3) := by decide +kernel
theorem dX8_init_33 : decode cX8_init 33 = .ok (.newarray .int, 2) := by decide +kernel
theorem dX8_init_35 : decode cX8_init 35 = .ok (.putfield 20, 3) := by decide +kernel
theorem dX8_init_38 : decode cX8_init 38 = .ok (.aload_n 0, 1) := by decide +kernel
theorem dX8_init_39 : decode cX8_init 39 = .ok (.bipush 121, 2) := by decide +kernel
theorem dX8_init_41 : decode cX8_init 41 = .ok (.newarray .int, 2) := by decide +kernel
theorem dX8_init_43 : decode cX8_init 43 = .ok (.putfield 23, 3) := by decide +kernel
theorem dX8_init_46 : decode cX8_init 46 = .ok (.aload_n 0, 1) := by decide +kernel
theorem dX8_init_47 : decode cX8_init 47 = .ok (.bipush 120, 2) := by decide +kernel
theorem dX8_init_49 : decode cX8_init 49 = .ok (.newarray .int, 2) := by decide +kernel
theorem dX8_init_51 : decode cX8_init 51 = .ok (.putfield 26, 3) := by decide +kernel
theorem dX8_init_54 : decode cX8_init 54 = .ok (.aload_n 0, 1) := by decide +kernel
theorem dX8_init_55 : decode cX8_init 55 = .ok (.bipush 120, 2) := by decide +kernel
theorem dX8_init_57 : decode cX8_init 57 = .ok (.newarray .int, 2) := by decide +kernel
theorem dX8_init_59 : decode cX8_init 59 = .ok (.putfield 29, 3) := by decide +kernel
theorem dX8_init_62 : decode cX8_init 62 = .ok (.aload_n 0, 1) := by decide +kernel
theorem dX8_init_63 : decode cX8_init 63 = .ok (.bipush 120, 2) := by decide +kernel
theorem dX8_init_65 : decode cX8_init 65 = .ok (.newarray .int, 2) := by decide +kernel
theorem dX8_init_67 : decode cX8_init 67 = .ok (.putfield 32, 3) := by decide +kernel
theorem dX8_init_70 : decode cX8_init 70 = .ok (.aload_n 0, 1) := by decide +kernel
theorem dX8_init_71 : decode cX8_init 71 = .ok (.bipush 120, 2) := by decide +kernel
theorem dX8_init_73 : decode cX8_init 73 = .ok (.newarray .int, 2) := by decide +kernel
theorem dX8_init_75 : decode cX8_init 75 = .ok (.putfield 35, 3) := by decide +kernel
theorem dX8_init_78 : decode cX8_init 78 = .ok (.aload_n 0, 1) := by decide +kernel
theorem dX8_init_79 : decode cX8_init 79 = .ok (.bipush 120, 2) := by decide +kernel
theorem dX8_init_81 : decode cX8_init 81 = .ok (.newarray .int, 2) := by decide +kernel
theorem dX8_init_83 : decode cX8_init 83 = .ok (.putfield 38, 3) := by decide +kernel
theorem dX8_init_86 : decode cX8_init 86 = .ok (.aload_n 0, 1) := by decide +kernel
theorem dX8_init_87 : decode cX8_init 87 = .ok (.bipush 120, 2) := by decide +kernel
theorem dX8_init_89 : decode cX8_init 89 = .ok (.newarray .int, 2) := by decide +kernel
theorem dX8_init_91 : decode cX8_init 91 = .ok (.putfield 41, 3) := by decide +kernel
theorem dX8_init_94 : decode cX8_init 94 = .ok (.aload_n 0, 1) := by decide +kernel
theorem dX8_init_95 : decode cX8_init 95 = .ok (.bipush 120, 2) := by decide +kernel
theorem dX8_init_97 : decode cX8_init 97 = .ok (.newarray .int, 2) := by decide +kernel
theorem dX8_init_99 : decode cX8_init 99 = .ok (.putfield 44, 3) := by decide +kernel
theorem dX8_init_102 : decode cX8_init 102 = .ok (.aload_n 0, 1) := by decide +kernel
theorem dX8_init_103 : decode cX8_init 103 = .ok (.bipush 120, 2) := by decide +kernel
theorem dX8_init_105 : decode cX8_init 105 = .ok (.newarray .int, 2) := by decide +kernel
theorem dX8_init_107 : decode cX8_init 107 = .ok (.putfield 47, 3) := by decide +kernel
theorem dX8_init_110 : decode cX8_init 110 = .ok (.aload_n 0, 1) := by decide +kernel
theorem dX8_init_111 : decode cX8_init 111 = .ok (.bipush 120, 2) := by decide +kernel
theorem dX8_init_113 : decode cX8_init 113 = .ok (.newarray .int, 2) := by decide +kernel
theorem dX8_init_115 : decode cX8_init 115 = .ok (.putfield 50, 3) := by decide +kernel
theorem dX8_init_118 : decode cX8_init 118 = .ok (.aload_n 0, 1) := by decide +kernel
theorem dX8_init_119 : decode cX8_init 119 = .ok (.bipush 120, 2) := by decide +kernel
theorem dX8_init_121 : decode cX8_init 121 = .ok (.newarray .int, 2) := by decide +kernel
theorem dX8_init_123 : decode cX8_init 123 = .ok (.putfield 53, 3) := by decide +kernel
theorem dX8_init_126 : decode cX8_init 126 = .ok (.aload_n 0, 1) := by decide +kernel
theorem dX8_init_127 : decode cX8_init 127 = .ok (.bipush 120, 2) := by decide +kernel
theorem dX8_init_129 : decode cX8_init 129 = .ok (.newarray .int, 2) := by decide +kernel
theorem dX8_init_131 : decode cX8_init 131 = .ok (.putfield 56, 3) := by decide +kernel
theorem dX8_init_134 : decode cX8_init 134 = .ok (.aload_n 0, 1) := by decide +kernel
theorem dX8_init_135 : decode cX8_init 135 = .ok (.bipush 120, 2) := by decide +kernel
theorem dX8_init_137 : decode cX8_init 137 = .ok (.newarray .int, 2) := by decide +kernel
theorem dX8_init_139 : decode cX8_init 139 = .ok (.putfield 59, 3) := by decide +kernel
theorem dX8_init_142 : decode cX8_init 142 = .ok (.aload_n 0, 1) := by decide +kernel
theorem dX8_init_143 : decode cX8_init 143 = .ok (.bipush 120, 2) := by decide +kernel
theorem dX8_init_145 : decode cX8_init 145 = .ok (.newarray .boolean, 2) := by decide +kernel
theorem dX8_init_147 : decode cX8_init 147 = .ok (.putfield 62, 3) := by decide +kernel
theorem dX8_init_150 : decode cX8_init 150 = .ok (.aload_n 0, 1) := by decide +kernel
theorem dX8_init_151 : decode cX8_init 151 = .ok (.bipush 120, 2) := by decide +kernel
theorem dX8_init_153 : decode cX8_init 153 = .ok (.newarray .byte, 2) := by decide +kernel
theorem dX8_init_155 : decode cX8_init 155 = .ok (.putfield 66, 3) := by decide +kernel
theorem dX8_init_158 : decode cX8_init 158 = .ok (.aload_n 0, 1) := by decide +kernel
theorem dX8_init_159 : decode cX8_init 159 = .ok (.bipush 120, 2) := by decide +kernel
theorem dX8_init_161 : decode cX8_init 161 = .ok (.newarray .byte, 2) := by decide +kernel
theorem dX8_init_163 : decode cX8_init 163 = .ok (.putfield 69, 3) := by decide +kernel
theorem dX8_init_166 : decode cX8_init 166 = .ok (.aload_n 0, 1) := by decide +kernel
theorem dX8_init_167 : decode cX8_init 167 = .ok (.bipush 120, 2) := by decide +kernel
theorem dX8_init_169 : decode cX8_init 169 = .ok (.newarray .int, 2) := by decide +kernel
theorem dX8_init_171 : decode cX8_init 171 = .ok (.putfield 72, 3) := by decide +kernel
theorem dX8_init_174 : decode cX8_init 174 = .ok (.aload_n 0, 1) := by decide +kernel
theorem dX8_init_175 : decode cX8_init 175 = .ok (.bipush 120, 2) := by decide +kernel
theorem dX8_init_177 : decode cX8_init 177 = .ok (.newarray .int, 2) := by decide +kernel
theorem dX8_init_179 : decode cX8_init 179 = .ok (.putfield 75, 3) := by decide +kernel
theorem dX8_init_182 : decode cX8_init 182 = .ok (.aload_n 0, 1) := by decide +kernel
theorem dX8_init_183 : decode cX8_init 183 = .ok (.bipush 120, 2) := by decide +kernel
theorem dX8_init_185 : decode cX8_init 185 = .ok (.newarray .int, 2) := by decide +kernel
theorem dX8_init_187 : decode cX8_init 187 = .ok (.putfield 78, 3) := by decide +kernel
theorem dX8_init_190 : decode cX8_init 190 = .ok (.aload_n 0, 1) := by decide +kernel
theorem dX8_init_191 : decode cX8_init 191 = .ok (.bipush 120, 2) := by decide +kernel
theorem dX8_init_193 : decode cX8_init 193 = .ok (.newarray .int, 2) := by decide +kernel
theorem dX8_init_195 : decode cX8_init 195 = .ok (.putfield 81, 3) := by decide +kernel
theorem dX8_init_198 : decode cX8_init 198 = .ok (.aload_n 0, 1) := by decide +kernel
theorem dX8_init_199 : decode cX8_init 199 = .ok (.bipush 120, 2) := by decide +kernel
theorem dX8_init_201 : decode cX8_init 201 = .ok (.newarray .int, 2) := by decide +kernel
theorem dX8_init_203 : decode cX8_init 203 = .ok (.putfield 84, 3) := by decide +kernel
theorem dX8_init_206 : decode cX8_init 206 = .ok (.aload_n 0, 1) := by decide +kernel
theorem dX8_init_207 : decode cX8_init 207 = .ok (.iconst 5, 1) := by decide +kernel
theorem dX8_init_208 : decode cX8_init 208 = .ok (.newarray .int, 2) := by decide +kernel
theorem dX8_init_210 : decode cX8_init 210 = .ok (.putfield 87, 3) := by decide +kernel
theorem dX8_init_213 : decode cX8_init 213 = .ok (.aload_n 0, 1) := by decide +kernel
theorem dX8_init_214 : decode cX8_init 214 = .ok (.bipush 10, 2) := by decide +kernel
theorem dX8_init_216 : decode cX8_init 216 = .ok (.newarray .boolean, 2) := by decide +kernel
theorem dX8_init_218 : decode cX8_init 218 = .ok (.putfield 90, 3) := by decide +kernel
theorem dX8_init_221 : decode cX8_init 221 = .ok (.aload_n 0, 1) := by decide +kernel
theorem dX8_init_222 : decode cX8_init 222 = .ok (.bipush 10, 2) := by decide +kernel
theorem dX8_init_224 : decode cX8_init 224 = .ok (.newarray .int, 2) := by decide +kernel
theorem dX8_init_226 : decode cX8_init 226 = .ok (.putfield 93, 3) := by decide +kernel
theorem dX8_init_229 : decode cX8_init 229 = .ok (.aload_n 0, 1) := by decide +kernel
theorem dX8_init_230 : decode cX8_init 230 = .ok (.iconst 5, 1) := by decide +kernel
theorem dX8_init_231 : decode cX8_init 231 = .ok (.newarray .int, 2) := by decide +kernel
theorem dX8_init_233 : decode cX8_init 233 = .ok (.putfield 96, 3) := by decide +kernel
theorem dX8_init_236 : decode cX8_init 236 = .ok (.return_, 1) := by decide +kernel
theorem dX8_isIn_0 : decode cX8_isIn 0 = .ok (.iload_n 0, 1) := by decide +kernel
theorem dX8_isIn_1 : decode cX8_isIn 1 = .ok (.iload_n 1, 1) := by decide +kernel
theorem dX8_isIn_2 : decode cX8_isIn 2 = .ok (.if_icmp .lt 12, 3) := by decide +kernel
theorem dX8_isIn_5 : decode cX8_isIn 5 = .ok (.iload_n 0, 1) := by decide +kernel
theorem dX8_isIn_6 : decode cX8_isIn 6 = .ok (.iload_n 2, 1) := by decide +kernel
theorem dX8_isIn_7 : decode cX8_isIn 7 = .ok (.if_icmp .gt 7, 3) := by decide +kernel
theorem dX8_isIn_10 : decode cX8_isIn 10 = .ok (.iconst 1, 1) := by decide +kernel
theorem dX8_isIn_11 : decode cX8_isIn 11 = .ok (.goto 4, 3) := by decide +kernel
theorem dX8_isIn_14 : decode cX8_isIn 14 = .ok (.iconst 0, 1) := by decide +kernel
theorem dX8_isIn_15 : decode cX8_isIn 15 = .ok (.ireturn, 1) := by decide +kernel
theorem dX8_isVersion_0 : decode cX8_isVersion 0 = .ok (.iload_n 1, 1) := by decide +kernel
theorem dX8_isVersion_1 : decode cX8_isVersion 1 = .ok (.iconst 0, 1) := by decide +kernel
theorem dX8_isVersion_2 : decode cX8_isVersion 2 = .ok (.iconst 4, 1) := by decide +kernel
theorem dX8_isVersion_3 : decode cX8_isVersion 3 = .ok (.invokestatic 99, 3) := by decide +kernel
theorem dX8_isVersion_6 : decode cX8_isVersion 6 = .ok (.ifCond .eq 16, 3) := by decide +kernel
theorem dX8_isVersion_9 : decode cX8_isVersion 9 = .ok (.aload_n 0, 1) := by decide +kernel
theorem dX8_isVersion_10 : decode cX8_isVersion 10 = .ok (.getfield 16, 3) := by decide +kernel
theorem dX8_isVersion_13 : decode cX8_isVersion 13 = .ok (.iload_n 1, 1) := by decide +kernel
theorem dX8_isVersion_14 : decode cX8_isVersion 14 = .ok (.iaload, 1) := by decide +kernel
theorem dX8_isVersion_15 : decode cX8_isVersion 15 = .ok (.ifCond .le 7, 3) := by decide +kernel
theorem dX8_isVersion_18 : decode cX8_isVersion 18 = .ok (.iconst 1, 1) := by decide +kernel
theorem dX8_isVersion_19 : decode cX8_isVersion 19 = .ok (.goto 4, 3) := by decide +kernel
theorem dX8_isVersion_22 : decode cX8_isVersion 22 = .ok (.iconst 0, 1) := by decide +kernel
theorem dX8_isVersion_23 : decode cX8_isVersion 23 = .ok (.ireturn, 1) := by decide +kernel
theorem dX8_feed_0 : decode cX8_feed 0 = .ok (.aload_n 0, 1) := by decide +kernel
theorem dX8_feed_1 : decode cX8_feed 1 = .ok (.getfield 103, 3) := by decide +kernel
theorem dX8_feed_4 : decode cX8_feed 4 = .ok (.bipush 20, 2) := by decide +kernel
theorem dX8_feed_6 : decode cX8_feed 6 = .ok (.iadd, 1) := by decide +kernel
theorem dX8_feed_7 : decode cX8_feed 7 = .ok (.sipush 200, 3) := by decide +kernel
theorem dX8_feed_10 : decode cX8_feed 10 = .ok (.if_icmp .le 5, 3) := by decide +kernel
theorem dX8_feed_13 : decode cX8_feed 13 = .ok (.iconst (-1), 1) := by decide +kernel
theorem dX8_feed_14 : decode cX8_feed 14 = .ok (.ireturn, 1) := by decide +kernel
theorem dX8_feed_15 : decode cX8_feed 15 = .ok (.aload_n 0, 1) := by decide +kernel
theorem dX8_feed_16 : decode cX8_feed 16 = .ok (.iload_n 1, 1) := by decide +kernel
theorem dX8_feed_17 : decode cX8_feed 17 = .ok (.invokevirtual 107, 3) := by decide +kernel
theorem dX8_feed_20 : decode cX8_feed 20 = .ok (.aload_n 0, 1) := by decide +kernel
theorem dX8_feed_21 : decode cX8_feed 21 = .ok (.iload_n 2, 1) := by decide +kernel
theorem dX8_feed_22 : decode cX8_feed 22 = .ok (.invokevirtual 107, 3) := by decide +kernel
theorem dX8_feed_25 : decode cX8_feed 25 = .ok (.aload_n 0, 1) := by decide +kernel
theorem dX8_feed_26 : decode cX8_feed 26 = .ok (.iload_n 3, 1) := by decide +kernel
theorem dX8_feed_27 : decode cX8_feed 27 = .ok (.invokevirtual 107, 3) := by decide +kernel
theorem dX8_feed_30 : decode cX8_feed 30 = .ok (.aload_n 0, 1) := by decide +kernel
theorem dX8_feed_31 : decode cX8_feed 31 = .ok (.iload 4, 2) := by decide +kernel
theorem dX8_feed_33 : decode cX8_feed 33 = .ok (.invokevirtual 107, 3) := by decide +kernel
theorem dX8_feed_36 : decode cX8_feed 36 = .ok (.aload_n 0, 1) := by decide +kernel
theorem dX8_feed_37 : decode cX8_feed 37 = .ok (.iload 5, 2) := by decide +kernel
theorem dX8_feed_39 : decode cX8_feed 39 = .ok (.invokevirtual 107, 3) := by decide +kernel
theorem dX8_feed_42 : decode cX8_feed 42 = .ok (.aload_n 0, 1) := by decide +kernel
theorem dX8_feed_43 : decode cX8_feed 43 = .ok (.getfield 103, 3) := by decide +kernel
theorem dX8_feed_46 : decode cX8_feed 46 = .ok (.ireturn, 1) := by decide +kernel
theorem dX8_four_0 : decode cX8_four 0 = .ok (.bipush 24, 2) := by decide +kernel
theorem dX8_four_2 : decode cX8_four 2 = .ok (.istore_n 2, 1) := by decide +kernel
theorem dX8_four_3 : decode cX8_four 3 = .ok (.iload_n 2, 1) := by decide +kernel
theorem dX8_four_4 : decode cX8_four 4 = .ok (.ifCond .lt 32, 3) := by decide +kernel
theorem dX8_four_7 : decode cX8_four 7 = .ok (.aload_n 0, 1) := by decide +kernel
theorem dX8_four_8 : decode cX8_four 8 = .ok (.getfield 7, 3) := by decide +kernel
theorem dX8_four_11 : decode cX8_four 11 = .ok (.aload_n 0, 1) := by decide +kernel
theorem dX8_four_12 : decode cX8_four 12 = .ok (.getfield 103, 3) := by decide +kernel
theorem dX8_four_15 : decode cX8_four 15 = .ok (.iload_n 1, 1) := by decide +kernel
theorem dX8_four_16 : decode cX8_four 16 = .ok (.iload_n 2, 1) := by decide +kernel
theorem dX8_four_17 : decode cX8_four 17 = .ok (.ishr, 1) := by decide +kernel
theorem dX8_four_18 : decode cX8_four 18 = .ok (.i2b, 1) := by decide +kernel
theorem dX8_four_19 : decode cX8_four 19 = .ok (.bastore, 1) := by decide +kernel
theorem dX8_four_20 : decode cX8_four 20 = .ok (.aload_n 0, 1) := by decide +kernel
theorem dX8_four_21 : decode cX8_four 21 = .ok (.dup, 1) := by decide +kernel
theorem dX8_four_22 : decode cX8_four 22 = .ok (.getfield 103, 3) := by decide +kernel
theorem dX8_four_25 : decode cX8_four 25 = .ok (.iconst 1, 1) := by decide +kernel
theorem dX8_four_26 : decode cX8_four 26 = .ok (.iadd, 1) := by decide +kernel
theorem dX8_four_27 : decode cX8_four 27 = .ok (.putfield 103, 3) := by decide +kernel
theorem dX8_four_30 : decode cX8_four 30 = .ok (.iinc 2 (-8), 3) := by decide +kernel
theorem dX8_four_33 : decode cX8_four 33 = .ok (.goto (-30), 3) := by decide +kernel
theorem dX8_four_36 : decode cX8_four 36 = .ok (.return_, 1) := by decide +kernel
theorem dX8_version_0 : decode cX8_version 0 = .ok (.iload_n 1, 1) := by decide +kernel
theorem dX8_version_1 : decode cX8_version 1 = .ok (.iconst 0, 1) := by decide +kernel
theorem dX8_version_2 : decode cX8_version 2 = .ok (.iconst 4, 1) := by decide +kernel
theorem dX8_version_3 : decode cX8_version 3 = .ok (.invokestatic 99, 3) := by decide +kernel
theorem dX8_version_6 : decode cX8_version 6 = .ok (.ifCond .eq 20, 3) := by decide +kernel
theorem dX8_version_9 : decode cX8_version 9 = .ok (.iload_n 2, 1) := by decide +kernel
theorem dX8_version_10 : decode cX8_version 10 = .ok (.iconst 1, 1) := by decide +kernel
theorem dX8_version_11 : decode cX8_version 11 = .ok (.bipush 120, 2) := by decide +kernel
theorem dX8_version_13 : decode cX8_version 13 = .ok (.aload_n 0, 1) := by decide +kernel
theorem dX8_version_14 : decode cX8_version 14 = .ok (.getfield 103, 3) := by decide +kernel
theorem dX8_version_17 : decode cX8_version 17 = .ok (.invokestatic 111, 3) := by decide +kernel
theorem dX8_version_20 : decode cX8_version 20 = .ok (.invokestatic 99, 3) := by decide +kernel
theorem dX8_version_23 : decode cX8_version 23 = .ok (.ifCond .ne 5, 3) := by decide +kernel
theorem dX8_version_26 : decode cX8_version 26 = .ok (.iconst (-1), 1) := by decide +kernel
theorem dX8_version_27 : decode cX8_version 27 = .ok (.ireturn, 1) := by decide +kernel
theorem dX8_version_28 : decode cX8_version 28 = .ok (.iconst 0, 1) := by decide +kernel
theorem dX8_version_29 : decode cX8_version 29 = .ok (.istore_n 3, 1) := by decide +kernel
theorem dX8_version_30 : decode cX8_version 30 = .ok (.iload_n 3, 1) := by decide +kernel
theorem dX8_version_31 : decode cX8_version 31 = .ok (.iload_n 2, 1) := by decide +kernel
theorem dX8_version_32 : decode cX8_version 32 = .ok (.if_icmp .ge 26, 3) := by decide +kernel
theorem dX8_version_35 : decode cX8_version 35 = .ok (.aload_n 0, 1) := by decide +kernel
theorem dX8_version_36 : decode cX8_version 36 = .ok (.getfield 13, 3) := by decide +kernel
theorem dX8_version_39 : decode cX8_version 39 = .ok (.bipush 120, 2) := by decide +kernel
theorem dX8_version_41 : decode cX8_version 41 = .ok (.iload_n 1, 1) := by decide +kernel
theorem dX8_version_42 : decode cX8_version 42 = .ok (.imul, 1) := by decide +kernel
theorem dX8_version_43 : decode cX8_version 43 = .ok (.iload_n 3, 1) := by decide +kernel
theorem dX8_version_44 : decode cX8_version 44 = .ok (.iadd, 1) := by decide +kernel
theorem dX8_version_45 : decode cX8_version 45 = .ok (.aload_n 0, 1) := by decide +kernel
theorem dX8_version_46 : decode cX8_version 46 = .ok (.getfield 7, 3) := by decide +kernel
theorem dX8_version_49 : decode cX8_version 49 = .ok (.iload_n 3, 1) := by decide +kernel
theorem dX8_version_50 : decode cX8_version 50 = .ok (.baload, 1) := by decide +kernel
theorem dX8_version_51 : decode cX8_version 51 = .ok (.bastore, 1) := by decide +kernel
theorem dX8_version_52 : decode cX8_version 52 = .ok (.iinc 3 1, 3) := by decide +kernel
theorem dX8_version_55 : decode cX8_version 55 = .ok (.goto (-25), 3) := by decide +kernel
theorem dX8_version_58 : decode cX8_version 58 = .ok (.aload_n 0, 1) := by decide +kernel
theorem dX8_version_59 : decode cX8_version 59 = .ok (.getfield 16, 3) := by decide +kernel
theorem dX8_version_62 : decode cX8_version 62 = .ok (.iload_n 1, 1) := by decide +kernel
theorem dX8_version_63 : decode cX8_version 63 = .ok (.iload_n 2, 1) := by decide +kernel
theorem dX8_version_64 : decode cX8_version 64 = .ok (.iastore, 1) := by decide +kernel
theorem dX8_version_65 : decode cX8_version 65 = .ok (.aload_n 0, 1) := by decide +kernel
theorem dX8_version_66 : decode cX8_version 66 = .ok (.iconst 0, 1) := by decide +kernel
theorem dX8_version_67 : decode cX8_version 67 = .ok (.putfield 103, 3) := by decide +kernel
theorem dX8_version_70 : decode cX8_version 70 = .ok (.iload_n 2, 1) := by decide +kernel
theorem dX8_version_71 : decode cX8_version 71 = .ok (.ireturn, 1) := by decide +kernel
theorem dX8_byteOf_0 : decode cX8_byteOf 0 = .ok (.aload_n 0, 1) := by decide +kernel
theorem dX8_byteOf_1 : decode cX8_byteOf 1 = .ok (.getfield 13, 3) := by decide +kernel
theorem dX8_byteOf_4 : decode cX8_byteOf 4 = .ok (.bipush 120, 2) := by decide +kernel
theorem dX8_byteOf_6 : decode cX8_byteOf 6 = .ok (.iload_n 1, 1) := by decide +kernel
theorem dX8_byteOf_7 : decode cX8_byteOf 7 = .ok (.imul, 1) := by decide +kernel
theorem dX8_byteOf_8 : decode cX8_byteOf 8 = .ok (.iload_n 2, 1) := by decide +kernel
theorem dX8_byteOf_9 : decode cX8_byteOf 9 = .ok (.iadd, 1) := by decide +kernel
theorem dX8_byteOf_10 : decode cX8_byteOf 10 = .ok (.baload, 1) := by decide +kernel
theorem dX8_byteOf_11 : decode cX8_byteOf 11 = .ok (.sipush 255, 3) := by decide +kernel
theorem dX8_byteOf_14 : decode cX8_byteOf 14 = .ok (.iand, 1) := by decide +kernel
theorem dX8_byteOf_15 : decode cX8_byteOf 15 = .ok (.ireturn, 1) := by decide +kernel
theorem dX8_told_0 : decode cX8_told 0 = .ok (.aload_n 0, 1) := by decide +kernel
theorem dX8_told_1 : decode cX8_told 1 = .ok (.iload_n 1, 1) := by decide +kernel
theorem dX8_told_2 : decode cX8_told 2 = .ok (.invokevirtual 117, 3) := by decide +kernel
theorem dX8_told_5 : decode cX8_told 5 = .ok (.ifCond .ne 7, 3) := by decide +kernel
theorem dX8_told_8 : decode cX8_told 8 = .ok (.iconst (-1), 1) := by decide +kernel
theorem dX8_told_9 : decode cX8_told 9 = .ok (.goto 43, 3) := by decide +kernel
theorem dX8_told_12 : decode cX8_told 12 = .ok (.iload_n 2, 1) := by decide +kernel
theorem dX8_told_13 : decode cX8_told 13 = .ok (.iconst (-1), 1) := by decide +kernel
theorem dX8_told_14 : decode cX8_told 14 = .ok (.if_icmp .ne 12, 3) := by decide +kernel
theorem dX8_told_17 : decode cX8_told 17 = .ok (.aload_n 0, 1) := by decide +kernel
theorem dX8_told_18 : decode cX8_told 18 = .ok (.getfield 16, 3) := by decide +kernel
theorem dX8_told_21 : decode cX8_told 21 = .ok (.iload_n 1, 1) := by decide +kernel
theorem dX8_told_22 : decode cX8_told 22 = .ok (.iaload, 1) := by decide +kernel
theorem dX8_told_23 : decode cX8_told 23 = .ok (.goto 29, 3) := by decide +kernel
theorem dX8_told_26 : decode cX8_told 26 = .ok (.iload_n 2, 1) := by decide +kernel
theorem dX8_told_27 : decode cX8_told 27 = .ok (.iconst 0, 1) := by decide +kernel
theorem dX8_told_28 : decode cX8_told 28 = .ok (.aload_n 0, 1) := by decide +kernel
theorem dX8_told_29 : decode cX8_told 29 = .ok (.getfield 16, 3) := by decide +kernel
theorem dX8_told_32 : decode cX8_told 32 = .ok (.iload_n 1, 1) := by decide +kernel
theorem dX8_told_33 : decode cX8_told 33 = .ok (.iaload, 1) := by decide +kernel
theorem dX8_told_34 : decode cX8_told 34 = .ok (.iconst 1, 1) := by decide +kernel
theorem dX8_told_35 : decode cX8_told 35 = .ok (.isub, 1) := by decide +kernel
theorem dX8_told_36 : decode cX8_told 36 = .ok (.invokestatic 99, 3) := by decide +kernel
theorem dX8_told_39 : decode cX8_told 39 = .ok (.ifCond .eq 12, 3) := by decide +kernel
theorem dX8_told_42 : decode cX8_told 42 = .ok (.aload_n 0, 1) := by decide +kernel
theorem dX8_told_43 : decode cX8_told 43 = .ok (.iload_n 1, 1) := by decide +kernel
theorem dX8_told_44 : decode cX8_told 44 = .ok (.iload_n 2, 1) := by decide +kernel
theorem dX8_told_45 : decode cX8_told 45 = .ok (.invokevirtual 121, 3) := by decide +kernel
theorem dX8_told_48 : decode cX8_told 48 = .ok (.goto 4, 3) := by decide +kernel
theorem dX8_told_51 : decode cX8_told 51 = .ok (.iconst (-1), 1) := by decide +kernel
theorem dX8_told_52 : decode cX8_told 52 = .ok (.ireturn, 1) := by decide +kernel
theorem dX8_next_0 : decode cX8_next 0 = .ok (.iload_n 0, 1) := by decide +kernel
theorem dX8_next_1 : decode cX8_next 1 = .ok (.bipush 31, 2) := by decide +kernel
theorem dX8_next_3 : decode cX8_next 3 = .ok (.imul, 1) := by decide +kernel
theorem dX8_next_4 : decode cX8_next 4 = .ok (.iload_n 1, 1) := by decide +kernel
theorem dX8_next_5 : decode cX8_next 5 = .ok (.iadd, 1) := by decide +kernel
theorem dX8_next_6 : decode cX8_next 6 = .ok (.iconst 1, 1) := by decide +kernel
theorem dX8_next_7 : decode cX8_next 7 = .ok (.iadd, 1) := by decide +kernel
theorem dX8_next_8 : decode cX8_next 8 = .ok (.ldc 124, 2) := by decide +kernel
theorem dX8_next_10 : decode cX8_next 10 = .ok (.irem, 1) := by decide +kernel
theorem dX8_next_11 : decode cX8_next 11 = .ok (.ireturn, 1) := by decide +kernel
theorem dX8_check_0 : decode cX8_check 0 = .ok (.aload_n 0, 1) := by decide +kernel
theorem dX8_check_1 : decode cX8_check 1 = .ok (.iload_n 1, 1) := by decide +kernel
theorem dX8_check_2 : decode cX8_check 2 = .ok (.invokevirtual 117, 3) := by decide +kernel
theorem dX8_check_5 : decode cX8_check 5 = .ok (.ifCond .ne 5, 3) := by decide +kernel
theorem dX8_check_8 : decode cX8_check 8 = .ok (.iconst (-1), 1) := by decide +kernel
theorem dX8_check_9 : decode cX8_check 9 = .ok (.ireturn, 1) := by decide +kernel
theorem dX8_check_10 : decode cX8_check 10 = .ok (.iconst 1, 1) := by decide +kernel
theorem dX8_check_11 : decode cX8_check 11 = .ok (.istore_n 2, 1) := by decide +kernel
theorem dX8_check_12 : decode cX8_check 12 = .ok (.iconst 0, 1) := by decide +kernel
theorem dX8_check_13 : decode cX8_check 13 = .ok (.istore_n 3, 1) := by decide +kernel
theorem dX8_check_14 : decode cX8_check 14 = .ok (.iload_n 3, 1) := by decide +kernel
theorem dX8_check_15 : decode cX8_check 15 = .ok (.aload_n 0, 1) := by decide +kernel
theorem dX8_check_16 : decode cX8_check 16 = .ok (.getfield 16, 3) := by decide +kernel
theorem dX8_check_19 : decode cX8_check 19 = .ok (.iload_n 1, 1) := by decide +kernel
theorem dX8_check_20 : decode cX8_check 20 = .ok (.iaload, 1) := by decide +kernel
theorem dX8_check_21 : decode cX8_check 21 = .ok (.if_icmp .ge 20, 3) := by decide +kernel
theorem dX8_check_24 : decode cX8_check 24 = .ok (.iload_n 2, 1) := by decide +kernel
theorem dX8_check_25 : decode cX8_check 25 = .ok (.aload_n 0, 1) := by decide +kernel
theorem dX8_check_26 : decode cX8_check 26 = .ok (.iload_n 1, 1) := by decide +kernel
theorem dX8_check_27 : decode cX8_check 27 = .ok (.iload_n 3, 1) := by decide +kernel
theorem dX8_check_28 : decode cX8_check 28 = .ok (.invokevirtual 121, 3) := by decide +kernel
theorem dX8_check_31 : decode cX8_check 31 = .ok (.invokestatic 125, 3) := by decide +kernel
theorem dX8_check_34 : decode cX8_check 34 = .ok (.istore_n 2, 1) := by decide +kernel
theorem dX8_check_35 : decode cX8_check 35 = .ok (.iinc 3 1, 3) := by decide +kernel
theorem dX8_check_38 : decode cX8_check 38 = .ok (.goto (-24), 3) := by decide +kernel
theorem dX8_check_41 : decode cX8_check 41 = .ok (.iload_n 2, 1) := by decide +kernel
theorem dX8_check_42 : decode cX8_check 42 = .ok (.ireturn, 1) := by decide +kernel
theorem dX8_apart_0 : decode cX8_apart 0 = .ok (.aload_n 0, 1) := by decide +kernel
theorem dX8_apart_1 : decode cX8_apart 1 = .ok (.iload_n 2, 1) := by decide +kernel
theorem dX8_apart_2 : decode cX8_apart 2 = .ok (.iload_n 3, 1) := by decide +kernel
theorem dX8_apart_3 : decode cX8_apart 3 = .ok (.invokevirtual 121, 3) := by decide +kernel
theorem dX8_apart_6 : decode cX8_apart 6 = .ok (.aload_n 0, 1) := by decide +kernel
theorem dX8_apart_7 : decode cX8_apart 7 = .ok (.iload_n 1, 1) := by decide +kernel
theorem dX8_apart_8 : decode cX8_apart 8 = .ok (.iload 4, 2) := by decide +kernel
theorem dX8_apart_10 : decode cX8_apart 10 = .ok (.invokevirtual 121, 3) := by decide +kernel
theorem dX8_apart_13 : decode cX8_apart 13 = .ok (.isub, 1) := by decide +kernel
theorem dX8_apart_14 : decode cX8_apart 14 = .ok (.sipush 255, 3) := by decide +kernel
theorem dX8_apart_17 : decode cX8_apart 17 = .ok (.iand, 1) := by decide +kernel
theorem dX8_apart_18 : decode cX8_apart 18 = .ok (.ireturn, 1) := by decide +kernel
theorem dX8_runAt_0 : decode cX8_runAt 0 = .ok (.aload_n 0, 1) := by decide +kernel
theorem dX8_runAt_1 : decode cX8_runAt 1 = .ok (.getfield 20, 3) := by decide +kernel
theorem dX8_runAt_4 : decode cX8_runAt 4 = .ok (.bipush 121, 2) := by decide +kernel
theorem dX8_runAt_6 : decode cX8_runAt 6 = .ok (.iload_n 1, 1) := by decide +kernel
theorem dX8_runAt_7 : decode cX8_runAt 7 = .ok (.imul, 1) := by decide +kernel
theorem dX8_runAt_8 : decode cX8_runAt 8 = .ok (.iload_n 2, 1) := by decide +kernel
