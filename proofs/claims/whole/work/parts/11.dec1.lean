theorem dX0_init_0 : decode cX0_init 0 = .ok (.aload_n 0, 1) := by decide +kernel
theorem dX0_init_1 : decode cX0_init 1 = .ok (.invokespecial 3, 3) := by decide +kernel
theorem dX0_init_4 : decode cX0_init 4 = .ok (.aload_n 0, 1) := by decide +kernel
theorem dX0_init_5 : decode cX0_init 5 = .ok (.iload_n 1, 1) := by decide +kernel
theorem dX0_init_6 : decode cX0_init 6 = .ok (.iconst 0, 1) := by decide +kernel
theorem dX0_init_7 : decode cX0_init 7 = .ok (.invokestatic 9, 3) := by decide +kernel
theorem dX0_init_10 : decode cX0_init 10 = .ok (.newarray .int, 2) := by decide +kernel
theorem dX0_init_12 : decode cX0_init 12 = .ok (.putfield 15, 3) := by decide +kernel
theorem dX0_init_15 : decode cX0_init 15 = .ok (.return_, 1) := by decide +kernel
theorem dX0_at_0 : decode cX0_at 0 = .ok (.iload_n 1, 1) := by decide +kernel
theorem dX0_at_1 : decode cX0_at 1 = .ok (.ifCond .lt 29, 3) := by decide +kernel
theorem dX0_at_4 : decode cX0_at 4 = .ok (.iload_n 1, 1) := by decide +kernel
theorem dX0_at_5 : decode cX0_at 5 = .ok (.aload_n 0, 1) := by decide +kernel
theorem dX0_at_6 : decode cX0_at 6 = .ok (.getfield 21, 3) := by decide +kernel
theorem dX0_at_9 : decode cX0_at 9 = .ok (.if_icmp .ge 21, 3) := by decide +kernel
theorem dX0_at_12 : decode cX0_at 12 = .ok (.iload_n 1, 1) := by decide +kernel
theorem dX0_at_13 : decode cX0_at 13 = .ok (.aload_n 0, 1) := by decide +kernel
theorem dX0_at_14 : decode cX0_at 14 = .ok (.getfield 15, 3) := by decide +kernel
theorem dX0_at_17 : decode cX0_at 17 = .ok (.arraylength, 1) := by decide +kernel
theorem dX0_at_18 : decode cX0_at 18 = .ok (.if_icmp .ge 12, 3) := by decide +kernel
theorem dX0_at_21 : decode cX0_at 21 = .ok (.aload_n 0, 1) := by decide +kernel
theorem dX0_at_22 : decode cX0_at 22 = .ok (.getfield 15, 3) := by decide +kernel
theorem dX0_at_25 : decode cX0_at 25 = .ok (.iload_n 1, 1) := by decide +kernel
theorem dX0_at_26 : decode cX0_at 26 = .ok (.iaload, 1) := by decide +kernel
theorem dX0_at_27 : decode cX0_at 27 = .ok (.goto 4, 3) := by decide +kernel
theorem dX0_at_30 : decode cX0_at 30 = .ok (.iconst (-1), 1) := by decide +kernel
theorem dX0_at_31 : decode cX0_at 31 = .ok (.ireturn, 1) := by decide +kernel
theorem dX0_appendFour_0 : decode cX0_appendFour 0 = .ok (.bipush 24, 2) := by decide +kernel
theorem dX0_appendFour_2 : decode cX0_appendFour 2 = .ok (.istore_n 2, 1) := by decide +kernel
theorem dX0_appendFour_3 : decode cX0_appendFour 3 = .ok (.iload_n 2, 1) := by decide +kernel
theorem dX0_appendFour_4 : decode cX0_appendFour 4 = .ok (.ifCond .lt 47, 3) := by decide +kernel
theorem dX0_appendFour_7 : decode cX0_appendFour 7 = .ok (.aload_n 0, 1) := by decide +kernel
theorem dX0_appendFour_8 : decode cX0_appendFour 8 = .ok (.getfield 21, 3) := by decide +kernel
theorem dX0_appendFour_11 : decode cX0_appendFour 11 = .ok (.aload_n 0, 1) := by decide +kernel
theorem dX0_appendFour_12 : decode cX0_appendFour 12 = .ok (.getfield 15, 3) := by decide +kernel
theorem dX0_appendFour_15 : decode cX0_appendFour 15 = .ok (.arraylength, 1) := by decide +kernel
theorem dX0_appendFour_16 : decode cX0_appendFour 16 = .ok (.if_icmp .ge 29, 3) := by decide +kernel
theorem dX0_appendFour_19 : decode cX0_appendFour 19 = .ok (.aload_n 0, 1) := by decide +kernel
theorem dX0_appendFour_20 : decode cX0_appendFour 20 = .ok (.getfield 15, 3) := by decide +kernel
theorem dX0_appendFour_23 : decode cX0_appendFour 23 = .ok (.aload_n 0, 1) := by decide +kernel
theorem dX0_appendFour_24 : decode cX0_appendFour 24 = .ok (.getfield 21, 3) := by decide +kernel
theorem dX0_appendFour_27 : decode cX0_appendFour 27 = .ok (.iload_n 1, 1) := by decide +kernel
theorem dX0_appendFour_28 : decode cX0_appendFour 28 = .ok (.iload_n 2, 1) := by decide +kernel
theorem dX0_appendFour_29 : decode cX0_appendFour 29 = .ok (.iushr, 1) := by decide +kernel
theorem dX0_appendFour_30 : decode cX0_appendFour 30 = .ok (.sipush 255, 3) := by decide +kernel
theorem dX0_appendFour_33 : decode cX0_appendFour 33 = .ok (.iand, 1) := by decide +kernel
theorem dX0_appendFour_34 : decode cX0_appendFour 34 = .ok (.iastore, 1) := by decide +kernel
theorem dX0_appendFour_35 : decode cX0_appendFour 35 = .ok (.aload_n 0, 1) := by decide +kernel
theorem dX0_appendFour_36 : decode cX0_appendFour 36 = .ok (.dup, 1) := by decide +kernel
theorem dX0_appendFour_37 : decode cX0_appendFour 37 = .ok (.getfield 21, 3) := by decide +kernel
theorem dX0_appendFour_40 : decode cX0_appendFour 40 = .ok (.iconst 1, 1) := by decide +kernel
theorem dX0_appendFour_41 : decode cX0_appendFour 41 = .ok (.iadd, 1) := by decide +kernel
theorem dX0_appendFour_42 : decode cX0_appendFour 42 = .ok (.putfield 21, 3) := by decide +kernel
theorem dX0_appendFour_45 : decode cX0_appendFour 45 = .ok (.iinc 2 (-8), 3) := by decide +kernel
theorem dX0_appendFour_48 : decode cX0_appendFour 48 = .ok (.goto (-45), 3) := by decide +kernel
theorem dX0_appendFour_51 : decode cX0_appendFour 51 = .ok (.return_, 1) := by decide +kernel
theorem dX0_takeFirst_0 : decode cX0_takeFirst 0 = .ok (.iconst 0, 1) := by decide +kernel
theorem dX0_takeFirst_1 : decode cX0_takeFirst 1 = .ok (.iload_n 2, 1) := by decide +kernel
theorem dX0_takeFirst_2 : decode cX0_takeFirst 2 = .ok (.aload_n 0, 1) := by decide +kernel
theorem dX0_takeFirst_3 : decode cX0_takeFirst 3 = .ok (.getfield 15, 3) := by decide +kernel
theorem dX0_takeFirst_6 : decode cX0_takeFirst 6 = .ok (.arraylength, 1) := by decide +kernel
theorem dX0_takeFirst_7 : decode cX0_takeFirst 7 = .ok (.aload_n 1, 1) := by decide +kernel
theorem dX0_takeFirst_8 : decode cX0_takeFirst 8 = .ok (.getfield 21, 3) := by decide +kernel
theorem dX0_takeFirst_11 : decode cX0_takeFirst 11 = .ok (.invokestatic 25, 3) := by decide +kernel
theorem dX0_takeFirst_14 : decode cX0_takeFirst 14 = .ok (.invokestatic 25, 3) := by decide +kernel
theorem dX0_takeFirst_17 : decode cX0_takeFirst 17 = .ok (.invokestatic 9, 3) := by decide +kernel
theorem dX0_takeFirst_20 : decode cX0_takeFirst 20 = .ok (.istore_n 3, 1) := by decide +kernel
theorem dX0_takeFirst_21 : decode cX0_takeFirst 21 = .ok (.aload_n 1, 1) := by decide +kernel
theorem dX0_takeFirst_22 : decode cX0_takeFirst 22 = .ok (.getfield 15, 3) := by decide +kernel
theorem dX0_takeFirst_25 : decode cX0_takeFirst 25 = .ok (.iconst 0, 1) := by decide +kernel
theorem dX0_takeFirst_26 : decode cX0_takeFirst 26 = .ok (.aload_n 0, 1) := by decide +kernel
theorem dX0_takeFirst_27 : decode cX0_takeFirst 27 = .ok (.getfield 15, 3) := by decide +kernel
theorem dX0_takeFirst_30 : decode cX0_takeFirst 30 = .ok (.iconst 0, 1) := by decide +kernel
theorem dX0_takeFirst_31 : decode cX0_takeFirst 31 = .ok (.iload_n 3, 1) := by decide +kernel
theorem dX0_takeFirst_32 : decode cX0_takeFirst 32 = .ok (.invokestatic 28, 3) := by decide +kernel
theorem dX0_takeFirst_35 : decode cX0_takeFirst 35 = .ok (.iload_n 3, 1) := by decide +kernel
theorem dX0_takeFirst_36 : decode cX0_takeFirst 36 = .ok (.istore 4, 2) := by decide +kernel
theorem dX0_takeFirst_38 : decode cX0_takeFirst 38 = .ok (.iload 4, 2) := by decide +kernel
theorem dX0_takeFirst_40 : decode cX0_takeFirst 40 = .ok (.aload_n 0, 1) := by decide +kernel
theorem dX0_takeFirst_41 : decode cX0_takeFirst 41 = .ok (.getfield 15, 3) := by decide +kernel
theorem dX0_takeFirst_44 : decode cX0_takeFirst 44 = .ok (.arraylength, 1) := by decide +kernel
theorem dX0_takeFirst_45 : decode cX0_takeFirst 45 = .ok (.if_icmp .ge 17, 3) := by decide +kernel
theorem dX0_takeFirst_48 : decode cX0_takeFirst 48 = .ok (.aload_n 0, 1) := by decide +kernel
theorem dX0_takeFirst_49 : decode cX0_takeFirst 49 = .ok (.getfield 15, 3) := by decide +kernel
theorem dX0_takeFirst_52 : decode cX0_takeFirst 52 = .ok (.iload 4, 2) := by decide +kernel
theorem dX0_takeFirst_54 : decode cX0_takeFirst 54 = .ok (.iconst 0, 1) := by decide +kernel
theorem dX0_takeFirst_55 : decode cX0_takeFirst 55 = .ok (.iastore, 1) := by decide +kernel
theorem dX0_takeFirst_56 : decode cX0_takeFirst 56 = .ok (.iinc 4 1, 3) := by decide +kernel
theorem dX0_takeFirst_59 : decode cX0_takeFirst 59 = .ok (.goto (-21), 3) := by decide +kernel
theorem dX0_takeFirst_62 : decode cX0_takeFirst 62 = .ok (.aload_n 0, 1) := by decide +kernel
theorem dX0_takeFirst_63 : decode cX0_takeFirst 63 = .ok (.iload_n 3, 1) := by decide +kernel
theorem dX0_takeFirst_64 : decode cX0_takeFirst 64 = .ok (.putfield 21, 3) := by decide +kernel
theorem dX0_takeFirst_67 : decode cX0_takeFirst 67 = .ok (.return_, 1) := by decide +kernel
theorem dX0_checksum_0 : decode cX0_checksum 0 = .ok (.iconst 1, 1) := by decide +kernel
theorem dX0_checksum_1 : decode cX0_checksum 1 = .ok (.istore_n 1, 1) := by decide +kernel
theorem dX0_checksum_2 : decode cX0_checksum 2 = .ok (.iconst 0, 1) := by decide +kernel
theorem dX0_checksum_3 : decode cX0_checksum 3 = .ok (.istore_n 2, 1) := by decide +kernel
theorem dX0_checksum_4 : decode cX0_checksum 4 = .ok (.iload_n 2, 1) := by decide +kernel
theorem dX0_checksum_5 : decode cX0_checksum 5 = .ok (.aload_n 0, 1) := by decide +kernel
theorem dX0_checksum_6 : decode cX0_checksum 6 = .ok (.getfield 21, 3) := by decide +kernel
theorem dX0_checksum_9 : decode cX0_checksum 9 = .ok (.if_icmp .ge 26, 3) := by decide +kernel
theorem dX0_checksum_12 : decode cX0_checksum 12 = .ok (.iload_n 1, 1) := by decide +kernel
theorem dX0_checksum_13 : decode cX0_checksum 13 = .ok (.bipush 31, 2) := by decide +kernel
theorem dX0_checksum_15 : decode cX0_checksum 15 = .ok (.imul, 1) := by decide +kernel
theorem dX0_checksum_16 : decode cX0_checksum 16 = .ok (.aload_n 0, 1) := by decide +kernel
theorem dX0_checksum_17 : decode cX0_checksum 17 = .ok (.getfield 15, 3) := by decide +kernel
theorem dX0_checksum_20 : decode cX0_checksum 20 = .ok (.iload_n 2, 1) := by decide +kernel
theorem dX0_checksum_21 : decode cX0_checksum 21 = .ok (.iaload, 1) := by decide +kernel
theorem dX0_checksum_22 : decode cX0_checksum 22 = .ok (.iadd, 1) := by decide +kernel
theorem dX0_checksum_23 : decode cX0_checksum 23 = .ok (.iconst 1, 1) := by decide +kernel
theorem dX0_checksum_24 : decode cX0_checksum 24 = .ok (.iadd, 1) := by decide +kernel
theorem dX0_checksum_25 : decode cX0_checksum 25 = .ok (.ldc 34, 2) := by decide +kernel
theorem dX0_checksum_27 : decode cX0_checksum 27 = .ok (.irem, 1) := by decide +kernel
theorem dX0_checksum_28 : decode cX0_checksum 28 = .ok (.istore_n 1, 1) := by decide +kernel
theorem dX0_checksum_29 : decode cX0_checksum 29 = .ok (.iinc 2 1, 3) := by decide +kernel
theorem dX0_checksum_32 : decode cX0_checksum 32 = .ok (.goto (-28), 3) := by decide +kernel
theorem dX0_checksum_35 : decode cX0_checksum 35 = .ok (.iload_n 1, 1) := by decide +kernel
theorem dX0_checksum_36 : decode cX0_checksum 36 = .ok (.ireturn, 1) := by decide +kernel
theorem dX1_init_0 : decode cX1_init 0 = .ok (.aload_n 0, 1) := by decide +kernel
theorem dX1_init_1 : decode cX1_init 1 = .ok (.invokespecial 3, 3) := by decide +kernel
theorem dX1_init_4 : decode cX1_init 4 = .ok (.aload_n 0, 1) := by decide +kernel
theorem dX1_init_5 : decode cX1_init 5 = .ok (.new 9, 3) := by decide +kernel
theorem dX1_init_8 : decode cX1_init 8 = .ok (.dup, 1) := by decide +kernel
theorem dX1_init_9 : decode cX1_init 9 = .ok (.bipush 120, 2) := by decide +kernel
theorem dX1_init_11 : decode cX1_init 11 = .ok (.invokespecial 11, 3) := by decide +kernel
theorem dX1_init_14 : decode cX1_init 14 = .ok (.putfield 14, 3) := by decide +kernel
theorem dX1_init_17 : decode cX1_init 17 = .ok (.aload_n 0, 1) := by decide +kernel
theorem dX1_init_18 : decode cX1_init 18 = .ok (.new 20, 3) := by decide +kernel
theorem dX1_init_21 : decode cX1_init 21 = .ok (.dup, 1) := by decide +kernel
theorem dX1_init_22 : decode cX1_init 22 = .ok (.invokespecial 22, 3) := by decide +kernel
theorem dX1_init_25 : decode cX1_init 25 = .ok (.putfield 23, 3) := by decide +kernel
theorem dX1_init_28 : decode cX1_init 28 = .ok (.aload_n 0, 1) := by decide +kernel
theorem dX1_init_29 : decode cX1_init 29 = .ok (.bipush 120, 2) := by decide +kernel
theorem dX1_init_31 : decode cX1_init 31 = .ok (.newarray .int, 2) := by decide +kernel
theorem dX1_init_33 : decode cX1_init 33 = .ok (.putfield 27, 3) := by decide +kernel
theorem dX1_init_36 : decode cX1_init 36 = .ok (.aload_n 0, 1) := by decide +kernel
theorem dX1_init_37 : decode cX1_init 37 = .ok (.bipush 120, 2) := by decide +kernel
theorem dX1_init_39 : decode cX1_init 39 = .ok (.newarray .int, 2) := by decide +kernel
theorem dX1_init_41 : decode cX1_init 41 = .ok (.putfield 31, 3) := by decide +kernel
theorem dX1_init_44 : decode cX1_init 44 = .ok (.return_, 1) := by decide +kernel
theorem dX1_load_0 : decode cX1_load 0 = .ok (.aload_n 0, 1) := by decide +kernel
theorem dX1_load_1 : decode cX1_load 1 = .ok (.getfield 14, 3) := by decide +kernel
theorem dX1_load_4 : decode cX1_load 4 = .ok (.aload_n 1, 1) := by decide +kernel
theorem dX1_load_5 : decode cX1_load 5 = .ok (.aload_n 1, 1) := by decide +kernel
theorem dX1_load_6 : decode cX1_load 6 = .ok (.getfield 34, 3) := by decide +kernel
theorem dX1_load_9 : decode cX1_load 9 = .ok (.invokevirtual 38, 3) := by decide +kernel
theorem dX1_load_12 : decode cX1_load 12 = .ok (.aload_n 0, 1) := by decide +kernel
theorem dX1_load_13 : decode cX1_load 13 = .ok (.invokevirtual 42, 3) := by decide +kernel
theorem dX1_load_16 : decode cX1_load 16 = .ok (.return_, 1) := by decide +kernel
theorem dX1_fits_0 : decode cX1_fits 0 = .ok (.aload_n 0, 1) := by decide +kernel
theorem dX1_fits_1 : decode cX1_fits 1 = .ok (.getfield 14, 3) := by decide +kernel
theorem dX1_fits_4 : decode cX1_fits 4 = .ok (.getfield 34, 3) := by decide +kernel
theorem dX1_fits_7 : decode cX1_fits 7 = .ok (.aload_n 1, 1) := by decide +kernel
theorem dX1_fits_8 : decode cX1_fits 8 = .ok (.getfield 34, 3) := by decide +kernel
theorem dX1_fits_11 : decode cX1_fits 11 = .ok (.if_icmp .ne 21, 3) := by decide +kernel
theorem dX1_fits_14 : decode cX1_fits 14 = .ok (.aload_n 0, 1) := by decide +kernel
theorem dX1_fits_15 : decode cX1_fits 15 = .ok (.getfield 14, 3) := by decide +kernel
theorem dX1_fits_18 : decode cX1_fits 18 = .ok (.invokevirtual 45, 3) := by decide +kernel
theorem dX1_fits_21 : decode cX1_fits 21 = .ok (.aload_n 1, 1) := by decide +kernel
theorem dX1_fits_22 : decode cX1_fits 22 = .ok (.invokevirtual 45, 3) := by decide +kernel
theorem dX1_fits_25 : decode cX1_fits 25 = .ok (.if_icmp .ne 7, 3) := by decide +kernel
theorem dX1_fits_28 : decode cX1_fits 28 = .ok (.iconst 1, 1) := by decide +kernel
theorem dX1_fits_29 : decode cX1_fits 29 = .ok (.goto 4, 3) := by decide +kernel
theorem dX1_fits_32 : decode cX1_fits 32 = .ok (.iconst 0, 1) := by decide +kernel
theorem dX1_fits_33 : decode cX1_fits 33 = .ok (.ireturn, 1) := by decide +kernel
theorem dX1_begin_0 : decode cX1_begin 0 = .ok (.aload_n 0, 1) := by decide +kernel
theorem dX1_begin_1 : decode cX1_begin 1 = .ok (.getfield 23, 3) := by decide +kernel
theorem dX1_begin_4 : decode cX1_begin 4 = .ok (.aload_n 1, 1) := by decide +kernel
theorem dX1_begin_5 : decode cX1_begin 5 = .ok (.invokevirtual 49, 3) := by decide +kernel
theorem dX1_begin_8 : decode cX1_begin 8 = .ok (.aload_n 0, 1) := by decide +kernel
theorem dX1_begin_9 : decode cX1_begin 9 = .ok (.aload_n 0, 1) := by decide +kernel
theorem dX1_begin_10 : decode cX1_begin 10 = .ok (.getfield 23, 3) := by decide +kernel
theorem dX1_begin_13 : decode cX1_begin 13 = .ok (.iconst 1, 1) := by decide +kernel
theorem dX1_begin_14 : decode cX1_begin 14 = .ok (.invokevirtual 53, 3) := by decide +kernel
theorem dX1_begin_17 : decode cX1_begin 17 = .ok (.aload_n 0, 1) := by decide +kernel
theorem dX1_begin_18 : decode cX1_begin 18 = .ok (.getfield 23, 3) := by decide +kernel
theorem dX1_begin_21 : decode cX1_begin 21 = .ok (.iconst 0, 1) := by decide +kernel
theorem dX1_begin_22 : decode cX1_begin 22 = .ok (.invokevirtual 53, 3) := by decide +kernel
theorem dX1_begin_25 : decode cX1_begin 25 = .ok (.if_icmp .ge 7, 3) := by decide +kernel
theorem dX1_begin_28 : decode cX1_begin 28 = .ok (.iconst 1, 1) := by decide +kernel
theorem dX1_begin_29 : decode cX1_begin 29 = .ok (.goto 4, 3) := by decide +kernel
theorem dX1_begin_32 : decode cX1_begin 32 = .ok (.iconst 0, 1) := by decide +kernel
theorem dX1_begin_33 : decode cX1_begin 33 = .ok (.putfield 57, 3) := by decide +kernel
theorem dX1_begin_36 : decode cX1_begin 36 = .ok (.aload_n 0, 1) := by decide +kernel
theorem dX1_begin_37 : decode cX1_begin 37 = .ok (.getfield 23, 3) := by decide +kernel
theorem dX1_begin_40 : decode cX1_begin 40 = .ok (.aload_n 0, 1) := by decide +kernel
theorem dX1_begin_41 : decode cX1_begin 41 = .ok (.getfield 57, 3) := by decide +kernel
theorem dX1_begin_44 : decode cX1_begin 44 = .ok (.invokevirtual 53, 3) := by decide +kernel
theorem dX1_begin_47 : decode cX1_begin 47 = .ok (.pop, 1) := by decide +kernel
theorem dX1_begin_48 : decode cX1_begin 48 = .ok (.aload_n 0, 1) := by decide +kernel
theorem dX1_begin_49 : decode cX1_begin 49 = .ok (.iconst 0, 1) := by decide +kernel
theorem dX1_begin_50 : decode cX1_begin 50 = .ok (.putfield 60, 3) := by decide +kernel
theorem dX1_begin_53 : decode cX1_begin 53 = .ok (.iconst 0, 1) := by decide +kernel
theorem dX1_begin_54 : decode cX1_begin 54 = .ok (.istore_n 2, 1) := by decide +kernel
theorem dX1_begin_55 : decode cX1_begin 55 = .ok (.iload_n 2, 1) := by decide +kernel
theorem dX1_begin_56 : decode cX1_begin 56 = .ok (.bipush 120, 2) := by decide +kernel
theorem dX1_begin_58 : decode cX1_begin 58 = .ok (.if_icmp .ge 40, 3) := by decide +kernel
theorem dX1_begin_61 : decode cX1_begin 61 = .ok (.aload_n 0, 1) := by decide +kernel
theorem dX1_begin_62 : decode cX1_begin 62 = .ok (.getfield 23, 3) := by decide +kernel
theorem dX1_begin_65 : decode cX1_begin 65 = .ok (.iload_n 2, 1) := by decide +kernel
theorem dX1_begin_66 : decode cX1_begin 66 = .ok (.invokevirtual 63, 3) := by decide +kernel
theorem dX1_begin_69 : decode cX1_begin 69 = .ok (.ifCond .eq 23, 3) := by decide +kernel
theorem dX1_begin_72 : decode cX1_begin 72 = .ok (.aload_n 0, 1) := by decide +kernel
theorem dX1_begin_73 : decode cX1_begin 73 = .ok (.getfield 27, 3) := by decide +kernel
theorem dX1_begin_76 : decode cX1_begin 76 = .ok (.aload_n 0, 1) := by decide +kernel
theorem dX1_begin_77 : decode cX1_begin 77 = .ok (.getfield 60, 3) := by decide +kernel
theorem dX1_begin_80 : decode cX1_begin 80 = .ok (.iload_n 2, 1) := by decide +kernel
theorem dX1_begin_81 : decode cX1_begin 81 = .ok (.iastore, 1) := by decide +kernel
theorem dX1_begin_82 : decode cX1_begin 82 = .ok (.aload_n 0, 1) := by decide +kernel
theorem dX1_begin_83 : decode cX1_begin 83 = .ok (.dup, 1) := by decide +kernel
theorem dX1_begin_84 : decode cX1_begin 84 = .ok (.getfield 60, 3) := by decide +kernel
theorem dX1_begin_87 : decode cX1_begin 87 = .ok (.iconst 1, 1) := by decide +kernel
theorem dX1_begin_88 : decode cX1_begin 88 = .ok (.iadd, 1) := by decide +kernel
theorem dX1_begin_89 : decode cX1_begin 89 = .ok (.putfield 60, 3) := by decide +kernel
theorem dX1_begin_92 : decode cX1_begin 92 = .ok (.iinc 2 1, 3) := by decide +kernel
theorem dX1_begin_95 : decode cX1_begin 95 = .ok (.goto (-40), 3) := by decide +kernel
theorem dX1_begin_98 : decode cX1_begin 98 = .ok (.aload_n 0, 1) := by decide +kernel
theorem dX1_begin_99 : decode cX1_begin 99 = .ok (.iconst 0, 1) := by decide +kernel
theorem dX1_begin_100 : decode cX1_begin 100 = .ok (.putfield 67, 3) := by decide +kernel
theorem dX1_begin_103 : decode cX1_begin 103 = .ok (.aload_n 0, 1) := by decide +kernel
theorem dX1_begin_104 : decode cX1_begin 104 = .ok (.iconst (-1), 1) := by decide +kernel
theorem dX1_begin_105 : decode cX1_begin 105 = .ok (.putfield 70, 3) := by decide +kernel
theorem dX1_begin_108 : decode cX1_begin 108 = .ok (.aload_n 0, 1) := by decide +kernel
theorem dX1_begin_109 : decode cX1_begin 109 = .ok (.iconst 1, 1) := by decide +kernel
theorem dX1_begin_110 : decode cX1_begin 110 = .ok (.putfield 73, 3) := by decide +kernel
theorem dX1_begin_113 : decode cX1_begin 113 = .ok (.return_, 1) := by decide +kernel
theorem dX1_endUpdate_0 : decode cX1_endUpdate 0 = .ok (.aload_n 0, 1) := by decide +kernel
theorem dX1_endUpdate_1 : decode cX1_endUpdate 1 = .ok (.iconst 0, 1) := by decide +kernel
theorem dX1_endUpdate_2 : decode cX1_endUpdate 2 = .ok (.putfield 73, 3) := by decide +kernel
theorem dX1_endUpdate_5 : decode cX1_endUpdate 5 = .ok (.aload_n 0, 1) := by decide +kernel
theorem dX1_endUpdate_6 : decode cX1_endUpdate 6 = .ok (.iconst 0, 1) := by decide +kernel
theorem dX1_endUpdate_7 : decode cX1_endUpdate 7 = .ok (.putfield 77, 3) := by decide +kernel
theorem dX1_endUpdate_10 : decode cX1_endUpdate 10 = .ok (.return_, 1) := by decide +kernel
theorem dX1_allWrites_0 : decode cX1_allWrites 0 = .ok (.aload_n 0, 1) := by decide +kernel
theorem dX1_allWrites_1 : decode cX1_allWrites 1 = .ok (.getfield 60, 3) := by decide +kernel
theorem dX1_allWrites_4 : decode cX1_allWrites 4 = .ok (.iconst 1, 1) := by decide +kernel
theorem dX1_allWrites_5 : decode cX1_allWrites 5 = .ok (.iadd, 1) := by decide +kernel
theorem dX1_allWrites_6 : decode cX1_allWrites 6 = .ok (.iconst 2, 1) := by decide +kernel
theorem dX1_allWrites_7 : decode cX1_allWrites 7 = .ok (.aload_n 0, 1) := by decide +kernel
theorem dX1_allWrites_8 : decode cX1_allWrites 8 = .ok (.getfield 23, 3) := by decide +kernel
theorem dX1_allWrites_11 : decode cX1_allWrites 11 = .ok (.getfield 80, 3) := by decide +kernel
theorem dX1_allWrites_14 : decode cX1_allWrites 14 = .ok (.imul, 1) := by decide +kernel
theorem dX1_allWrites_15 : decode cX1_allWrites 15 = .ok (.iadd, 1) := by decide +kernel
theorem dX1_allWrites_16 : decode cX1_allWrites 16 = .ok (.iconst 1, 1) := by decide +kernel
theorem dX1_allWrites_17 : decode cX1_allWrites 17 = .ok (.iadd, 1) := by decide +kernel
theorem dX1_allWrites_18 : decode cX1_allWrites 18 = .ok (.ireturn, 1) := by decide +kernel
theorem dX1_writesLeft_0 : decode cX1_writesLeft 0 = .ok (.aload_n 0, 1) := by decide +kernel
theorem dX1_writesLeft_1 : decode cX1_writesLeft 1 = .ok (.getfield 73, 3) := by decide +kernel
theorem dX1_writesLeft_4 : decode cX1_writesLeft 4 = .ok (.ifCond .eq 15, 3) := by decide +kernel
theorem dX1_writesLeft_7 : decode cX1_writesLeft 7 = .ok (.aload_n 0, 1) := by decide +kernel
theorem dX1_writesLeft_8 : decode cX1_writesLeft 8 = .ok (.invokevirtual 81, 3) := by decide +kernel
theorem dX1_writesLeft_11 : decode cX1_writesLeft 11 = .ok (.aload_n 0, 1) := by decide +kernel
theorem dX1_writesLeft_12 : decode cX1_writesLeft 12 = .ok (.getfield 67, 3) := by decide +kernel
theorem dX1_writesLeft_15 : decode cX1_writesLeft 15 = .ok (.isub, 1) := by decide +kernel
theorem dX1_writesLeft_16 : decode cX1_writesLeft 16 = .ok (.goto 4, 3) := by decide +kernel
theorem dX1_writesLeft_19 : decode cX1_writesLeft 19 = .ok (.iconst 0, 1) := by decide +kernel
theorem dX1_writesLeft_20 : decode cX1_writesLeft 20 = .ok (.ireturn, 1) := by decide +kernel
theorem dX1_makeWrites_0 : decode cX1_makeWrites 0 = .ok (.iconst 0, 1) := by decide +kernel
theorem dX1_makeWrites_1 : decode cX1_makeWrites 1 = .ok (.istore_n 2, 1) := by decide +kernel
theorem dX1_makeWrites_2 : decode cX1_makeWrites 2 = .ok (.iload_n 2, 1) := by decide +kernel
theorem dX1_makeWrites_3 : decode cX1_makeWrites 3 = .ok (.iload_n 1, 1) := by decide +kernel
theorem dX1_makeWrites_4 : decode cX1_makeWrites 4 = .ok (.if_icmp .ge 20, 3) := by decide +kernel
theorem dX1_makeWrites_7 : decode cX1_makeWrites 7 = .ok (.aload_n 0, 1) := by decide +kernel
theorem dX1_makeWrites_8 : decode cX1_makeWrites 8 = .ok (.getfield 73, 3) := by decide +kernel
theorem dX1_makeWrites_11 : decode cX1_makeWrites 11 = .ok (.ifCond .eq 13, 3) := by decide +kernel
theorem dX1_makeWrites_14 : decode cX1_makeWrites 14 = .ok (.aload_n 0, 1) := by decide +kernel
theorem dX1_makeWrites_15 : decode cX1_makeWrites 15 = .ok (.invokevirtual 84, 3) := by decide +kernel
theorem dX1_makeWrites_18 : decode cX1_makeWrites 18 = .ok (.iinc 2 1, 3) := by decide +kernel
theorem dX1_makeWrites_21 : decode cX1_makeWrites 21 = .ok (.goto (-19), 3) := by decide +kernel
theorem dX1_makeWrites_24 : decode cX1_makeWrites 24 = .ok (.aload_n 0, 1) := by decide +kernel
theorem dX1_makeWrites_25 : decode cX1_makeWrites 25 = .ok (.dup, 1) := by decide +kernel
theorem dX1_makeWrites_26 : decode cX1_makeWrites 26 = .ok (.getfield 87, 3) := by decide +kernel
theorem dX1_makeWrites_29 : decode cX1_makeWrites 29 = .ok (.iload_n 2, 1) := by decide +kernel
theorem dX1_makeWrites_30 : decode cX1_makeWrites 30 = .ok (.iadd, 1) := by decide +kernel
theorem dX1_makeWrites_31 : decode cX1_makeWrites 31 = .ok (.putfield 87, 3) := by decide +kernel
theorem dX1_makeWrites_34 : decode cX1_makeWrites 34 = .ok (.iload_n 2, 1) := by decide +kernel
theorem dX1_makeWrites_35 : decode cX1_makeWrites 35 = .ok (.ireturn, 1) := by decide +kernel
theorem dX1_makeNextWrite_0 : decode cX1_makeNextWrite 0 = .ok (.aload_n 0, 1) := by decide +kernel
theorem dX1_makeNextWrite_1 : decode cX1_makeNextWrite 1 = .ok (.getfield 67, 3) := by decide +kernel
theorem dX1_makeNextWrite_4 : decode cX1_makeNextWrite 4 = .ok (.aload_n 0, 1) := by decide +kernel
theorem dX1_makeNextWrite_5 : decode cX1_makeNextWrite 5 = .ok (.getfield 60, 3) := by decide +kernel
theorem dX1_makeNextWrite_8 : decode cX1_makeNextWrite 8 = .ok (.isub, 1) := by decide +kernel
theorem dX1_makeNextWrite_9 : decode cX1_makeNextWrite 9 = .ok (.istore_n 1, 1) := by decide +kernel
theorem dX1_makeNextWrite_10 : decode cX1_makeNextWrite 10 = .ok (.iload_n 1, 1) := by decide +kernel
theorem dX1_makeNextWrite_11 : decode cX1_makeNextWrite 11 = .ok (.ifCond .ge 31, 3) := by decide +kernel
theorem dX1_makeNextWrite_14 : decode cX1_makeNextWrite 14 = .ok (.aload_n 0, 1) := by decide +kernel
theorem dX1_makeNextWrite_15 : decode cX1_makeNextWrite 15 = .ok (.getfield 27, 3) := by decide +kernel
theorem dX1_makeNextWrite_18 : decode cX1_makeNextWrite 18 = .ok (.aload_n 0, 1) := by decide +kernel
theorem dX1_makeNextWrite_19 : decode cX1_makeNextWrite 19 = .ok (.getfield 67, 3) := by decide +kernel
theorem dX1_makeNextWrite_22 : decode cX1_makeNextWrite 22 = .ok (.iaload, 1) := by decide +kernel
theorem dX1_makeNextWrite_23 : decode cX1_makeNextWrite 23 = .ok (.istore_n 2, 1) := by decide +kernel
theorem dX1_makeNextWrite_24 : decode cX1_makeNextWrite 24 = .ok (.aload_n 0, 1) := by decide +kernel
theorem dX1_makeNextWrite_25 : decode cX1_makeNextWrite 25 = .ok (.getfield 31, 3) := by decide +kernel
theorem dX1_makeNextWrite_28 : decode cX1_makeNextWrite 28 = .ok (.iload_n 2, 1) := by decide +kernel
theorem dX1_makeNextWrite_29 : decode cX1_makeNextWrite 29 = .ok (.aload_n 0, 1) := by decide +kernel
theorem dX1_makeNextWrite_30 : decode cX1_makeNextWrite 30 = .ok (.getfield 14, 3) := by decide +kernel
theorem dX1_makeNextWrite_33 : decode cX1_makeNextWrite 33 = .ok (.getfield 90, 3) := by decide +kernel
theorem dX1_makeNextWrite_36 : decode cX1_makeNextWrite 36 = .ok (.iload_n 2, 1) := by decide +kernel
theorem dX1_makeNextWrite_37 : decode cX1_makeNextWrite 37 = .ok (.iaload, 1) := by decide +kernel
theorem dX1_makeNextWrite_38 : decode cX1_makeNextWrite 38 = .ok (.iastore, 1) := by decide +kernel
theorem dX1_makeNextWrite_39 : decode cX1_makeNextWrite 39 = .ok (.goto 60, 3) := by decide +kernel
theorem dX1_makeNextWrite_42 : decode cX1_makeNextWrite 42 = .ok (.aload_n 0, 1) := by decide +kernel
theorem dX1_makeNextWrite_43 : decode cX1_makeNextWrite 43 = .ok (.getfield 67, 3) := by decide +kernel
theorem dX1_makeNextWrite_46 : decode cX1_makeNextWrite 46 = .ok (.iconst 1, 1) := by decide +kernel
theorem dX1_makeNextWrite_47 : decode cX1_makeNextWrite 47 = .ok (.iadd, 1) := by decide +kernel
theorem dX1_makeNextWrite_48 : decode cX1_makeNextWrite 48 = .ok (.aload_n 0, 1) := by decide +kernel
theorem dX1_makeNextWrite_49 : decode cX1_makeNextWrite 49 = .ok (.invokevirtual 81, 3) := by decide +kernel
theorem dX1_makeNextWrite_52 : decode cX1_makeNextWrite 52 = .ok (.if_icmp .lt 24, 3) := by decide +kernel
theorem dX1_makeNextWrite_55 : decode cX1_makeNextWrite 55 = .ok (.aload_n 0, 1) := by decide +kernel
theorem dX1_makeNextWrite_56 : decode cX1_makeNextWrite 56 = .ok (.getfield 14, 3) := by decide +kernel
theorem dX1_makeNextWrite_59 : decode cX1_makeNextWrite 59 = .ok (.aload_n 0, 1) := by decide +kernel
theorem dX1_makeNextWrite_60 : decode cX1_makeNextWrite 60 = .ok (.getfield 23, 3) := by decide +kernel
theorem dX1_makeNextWrite_63 : decode cX1_makeNextWrite 63 = .ok (.getfield 80, 3) := by decide +kernel
theorem dX1_makeNextWrite_66 : decode cX1_makeNextWrite 66 = .ok (.putfield 34, 3) := by decide +kernel
theorem dX1_makeNextWrite_69 : decode cX1_makeNextWrite 69 = .ok (.aload_n 0, 1) := by decide +kernel
theorem dX1_makeNextWrite_70 : decode cX1_makeNextWrite 70 = .ok (.invokevirtual 42, 3) := by decide +kernel
theorem dX1_makeNextWrite_73 : decode cX1_makeNextWrite 73 = .ok (.goto 26, 3) := by decide +kernel
theorem dX1_makeNextWrite_76 : decode cX1_makeNextWrite 76 = .ok (.iload_n 1, 1) := by decide +kernel
theorem dX1_makeNextWrite_77 : decode cX1_makeNextWrite 77 = .ok (.iconst 2, 1) := by decide +kernel
theorem dX1_makeNextWrite_78 : decode cX1_makeNextWrite 78 = .ok (.irem, 1) := by decide +kernel
theorem dX1_makeNextWrite_79 : decode cX1_makeNextWrite 79 = .ok (.ifCond .ne 13, 3) := by decide +kernel
theorem dX1_makeNextWrite_82 : decode cX1_makeNextWrite 82 = .ok (.aload_n 0, 1) := by decide +kernel
theorem dX1_makeNextWrite_83 : decode cX1_makeNextWrite 83 = .ok (.iload_n 1, 1) := by decide +kernel
theorem dX1_makeNextWrite_84 : decode cX1_makeNextWrite 84 = .ok (.iconst 2, 1) := by decide +kernel
theorem dX1_makeNextWrite_85 : decode cX1_makeNextWrite 85 = .ok (.idiv, 1) := by decide +kernel
theorem dX1_makeNextWrite_86 : decode cX1_makeNextWrite 86 = .ok (.putfield 70, 3) := by decide +kernel
theorem dX1_makeNextWrite_89 : decode cX1_makeNextWrite 89 = .ok (.goto 10, 3) := by decide +kernel
theorem dX1_makeNextWrite_92 : decode cX1_makeNextWrite 92 = .ok (.aload_n 0, 1) := by decide +kernel
theorem dX1_makeNextWrite_93 : decode cX1_makeNextWrite 93 = .ok (.iload_n 1, 1) := by decide +kernel
theorem dX1_makeNextWrite_94 : decode cX1_makeNextWrite 94 = .ok (.iconst 2, 1) := by decide +kernel
theorem dX1_makeNextWrite_95 : decode cX1_makeNextWrite 95 = .ok (.idiv, 1) := by decide +kernel
theorem dX1_makeNextWrite_96 : decode cX1_makeNextWrite 96 = .ok (.invokevirtual 93, 3) := by decide +kernel
theorem dX1_makeNextWrite_99 : decode cX1_makeNextWrite 99 = .ok (.aload_n 0, 1) := by decide +kernel
theorem dX1_makeNextWrite_100 : decode cX1_makeNextWrite 100 = .ok (.dup, 1) := by decide +kernel
theorem dX1_makeNextWrite_101 : decode cX1_makeNextWrite 101 = .ok (.getfield 67, 3) := by decide +kernel
theorem dX1_makeNextWrite_104 : decode cX1_makeNextWrite 104 = .ok (.iconst 1, 1) := by decide +kernel
theorem dX1_makeNextWrite_105 : decode cX1_makeNextWrite 105 = .ok (.iadd, 1) := by decide +kernel
theorem dX1_makeNextWrite_106 : decode cX1_makeNextWrite 106 = .ok (.putfield 67, 3) := by decide +kernel
theorem dX1_makeNextWrite_109 : decode cX1_makeNextWrite 109 = .ok (.return_, 1) := by decide +kernel
theorem dX1_writeNewByte_0 : decode cX1_writeNewByte 0 = .ok (.aload_n 0, 1) := by decide +kernel
theorem dX1_writeNewByte_1 : decode cX1_writeNewByte 1 = .ok (.getfield 57, 3) := by decide +kernel
theorem dX1_writeNewByte_4 : decode cX1_writeNewByte 4 = .ok (.ifCond .ne 7, 3) := by decide +kernel
theorem dX1_writeNewByte_7 : decode cX1_writeNewByte 7 = .ok (.iload_n 1, 1) := by decide +kernel
theorem dX1_writeNewByte_8 : decode cX1_writeNewByte 8 = .ok (.goto 14, 3) := by decide +kernel
theorem dX1_writeNewByte_11 : decode cX1_writeNewByte 11 = .ok (.aload_n 0, 1) := by decide +kernel
theorem dX1_writeNewByte_12 : decode cX1_writeNewByte 12 = .ok (.getfield 23, 3) := by decide +kernel
theorem dX1_writeNewByte_15 : decode cX1_writeNewByte 15 = .ok (.getfield 80, 3) := by decide +kernel
theorem dX1_writeNewByte_18 : decode cX1_writeNewByte 18 = .ok (.iconst 1, 1) := by decide +kernel
theorem dX1_writeNewByte_19 : decode cX1_writeNewByte 19 = .ok (.isub, 1) := by decide +kernel
theorem dX1_writeNewByte_20 : decode cX1_writeNewByte 20 = .ok (.iload_n 1, 1) := by decide +kernel
theorem dX1_writeNewByte_21 : decode cX1_writeNewByte 21 = .ok (.isub, 1) := by decide +kernel
theorem dX1_writeNewByte_22 : decode cX1_writeNewByte 22 = .ok (.istore_n 2, 1) := by decide +kernel
theorem dX1_writeNewByte_23 : decode cX1_writeNewByte 23 = .ok (.iload_n 2, 1) := by decide +kernel
theorem dX1_writeNewByte_24 : decode cX1_writeNewByte 24 = .ok (.ifCond .lt 14, 3) := by decide +kernel
theorem dX1_writeNewByte_27 : decode cX1_writeNewByte 27 = .ok (.iload_n 2, 1) := by decide +kernel
theorem dX1_writeNewByte_28 : decode cX1_writeNewByte 28 = .ok (.aload_n 0, 1) := by decide +kernel
theorem dX1_writeNewByte_29 : decode cX1_writeNewByte 29 = .ok (.getfield 23, 3) := by decide +kernel
theorem dX1_writeNewByte_32 : decode cX1_writeNewByte 32 = .ok (.getfield 80, 3) := by decide +kernel
theorem dX1_writeNewByte_35 : decode cX1_writeNewByte 35 = .ok (.if_icmp .lt 4, 3) := by decide +kernel
theorem dX1_writeNewByte_38 : decode cX1_writeNewByte 38 = .ok (.return_, 1) := by decide +kernel
theorem dX1_writeNewByte_39 : decode cX1_writeNewByte 39 = .ok (.aload_n 0, 1) := by decide +kernel
theorem dX1_writeNewByte_40 : decode cX1_writeNewByte 40 = .ok (.getfield 14, 3) := by decide +kernel
theorem dX1_writeNewByte_43 : decode cX1_writeNewByte 43 = .ok (.getfield 90, 3) := by decide +kernel
theorem dX1_writeNewByte_46 : decode cX1_writeNewByte 46 = .ok (.iload_n 2, 1) := by decide +kernel
theorem dX1_writeNewByte_47 : decode cX1_writeNewByte 47 = .ok (.aload_n 0, 1) := by decide +kernel
theorem dX1_writeNewByte_48 : decode cX1_writeNewByte 48 = .ok (.aload_n 0, 1) := by decide +kernel
theorem dX1_writeNewByte_49 : decode cX1_writeNewByte 49 = .ok (.getfield 23, 3) := by decide +kernel
theorem dX1_writeNewByte_52 : decode cX1_writeNewByte 52 = .ok (.getfield 96, 3) := by decide +kernel
theorem dX1_writeNewByte_55 : decode cX1_writeNewByte 55 = .ok (.iload_n 2, 1) := by decide +kernel
theorem dX1_writeNewByte_56 : decode cX1_writeNewByte 56 = .ok (.iaload, 1) := by decide +kernel
theorem dX1_writeNewByte_57 : decode cX1_writeNewByte 57 = .ok (.invokevirtual 99, 3) := by decide +kernel
theorem dX1_writeNewByte_60 : decode cX1_writeNewByte 60 = .ok (.aload_n 0, 1) := by decide +kernel
theorem dX1_writeNewByte_61 : decode cX1_writeNewByte 61 = .ok (.getfield 23, 3) := by decide +kernel
theorem dX1_writeNewByte_64 : decode cX1_writeNewByte 64 = .ok (.getfield 102, 3) := by decide +kernel
theorem dX1_writeNewByte_67 : decode cX1_writeNewByte 67 = .ok (.iload_n 2, 1) := by decide +kernel
theorem dX1_writeNewByte_68 : decode cX1_writeNewByte 68 = .ok (.iaload, 1) := by decide +kernel
theorem dX1_writeNewByte_69 : decode cX1_writeNewByte 69 = .ok (.iadd, 1) := by decide +kernel
theorem dX1_writeNewByte_70 : decode cX1_writeNewByte 70 = .ok (.sipush 255, 3) := by decide +kernel
theorem dX1_writeNewByte_73 : decode cX1_writeNewByte 73 = .ok (.iand, 1) := by decide +kernel
theorem dX1_writeNewByte_74 : decode cX1_writeNewByte 74 = .ok (.iastore, 1) := by decide +kernel
theorem dX1_writeNewByte_75 : decode cX1_writeNewByte 75 = .ok (.return_, 1) := by decide +kernel
theorem dX1_oldByte_0 : decode cX1_oldByte 0 = .ok (.iload_n 1, 1) := by decide +kernel
theorem dX1_oldByte_1 : decode cX1_oldByte 1 = .ok (.ifCond .lt 9, 3) := by decide +kernel
theorem dX1_oldByte_4 : decode cX1_oldByte 4 = .ok (.iload_n 1, 1) := by decide +kernel
theorem dX1_oldByte_5 : decode cX1_oldByte 5 = .ok (.bipush 120, 2) := by decide +kernel
theorem dX1_oldByte_7 : decode cX1_oldByte 7 = .ok (.if_icmp .lt 5, 3) := by decide +kernel
theorem dX1_oldByte_10 : decode cX1_oldByte 10 = .ok (.iconst 0, 1) := by decide +kernel
theorem dX1_oldByte_11 : decode cX1_oldByte 11 = .ok (.ireturn, 1) := by decide +kernel
theorem dX1_oldByte_12 : decode cX1_oldByte 12 = .ok (.aload_n 0, 1) := by decide +kernel
theorem dX1_oldByte_13 : decode cX1_oldByte 13 = .ok (.getfield 23, 3) := by decide +kernel
theorem dX1_oldByte_16 : decode cX1_oldByte 16 = .ok (.iload_n 1, 1) := by decide +kernel
theorem dX1_oldByte_17 : decode cX1_oldByte 17 = .ok (.invokevirtual 63, 3) := by decide +kernel
theorem dX1_oldByte_20 : decode cX1_oldByte 20 = .ok (.ifCond .eq 12, 3) := by decide +kernel
theorem dX1_oldByte_23 : decode cX1_oldByte 23 = .ok (.aload_n 0, 1) := by decide +kernel
theorem dX1_oldByte_24 : decode cX1_oldByte 24 = .ok (.getfield 31, 3) := by decide +kernel
theorem dX1_oldByte_27 : decode cX1_oldByte 27 = .ok (.iload_n 1, 1) := by decide +kernel
theorem dX1_oldByte_28 : decode cX1_oldByte 28 = .ok (.iaload, 1) := by decide +kernel
theorem dX1_oldByte_29 : decode cX1_oldByte 29 = .ok (.goto 12, 3) := by decide +kernel
theorem dX1_oldByte_32 : decode cX1_oldByte 32 = .ok (.aload_n 0, 1) := by decide +kernel
theorem dX1_oldByte_33 : decode cX1_oldByte 33 = .ok (.getfield 14, 3) := by decide +kernel
theorem dX1_oldByte_36 : decode cX1_oldByte 36 = .ok (.getfield 90, 3) := by decide +kernel
theorem dX1_oldByte_39 : decode cX1_oldByte 39 = .ok (.iload_n 1, 1) := by decide +kernel
theorem dX1_oldByte_40 : decode cX1_oldByte 40 = .ok (.iaload, 1) := by decide +kernel
theorem dX1_oldByte_41 : decode cX1_oldByte 41 = .ok (.ireturn, 1) := by decide +kernel
theorem dX1_resume_0 : decode cX1_resume 0 = .ok (.aload_n 0, 1) := by decide +kernel
theorem dX1_resume_1 : decode cX1_resume 1 = .ok (.iconst 0, 1) := by decide +kernel
theorem dX1_resume_2 : decode cX1_resume 2 = .ok (.putfield 77, 3) := by decide +kernel
theorem dX1_resume_5 : decode cX1_resume 5 = .ok (.aload_n 0, 1) := by decide +kernel
theorem dX1_resume_6 : decode cX1_resume 6 = .ok (.aload_n 0, 1) := by decide +kernel
theorem dX1_resume_7 : decode cX1_resume 7 = .ok (.getfield 70, 3) := by decide +kernel
theorem dX1_resume_10 : decode cX1_resume 10 = .ok (.iconst (-1), 1) := by decide +kernel
theorem dX1_resume_11 : decode cX1_resume 11 = .ok (.if_icmp .ne 7, 3) := by decide +kernel
theorem dX1_resume_14 : decode cX1_resume 14 = .ok (.iconst 0, 1) := by decide +kernel
theorem dX1_resume_15 : decode cX1_resume 15 = .ok (.goto 16, 3) := by decide +kernel
theorem dX1_resume_18 : decode cX1_resume 18 = .ok (.aload_n 0, 1) := by decide +kernel
theorem dX1_resume_19 : decode cX1_resume 19 = .ok (.getfield 60, 3) := by decide +kernel
theorem dX1_resume_22 : decode cX1_resume 22 = .ok (.iconst 1, 1) := by decide +kernel
theorem dX1_resume_23 : decode cX1_resume 23 = .ok (.iadd, 1) := by decide +kernel
theorem dX1_resume_24 : decode cX1_resume 24 = .ok (.iconst 2, 1) := by decide +kernel
theorem dX1_resume_25 : decode cX1_resume 25 = .ok (.aload_n 0, 1) := by decide +kernel
theorem dX1_resume_26 : decode cX1_resume 26 = .ok (.getfield 70, 3) := by decide +kernel
theorem dX1_resume_29 : decode cX1_resume 29 = .ok (.imul, 1) := by decide +kernel
theorem dX1_resume_30 : decode cX1_resume 30 = .ok (.iadd, 1) := by decide +kernel
theorem dX1_resume_31 : decode cX1_resume 31 = .ok (.putfield 67, 3) := by decide +kernel
theorem dX1_resume_34 : decode cX1_resume 34 = .ok (.return_, 1) := by decide +kernel
theorem dX1_tell_0 : decode cX1_tell 0 = .ok (.iload_n 1, 1) := by decide +kernel
theorem dX1_tell_1 : decode cX1_tell 1 = .ok (.tableswitch 143 0 6 #[43, 51, 59, 83, 88, 111, 127], 43) := by decide +kernel
theorem dX1_tell_44 : decode cX1_tell 44 = .ok (.aload_n 0, 1) := by decide +kernel
theorem dX1_tell_45 : decode cX1_tell 45 = .ok (.getfield 14, 3) := by decide +kernel
theorem dX1_tell_48 : decode cX1_tell 48 = .ok (.getfield 34, 3) := by decide +kernel
theorem dX1_tell_51 : decode cX1_tell 51 = .ok (.ireturn, 1) := by decide +kernel
theorem dX1_tell_52 : decode cX1_tell 52 = .ok (.aload_n 0, 1) := by decide +kernel
theorem dX1_tell_53 : decode cX1_tell 53 = .ok (.getfield 14, 3) := by decide +kernel
theorem dX1_tell_56 : decode cX1_tell 56 = .ok (.invokevirtual 45, 3) := by decide +kernel
theorem dX1_tell_59 : decode cX1_tell 59 = .ok (.ireturn, 1) := by decide +kernel
theorem dX1_tell_60 : decode cX1_tell 60 = .ok (.aload_n 0, 1) := by decide +kernel
theorem dX1_tell_61 : decode cX1_tell 61 = .ok (.getfield 73, 3) := by decide +kernel
theorem dX1_tell_64 : decode cX1_tell 64 = .ok (.ifCond .ne 7, 3) := by decide +kernel
theorem dX1_tell_67 : decode cX1_tell 67 = .ok (.iconst 0, 1) := by decide +kernel
theorem dX1_tell_68 : decode cX1_tell 68 = .ok (.goto 15, 3) := by decide +kernel
theorem dX1_tell_71 : decode cX1_tell 71 = .ok (.aload_n 0, 1) := by decide +kernel
theorem dX1_tell_72 : decode cX1_tell 72 = .ok (.getfield 77, 3) := by decide +kernel
theorem dX1_tell_75 : decode cX1_tell 75 = .ok (.ifCond .eq 7, 3) := by decide +kernel
theorem dX1_tell_78 : decode cX1_tell 78 = .ok (.iconst 2, 1) := by decide +kernel
theorem dX1_tell_79 : decode cX1_tell 79 = .ok (.goto 4, 3) := by decide +kernel
theorem dX1_tell_82 : decode cX1_tell 82 = .ok (.iconst 1, 1) := by decide +kernel
theorem dX1_tell_83 : decode cX1_tell 83 = .ok (.ireturn, 1) := by decide +kernel
theorem dX1_tell_84 : decode cX1_tell 84 = .ok (.aload_n 0, 1) := by decide +kernel
theorem dX1_tell_85 : decode cX1_tell 85 = .ok (.getfield 87, 3) := by decide +kernel
theorem dX1_tell_88 : decode cX1_tell 88 = .ok (.ireturn, 1) := by decide +kernel
theorem dX1_tell_89 : decode cX1_tell 89 = .ok (.aload_n 0, 1) := by decide +kernel
theorem dX1_tell_90 : decode cX1_tell 90 = .ok (.getfield 73, 3) := by decide +kernel
theorem dX1_tell_93 : decode cX1_tell 93 = .ok (.ifCond .eq 17, 3) := by decide +kernel
theorem dX1_tell_96 : decode cX1_tell 96 = .ok (.aload_n 0, 1) := by decide +kernel
theorem dX1_tell_97 : decode cX1_tell 97 = .ok (.getfield 67, 3) := by decide +kernel
theorem dX1_tell_100 : decode cX1_tell 100 = .ok (.aload_n 0, 1) := by decide +kernel
theorem dX1_tell_101 : decode cX1_tell 101 = .ok (.getfield 60, 3) := by decide +kernel
theorem dX1_tell_104 : decode cX1_tell 104 = .ok (.invokestatic 105, 3) := by decide +kernel
theorem dX1_tell_107 : decode cX1_tell 107 = .ok (.goto 4, 3) := by decide +kernel
theorem dX1_tell_110 : decode cX1_tell 110 = .ok (.iconst 0, 1) := by decide +kernel
theorem dX1_tell_111 : decode cX1_tell 111 = .ok (.ireturn, 1) := by decide +kernel
theorem dX1_tell_112 : decode cX1_tell 112 = .ok (.aload_n 0, 1) := by decide +kernel
theorem dX1_tell_113 : decode cX1_tell 113 = .ok (.getfield 73, 3) := by decide +kernel
theorem dX1_tell_116 : decode cX1_tell 116 = .ok (.ifCond .eq 10, 3) := by decide +kernel
theorem dX1_tell_119 : decode cX1_tell 119 = .ok (.aload_n 0, 1) := by decide +kernel
theorem dX1_tell_120 : decode cX1_tell 120 = .ok (.getfield 70, 3) := by decide +kernel
theorem dX1_tell_123 : decode cX1_tell 123 = .ok (.goto 4, 3) := by decide +kernel
theorem dX1_tell_126 : decode cX1_tell 126 = .ok (.iconst (-1), 1) := by decide +kernel
theorem dX1_tell_127 : decode cX1_tell 127 = .ok (.ireturn, 1) := by decide +kernel
theorem dX1_tell_128 : decode cX1_tell 128 = .ok (.aload_n 0, 1) := by decide +kernel
theorem dX1_tell_129 : decode cX1_tell 129 = .ok (.getfield 73, 3) := by decide +kernel
theorem dX1_tell_132 : decode cX1_tell 132 = .ok (.ifCond .eq 10, 3) := by decide +kernel
theorem dX1_tell_135 : decode cX1_tell 135 = .ok (.aload_n 0, 1) := by decide +kernel
theorem dX1_tell_136 : decode cX1_tell 136 = .ok (.getfield 57, 3) := by decide +kernel
theorem dX1_tell_139 : decode cX1_tell 139 = .ok (.goto 4, 3) := by decide +kernel
theorem dX1_tell_142 : decode cX1_tell 142 = .ok (.iconst (-1), 1) := by decide +kernel
theorem dX1_tell_143 : decode cX1_tell 143 = .ok (.ireturn, 1) := by decide +kernel
theorem dX1_tell_144 : decode cX1_tell 144 = .ok (.iconst (-1), 1) := by decide +kernel
theorem dX1_tell_145 : decode cX1_tell 145 = .ok (.ireturn, 1) := by decide +kernel
theorem dX1_areaByte_0 : decode cX1_areaByte 0 = .ok (.iload_n 1, 1) := by decide +kernel
theorem dX1_areaByte_1 : decode cX1_areaByte 1 = .ok (.ifCond .lt 21, 3) := by decide +kernel
theorem dX1_areaByte_4 : decode cX1_areaByte 4 = .ok (.iload_n 1, 1) := by decide +kernel
theorem dX1_areaByte_5 : decode cX1_areaByte 5 = .ok (.bipush 120, 2) := by decide +kernel
theorem dX1_areaByte_7 : decode cX1_areaByte 7 = .ok (.if_icmp .ge 15, 3) := by decide +kernel
theorem dX1_areaByte_10 : decode cX1_areaByte 10 = .ok (.aload_n 0, 1) := by decide +kernel
theorem dX1_areaByte_11 : decode cX1_areaByte 11 = .ok (.getfield 14, 3) := by decide +kernel
theorem dX1_areaByte_14 : decode cX1_areaByte 14 = .ok (.getfield 90, 3) := by decide +kernel
theorem dX1_areaByte_17 : decode cX1_areaByte 17 = .ok (.iload_n 1, 1) := by decide +kernel
theorem dX1_areaByte_18 : decode cX1_areaByte 18 = .ok (.iaload, 1) := by decide +kernel
theorem dX1_areaByte_19 : decode cX1_areaByte 19 = .ok (.goto 4, 3) := by decide +kernel
theorem dX1_areaByte_22 : decode cX1_areaByte 22 = .ok (.iconst (-1), 1) := by decide +kernel
theorem dX1_areaByte_23 : decode cX1_areaByte 23 = .ok (.ireturn, 1) := by decide +kernel
theorem dX2_init_0 : decode cX2_init 0 = .ok (.aload_n 0, 1) := by decide +kernel
theorem dX2_init_1 : decode cX2_init 1 = .ok (.invokespecial 3, 3) := by decide +kernel
theorem dX2_init_4 : decode cX2_init 4 = .ok (.aload_n 0, 1) := by decide +kernel
theorem dX2_init_5 : decode cX2_init 5 = .ok (.iconst 5, 1) := by decide +kernel
theorem dX2_init_6 : decode cX2_init 6 = .ok (.newarray .int, 2) := by decide +kernel
theorem dX2_init_8 : decode cX2_init 8 = .ok (.putfield 9, 3) := by decide +kernel
theorem dX2_init_11 : decode cX2_init 11 = .ok (.aload_n 0, 1) := by decide +kernel
theorem dX2_init_12 : decode cX2_init 12 = .ok (.bipush 10, 2) := by decide +kernel
theorem dX2_init_14 : decode cX2_init 14 = .ok (.newarray .int, 2) := by decide +kernel
theorem dX2_init_16 : decode cX2_init 16 = .ok (.putfield 15, 3) := by decide +kernel
theorem dX2_init_19 : decode cX2_init 19 = .ok (.aload_n 0, 1) := by decide +kernel
theorem dX2_init_20 : decode cX2_init 20 = .ok (.iconst 5, 1) := by decide +kernel
theorem dX2_init_21 : decode cX2_init 21 = .ok (.newarray .int, 2) := by decide +kernel
theorem dX2_init_23 : decode cX2_init 23 = .ok (.putfield 18, 3) := by decide +kernel
theorem dX2_init_26 : decode cX2_init 26 = .ok (.return_, 1) := by decide +kernel
theorem dX2_setDevices_0 : decode cX2_setDevices 0 = .ok (.aload_n 0, 1) := by decide +kernel
theorem dX2_setDevices_1 : decode cX2_setDevices 1 = .ok (.getfield 9, 3) := by decide +kernel
theorem dX2_setDevices_4 : decode cX2_setDevices 4 = .ok (.iload_n 1, 1) := by decide +kernel
theorem dX2_setDevices_5 : decode cX2_setDevices 5 = .ok (.iload_n 2, 1) := by decide +kernel
theorem dX2_setDevices_6 : decode cX2_setDevices 6 = .ok (.iastore, 1) := by decide +kernel
theorem dX2_setDevices_7 : decode cX2_setDevices 7 = .ok (.return_, 1) := by decide +kernel
theorem dX2_holdPair_0 : decode cX2_holdPair 0 = .ok (.iload_n 1, 1) := by decide +kernel
theorem dX2_holdPair_1 : decode cX2_holdPair 1 = .ok (.iload_n 2, 1) := by decide +kernel
theorem dX2_holdPair_2 : decode cX2_holdPair 2 = .ok (.invokestatic 21, 3) := by decide +kernel
theorem dX2_holdPair_5 : decode cX2_holdPair 5 = .ok (.istore 4, 2) := by decide +kernel
theorem dX2_holdPair_7 : decode cX2_holdPair 7 = .ok (.iload 4, 2) := by decide +kernel
theorem dX2_holdPair_9 : decode cX2_holdPair 9 = .ok (.ifCond .eq 22, 3) := by decide +kernel
theorem dX2_holdPair_12 : decode cX2_holdPair 12 = .ok (.aload_n 0, 1) := by decide +kernel
theorem dX2_holdPair_13 : decode cX2_holdPair 13 = .ok (.getfield 25, 3) := by decide +kernel
theorem dX2_holdPair_16 : decode cX2_holdPair 16 = .ok (.iload 4, 2) := by decide +kernel
theorem dX2_holdPair_18 : decode cX2_holdPair 18 = .ok (.iand, 1) := by decide +kernel
theorem dX2_holdPair_19 : decode cX2_holdPair 19 = .ok (.ifCond .eq 7, 3) := by decide +kernel
theorem dX2_holdPair_22 : decode cX2_holdPair 22 = .ok (.iconst 1, 1) := by decide +kernel
theorem dX2_holdPair_23 : decode cX2_holdPair 23 = .ok (.goto 4, 3) := by decide +kernel
theorem dX2_holdPair_26 : decode cX2_holdPair 26 = .ok (.iconst 0, 1) := by decide +kernel
theorem dX2_holdPair_27 : decode cX2_holdPair 27 = .ok (.iload_n 3, 1) := by decide +kernel
theorem dX2_holdPair_28 : decode cX2_holdPair 28 = .ok (.if_icmp .ne 5, 3) := by decide +kernel
theorem dX2_holdPair_31 : decode cX2_holdPair 31 = .ok (.iconst 0, 1) := by decide +kernel
theorem dX2_holdPair_32 : decode cX2_holdPair 32 = .ok (.ireturn, 1) := by decide +kernel
theorem dX2_holdPair_33 : decode cX2_holdPair 33 = .ok (.aload_n 0, 1) := by decide +kernel
theorem dX2_holdPair_34 : decode cX2_holdPair 34 = .ok (.dup, 1) := by decide +kernel
theorem dX2_holdPair_35 : decode cX2_holdPair 35 = .ok (.getfield 25, 3) := by decide +kernel
theorem dX2_holdPair_38 : decode cX2_holdPair 38 = .ok (.iload 4, 2) := by decide +kernel
theorem dX2_holdPair_40 : decode cX2_holdPair 40 = .ok (.ixor, 1) := by decide +kernel
theorem dX2_holdPair_41 : decode cX2_holdPair 41 = .ok (.putfield 25, 3) := by decide +kernel
theorem dX2_holdPair_44 : decode cX2_holdPair 44 = .ok (.iconst 1, 1) := by decide +kernel
theorem dX2_holdPair_45 : decode cX2_holdPair 45 = .ok (.ireturn, 1) := by decide +kernel
theorem dX2_bitOf_0 : decode cX2_bitOf 0 = .ok (.iconst 0, 1) := by decide +kernel
theorem dX2_bitOf_1 : decode cX2_bitOf 1 = .ok (.istore_n 2, 1) := by decide +kernel
theorem dX2_bitOf_2 : decode cX2_bitOf 2 = .ok (.iload_n 2, 1) := by decide +kernel
theorem dX2_bitOf_3 : decode cX2_bitOf 3 = .ok (.bipush 10, 2) := by decide +kernel
theorem dX2_bitOf_5 : decode cX2_bitOf 5 = .ok (.if_icmp .ge 31, 3) := by decide +kernel
theorem dX2_bitOf_8 : decode cX2_bitOf 8 = .ok (.getstatic 29, 3) := by decide +kernel
theorem dX2_bitOf_11 : decode cX2_bitOf 11 = .ok (.iload_n 2, 1) := by decide +kernel
theorem dX2_bitOf_12 : decode cX2_bitOf 12 = .ok (.iaload, 1) := by decide +kernel
theorem dX2_bitOf_13 : decode cX2_bitOf 13 = .ok (.iload_n 0, 1) := by decide +kernel
theorem dX2_bitOf_14 : decode cX2_bitOf 14 = .ok (.if_icmp .ne 16, 3) := by decide +kernel
theorem dX2_bitOf_17 : decode cX2_bitOf 17 = .ok (.getstatic 32, 3) := by decide +kernel
theorem dX2_bitOf_20 : decode cX2_bitOf 20 = .ok (.iload_n 2, 1) := by decide +kernel
theorem dX2_bitOf_21 : decode cX2_bitOf 21 = .ok (.iaload, 1) := by decide +kernel
theorem dX2_bitOf_22 : decode cX2_bitOf 22 = .ok (.iload_n 1, 1) := by decide +kernel
theorem dX2_bitOf_23 : decode cX2_bitOf 23 = .ok (.if_icmp .ne 7, 3) := by decide +kernel
theorem dX2_bitOf_26 : decode cX2_bitOf 26 = .ok (.iconst 1, 1) := by decide +kernel
theorem dX2_bitOf_27 : decode cX2_bitOf 27 = .ok (.iload_n 2, 1) := by decide +kernel
theorem dX2_bitOf_28 : decode cX2_bitOf 28 = .ok (.ishl, 1) := by decide +kernel
theorem dX2_bitOf_29 : decode cX2_bitOf 29 = .ok (.ireturn, 1) := by decide +kernel
theorem dX2_bitOf_30 : decode cX2_bitOf 30 = .ok (.iinc 2 1, 3) := by decide +kernel
theorem dX2_bitOf_33 : decode cX2_bitOf 33 = .ok (.goto (-31), 3) := by decide +kernel
theorem dX2_bitOf_36 : decode cX2_bitOf 36 = .ok (.iconst 0, 1) := by decide +kernel
theorem dX2_bitOf_37 : decode cX2_bitOf 37 = .ok (.ireturn, 1) := by decide +kernel
theorem dX2_learnPrices_0 : decode cX2_learnPrices 0 = .ok (.aload_n 0, 1) := by decide +kernel
theorem dX2_learnPrices_1 : decode cX2_learnPrices 1 = .ok (.aload_n 1, 1) := by decide +kernel
theorem dX2_learnPrices_2 : decode cX2_learnPrices 2 = .ok (.invokevirtual 35, 3) := by decide +kernel
theorem dX2_learnPrices_5 : decode cX2_learnPrices 5 = .ok (.putfield 41, 3) := by decide +kernel
theorem dX2_learnPrices_8 : decode cX2_learnPrices 8 = .ok (.aload_n 0, 1) := by decide +kernel
theorem dX2_learnPrices_9 : decode cX2_learnPrices 9 = .ok (.aload_n 0, 1) := by decide +kernel
theorem dX2_learnPrices_10 : decode cX2_learnPrices 10 = .ok (.getfield 41, 3) := by decide +kernel
theorem dX2_learnPrices_13 : decode cX2_learnPrices 13 = .ok (.iconst (-1), 1) := by decide +kernel
theorem dX2_learnPrices_14 : decode cX2_learnPrices 14 = .ok (.if_icmp .ne 7, 3) := by decide +kernel
theorem dX2_learnPrices_17 : decode cX2_learnPrices 17 = .ok (.iconst 0, 1) := by decide +kernel
theorem dX2_learnPrices_18 : decode cX2_learnPrices 18 = .ok (.goto 16, 3) := by decide +kernel
theorem dX2_learnPrices_21 : decode cX2_learnPrices 21 = .ok (.iconst 3, 1) := by decide +kernel
theorem dX2_learnPrices_22 : decode cX2_learnPrices 22 = .ok (.aload_n 1, 1) := by decide +kernel
theorem dX2_learnPrices_23 : decode cX2_learnPrices 23 = .ok (.aload_n 0, 1) := by decide +kernel
theorem dX2_learnPrices_24 : decode cX2_learnPrices 24 = .ok (.getfield 41, 3) := by decide +kernel
theorem dX2_learnPrices_27 : decode cX2_learnPrices 27 = .ok (.invokevirtual 44, 3) := by decide +kernel
theorem dX2_learnPrices_30 : decode cX2_learnPrices 30 = .ok (.getfield 48, 3) := by decide +kernel
theorem dX2_learnPrices_33 : decode cX2_learnPrices 33 = .ok (.iadd, 1) := by decide +kernel
theorem dX2_learnPrices_34 : decode cX2_learnPrices 34 = .ok (.putfield 53, 3) := by decide +kernel
theorem dX2_learnPrices_37 : decode cX2_learnPrices 37 = .ok (.iconst 0, 1) := by decide +kernel
theorem dX2_learnPrices_38 : decode cX2_learnPrices 38 = .ok (.istore_n 3, 1) := by decide +kernel
theorem dX2_learnPrices_39 : decode cX2_learnPrices 39 = .ok (.iload_n 3, 1) := by decide +kernel
theorem dX2_learnPrices_40 : decode cX2_learnPrices 40 = .ok (.bipush 10, 2) := by decide +kernel
theorem dX2_learnPrices_42 : decode cX2_learnPrices 42 = .ok (.if_icmp .ge 53, 3) := by decide +kernel
theorem dX2_learnPrices_45 : decode cX2_learnPrices 45 = .ok (.iload_n 2, 1) := by decide +kernel
theorem dX2_learnPrices_46 : decode cX2_learnPrices 46 = .ok (.iconst 1, 1) := by decide +kernel
theorem dX2_learnPrices_47 : decode cX2_learnPrices 47 = .ok (.iload_n 3, 1) := by decide +kernel
theorem dX2_learnPrices_48 : decode cX2_learnPrices 48 = .ok (.ishl, 1) := by decide +kernel
theorem dX2_learnPrices_49 : decode cX2_learnPrices 49 = .ok (.iand, 1) := by decide +kernel
theorem dX2_learnPrices_50 : decode cX2_learnPrices 50 = .ok (.ifCond .eq 7, 3) := by decide +kernel
theorem dX2_learnPrices_53 : decode cX2_learnPrices 53 = .ok (.iconst 1, 1) := by decide +kernel
theorem dX2_learnPrices_54 : decode cX2_learnPrices 54 = .ok (.goto 4, 3) := by decide +kernel
theorem dX2_learnPrices_57 : decode cX2_learnPrices 57 = .ok (.iconst 0, 1) := by decide +kernel
theorem dX2_learnPrices_58 : decode cX2_learnPrices 58 = .ok (.istore 4, 2) := by decide +kernel
theorem dX2_learnPrices_60 : decode cX2_learnPrices 60 = .ok (.aload_n 0, 1) := by decide +kernel
theorem dX2_learnPrices_61 : decode cX2_learnPrices 61 = .ok (.getfield 15, 3) := by decide +kernel
theorem dX2_learnPrices_64 : decode cX2_learnPrices 64 = .ok (.iload_n 3, 1) := by decide +kernel
theorem dX2_learnPrices_65 : decode cX2_learnPrices 65 = .ok (.iload 4, 2) := by decide +kernel
theorem dX2_learnPrices_67 : decode cX2_learnPrices 67 = .ok (.ifCond .eq 20, 3) := by decide +kernel
theorem dX2_learnPrices_70 : decode cX2_learnPrices 70 = .ok (.aload_n 1, 1) := by decide +kernel
theorem dX2_learnPrices_71 : decode cX2_learnPrices 71 = .ok (.getstatic 29, 3) := by decide +kernel
theorem dX2_learnPrices_74 : decode cX2_learnPrices 74 = .ok (.iload_n 3, 1) := by decide +kernel
theorem dX2_learnPrices_75 : decode cX2_learnPrices 75 = .ok (.iaload, 1) := by decide +kernel
theorem dX2_learnPrices_76 : decode cX2_learnPrices 76 = .ok (.getstatic 32, 3) := by decide +kernel
theorem dX2_learnPrices_79 : decode cX2_learnPrices 79 = .ok (.iload_n 3, 1) := by decide +kernel
theorem dX2_learnPrices_80 : decode cX2_learnPrices 80 = .ok (.iaload, 1) := by decide +kernel
theorem dX2_learnPrices_81 : decode cX2_learnPrices 81 = .ok (.invokevirtual 56, 3) := by decide +kernel
theorem dX2_learnPrices_84 : decode cX2_learnPrices 84 = .ok (.goto 4, 3) := by decide +kernel
theorem dX2_learnPrices_87 : decode cX2_learnPrices 87 = .ok (.iconst (-1), 1) := by decide +kernel
theorem dX2_learnPrices_88 : decode cX2_learnPrices 88 = .ok (.iastore, 1) := by decide +kernel
theorem dX2_learnPrices_89 : decode cX2_learnPrices 89 = .ok (.iinc 3 1, 3) := by decide +kernel
theorem dX2_learnPrices_92 : decode cX2_learnPrices 92 = .ok (.goto (-53), 3) := by decide +kernel
theorem dX2_learnPrices_95 : decode cX2_learnPrices 95 = .ok (.return_, 1) := by decide +kernel
theorem dX2_sentWith_0 : decode cX2_sentWith 0 = .ok (.iconst 0, 1) := by decide +kernel
theorem dX2_sentWith_1 : decode cX2_sentWith 1 = .ok (.istore_n 2, 1) := by decide +kernel
theorem dX2_sentWith_2 : decode cX2_sentWith 2 = .ok (.iload_n 2, 1) := by decide +kernel
theorem dX2_sentWith_3 : decode cX2_sentWith 3 = .ok (.iconst 5, 1) := by decide +kernel
theorem dX2_sentWith_4 : decode cX2_sentWith 4 = .ok (.if_icmp .ge 31, 3) := by decide +kernel
theorem dX2_sentWith_7 : decode cX2_sentWith 7 = .ok (.aload_n 0, 1) := by decide +kernel
theorem dX2_sentWith_8 : decode cX2_sentWith 8 = .ok (.getfield 18, 3) := by decide +kernel
theorem dX2_sentWith_11 : decode cX2_sentWith 11 = .ok (.iload_n 2, 1) := by decide +kernel
theorem dX2_sentWith_12 : decode cX2_sentWith 12 = .ok (.iload_n 2, 1) := by decide +kernel
theorem dX2_sentWith_13 : decode cX2_sentWith 13 = .ok (.aload_n 0, 1) := by decide +kernel
theorem dX2_sentWith_14 : decode cX2_sentWith 14 = .ok (.getfield 41, 3) := by decide +kernel
theorem dX2_sentWith_17 : decode cX2_sentWith 17 = .ok (.if_icmp .ne 7, 3) := by decide +kernel
theorem dX2_sentWith_20 : decode cX2_sentWith 20 = .ok (.iconst 0, 1) := by decide +kernel
theorem dX2_sentWith_21 : decode cX2_sentWith 21 = .ok (.goto 7, 3) := by decide +kernel
theorem dX2_sentWith_24 : decode cX2_sentWith 24 = .ok (.aload_n 0, 1) := by decide +kernel
theorem dX2_sentWith_25 : decode cX2_sentWith 25 = .ok (.getfield 53, 3) := by decide +kernel
theorem dX2_sentWith_28 : decode cX2_sentWith 28 = .ok (.iastore, 1) := by decide +kernel
theorem dX2_sentWith_29 : decode cX2_sentWith 29 = .ok (.iinc 2 1, 3) := by decide +kernel
theorem dX2_sentWith_32 : decode cX2_sentWith 32 = .ok (.goto (-30), 3) := by decide +kernel
theorem dX2_sentWith_35 : decode cX2_sentWith 35 = .ok (.bipush 9, 2) := by decide +kernel
theorem dX2_sentWith_37 : decode cX2_sentWith 37 = .ok (.istore_n 2, 1) := by decide +kernel
theorem dX2_sentWith_38 : decode cX2_sentWith 38 = .ok (.iload_n 2, 1) := by decide +kernel
theorem dX2_sentWith_39 : decode cX2_sentWith 39 = .ok (.ifCond .lt 65, 3) := by decide +kernel
theorem dX2_sentWith_42 : decode cX2_sentWith 42 = .ok (.iload_n 1, 1) := by decide +kernel
theorem dX2_sentWith_43 : decode cX2_sentWith 43 = .ok (.iconst 1, 1) := by decide +kernel
theorem dX2_sentWith_44 : decode cX2_sentWith 44 = .ok (.iload_n 2, 1) := by decide +kernel
theorem dX2_sentWith_45 : decode cX2_sentWith 45 = .ok (.ishl, 1) := by decide +kernel
theorem dX2_sentWith_46 : decode cX2_sentWith 46 = .ok (.iand, 1) := by decide +kernel
theorem dX2_sentWith_47 : decode cX2_sentWith 47 = .ok (.ifCond .eq 51, 3) := by decide +kernel
theorem dX2_sentWith_50 : decode cX2_sentWith 50 = .ok (.aload_n 0, 1) := by decide +kernel
theorem dX2_sentWith_51 : decode cX2_sentWith 51 = .ok (.getfield 15, 3) := by decide +kernel
theorem dX2_sentWith_54 : decode cX2_sentWith 54 = .ok (.iload_n 2, 1) := by decide +kernel
theorem dX2_sentWith_55 : decode cX2_sentWith 55 = .ok (.iaload, 1) := by decide +kernel
theorem dX2_sentWith_56 : decode cX2_sentWith 56 = .ok (.iconst (-1), 1) := by decide +kernel
theorem dX2_sentWith_57 : decode cX2_sentWith 57 = .ok (.if_icmp .eq 41, 3) := by decide +kernel
theorem dX2_sentWith_60 : decode cX2_sentWith 60 = .ok (.getstatic 29, 3) := by decide +kernel
theorem dX2_sentWith_63 : decode cX2_sentWith 63 = .ok (.iload_n 2, 1) := by decide +kernel
theorem dX2_sentWith_64 : decode cX2_sentWith 64 = .ok (.iaload, 1) := by decide +kernel
theorem dX2_sentWith_65 : decode cX2_sentWith 65 = .ok (.istore_n 3, 1) := by decide +kernel
theorem dX2_sentWith_66 : decode cX2_sentWith 66 = .ok (.aload_n 0, 1) := by decide +kernel
theorem dX2_sentWith_67 : decode cX2_sentWith 67 = .ok (.getfield 18, 3) := by decide +kernel
theorem dX2_sentWith_70 : decode cX2_sentWith 70 = .ok (.iload_n 3, 1) := by decide +kernel
theorem dX2_sentWith_71 : decode cX2_sentWith 71 = .ok (.aload_n 0, 1) := by decide +kernel
theorem dX2_sentWith_72 : decode cX2_sentWith 72 = .ok (.getfield 18, 3) := by decide +kernel
theorem dX2_sentWith_75 : decode cX2_sentWith 75 = .ok (.iload_n 3, 1) := by decide +kernel
theorem dX2_sentWith_76 : decode cX2_sentWith 76 = .ok (.iaload, 1) := by decide +kernel
theorem dX2_sentWith_77 : decode cX2_sentWith 77 = .ok (.aload_n 0, 1) := by decide +kernel
theorem dX2_sentWith_78 : decode cX2_sentWith 78 = .ok (.getfield 15, 3) := by decide +kernel
theorem dX2_sentWith_81 : decode cX2_sentWith 81 = .ok (.iload_n 2, 1) := by decide +kernel
theorem dX2_sentWith_82 : decode cX2_sentWith 82 = .ok (.iaload, 1) := by decide +kernel
theorem dX2_sentWith_83 : decode cX2_sentWith 83 = .ok (.aload_n 0, 1) := by decide +kernel
theorem dX2_sentWith_84 : decode cX2_sentWith 84 = .ok (.getfield 18, 3) := by decide +kernel
theorem dX2_sentWith_87 : decode cX2_sentWith 87 = .ok (.getstatic 32, 3) := by decide +kernel
theorem dX2_sentWith_90 : decode cX2_sentWith 90 = .ok (.iload_n 2, 1) := by decide +kernel
theorem dX2_sentWith_91 : decode cX2_sentWith 91 = .ok (.iaload, 1) := by decide +kernel
theorem dX2_sentWith_92 : decode cX2_sentWith 92 = .ok (.iaload, 1) := by decide +kernel
theorem dX2_sentWith_93 : decode cX2_sentWith 93 = .ok (.iadd, 1) := by decide +kernel
theorem dX2_sentWith_94 : decode cX2_sentWith 94 = .ok (.invokestatic 59, 3) := by decide +kernel
theorem dX2_sentWith_97 : decode cX2_sentWith 97 = .ok (.iastore, 1) := by decide +kernel
theorem dX2_sentWith_98 : decode cX2_sentWith 98 = .ok (.iinc 2 (-1), 3) := by decide +kernel
theorem dX2_sentWith_101 : decode cX2_sentWith 101 = .ok (.goto (-63), 3) := by decide +kernel
theorem dX2_sentWith_104 : decode cX2_sentWith 104 = .ok (.iconst 0, 1) := by decide +kernel
theorem dX2_sentWith_105 : decode cX2_sentWith 105 = .ok (.istore_n 2, 1) := by decide +kernel
theorem dX2_sentWith_106 : decode cX2_sentWith 106 = .ok (.iconst 0, 1) := by decide +kernel
theorem dX2_sentWith_107 : decode cX2_sentWith 107 = .ok (.istore_n 3, 1) := by decide +kernel
theorem dX2_sentWith_108 : decode cX2_sentWith 108 = .ok (.iload_n 3, 1) := by decide +kernel
theorem dX2_sentWith_109 : decode cX2_sentWith 109 = .ok (.iconst 5, 1) := by decide +kernel
theorem dX2_sentWith_110 : decode cX2_sentWith 110 = .ok (.if_icmp .ge 25, 3) := by decide +kernel
theorem dX2_sentWith_113 : decode cX2_sentWith 113 = .ok (.iload_n 2, 1) := by decide +kernel
theorem dX2_sentWith_114 : decode cX2_sentWith 114 = .ok (.aload_n 0, 1) := by decide +kernel
theorem dX2_sentWith_115 : decode cX2_sentWith 115 = .ok (.getfield 9, 3) := by decide +kernel
theorem dX2_sentWith_118 : decode cX2_sentWith 118 = .ok (.iload_n 3, 1) := by decide +kernel
theorem dX2_sentWith_119 : decode cX2_sentWith 119 = .ok (.iaload, 1) := by decide +kernel
theorem dX2_sentWith_120 : decode cX2_sentWith 120 = .ok (.aload_n 0, 1) := by decide +kernel
theorem dX2_sentWith_121 : decode cX2_sentWith 121 = .ok (.getfield 18, 3) := by decide +kernel
theorem dX2_sentWith_124 : decode cX2_sentWith 124 = .ok (.iload_n 3, 1) := by decide +kernel
theorem dX2_sentWith_125 : decode cX2_sentWith 125 = .ok (.iaload, 1) := by decide +kernel
theorem dX2_sentWith_126 : decode cX2_sentWith 126 = .ok (.imul, 1) := by decide +kernel
theorem dX2_sentWith_127 : decode cX2_sentWith 127 = .ok (.iadd, 1) := by decide +kernel
theorem dX2_sentWith_128 : decode cX2_sentWith 128 = .ok (.istore_n 2, 1) := by decide +kernel
theorem dX2_sentWith_129 : decode cX2_sentWith 129 = .ok (.iinc 3 1, 3) := by decide +kernel
theorem dX2_sentWith_132 : decode cX2_sentWith 132 = .ok (.goto (-24), 3) := by decide +kernel
theorem dX2_sentWith_135 : decode cX2_sentWith 135 = .ok (.iload_n 2, 1) := by decide +kernel
theorem dX2_sentWith_136 : decode cX2_sentWith 136 = .ok (.ireturn, 1) := by decide +kernel
theorem dX2_choose_0 : decode cX2_choose 0 = .ok (.aload_n 0, 1) := by decide +kernel
theorem dX2_choose_1 : decode cX2_choose 1 = .ok (.aload_n 0, 1) := by decide +kernel
theorem dX2_choose_2 : decode cX2_choose 2 = .ok (.iconst 0, 1) := by decide +kernel
theorem dX2_choose_3 : decode cX2_choose 3 = .ok (.invokevirtual 64, 3) := by decide +kernel
theorem dX2_choose_6 : decode cX2_choose 6 = .ok (.putfield 68, 3) := by decide +kernel
theorem dX2_choose_9 : decode cX2_choose 9 = .ok (.aload_n 0, 1) := by decide +kernel
theorem dX2_choose_10 : decode cX2_choose 10 = .ok (.iconst 0, 1) := by decide +kernel
theorem dX2_choose_11 : decode cX2_choose 11 = .ok (.putfield 71, 3) := by decide +kernel
theorem dX2_choose_14 : decode cX2_choose 14 = .ok (.iconst 1, 1) := by decide +kernel
theorem dX2_choose_15 : decode cX2_choose 15 = .ok (.istore_n 2, 1) := by decide +kernel
theorem dX2_choose_16 : decode cX2_choose 16 = .ok (.iload_n 2, 1) := by decide +kernel
theorem dX2_choose_17 : decode cX2_choose 17 = .ok (.iload_n 1, 1) := by decide +kernel
theorem dX2_choose_18 : decode cX2_choose 18 = .ok (.if_icmp .gt 14, 3) := by decide +kernel
theorem dX2_choose_21 : decode cX2_choose 21 = .ok (.aload_n 0, 1) := by decide +kernel
theorem dX2_choose_22 : decode cX2_choose 22 = .ok (.iload_n 2, 1) := by decide +kernel
theorem dX2_choose_23 : decode cX2_choose 23 = .ok (.invokevirtual 74, 3) := by decide +kernel
theorem dX2_choose_26 : decode cX2_choose 26 = .ok (.iinc 2 1, 3) := by decide +kernel
theorem dX2_choose_29 : decode cX2_choose 29 = .ok (.goto (-13), 3) := by decide +kernel
theorem dX2_choose_32 : decode cX2_choose 32 = .ok (.return_, 1) := by decide +kernel
theorem dX2_chooseOfSize_0 : decode cX2_chooseOfSize 0 = .ok (.iconst 0, 1) := by decide +kernel
theorem dX2_chooseOfSize_1 : decode cX2_chooseOfSize 1 = .ok (.istore_n 2, 1) := by decide +kernel
theorem dX2_chooseOfSize_2 : decode cX2_chooseOfSize 2 = .ok (.iload_n 2, 1) := by decide +kernel
theorem dX2_chooseOfSize_3 : decode cX2_chooseOfSize 3 = .ok (.bipush 10, 2) := by decide +kernel
theorem dX2_chooseOfSize_5 : decode cX2_chooseOfSize 5 = .ok (.if_icmp .ge 96, 3) := by decide +kernel
theorem dX2_chooseOfSize_8 : decode cX2_chooseOfSize 8 = .ok (.iload_n 1, 1) := by decide +kernel
theorem dX2_chooseOfSize_9 : decode cX2_chooseOfSize 9 = .ok (.iconst 1, 1) := by decide +kernel
theorem dX2_chooseOfSize_10 : decode cX2_chooseOfSize 10 = .ok (.if_icmp .ne 10, 3) := by decide +kernel
theorem dX2_chooseOfSize_13 : decode cX2_chooseOfSize 13 = .ok (.aload_n 0, 1) := by decide +kernel
theorem dX2_chooseOfSize_14 : decode cX2_chooseOfSize 14 = .ok (.iconst 1, 1) := by decide +kernel
theorem dX2_chooseOfSize_15 : decode cX2_chooseOfSize 15 = .ok (.iload_n 2, 1) := by decide +kernel
theorem dX2_chooseOfSize_16 : decode cX2_chooseOfSize 16 = .ok (.ishl, 1) := by decide +kernel
theorem dX2_chooseOfSize_17 : decode cX2_chooseOfSize 17 = .ok (.invokevirtual 78, 3) := by decide +kernel
theorem dX2_chooseOfSize_20 : decode cX2_chooseOfSize 20 = .ok (.iload_n 2, 1) := by decide +kernel
theorem dX2_chooseOfSize_21 : decode cX2_chooseOfSize 21 = .ok (.iconst 1, 1) := by decide +kernel
theorem dX2_chooseOfSize_22 : decode cX2_chooseOfSize 22 = .ok (.iadd, 1) := by decide +kernel
theorem dX2_chooseOfSize_23 : decode cX2_chooseOfSize 23 = .ok (.istore_n 3, 1) := by decide +kernel
theorem dX2_chooseOfSize_24 : decode cX2_chooseOfSize 24 = .ok (.iload_n 3, 1) := by decide +kernel
theorem dX2_chooseOfSize_25 : decode cX2_chooseOfSize 25 = .ok (.bipush 10, 2) := by decide +kernel
theorem dX2_chooseOfSize_27 : decode cX2_chooseOfSize 27 = .ok (.if_icmp .ge 68, 3) := by decide +kernel
theorem dX2_chooseOfSize_30 : decode cX2_chooseOfSize 30 = .ok (.iload_n 1, 1) := by decide +kernel
theorem dX2_chooseOfSize_31 : decode cX2_chooseOfSize 31 = .ok (.iconst 1, 1) := by decide +kernel
theorem dX2_chooseOfSize_32 : decode cX2_chooseOfSize 32 = .ok (.if_icmp .le 63, 3) := by decide +kernel
theorem dX2_chooseOfSize_35 : decode cX2_chooseOfSize 35 = .ok (.iconst 1, 1) := by decide +kernel
theorem dX2_chooseOfSize_36 : decode cX2_chooseOfSize 36 = .ok (.iload_n 2, 1) := by decide +kernel
theorem dX2_chooseOfSize_37 : decode cX2_chooseOfSize 37 = .ok (.ishl, 1) := by decide +kernel
theorem dX2_chooseOfSize_38 : decode cX2_chooseOfSize 38 = .ok (.iconst 1, 1) := by decide +kernel
theorem dX2_chooseOfSize_39 : decode cX2_chooseOfSize 39 = .ok (.iload_n 3, 1) := by decide +kernel
theorem dX2_chooseOfSize_40 : decode cX2_chooseOfSize 40 = .ok (.ishl, 1) := by decide +kernel
theorem dX2_chooseOfSize_41 : decode cX2_chooseOfSize 41 = .ok (.ior, 1) := by decide +kernel
theorem dX2_chooseOfSize_42 : decode cX2_chooseOfSize 42 = .ok (.istore 4, 2) := by decide +kernel
theorem dX2_chooseOfSize_44 : decode cX2_chooseOfSize 44 = .ok (.iload_n 1, 1) := by decide +kernel
theorem dX2_chooseOfSize_45 : decode cX2_chooseOfSize 45 = .ok (.iconst 2, 1) := by decide +kernel
theorem dX2_chooseOfSize_46 : decode cX2_chooseOfSize 46 = .ok (.if_icmp .ne 9, 3) := by decide +kernel
theorem dX2_chooseOfSize_49 : decode cX2_chooseOfSize 49 = .ok (.aload_n 0, 1) := by decide +kernel
theorem dX2_chooseOfSize_50 : decode cX2_chooseOfSize 50 = .ok (.iload 4, 2) := by decide +kernel
theorem dX2_chooseOfSize_52 : decode cX2_chooseOfSize 52 = .ok (.invokevirtual 78, 3) := by decide +kernel
theorem dX2_chooseOfSize_55 : decode cX2_chooseOfSize 55 = .ok (.iload_n 3, 1) := by decide +kernel
theorem dX2_chooseOfSize_56 : decode cX2_chooseOfSize 56 = .ok (.iconst 1, 1) := by decide +kernel
theorem dX2_chooseOfSize_57 : decode cX2_chooseOfSize 57 = .ok (.iadd, 1) := by decide +kernel
theorem dX2_chooseOfSize_58 : decode cX2_chooseOfSize 58 = .ok (.istore 5, 2) := by decide +kernel
theorem dX2_chooseOfSize_60 : decode cX2_chooseOfSize 60 = .ok (.iload 5, 2) := by decide +kernel
theorem dX2_chooseOfSize_62 : decode cX2_chooseOfSize 62 = .ok (.bipush 10, 2) := by decide +kernel
theorem dX2_chooseOfSize_64 : decode cX2_chooseOfSize 64 = .ok (.if_icmp .ge 25, 3) := by decide +kernel
theorem dX2_chooseOfSize_67 : decode cX2_chooseOfSize 67 = .ok (.iload_n 1, 1) := by decide +kernel
theorem dX2_chooseOfSize_68 : decode cX2_chooseOfSize 68 = .ok (.iconst 2, 1) := by decide +kernel
theorem dX2_chooseOfSize_69 : decode cX2_chooseOfSize 69 = .ok (.if_icmp .le 20, 3) := by decide +kernel
theorem dX2_chooseOfSize_72 : decode cX2_chooseOfSize 72 = .ok (.aload_n 0, 1) := by decide +kernel
theorem dX2_chooseOfSize_73 : decode cX2_chooseOfSize 73 = .ok (.iload 4, 2) := by decide +kernel
theorem dX2_chooseOfSize_75 : decode cX2_chooseOfSize 75 = .ok (.iconst 1, 1) := by decide +kernel
theorem dX2_chooseOfSize_76 : decode cX2_chooseOfSize 76 = .ok (.iload 5, 2) := by decide +kernel
theorem dX2_chooseOfSize_78 : decode cX2_chooseOfSize 78 = .ok (.ishl, 1) := by decide +kernel
theorem dX2_chooseOfSize_79 : decode cX2_chooseOfSize 79 = .ok (.ior, 1) := by decide +kernel
theorem dX2_chooseOfSize_80 : decode cX2_chooseOfSize 80 = .ok (.invokevirtual 78, 3) := by decide +kernel
theorem dX2_chooseOfSize_83 : decode cX2_chooseOfSize 83 = .ok (.iinc 5 1, 3) := by decide +kernel
theorem dX2_chooseOfSize_86 : decode cX2_chooseOfSize 86 = .ok (.goto (-26), 3) := by decide +kernel
theorem dX2_chooseOfSize_89 : decode cX2_chooseOfSize 89 = .ok (.iinc 3 1, 3) := by decide +kernel
theorem dX2_chooseOfSize_92 : decode cX2_chooseOfSize 92 = .ok (.goto (-68), 3) := by decide +kernel
theorem dX2_chooseOfSize_95 : decode cX2_chooseOfSize 95 = .ok (.iinc 2 1, 3) := by decide +kernel
theorem dX2_chooseOfSize_98 : decode cX2_chooseOfSize 98 = .ok (.goto (-96), 3) := by decide +kernel
theorem dX2_chooseOfSize_101 : decode cX2_chooseOfSize 101 = .ok (.return_, 1) := by decide +kernel
theorem dX2_consider_0 : decode cX2_consider 0 = .ok (.aload_n 0, 1) := by decide +kernel
theorem dX2_consider_1 : decode cX2_consider 1 = .ok (.iload_n 1, 1) := by decide +kernel
theorem dX2_consider_2 : decode cX2_consider 2 = .ok (.invokevirtual 64, 3) := by decide +kernel
theorem dX2_consider_5 : decode cX2_consider 5 = .ok (.istore_n 2, 1) := by decide +kernel
theorem dX2_consider_6 : decode cX2_consider 6 = .ok (.iload_n 2, 1) := by decide +kernel
theorem dX2_consider_7 : decode cX2_consider 7 = .ok (.aload_n 0, 1) := by decide +kernel
theorem dX2_consider_8 : decode cX2_consider 8 = .ok (.getfield 68, 3) := by decide +kernel
theorem dX2_consider_11 : decode cX2_consider 11 = .ok (.if_icmp .ge 13, 3) := by decide +kernel
theorem dX2_consider_14 : decode cX2_consider 14 = .ok (.aload_n 0, 1) := by decide +kernel
theorem dX2_consider_15 : decode cX2_consider 15 = .ok (.iload_n 2, 1) := by decide +kernel
theorem dX2_consider_16 : decode cX2_consider 16 = .ok (.putfield 68, 3) := by decide +kernel
theorem dX2_consider_19 : decode cX2_consider 19 = .ok (.aload_n 0, 1) := by decide +kernel
theorem dX2_consider_20 : decode cX2_consider 20 = .ok (.iload_n 1, 1) := by decide +kernel
theorem dX2_consider_21 : decode cX2_consider 21 = .ok (.putfield 71, 3) := by decide +kernel
theorem dX2_consider_24 : decode cX2_consider 24 = .ok (.return_, 1) := by decide +kernel
theorem dX3_init_0 : decode cX3_init 0 = .ok (.aload_n 0, 1) := by decide +kernel
theorem dX3_init_1 : decode cX3_init 1 = .ok (.invokespecial 3, 3) := by decide +kernel
theorem dX3_init_4 : decode cX3_init 4 = .ok (.aload_n 0, 1) := by decide +kernel
theorem dX3_init_5 : decode cX3_init 5 = .ok (.bipush 120, 2) := by decide +kernel
theorem dX3_init_7 : decode cX3_init 7 = .ok (.newarray .int, 2) := by decide +kernel
theorem dX3_init_9 : decode cX3_init 9 = .ok (.putfield 9, 3) := by decide +kernel
theorem dX3_init_12 : decode cX3_init 12 = .ok (.aload_n 0, 1) := by decide +kernel
theorem dX3_init_13 : decode cX3_init 13 = .ok (.bipush 120, 2) := by decide +kernel
theorem dX3_init_15 : decode cX3_init 15 = .ok (.newarray .int, 2) := by decide +kernel
theorem dX3_init_17 : decode cX3_init 17 = .ok (.putfield 15, 3) := by decide +kernel
theorem dX3_init_20 : decode cX3_init 20 = .ok (.aload_n 0, 1) := by decide +kernel
theorem dX3_init_21 : decode cX3_init 21 = .ok (.bipush 120, 2) := by decide +kernel
theorem dX3_init_23 : decode cX3_init 23 = .ok (.newarray .int, 2) := by decide +kernel
theorem dX3_init_25 : decode cX3_init 25 = .ok (.putfield 18, 3) := by decide +kernel
theorem dX3_init_28 : decode cX3_init 28 = .ok (.aload_n 0, 1) := by decide +kernel
theorem dX3_init_29 : decode cX3_init 29 = .ok (.bipush 120, 2) := by decide +kernel
theorem dX3_init_31 : decode cX3_init 31 = .ok (.newarray .int, 2) := by decide +kernel
theorem dX3_init_33 : decode cX3_init 33 = .ok (.putfield 21, 3) := by decide +kernel
theorem dX3_init_36 : decode cX3_init 36 = .ok (.return_, 1) := by decide +kernel
theorem dX3_clear_0 : decode cX3_clear 0 = .ok (.aload_n 0, 1) := by decide +kernel
theorem dX3_clear_1 : decode cX3_clear 1 = .ok (.iconst 0, 1) := by decide +kernel
theorem dX3_clear_2 : decode cX3_clear 2 = .ok (.putfield 24, 3) := by decide +kernel
theorem dX3_clear_5 : decode cX3_clear 5 = .ok (.aload_n 0, 1) := by decide +kernel
theorem dX3_clear_6 : decode cX3_clear 6 = .ok (.iconst 3, 1) := by decide +kernel
theorem dX3_clear_7 : decode cX3_clear 7 = .ok (.putfield 28, 3) := by decide +kernel
theorem dX3_clear_10 : decode cX3_clear 10 = .ok (.return_, 1) := by decide +kernel
theorem dX3_append_0 : decode cX3_append 0 = .ok (.aload_n 0, 1) := by decide +kernel
theorem dX3_append_1 : decode cX3_append 1 = .ok (.getfield 24, 3) := by decide +kernel
theorem dX3_append_4 : decode cX3_append 4 = .ok (.bipush 120, 2) := by decide +kernel
theorem dX3_append_6 : decode cX3_append 6 = .ok (.if_icmp .lt 4, 3) := by decide +kernel
theorem dX3_append_9 : decode cX3_append 9 = .ok (.return_, 1) := by decide +kernel
theorem dX3_append_10 : decode cX3_append 10 = .ok (.aload_n 0, 1) := by decide +kernel
theorem dX3_append_11 : decode cX3_append 11 = .ok (.getfield 9, 3) := by decide +kernel
theorem dX3_append_14 : decode cX3_append 14 = .ok (.aload_n 0, 1) := by decide +kernel
theorem dX3_append_15 : decode cX3_append 15 = .ok (.getfield 24, 3) := by decide +kernel
theorem dX3_append_18 : decode cX3_append 18 = .ok (.iload_n 1, 1) := by decide +kernel
theorem dX3_append_19 : decode cX3_append 19 = .ok (.iastore, 1) := by decide +kernel
theorem dX3_append_20 : decode cX3_append 20 = .ok (.aload_n 0, 1) := by decide +kernel
theorem dX3_append_21 : decode cX3_append 21 = .ok (.getfield 15, 3) := by decide +kernel
theorem dX3_append_24 : decode cX3_append 24 = .ok (.aload_n 0, 1) := by decide +kernel
theorem dX3_append_25 : decode cX3_append 25 = .ok (.getfield 24, 3) := by decide +kernel
theorem dX3_append_28 : decode cX3_append 28 = .ok (.iload_n 2, 1) := by decide +kernel
theorem dX3_append_29 : decode cX3_append 29 = .ok (.iastore, 1) := by decide +kernel
theorem dX3_append_30 : decode cX3_append 30 = .ok (.aload_n 0, 1) := by decide +kernel
theorem dX3_append_31 : decode cX3_append 31 = .ok (.getfield 18, 3) := by decide +kernel
theorem dX3_append_34 : decode cX3_append 34 = .ok (.aload_n 0, 1) := by decide +kernel
theorem dX3_append_35 : decode cX3_append 35 = .ok (.getfield 24, 3) := by decide +kernel
theorem dX3_append_38 : decode cX3_append 38 = .ok (.iload_n 3, 1) := by decide +kernel
theorem dX3_append_39 : decode cX3_append 39 = .ok (.iastore, 1) := by decide +kernel
theorem dX3_append_40 : decode cX3_append 40 = .ok (.aload_n 0, 1) := by decide +kernel
theorem dX3_append_41 : decode cX3_append 41 = .ok (.getfield 21, 3) := by decide +kernel
theorem dX3_append_44 : decode cX3_append 44 = .ok (.aload_n 0, 1) := by decide +kernel
theorem dX3_append_45 : decode cX3_append 45 = .ok (.getfield 24, 3) := by decide +kernel
theorem dX3_append_48 : decode cX3_append 48 = .ok (.iload 4, 2) := by decide +kernel
theorem dX3_append_50 : decode cX3_append 50 = .ok (.iastore, 1) := by decide +kernel
theorem dX3_append_51 : decode cX3_append 51 = .ok (.aload_n 0, 1) := by decide +kernel
theorem dX3_append_52 : decode cX3_append 52 = .ok (.dup, 1) := by decide +kernel
theorem dX3_append_53 : decode cX3_append 53 = .ok (.getfield 24, 3) := by decide +kernel
theorem dX3_append_56 : decode cX3_append 56 = .ok (.iconst 1, 1) := by decide +kernel
theorem dX3_append_57 : decode cX3_append 57 = .ok (.iadd, 1) := by decide +kernel
theorem dX3_append_58 : decode cX3_append 58 = .ok (.putfield 24, 3) := by decide +kernel
theorem dX3_append_61 : decode cX3_append 61 = .ok (.aload_n 0, 1) := by decide +kernel
theorem dX3_append_62 : decode cX3_append 62 = .ok (.dup, 1) := by decide +kernel
theorem dX3_append_63 : decode cX3_append 63 = .ok (.getfield 28, 3) := by decide +kernel
theorem dX3_append_66 : decode cX3_append 66 = .ok (.iload_n 1, 1) := by decide +kernel
theorem dX3_append_67 : decode cX3_append 67 = .ok (.iload_n 2, 1) := by decide +kernel
theorem dX3_append_68 : decode cX3_append 68 = .ok (.invokestatic 31, 3) := by decide +kernel
theorem dX3_append_71 : decode cX3_append 71 = .ok (.iadd, 1) := by decide +kernel
theorem dX3_append_72 : decode cX3_append 72 = .ok (.putfield 28, 3) := by decide +kernel
theorem dX3_append_75 : decode cX3_append 75 = .ok (.return_, 1) := by decide +kernel
theorem dX3_tell_0 : decode cX3_tell 0 = .ok (.iload_n 1, 1) := by decide +kernel
theorem dX3_tell_1 : decode cX3_tell 1 = .ok (.iconst (-1), 1) := by decide +kernel
theorem dX3_tell_2 : decode cX3_tell 2 = .ok (.if_icmp .ne 8, 3) := by decide +kernel
theorem dX3_tell_5 : decode cX3_tell 5 = .ok (.aload_n 0, 1) := by decide +kernel
theorem dX3_tell_6 : decode cX3_tell 6 = .ok (.getfield 24, 3) := by decide +kernel
theorem dX3_tell_9 : decode cX3_tell 9 = .ok (.ireturn, 1) := by decide +kernel
theorem dX3_tell_10 : decode cX3_tell 10 = .ok (.iload_n 1, 1) := by decide +kernel
theorem dX3_tell_11 : decode cX3_tell 11 = .ok (.ifCond .lt 11, 3) := by decide +kernel
theorem dX3_tell_14 : decode cX3_tell 14 = .ok (.iload_n 1, 1) := by decide +kernel
theorem dX3_tell_15 : decode cX3_tell 15 = .ok (.aload_n 0, 1) := by decide +kernel
theorem dX3_tell_16 : decode cX3_tell 16 = .ok (.getfield 24, 3) := by decide +kernel
theorem dX3_tell_19 : decode cX3_tell 19 = .ok (.if_icmp .lt 5, 3) := by decide +kernel
theorem dX3_tell_22 : decode cX3_tell 22 = .ok (.iconst (-1), 1) := by decide +kernel
theorem dX3_tell_23 : decode cX3_tell 23 = .ok (.ireturn, 1) := by decide +kernel
theorem dX3_tell_24 : decode cX3_tell 24 = .ok (.iload_n 2, 1) := by decide +kernel
theorem dX3_tell_25 : decode cX3_tell 25 = .ok (.tableswitch 59 0 3 #[31, 38, 45, 52], 31) := by decide +kernel
theorem dX3_tell_56 : decode cX3_tell 56 = .ok (.aload_n 0, 1) := by decide +kernel
theorem dX3_tell_57 : decode cX3_tell 57 = .ok (.getfield 9, 3) := by decide +kernel
theorem dX3_tell_60 : decode cX3_tell 60 = .ok (.iload_n 1, 1) := by decide +kernel
theorem dX3_tell_61 : decode cX3_tell 61 = .ok (.iaload, 1) := by decide +kernel
theorem dX3_tell_62 : decode cX3_tell 62 = .ok (.ireturn, 1) := by decide +kernel
theorem dX3_tell_63 : decode cX3_tell 63 = .ok (.aload_n 0, 1) := by decide +kernel
theorem dX3_tell_64 : decode cX3_tell 64 = .ok (.getfield 15, 3) := by decide +kernel
theorem dX3_tell_67 : decode cX3_tell 67 = .ok (.iload_n 1, 1) := by decide +kernel
theorem dX3_tell_68 : decode cX3_tell 68 = .ok (.iaload, 1) := by decide +kernel
theorem dX3_tell_69 : decode cX3_tell 69 = .ok (.ireturn, 1) := by decide +kernel
theorem dX3_tell_70 : decode cX3_tell 70 = .ok (.aload_n 0, 1) := by decide +kernel
theorem dX3_tell_71 : decode cX3_tell 71 = .ok (.getfield 18, 3) := by decide +kernel
theorem dX3_tell_74 : decode cX3_tell 74 = .ok (.iload_n 1, 1) := by decide +kernel
theorem dX3_tell_75 : decode cX3_tell 75 = .ok (.iaload, 1) := by decide +kernel
theorem dX3_tell_76 : decode cX3_tell 76 = .ok (.ireturn, 1) := by decide +kernel
theorem dX3_tell_77 : decode cX3_tell 77 = .ok (.aload_n 0, 1) := by decide +kernel
theorem dX3_tell_78 : decode cX3_tell 78 = .ok (.getfield 21, 3) := by decide +kernel
theorem dX3_tell_81 : decode cX3_tell 81 = .ok (.iload_n 1, 1) := by decide +kernel
theorem dX3_tell_82 : decode cX3_tell 82 = .ok (.iaload, 1) := by decide +kernel
theorem dX3_tell_83 : decode cX3_tell 83 = .ok (.ireturn, 1) := by decide +kernel
theorem dX3_tell_84 : decode cX3_tell 84 = .ok (.iconst (-1), 1) := by decide +kernel
theorem dX3_tell_85 : decode cX3_tell 85 = .ok (.ireturn, 1) := by decide +kernel
theorem dX4_init_0 : decode cX4_init 0 = .ok (.aload_n 0, 1) := by decide +kernel
theorem dX4_init_1 : decode cX4_init 1 = .ok (.invokespecial 3, 3) := by decide +kernel
theorem dX4_init_4 : decode cX4_init 4 = .ok (.aload_n 0, 1) := by decide +kernel
theorem dX4_init_5 : decode cX4_init 5 = .ok (.bipush 120, 2) := by decide +kernel
theorem dX4_init_7 : decode cX4_init 7 = .ok (.newarray .int, 2) := by decide +kernel
theorem dX4_init_9 : decode cX4_init 9 = .ok (.putfield 9, 3) := by decide +kernel
theorem dX4_init_12 : decode cX4_init 12 = .ok (.aload_n 0, 1) := by decide +kernel
theorem dX4_init_13 : decode cX4_init 13 = .ok (.bipush 120, 2) := by decide +kernel
theorem dX4_init_15 : decode cX4_init 15 = .ok (.newarray .int, 2) := by decide +kernel
theorem dX4_init_17 : decode cX4_init 17 = .ok (.putfield 15, 3) := by decide +kernel
theorem dX4_init_20 : decode cX4_init 20 = .ok (.aload_n 0, 1) := by decide +kernel
theorem dX4_init_21 : decode cX4_init 21 = .ok (.bipush 121, 2) := by decide +kernel
theorem dX4_init_23 : decode cX4_init 23 = .ok (.newarray .int, 2) := by decide +kernel
theorem dX4_init_25 : decode cX4_init 25 = .ok (.putfield 18, 3) := by decide +kernel
theorem dX4_init_28 : decode cX4_init 28 = .ok (.aload_n 0, 1) := by decide +kernel
theorem dX4_init_29 : decode cX4_init 29 = .ok (.bipush 120, 2) := by decide +kernel
theorem dX4_init_31 : decode cX4_init 31 = .ok (.newarray .int, 2) := by decide +kernel
theorem dX4_init_33 : decode cX4_init 33 = .ok (.putfield 21, 3) := by decide +kernel
theorem dX4_init_36 : decode cX4_init 36 = .ok (.aload_n 0, 1) := by decide +kernel
theorem dX4_init_37 : decode cX4_init 37 = .ok (.bipush 120, 2) := by decide +kernel
theorem dX4_init_39 : decode cX4_init 39 = .ok (.newarray .int, 2) := by decide +kernel
theorem dX4_init_41 : decode cX4_init 41 = .ok (.putfield 24, 3) := by decide +kernel
theorem dX4_init_44 : decode cX4_init 44 = .ok (.aload_n 0, 1) := by decide +kernel
theorem dX4_init_45 : decode cX4_init 45 = .ok (.bipush 120, 2) := by decide +kernel
theorem dX4_init_47 : decode cX4_init 47 = .ok (.newarray .int, 2) := by decide +kernel
theorem dX4_init_49 : decode cX4_init 49 = .ok (.putfield 27, 3) := by decide +kernel
theorem dX4_init_52 : decode cX4_init 52 = .ok (.aload_n 0, 1) := by decide +kernel
theorem dX4_init_53 : decode cX4_init 53 = .ok (.bipush 120, 2) := by decide +kernel
theorem dX4_init_55 : decode cX4_init 55 = .ok (.newarray .int, 2) := by decide +kernel
theorem dX4_init_57 : decode cX4_init 57 = .ok (.putfield 30, 3) := by decide +kernel
theorem dX4_init_60 : decode cX4_init 60 = .ok (.return_, 1) := by decide +kernel
theorem dX4_plan_0 : decode cX4_plan 0 = .ok (.aload_n 0, 1) := by decide +kernel
theorem dX4_plan_1 : decode cX4_plan 1 = .ok (.getfield 18, 3) := by decide +kernel
theorem dX4_plan_4 : decode cX4_plan 4 = .ok (.aload_n 2, 1) := by decide +kernel
theorem dX4_plan_5 : decode cX4_plan 5 = .ok (.getfield 33, 3) := by decide +kernel
theorem dX4_plan_8 : decode cX4_plan 8 = .ok (.iconst 0, 1) := by decide +kernel
theorem dX4_plan_9 : decode cX4_plan 9 = .ok (.iastore, 1) := by decide +kernel
theorem dX4_plan_10 : decode cX4_plan 10 = .ok (.aload_n 2, 1) := by decide +kernel
theorem dX4_plan_11 : decode cX4_plan 11 = .ok (.getfield 33, 3) := by decide +kernel
theorem dX4_plan_14 : decode cX4_plan 14 = .ok (.iconst 1, 1) := by decide +kernel
theorem dX4_plan_15 : decode cX4_plan 15 = .ok (.isub, 1) := by decide +kernel
theorem dX4_plan_16 : decode cX4_plan 16 = .ok (.istore 4, 2) := by decide +kernel
theorem dX4_plan_18 : decode cX4_plan 18 = .ok (.iload 4, 2) := by decide +kernel
theorem dX4_plan_20 : decode cX4_plan 20 = .ok (.ifCond .lt 27, 3) := by decide +kernel
theorem dX4_plan_23 : decode cX4_plan 23 = .ok (.aload_n 0, 1) := by decide +kernel
theorem dX4_plan_24 : decode cX4_plan 24 = .ok (.aload_n 1, 1) := by decide +kernel
theorem dX4_plan_25 : decode cX4_plan 25 = .ok (.aload_n 2, 1) := by decide +kernel
theorem dX4_plan_26 : decode cX4_plan 26 = .ok (.iload 4, 2) := by decide +kernel
theorem dX4_plan_28 : decode cX4_plan 28 = .ok (.invokevirtual 39, 3) := by decide +kernel
theorem dX4_plan_31 : decode cX4_plan 31 = .ok (.aload_n 0, 1) := by decide +kernel
theorem dX4_plan_32 : decode cX4_plan 32 = .ok (.iload 4, 2) := by decide +kernel
theorem dX4_plan_34 : decode cX4_plan 34 = .ok (.aload_n 2, 1) := by decide +kernel
theorem dX4_plan_35 : decode cX4_plan 35 = .ok (.getfield 33, 3) := by decide +kernel
theorem dX4_plan_38 : decode cX4_plan 38 = .ok (.invokevirtual 43, 3) := by decide +kernel
theorem dX4_plan_41 : decode cX4_plan 41 = .ok (.iinc 4 (-1), 3) := by decide +kernel
theorem dX4_plan_44 : decode cX4_plan 44 = .ok (.goto (-26), 3) := by decide +kernel
theorem dX4_plan_47 : decode cX4_plan 47 = .ok (.aload_n 3, 1) := by decide +kernel
theorem dX4_plan_48 : decode cX4_plan 48 = .ok (.invokevirtual 47, 3) := by decide +kernel
theorem dX4_plan_51 : decode cX4_plan 51 = .ok (.iconst 0, 1) := by decide +kernel
theorem dX4_plan_52 : decode cX4_plan 52 = .ok (.istore 4, 2) := by decide +kernel
theorem dX4_plan_54 : decode cX4_plan 54 = .ok (.iconst 0, 1) := by decide +kernel
theorem dX4_plan_55 : decode cX4_plan 55 = .ok (.istore 5, 2) := by decide +kernel
theorem dX4_plan_57 : decode cX4_plan 57 = .ok (.iload 5, 2) := by decide +kernel
theorem dX4_plan_59 : decode cX4_plan 59 = .ok (.aload_n 2, 1) := by decide +kernel
theorem dX4_plan_60 : decode cX4_plan 60 = .ok (.getfield 33, 3) := by decide +kernel
theorem dX4_plan_63 : decode cX4_plan 63 = .ok (.if_icmp .ge 60, 3) := by decide +kernel
theorem dX4_plan_66 : decode cX4_plan 66 = .ok (.iload 5, 2) := by decide +kernel
theorem dX4_plan_68 : decode cX4_plan 68 = .ok (.iload 4, 2) := by decide +kernel
theorem dX4_plan_70 : decode cX4_plan 70 = .ok (.if_icmp .ne 47, 3) := by decide +kernel
theorem dX4_plan_73 : decode cX4_plan 73 = .ok (.aload_n 3, 1) := by decide +kernel
theorem dX4_plan_74 : decode cX4_plan 74 = .ok (.aload_n 0, 1) := by decide +kernel
theorem dX4_plan_75 : decode cX4_plan 75 = .ok (.getfield 21, 3) := by decide +kernel
theorem dX4_plan_78 : decode cX4_plan 78 = .ok (.iload 5, 2) := by decide +kernel
theorem dX4_plan_80 : decode cX4_plan 80 = .ok (.iaload, 1) := by decide +kernel
theorem dX4_plan_81 : decode cX4_plan 81 = .ok (.aload_n 0, 1) := by decide +kernel
theorem dX4_plan_82 : decode cX4_plan 82 = .ok (.getfield 24, 3) := by decide +kernel
theorem dX4_plan_85 : decode cX4_plan 85 = .ok (.iload 5, 2) := by decide +kernel
theorem dX4_plan_87 : decode cX4_plan 87 = .ok (.iaload, 1) := by decide +kernel
theorem dX4_plan_88 : decode cX4_plan 88 = .ok (.aload_n 0, 1) := by decide +kernel
theorem dX4_plan_89 : decode cX4_plan 89 = .ok (.getfield 27, 3) := by decide +kernel
theorem dX4_plan_92 : decode cX4_plan 92 = .ok (.iload 5, 2) := by decide +kernel
theorem dX4_plan_94 : decode cX4_plan 94 = .ok (.iaload, 1) := by decide +kernel
theorem dX4_plan_95 : decode cX4_plan 95 = .ok (.aload_n 0, 1) := by decide +kernel
theorem dX4_plan_96 : decode cX4_plan 96 = .ok (.getfield 30, 3) := by decide +kernel
theorem dX4_plan_99 : decode cX4_plan 99 = .ok (.iload 5, 2) := by decide +kernel
theorem dX4_plan_101 : decode cX4_plan 101 = .ok (.iaload, 1) := by decide +kernel
theorem dX4_plan_102 : decode cX4_plan 102 = .ok (.invokevirtual 52, 3) := by decide +kernel
theorem dX4_plan_105 : decode cX4_plan 105 = .ok (.iload 5, 2) := by decide +kernel
theorem dX4_plan_107 : decode cX4_plan 107 = .ok (.aload_n 0, 1) := by decide +kernel
theorem dX4_plan_108 : decode cX4_plan 108 = .ok (.getfield 24, 3) := by decide +kernel
theorem dX4_plan_111 : decode cX4_plan 111 = .ok (.iload 5, 2) := by decide +kernel
theorem dX4_plan_113 : decode cX4_plan 113 = .ok (.iaload, 1) := by decide +kernel
theorem dX4_plan_114 : decode cX4_plan 114 = .ok (.iadd, 1) := by decide +kernel
theorem dX4_plan_115 : decode cX4_plan 115 = .ok (.istore 4, 2) := by decide +kernel
theorem dX4_plan_117 : decode cX4_plan 117 = .ok (.iinc 5 1, 3) := by decide +kernel
theorem dX4_plan_120 : decode cX4_plan 120 = .ok (.goto (-63), 3) := by decide +kernel
theorem dX4_plan_123 : decode cX4_plan 123 = .ok (.return_, 1) := by decide +kernel
theorem dX4_findRuns_0 : decode cX4_findRuns 0 = .ok (.iload_n 3, 1) := by decide +kernel
theorem dX4_findRuns_1 : decode cX4_findRuns 1 = .ok (.iconst 1, 1) := by decide +kernel
theorem dX4_findRuns_2 : decode cX4_findRuns 2 = .ok (.iadd, 1) := by decide +kernel
theorem dX4_findRuns_3 : decode cX4_findRuns 3 = .ok (.aload_n 2, 1) := by decide +kernel
theorem dX4_findRuns_4 : decode cX4_findRuns 4 = .ok (.getfield 33, 3) := by decide +kernel
theorem dX4_findRuns_7 : decode cX4_findRuns 7 = .ok (.if_icmp .lt 7, 3) := by decide +kernel
theorem dX4_findRuns_10 : decode cX4_findRuns 10 = .ok (.iconst 1, 1) := by decide +kernel
theorem dX4_findRuns_11 : decode cX4_findRuns 11 = .ok (.goto 4, 3) := by decide +kernel
theorem dX4_findRuns_14 : decode cX4_findRuns 14 = .ok (.iconst 0, 1) := by decide +kernel
theorem dX4_findRuns_15 : decode cX4_findRuns 15 = .ok (.istore 4, 2) := by decide +kernel
theorem dX4_findRuns_17 : decode cX4_findRuns 17 = .ok (.aload_n 2, 1) := by decide +kernel
theorem dX4_findRuns_18 : decode cX4_findRuns 18 = .ok (.getfield 56, 3) := by decide +kernel
theorem dX4_findRuns_21 : decode cX4_findRuns 21 = .ok (.iload_n 3, 1) := by decide +kernel
theorem dX4_findRuns_22 : decode cX4_findRuns 22 = .ok (.iaload, 1) := by decide +kernel
theorem dX4_findRuns_23 : decode cX4_findRuns 23 = .ok (.istore 5, 2) := by decide +kernel
theorem dX4_findRuns_25 : decode cX4_findRuns 25 = .ok (.aload_n 0, 1) := by decide +kernel
theorem dX4_findRuns_26 : decode cX4_findRuns 26 = .ok (.iconst 0, 1) := by decide +kernel
theorem dX4_findRuns_27 : decode cX4_findRuns 27 = .ok (.putfield 59, 3) := by decide +kernel
theorem dX4_findRuns_30 : decode cX4_findRuns 30 = .ok (.aload_n 0, 1) := by decide +kernel
theorem dX4_findRuns_31 : decode cX4_findRuns 31 = .ok (.iconst 0, 1) := by decide +kernel
theorem dX4_findRuns_32 : decode cX4_findRuns 32 = .ok (.putfield 62, 3) := by decide +kernel
theorem dX4_findRuns_35 : decode cX4_findRuns 35 = .ok (.iconst 0, 1) := by decide +kernel
theorem dX4_findRuns_36 : decode cX4_findRuns 36 = .ok (.istore 6, 2) := by decide +kernel
theorem dX4_findRuns_38 : decode cX4_findRuns 38 = .ok (.iload 6, 2) := by decide +kernel
theorem dX4_findRuns_40 : decode cX4_findRuns 40 = .ok (.aload_n 1, 1) := by decide +kernel
theorem dX4_findRuns_41 : decode cX4_findRuns 41 = .ok (.getfield 33, 3) := by decide +kernel
theorem dX4_findRuns_44 : decode cX4_findRuns 44 = .ok (.if_icmp .ge 157, 3) := by decide +kernel
theorem dX4_findRuns_47 : decode cX4_findRuns 47 = .ok (.iload 5, 2) := by decide +kernel
theorem dX4_findRuns_49 : decode cX4_findRuns 49 = .ok (.aload_n 1, 1) := by decide +kernel
theorem dX4_findRuns_50 : decode cX4_findRuns 50 = .ok (.getfield 56, 3) := by decide +kernel
theorem dX4_findRuns_53 : decode cX4_findRuns 53 = .ok (.iload 6, 2) := by decide +kernel
theorem dX4_findRuns_55 : decode cX4_findRuns 55 = .ok (.iaload, 1) := by decide +kernel
theorem dX4_findRuns_56 : decode cX4_findRuns 56 = .ok (.isub, 1) := by decide +kernel
theorem dX4_findRuns_57 : decode cX4_findRuns 57 = .ok (.sipush 255, 3) := by decide +kernel
theorem dX4_findRuns_60 : decode cX4_findRuns 60 = .ok (.iand, 1) := by decide +kernel
theorem dX4_findRuns_61 : decode cX4_findRuns 61 = .ok (.istore 7, 2) := by decide +kernel
theorem dX4_findRuns_63 : decode cX4_findRuns 63 = .ok (.iload 4, 2) := by decide +kernel
theorem dX4_findRuns_65 : decode cX4_findRuns 65 = .ok (.ifCond .ne 32, 3) := by decide +kernel
theorem dX4_findRuns_68 : decode cX4_findRuns 68 = .ok (.iload 6, 2) := by decide +kernel
theorem dX4_findRuns_70 : decode cX4_findRuns 70 = .ok (.iconst 1, 1) := by decide +kernel
theorem dX4_findRuns_71 : decode cX4_findRuns 71 = .ok (.iadd, 1) := by decide +kernel
theorem dX4_findRuns_72 : decode cX4_findRuns 72 = .ok (.aload_n 1, 1) := by decide +kernel
theorem dX4_findRuns_73 : decode cX4_findRuns 73 = .ok (.getfield 33, 3) := by decide +kernel
theorem dX4_findRuns_76 : decode cX4_findRuns 76 = .ok (.if_icmp .ge 21, 3) := by decide +kernel
theorem dX4_findRuns_79 : decode cX4_findRuns 79 = .ok (.aload_n 0, 1) := by decide +kernel
theorem dX4_findRuns_80 : decode cX4_findRuns 80 = .ok (.getfield 15, 3) := by decide +kernel
theorem dX4_findRuns_83 : decode cX4_findRuns 83 = .ok (.iload 6, 2) := by decide +kernel
theorem dX4_findRuns_85 : decode cX4_findRuns 85 = .ok (.iconst 1, 1) := by decide +kernel
theorem dX4_findRuns_86 : decode cX4_findRuns 86 = .ok (.iadd, 1) := by decide +kernel
theorem dX4_findRuns_87 : decode cX4_findRuns 87 = .ok (.iaload, 1) := by decide +kernel
theorem dX4_findRuns_88 : decode cX4_findRuns 88 = .ok (.iload 7, 2) := by decide +kernel
theorem dX4_findRuns_90 : decode cX4_findRuns 90 = .ok (.if_icmp .ne 7, 3) := by decide +kernel
theorem dX4_findRuns_93 : decode cX4_findRuns 93 = .ok (.iconst 1, 1) := by decide +kernel
theorem dX4_findRuns_94 : decode cX4_findRuns 94 = .ok (.goto 4, 3) := by decide +kernel
theorem dX4_findRuns_97 : decode cX4_findRuns 97 = .ok (.iconst 0, 1) := by decide +kernel
theorem dX4_findRuns_98 : decode cX4_findRuns 98 = .ok (.istore 8, 2) := by decide +kernel
theorem dX4_findRuns_100 : decode cX4_findRuns 100 = .ok (.iload 8, 2) := by decide +kernel
theorem dX4_findRuns_102 : decode cX4_findRuns 102 = .ok (.ifCond .eq 17, 3) := by decide +kernel
theorem dX4_findRuns_105 : decode cX4_findRuns 105 = .ok (.aload_n 0, 1) := by decide +kernel
theorem dX4_findRuns_106 : decode cX4_findRuns 106 = .ok (.getfield 9, 3) := by decide +kernel
theorem dX4_findRuns_109 : decode cX4_findRuns 109 = .ok (.iload 6, 2) := by decide +kernel
theorem dX4_findRuns_111 : decode cX4_findRuns 111 = .ok (.iconst 1, 1) := by decide +kernel
theorem dX4_findRuns_112 : decode cX4_findRuns 112 = .ok (.iadd, 1) := by decide +kernel
theorem dX4_findRuns_113 : decode cX4_findRuns 113 = .ok (.iaload, 1) := by decide +kernel
theorem dX4_findRuns_114 : decode cX4_findRuns 114 = .ok (.iconst 1, 1) := by decide +kernel
theorem dX4_findRuns_115 : decode cX4_findRuns 115 = .ok (.iadd, 1) := by decide +kernel
theorem dX4_findRuns_116 : decode cX4_findRuns 116 = .ok (.goto 4, 3) := by decide +kernel
theorem dX4_findRuns_119 : decode cX4_findRuns 119 = .ok (.iconst 1, 1) := by decide +kernel
theorem dX4_findRuns_120 : decode cX4_findRuns 120 = .ok (.istore 9, 2) := by decide +kernel
theorem dX4_findRuns_122 : decode cX4_findRuns 122 = .ok (.aload_n 0, 1) := by decide +kernel
theorem dX4_findRuns_123 : decode cX4_findRuns 123 = .ok (.getfield 15, 3) := by decide +kernel
theorem dX4_findRuns_126 : decode cX4_findRuns 126 = .ok (.iload 6, 2) := by decide +kernel
theorem dX4_findRuns_128 : decode cX4_findRuns 128 = .ok (.iload 7, 2) := by decide +kernel
theorem dX4_findRuns_130 : decode cX4_findRuns 130 = .ok (.iastore, 1) := by decide +kernel
theorem dX4_findRuns_131 : decode cX4_findRuns 131 = .ok (.aload_n 0, 1) := by decide +kernel
theorem dX4_findRuns_132 : decode cX4_findRuns 132 = .ok (.getfield 9, 3) := by decide +kernel
theorem dX4_findRuns_135 : decode cX4_findRuns 135 = .ok (.iload 6, 2) := by decide +kernel
theorem dX4_findRuns_137 : decode cX4_findRuns 137 = .ok (.iload 9, 2) := by decide +kernel
theorem dX4_findRuns_139 : decode cX4_findRuns 139 = .ok (.iastore, 1) := by decide +kernel
theorem dX4_findRuns_140 : decode cX4_findRuns 140 = .ok (.iload 7, 2) := by decide +kernel
theorem dX4_findRuns_142 : decode cX4_findRuns 142 = .ok (.ifCond .ne 27, 3) := by decide +kernel
theorem dX4_findRuns_145 : decode cX4_findRuns 145 = .ok (.iload 9, 2) := by decide +kernel
theorem dX4_findRuns_147 : decode cX4_findRuns 147 = .ok (.aload_n 0, 1) := by decide +kernel
theorem dX4_findRuns_148 : decode cX4_findRuns 148 = .ok (.getfield 59, 3) := by decide +kernel
theorem dX4_findRuns_151 : decode cX4_findRuns 151 = .ok (.if_icmp .le 18, 3) := by decide +kernel
theorem dX4_findRuns_154 : decode cX4_findRuns 154 = .ok (.aload_n 0, 1) := by decide +kernel
theorem dX4_findRuns_155 : decode cX4_findRuns 155 = .ok (.iload 9, 2) := by decide +kernel
theorem dX4_findRuns_157 : decode cX4_findRuns 157 = .ok (.putfield 59, 3) := by decide +kernel
theorem dX4_findRuns_160 : decode cX4_findRuns 160 = .ok (.aload_n 0, 1) := by decide +kernel
theorem dX4_findRuns_161 : decode cX4_findRuns 161 = .ok (.iload 6, 2) := by decide +kernel
theorem dX4_findRuns_163 : decode cX4_findRuns 163 = .ok (.putfield 65, 3) := by decide +kernel
theorem dX4_findRuns_166 : decode cX4_findRuns 166 = .ok (.goto 29, 3) := by decide +kernel
theorem dX4_findRuns_169 : decode cX4_findRuns 169 = .ok (.iload 7, 2) := by decide +kernel
theorem dX4_findRuns_171 : decode cX4_findRuns 171 = .ok (.ifCond .eq 24, 3) := by decide +kernel
theorem dX4_findRuns_174 : decode cX4_findRuns 174 = .ok (.iload 9, 2) := by decide +kernel
theorem dX4_findRuns_176 : decode cX4_findRuns 176 = .ok (.aload_n 0, 1) := by decide +kernel
theorem dX4_findRuns_177 : decode cX4_findRuns 177 = .ok (.getfield 62, 3) := by decide +kernel
theorem dX4_findRuns_180 : decode cX4_findRuns 180 = .ok (.if_icmp .le 15, 3) := by decide +kernel
theorem dX4_findRuns_183 : decode cX4_findRuns 183 = .ok (.aload_n 0, 1) := by decide +kernel
theorem dX4_findRuns_184 : decode cX4_findRuns 184 = .ok (.iload 9, 2) := by decide +kernel
theorem dX4_findRuns_186 : decode cX4_findRuns 186 = .ok (.putfield 62, 3) := by decide +kernel
theorem dX4_findRuns_189 : decode cX4_findRuns 189 = .ok (.aload_n 0, 1) := by decide +kernel
theorem dX4_findRuns_190 : decode cX4_findRuns 190 = .ok (.iload 6, 2) := by decide +kernel
theorem dX4_findRuns_192 : decode cX4_findRuns 192 = .ok (.putfield 68, 3) := by decide +kernel
theorem dX4_findRuns_195 : decode cX4_findRuns 195 = .ok (.iinc 6 1, 3) := by decide +kernel
theorem dX4_findRuns_198 : decode cX4_findRuns 198 = .ok (.goto (-160), 3) := by decide +kernel
theorem dX4_findRuns_201 : decode cX4_findRuns 201 = .ok (.return_, 1) := by decide +kernel
theorem dX4_chooseStep_0 : decode cX4_chooseStep 0 = .ok (.aload_n 0, 1) := by decide +kernel
theorem dX4_chooseStep_1 : decode cX4_chooseStep 1 = .ok (.getfield 18, 3) := by decide +kernel
theorem dX4_chooseStep_4 : decode cX4_chooseStep 4 = .ok (.iload_n 1, 1) := by decide +kernel
theorem dX4_chooseStep_5 : decode cX4_chooseStep 5 = .ok (.ldc 71, 2) := by decide +kernel
theorem dX4_chooseStep_7 : decode cX4_chooseStep 7 = .ok (.iastore, 1) := by decide +kernel
theorem dX4_chooseStep_8 : decode cX4_chooseStep 8 = .ok (.bipush 30, 2) := by decide +kernel
theorem dX4_chooseStep_10 : decode cX4_chooseStep 10 = .ok (.iload_n 2, 1) := by decide +kernel
theorem dX4_chooseStep_11 : decode cX4_chooseStep 11 = .ok (.iload_n 1, 1) := by decide +kernel
theorem dX4_chooseStep_12 : decode cX4_chooseStep 12 = .ok (.isub, 1) := by decide +kernel
theorem dX4_chooseStep_13 : decode cX4_chooseStep 13 = .ok (.invokestatic 72, 3) := by decide +kernel
theorem dX4_chooseStep_16 : decode cX4_chooseStep 16 = .ok (.istore_n 3, 1) := by decide +kernel
theorem dX4_chooseStep_17 : decode cX4_chooseStep 17 = .ok (.iconst 1, 1) := by decide +kernel
theorem dX4_chooseStep_18 : decode cX4_chooseStep 18 = .ok (.istore 4, 2) := by decide +kernel
theorem dX4_chooseStep_20 : decode cX4_chooseStep 20 = .ok (.iload 4, 2) := by decide +kernel
theorem dX4_chooseStep_22 : decode cX4_chooseStep 22 = .ok (.iload_n 3, 1) := by decide +kernel
theorem dX4_chooseStep_23 : decode cX4_chooseStep 23 = .ok (.if_icmp .gt 19, 3) := by decide +kernel
theorem dX4_chooseStep_26 : decode cX4_chooseStep 26 = .ok (.aload_n 0, 1) := by decide +kernel
theorem dX4_chooseStep_27 : decode cX4_chooseStep 27 = .ok (.iload_n 1, 1) := by decide +kernel
theorem dX4_chooseStep_28 : decode cX4_chooseStep 28 = .ok (.iconst 2, 1) := by decide +kernel
theorem dX4_chooseStep_29 : decode cX4_chooseStep 29 = .ok (.iload 4, 2) := by decide +kernel
theorem dX4_chooseStep_31 : decode cX4_chooseStep 31 = .ok (.iload_n 1, 1) := by decide +kernel
theorem dX4_chooseStep_32 : decode cX4_chooseStep 32 = .ok (.iconst 0, 1) := by decide +kernel
theorem dX4_chooseStep_33 : decode cX4_chooseStep 33 = .ok (.invokevirtual 78, 3) := by decide +kernel
theorem dX4_chooseStep_36 : decode cX4_chooseStep 36 = .ok (.iinc 4 1, 3) := by decide +kernel
theorem dX4_chooseStep_39 : decode cX4_chooseStep 39 = .ok (.goto (-19), 3) := by decide +kernel
theorem dX4_chooseStep_42 : decode cX4_chooseStep 42 = .ok (.aload_n 0, 1) := by decide +kernel
theorem dX4_chooseStep_43 : decode cX4_chooseStep 43 = .ok (.getfield 62, 3) := by decide +kernel
theorem dX4_chooseStep_46 : decode cX4_chooseStep 46 = .ok (.ifCond .le 26, 3) := by decide +kernel
theorem dX4_chooseStep_49 : decode cX4_chooseStep 49 = .ok (.aload_n 0, 1) := by decide +kernel
theorem dX4_chooseStep_50 : decode cX4_chooseStep 50 = .ok (.iload_n 1, 1) := by decide +kernel
theorem dX4_chooseStep_51 : decode cX4_chooseStep 51 = .ok (.iconst 1, 1) := by decide +kernel
theorem dX4_chooseStep_52 : decode cX4_chooseStep 52 = .ok (.aload_n 0, 1) := by decide +kernel
theorem dX4_chooseStep_53 : decode cX4_chooseStep 53 = .ok (.getfield 62, 3) := by decide +kernel
theorem dX4_chooseStep_56 : decode cX4_chooseStep 56 = .ok (.aload_n 0, 1) := by decide +kernel
theorem dX4_chooseStep_57 : decode cX4_chooseStep 57 = .ok (.getfield 68, 3) := by decide +kernel
theorem dX4_chooseStep_60 : decode cX4_chooseStep 60 = .ok (.aload_n 0, 1) := by decide +kernel
theorem dX4_chooseStep_61 : decode cX4_chooseStep 61 = .ok (.getfield 15, 3) := by decide +kernel
theorem dX4_chooseStep_64 : decode cX4_chooseStep 64 = .ok (.aload_n 0, 1) := by decide +kernel
theorem dX4_chooseStep_65 : decode cX4_chooseStep 65 = .ok (.getfield 68, 3) := by decide +kernel
theorem dX4_chooseStep_68 : decode cX4_chooseStep 68 = .ok (.iaload, 1) := by decide +kernel
theorem dX4_chooseStep_69 : decode cX4_chooseStep 69 = .ok (.invokevirtual 78, 3) := by decide +kernel
theorem dX4_chooseStep_72 : decode cX4_chooseStep 72 = .ok (.aload_n 0, 1) := by decide +kernel
theorem dX4_chooseStep_73 : decode cX4_chooseStep 73 = .ok (.getfield 59, 3) := by decide +kernel
theorem dX4_chooseStep_76 : decode cX4_chooseStep 76 = .ok (.ifCond .le 18, 3) := by decide +kernel
theorem dX4_chooseStep_79 : decode cX4_chooseStep 79 = .ok (.aload_n 0, 1) := by decide +kernel
theorem dX4_chooseStep_80 : decode cX4_chooseStep 80 = .ok (.iload_n 1, 1) := by decide +kernel
theorem dX4_chooseStep_81 : decode cX4_chooseStep 81 = .ok (.iconst 0, 1) := by decide +kernel
theorem dX4_chooseStep_82 : decode cX4_chooseStep 82 = .ok (.aload_n 0, 1) := by decide +kernel
theorem dX4_chooseStep_83 : decode cX4_chooseStep 83 = .ok (.getfield 59, 3) := by decide +kernel
theorem dX4_chooseStep_86 : decode cX4_chooseStep 86 = .ok (.aload_n 0, 1) := by decide +kernel
theorem dX4_chooseStep_87 : decode cX4_chooseStep 87 = .ok (.getfield 65, 3) := by decide +kernel
theorem dX4_chooseStep_90 : decode cX4_chooseStep 90 = .ok (.iconst 0, 1) := by decide +kernel
theorem dX4_chooseStep_91 : decode cX4_chooseStep 91 = .ok (.invokevirtual 78, 3) := by decide +kernel
theorem dX4_chooseStep_94 : decode cX4_chooseStep 94 = .ok (.return_, 1) := by decide +kernel
theorem dX4_tryStep_0 : decode cX4_tryStep 0 = .ok (.iload_n 2, 1) := by decide +kernel
theorem dX4_tryStep_1 : decode cX4_tryStep 1 = .ok (.iload_n 3, 1) := by decide +kernel
theorem dX4_tryStep_2 : decode cX4_tryStep 2 = .ok (.invokestatic 82, 3) := by decide +kernel
theorem dX4_tryStep_5 : decode cX4_tryStep 5 = .ok (.aload_n 0, 1) := by decide +kernel
theorem dX4_tryStep_6 : decode cX4_tryStep 6 = .ok (.getfield 18, 3) := by decide +kernel
theorem dX4_tryStep_9 : decode cX4_tryStep 9 = .ok (.iload_n 1, 1) := by decide +kernel
theorem dX4_tryStep_10 : decode cX4_tryStep 10 = .ok (.iload_n 3, 1) := by decide +kernel
theorem dX4_tryStep_11 : decode cX4_tryStep 11 = .ok (.iadd, 1) := by decide +kernel
theorem dX4_tryStep_12 : decode cX4_tryStep 12 = .ok (.iaload, 1) := by decide +kernel
theorem dX4_tryStep_13 : decode cX4_tryStep 13 = .ok (.iadd, 1) := by decide +kernel
theorem dX4_tryStep_14 : decode cX4_tryStep 14 = .ok (.istore 6, 2) := by decide +kernel
theorem dX4_tryStep_16 : decode cX4_tryStep 16 = .ok (.iload 6, 2) := by decide +kernel
theorem dX4_tryStep_18 : decode cX4_tryStep 18 = .ok (.aload_n 0, 1) := by decide +kernel
theorem dX4_tryStep_19 : decode cX4_tryStep 19 = .ok (.getfield 18, 3) := by decide +kernel
theorem dX4_tryStep_22 : decode cX4_tryStep 22 = .ok (.iload_n 1, 1) := by decide +kernel
theorem dX4_tryStep_23 : decode cX4_tryStep 23 = .ok (.iaload, 1) := by decide +kernel
theorem dX4_tryStep_24 : decode cX4_tryStep 24 = .ok (.if_icmp .gt 41, 3) := by decide +kernel
theorem dX4_tryStep_27 : decode cX4_tryStep 27 = .ok (.aload_n 0, 1) := by decide +kernel
theorem dX4_tryStep_28 : decode cX4_tryStep 28 = .ok (.getfield 18, 3) := by decide +kernel
theorem dX4_tryStep_31 : decode cX4_tryStep 31 = .ok (.iload_n 1, 1) := by decide +kernel
theorem dX4_tryStep_32 : decode cX4_tryStep 32 = .ok (.iload 6, 2) := by decide +kernel
theorem dX4_tryStep_34 : decode cX4_tryStep 34 = .ok (.iastore, 1) := by decide +kernel
theorem dX4_tryStep_35 : decode cX4_tryStep 35 = .ok (.aload_n 0, 1) := by decide +kernel
theorem dX4_tryStep_36 : decode cX4_tryStep 36 = .ok (.getfield 21, 3) := by decide +kernel
theorem dX4_tryStep_39 : decode cX4_tryStep 39 = .ok (.iload_n 1, 1) := by decide +kernel
theorem dX4_tryStep_40 : decode cX4_tryStep 40 = .ok (.iload_n 2, 1) := by decide +kernel
theorem dX4_tryStep_41 : decode cX4_tryStep 41 = .ok (.iastore, 1) := by decide +kernel
theorem dX4_tryStep_42 : decode cX4_tryStep 42 = .ok (.aload_n 0, 1) := by decide +kernel
theorem dX4_tryStep_43 : decode cX4_tryStep 43 = .ok (.getfield 24, 3) := by decide +kernel
theorem dX4_tryStep_46 : decode cX4_tryStep 46 = .ok (.iload_n 1, 1) := by decide +kernel
theorem dX4_tryStep_47 : decode cX4_tryStep 47 = .ok (.iload_n 3, 1) := by decide +kernel
theorem dX4_tryStep_48 : decode cX4_tryStep 48 = .ok (.iastore, 1) := by decide +kernel
theorem dX4_tryStep_49 : decode cX4_tryStep 49 = .ok (.aload_n 0, 1) := by decide +kernel
theorem dX4_tryStep_50 : decode cX4_tryStep 50 = .ok (.getfield 27, 3) := by decide +kernel
theorem dX4_tryStep_53 : decode cX4_tryStep 53 = .ok (.iload_n 1, 1) := by decide +kernel
theorem dX4_tryStep_54 : decode cX4_tryStep 54 = .ok (.iload 4, 2) := by decide +kernel
theorem dX4_tryStep_56 : decode cX4_tryStep 56 = .ok (.iastore, 1) := by decide +kernel
theorem dX4_tryStep_57 : decode cX4_tryStep 57 = .ok (.aload_n 0, 1) := by decide +kernel
theorem dX4_tryStep_58 : decode cX4_tryStep 58 = .ok (.getfield 30, 3) := by decide +kernel
theorem dX4_tryStep_61 : decode cX4_tryStep 61 = .ok (.iload_n 1, 1) := by decide +kernel
theorem dX4_tryStep_62 : decode cX4_tryStep 62 = .ok (.iload 5, 2) := by decide +kernel
theorem dX4_tryStep_64 : decode cX4_tryStep 64 = .ok (.iastore, 1) := by decide +kernel
theorem dX4_tryStep_65 : decode cX4_tryStep 65 = .ok (.return_, 1) := by decide +kernel
theorem dX5_init_0 : decode cX5_init 0 = .ok (.aload_n 0, 1) := by decide +kernel
theorem dX5_init_1 : decode cX5_init 1 = .ok (.invokespecial 3, 3) := by decide +kernel
theorem dX5_init_4 : decode cX5_init 4 = .ok (.aload_n 0, 1) := by decide +kernel
theorem dX5_init_5 : decode cX5_init 5 = .ok (.iconst 5, 1) := by decide +kernel
theorem dX5_init_6 : decode cX5_init 6 = .ok (.anewarray 9, 3) := by decide +kernel
theorem dX5_init_9 : decode cX5_init 9 = .ok (.putfield 11, 3) := by decide +kernel
theorem dX5_init_12 : decode cX5_init 12 = .ok (.aload_n 0, 1) := by decide +kernel
theorem dX5_init_13 : decode cX5_init 13 = .ok (.bipush 25, 2) := by decide +kernel
theorem dX5_init_15 : decode cX5_init 15 = .ok (.anewarray 17, 3) := by decide +kernel
theorem dX5_init_18 : decode cX5_init 18 = .ok (.putfield 19, 3) := by decide +kernel
theorem dX5_init_21 : decode cX5_init 21 = .ok (.aload_n 0, 1) := by decide +kernel
theorem dX5_init_22 : decode cX5_init 22 = .ok (.bipush 25, 2) := by decide +kernel
theorem dX5_init_24 : decode cX5_init 24 = .ok (.newarray .boolean, 2) := by decide +kernel
theorem dX5_init_26 : decode cX5_init 26 = .ok (.putfield 23, 3) := by decide +kernel
theorem dX5_init_29 : decode cX5_init 29 = .ok (.aload_n 0, 1) := by decide +kernel
theorem dX5_init_30 : decode cX5_init 30 = .ok (.new 27, 3) := by decide +kernel
theorem dX5_init_33 : decode cX5_init 33 = .ok (.dup, 1) := by decide +kernel
theorem dX5_init_34 : decode cX5_init 34 = .ok (.invokespecial 29, 3) := by decide +kernel
theorem dX5_init_37 : decode cX5_init 37 = .ok (.putfield 30, 3) := by decide +kernel
theorem dX5_init_40 : decode cX5_init 40 = .ok (.iconst 0, 1) := by decide +kernel
theorem dX5_init_41 : decode cX5_init 41 = .ok (.istore_n 1, 1) := by decide +kernel
theorem dX5_init_42 : decode cX5_init 42 = .ok (.iload_n 1, 1) := by decide +kernel
theorem dX5_init_43 : decode cX5_init 43 = .ok (.iconst 5, 1) := by decide +kernel
theorem dX5_init_44 : decode cX5_init 44 = .ok (.if_icmp .ge 24, 3) := by decide +kernel
theorem dX5_init_47 : decode cX5_init 47 = .ok (.aload_n 0, 1) := by decide +kernel
theorem dX5_init_48 : decode cX5_init 48 = .ok (.getfield 11, 3) := by decide +kernel
theorem dX5_init_51 : decode cX5_init 51 = .ok (.iload_n 1, 1) := by decide +kernel
theorem dX5_init_52 : decode cX5_init 52 = .ok (.new 9, 3) := by decide +kernel
theorem dX5_init_55 : decode cX5_init 55 = .ok (.dup, 1) := by decide +kernel
theorem dX5_init_56 : decode cX5_init 56 = .ok (.bipush 120, 2) := by decide +kernel
theorem dX5_init_58 : decode cX5_init 58 = .ok (.invokespecial 34, 3) := by decide +kernel
theorem dX5_init_61 : decode cX5_init 61 = .ok (.aastore, 1) := by decide +kernel
theorem dX5_init_62 : decode cX5_init 62 = .ok (.iinc 1 1, 3) := by decide +kernel
theorem dX5_init_65 : decode cX5_init 65 = .ok (.goto (-23), 3) := by decide +kernel
theorem dX5_init_68 : decode cX5_init 68 = .ok (.return_, 1) := by decide +kernel
theorem dX5_has_0 : decode cX5_has 0 = .ok (.iload_n 1, 1) := by decide +kernel
theorem dX5_has_1 : decode cX5_has 1 = .ok (.ifCond .lt 24, 3) := by decide +kernel
theorem dX5_has_4 : decode cX5_has 4 = .ok (.iload_n 1, 1) := by decide +kernel
theorem dX5_has_5 : decode cX5_has 5 = .ok (.iconst 5, 1) := by decide +kernel
theorem dX5_has_6 : decode cX5_has 6 = .ok (.if_icmp .ge 19, 3) := by decide +kernel
theorem dX5_has_9 : decode cX5_has 9 = .ok (.aload_n 0, 1) := by decide +kernel
theorem dX5_has_10 : decode cX5_has 10 = .ok (.getfield 11, 3) := by decide +kernel
theorem dX5_has_13 : decode cX5_has 13 = .ok (.iload_n 1, 1) := by decide +kernel
theorem dX5_has_14 : decode cX5_has 14 = .ok (.aaload, 1) := by decide +kernel
theorem dX5_has_15 : decode cX5_has 15 = .ok (.getfield 37, 3) := by decide +kernel
theorem dX5_has_18 : decode cX5_has 18 = .ok (.ifCond .le 7, 3) := by decide +kernel
theorem dX5_has_21 : decode cX5_has 21 = .ok (.iconst 1, 1) := by decide +kernel
theorem dX5_has_22 : decode cX5_has 22 = .ok (.goto 4, 3) := by decide +kernel
theorem dX5_has_25 : decode cX5_has 25 = .ok (.iconst 0, 1) := by decide +kernel
theorem dX5_has_26 : decode cX5_has 26 = .ok (.ireturn, 1) := by decide +kernel
theorem dX5_bytesOf_0 : decode cX5_bytesOf 0 = .ok (.aload_n 0, 1) := by decide +kernel
theorem dX5_bytesOf_1 : decode cX5_bytesOf 1 = .ok (.getfield 11, 3) := by decide +kernel
theorem dX5_bytesOf_4 : decode cX5_bytesOf 4 = .ok (.iload_n 1, 1) := by decide +kernel
theorem dX5_bytesOf_5 : decode cX5_bytesOf 5 = .ok (.aaload, 1) := by decide +kernel
theorem dX5_bytesOf_6 : decode cX5_bytesOf 6 = .ok (.areturn, 1) := by decide +kernel
theorem dX5_greatest_0 : decode cX5_greatest 0 = .ok (.iconst 4, 1) := by decide +kernel
theorem dX5_greatest_1 : decode cX5_greatest 1 = .ok (.istore_n 1, 1) := by decide +kernel
theorem dX5_greatest_2 : decode cX5_greatest 2 = .ok (.iload_n 1, 1) := by decide +kernel
theorem dX5_greatest_3 : decode cX5_greatest 3 = .ok (.ifCond .lt 19, 3) := by decide +kernel
theorem dX5_greatest_6 : decode cX5_greatest 6 = .ok (.aload_n 0, 1) := by decide +kernel
theorem dX5_greatest_7 : decode cX5_greatest 7 = .ok (.iload_n 1, 1) := by decide +kernel
theorem dX5_greatest_8 : decode cX5_greatest 8 = .ok (.invokevirtual 41, 3) := by decide +kernel
theorem dX5_greatest_11 : decode cX5_greatest 11 = .ok (.ifCond .eq 5, 3) := by decide +kernel
theorem dX5_greatest_14 : decode cX5_greatest 14 = .ok (.iload_n 1, 1) := by decide +kernel
theorem dX5_greatest_15 : decode cX5_greatest 15 = .ok (.ireturn, 1) := by decide +kernel
theorem dX5_greatest_16 : decode cX5_greatest 16 = .ok (.iinc 1 (-1), 3) := by decide +kernel
theorem dX5_greatest_19 : decode cX5_greatest 19 = .ok (.goto (-17), 3) := by decide +kernel
theorem dX5_greatest_22 : decode cX5_greatest 22 = .ok (.iconst (-1), 1) := by decide +kernel
theorem dX5_greatest_23 : decode cX5_greatest 23 = .ok (.ireturn, 1) := by decide +kernel
theorem dX5_replace_0 : decode cX5_replace 0 = .ok (.aload_n 0, 1) := by decide +kernel
theorem dX5_replace_1 : decode cX5_replace 1 = .ok (.getfield 11, 3) := by decide +kernel
theorem dX5_replace_4 : decode cX5_replace 4 = .ok (.iload_n 1, 1) := by decide +kernel
theorem dX5_replace_5 : decode cX5_replace 5 = .ok (.aaload, 1) := by decide +kernel
theorem dX5_replace_6 : decode cX5_replace 6 = .ok (.aload_n 2, 1) := by decide +kernel
theorem dX5_replace_7 : decode cX5_replace 7 = .ok (.iload_n 3, 1) := by decide +kernel
theorem dX5_replace_8 : decode cX5_replace 8 = .ok (.invokevirtual 45, 3) := by decide +kernel
theorem dX5_replace_11 : decode cX5_replace 11 = .ok (.iconst 0, 1) := by decide +kernel
theorem dX5_replace_12 : decode cX5_replace 12 = .ok (.istore 4, 2) := by decide +kernel
theorem dX5_replace_14 : decode cX5_replace 14 = .ok (.iload 4, 2) := by decide +kernel
theorem dX5_replace_16 : decode cX5_replace 16 = .ok (.iconst 5, 1) := by decide +kernel
theorem dX5_replace_17 : decode cX5_replace 17 = .ok (.if_icmp .ge 33, 3) := by decide +kernel
theorem dX5_replace_20 : decode cX5_replace 20 = .ok (.aload_n 0, 1) := by decide +kernel
theorem dX5_replace_21 : decode cX5_replace 21 = .ok (.getfield 23, 3) := by decide +kernel
theorem dX5_replace_24 : decode cX5_replace 24 = .ok (.iload_n 1, 1) := by decide +kernel
theorem dX5_replace_25 : decode cX5_replace 25 = .ok (.iconst 5, 1) := by decide +kernel
theorem dX5_replace_26 : decode cX5_replace 26 = .ok (.imul, 1) := by decide +kernel
theorem dX5_replace_27 : decode cX5_replace 27 = .ok (.iload 4, 2) := by decide +kernel
theorem dX5_replace_29 : decode cX5_replace 29 = .ok (.iadd, 1) := by decide +kernel
theorem dX5_replace_30 : decode cX5_replace 30 = .ok (.iconst 0, 1) := by decide +kernel
theorem dX5_replace_31 : decode cX5_replace 31 = .ok (.bastore, 1) := by decide +kernel
theorem dX5_replace_32 : decode cX5_replace 32 = .ok (.aload_n 0, 1) := by decide +kernel
theorem dX5_replace_33 : decode cX5_replace 33 = .ok (.getfield 23, 3) := by decide +kernel
theorem dX5_replace_36 : decode cX5_replace 36 = .ok (.iload 4, 2) := by decide +kernel
theorem dX5_replace_38 : decode cX5_replace 38 = .ok (.iconst 5, 1) := by decide +kernel
theorem dX5_replace_39 : decode cX5_replace 39 = .ok (.imul, 1) := by decide +kernel
theorem dX5_replace_40 : decode cX5_replace 40 = .ok (.iload_n 1, 1) := by decide +kernel
theorem dX5_replace_41 : decode cX5_replace 41 = .ok (.iadd, 1) := by decide +kernel
