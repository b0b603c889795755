theorem dX8_writeOne_195 : decode cX8_writeOne 195 = .ok (.return_, 1) := by decide +kernel
theorem dX8_write_0 : decode cX8_write 0 = .ok (.iload_n 1, 1) := by decide +kernel
theorem dX8_write_1 : decode cX8_write 1 = .ok (.iconst 0, 1) := by decide +kernel
theorem dX8_write_2 : decode cX8_write 2 = .ok (.sipush 1000, 3) := by decide +kernel
theorem dX8_write_5 : decode cX8_write 5 = .ok (.invokestatic 99, 3) := by decide +kernel
theorem dX8_write_8 : decode cX8_write 8 = .ok (.ifCond .ne 5, 3) := by decide +kernel
theorem dX8_write_11 : decode cX8_write 11 = .ok (.iconst (-1), 1) := by decide +kernel
theorem dX8_write_12 : decode cX8_write 12 = .ok (.ireturn, 1) := by decide +kernel
theorem dX8_write_13 : decode cX8_write 13 = .ok (.aload_n 0, 1) := by decide +kernel
theorem dX8_write_14 : decode cX8_write 14 = .ok (.getfield 166, 3) := by decide +kernel
theorem dX8_write_17 : decode cX8_write 17 = .ok (.ifCond .eq 10, 3) := by decide +kernel
theorem dX8_write_20 : decode cX8_write 20 = .ok (.aload_n 0, 1) := by decide +kernel
theorem dX8_write_21 : decode cX8_write 21 = .ok (.getfield 170, 3) := by decide +kernel
theorem dX8_write_24 : decode cX8_write 24 = .ok (.ifCond .eq 6, 3) := by decide +kernel
theorem dX8_write_27 : decode cX8_write 27 = .ok (.bipush (-2), 2) := by decide +kernel
theorem dX8_write_29 : decode cX8_write 29 = .ok (.ireturn, 1) := by decide +kernel
theorem dX8_write_30 : decode cX8_write 30 = .ok (.iconst 0, 1) := by decide +kernel
theorem dX8_write_31 : decode cX8_write 31 = .ok (.istore_n 2, 1) := by decide +kernel
theorem dX8_write_32 : decode cX8_write 32 = .ok (.iload_n 2, 1) := by decide +kernel
theorem dX8_write_33 : decode cX8_write 33 = .ok (.iload_n 1, 1) := by decide +kernel
theorem dX8_write_34 : decode cX8_write 34 = .ok (.if_icmp .ge 24, 3) := by decide +kernel
theorem dX8_write_37 : decode cX8_write 37 = .ok (.aload_n 0, 1) := by decide +kernel
theorem dX8_write_38 : decode cX8_write 38 = .ok (.getfield 166, 3) := by decide +kernel
theorem dX8_write_41 : decode cX8_write 41 = .ok (.ifCond .eq 17, 3) := by decide +kernel
theorem dX8_write_44 : decode cX8_write 44 = .ok (.aload_n 0, 1) := by decide +kernel
theorem dX8_write_45 : decode cX8_write 45 = .ok (.aload_n 0, 1) := by decide +kernel
theorem dX8_write_46 : decode cX8_write 46 = .ok (.getfield 190, 3) := by decide +kernel
theorem dX8_write_49 : decode cX8_write 49 = .ok (.invokevirtual 199, 3) := by decide +kernel
theorem dX8_write_52 : decode cX8_write 52 = .ok (.iinc 2 1, 3) := by decide +kernel
theorem dX8_write_55 : decode cX8_write 55 = .ok (.goto (-23), 3) := by decide +kernel
theorem dX8_write_58 : decode cX8_write 58 = .ok (.iload_n 2, 1) := by decide +kernel
theorem dX8_write_59 : decode cX8_write 59 = .ok (.ireturn, 1) := by decide +kernel
theorem dX8_cut_0 : decode cX8_cut 0 = .ok (.aload_n 0, 1) := by decide +kernel
theorem dX8_cut_1 : decode cX8_cut 1 = .ok (.getfield 166, 3) := by decide +kernel
theorem dX8_cut_4 : decode cX8_cut 4 = .ok (.ifCond .eq 10, 3) := by decide +kernel
theorem dX8_cut_7 : decode cX8_cut 7 = .ok (.aload_n 0, 1) := by decide +kernel
theorem dX8_cut_8 : decode cX8_cut 8 = .ok (.getfield 170, 3) := by decide +kernel
theorem dX8_cut_11 : decode cX8_cut 11 = .ok (.ifCond .eq 5, 3) := by decide +kernel
theorem dX8_cut_14 : decode cX8_cut 14 = .ok (.iconst 0, 1) := by decide +kernel
theorem dX8_cut_15 : decode cX8_cut 15 = .ok (.ireturn, 1) := by decide +kernel
theorem dX8_cut_16 : decode cX8_cut 16 = .ok (.aload_n 0, 1) := by decide +kernel
theorem dX8_cut_17 : decode cX8_cut 17 = .ok (.iconst 1, 1) := by decide +kernel
theorem dX8_cut_18 : decode cX8_cut 18 = .ok (.putfield 170, 3) := by decide +kernel
theorem dX8_cut_21 : decode cX8_cut 21 = .ok (.iconst 1, 1) := by decide +kernel
theorem dX8_cut_22 : decode cX8_cut 22 = .ok (.ireturn, 1) := by decide +kernel
theorem dX8_on_0 : decode cX8_on 0 = .ok (.aload_n 0, 1) := by decide +kernel
theorem dX8_on_1 : decode cX8_on 1 = .ok (.getfield 170, 3) := by decide +kernel
theorem dX8_on_4 : decode cX8_on 4 = .ok (.ifCond .ne 6, 3) := by decide +kernel
theorem dX8_on_7 : decode cX8_on 7 = .ok (.bipush (-2), 2) := by decide +kernel
theorem dX8_on_9 : decode cX8_on 9 = .ok (.ireturn, 1) := by decide +kernel
theorem dX8_on_10 : decode cX8_on 10 = .ok (.aload_n 0, 1) := by decide +kernel
theorem dX8_on_11 : decode cX8_on 11 = .ok (.iconst 0, 1) := by decide +kernel
theorem dX8_on_12 : decode cX8_on 12 = .ok (.putfield 170, 3) := by decide +kernel
theorem dX8_on_15 : decode cX8_on 15 = .ok (.aload_n 0, 1) := by decide +kernel
theorem dX8_on_16 : decode cX8_on 16 = .ok (.getfield 190, 3) := by decide +kernel
theorem dX8_on_19 : decode cX8_on 19 = .ok (.aload_n 0, 1) := by decide +kernel
theorem dX8_on_20 : decode cX8_on 20 = .ok (.getfield 173, 3) := by decide +kernel
theorem dX8_on_23 : decode cX8_on 23 = .ok (.if_icmp .gt 11, 3) := by decide +kernel
theorem dX8_on_26 : decode cX8_on 26 = .ok (.aload_n 0, 1) := by decide +kernel
theorem dX8_on_27 : decode cX8_on 27 = .ok (.iconst 0, 1) := by decide +kernel
theorem dX8_on_28 : decode cX8_on 28 = .ok (.putfield 190, 3) := by decide +kernel
theorem dX8_on_31 : decode cX8_on 31 = .ok (.goto 25, 3) := by decide +kernel
theorem dX8_on_34 : decode cX8_on 34 = .ok (.aload_n 0, 1) := by decide +kernel
theorem dX8_on_35 : decode cX8_on 35 = .ok (.dup, 1) := by decide +kernel
theorem dX8_on_36 : decode cX8_on 36 = .ok (.getfield 190, 3) := by decide +kernel
theorem dX8_on_39 : decode cX8_on 39 = .ok (.aload_n 0, 1) := by decide +kernel
theorem dX8_on_40 : decode cX8_on 40 = .ok (.getfield 190, 3) := by decide +kernel
theorem dX8_on_43 : decode cX8_on 43 = .ok (.aload_n 0, 1) := by decide +kernel
theorem dX8_on_44 : decode cX8_on 44 = .ok (.getfield 173, 3) := by decide +kernel
theorem dX8_on_47 : decode cX8_on 47 = .ok (.isub, 1) := by decide +kernel
theorem dX8_on_48 : decode cX8_on 48 = .ok (.iconst 1, 1) := by decide +kernel
theorem dX8_on_49 : decode cX8_on 49 = .ok (.isub, 1) := by decide +kernel
theorem dX8_on_50 : decode cX8_on 50 = .ok (.iconst 2, 1) := by decide +kernel
theorem dX8_on_51 : decode cX8_on 51 = .ok (.irem, 1) := by decide +kernel
theorem dX8_on_52 : decode cX8_on 52 = .ok (.isub, 1) := by decide +kernel
theorem dX8_on_53 : decode cX8_on 53 = .ok (.putfield 190, 3) := by decide +kernel
theorem dX8_on_56 : decode cX8_on 56 = .ok (.aload_n 0, 1) := by decide +kernel
theorem dX8_on_57 : decode cX8_on 57 = .ok (.invokevirtual 193, 3) := by decide +kernel
theorem dX8_on_60 : decode cX8_on 60 = .ok (.aload_n 0, 1) := by decide +kernel
theorem dX8_on_61 : decode cX8_on 61 = .ok (.getfield 190, 3) := by decide +kernel
theorem dX8_on_64 : decode cX8_on 64 = .ok (.isub, 1) := by decide +kernel
theorem dX8_on_65 : decode cX8_on 65 = .ok (.ireturn, 1) := by decide +kernel
theorem dX8_device_0 : decode cX8_device 0 = .ok (.iload_n 1, 1) := by decide +kernel
theorem dX8_device_1 : decode cX8_device 1 = .ok (.tableswitch 165 0 6 #[43, 48, 53, 77, 82, 105, 141], 43) := by decide +kernel
theorem dX8_device_44 : decode cX8_device 44 = .ok (.aload_n 0, 1) := by decide +kernel
theorem dX8_device_45 : decode cX8_device 45 = .ok (.getfield 163, 3) := by decide +kernel
theorem dX8_device_48 : decode cX8_device 48 = .ok (.ireturn, 1) := by decide +kernel
theorem dX8_device_49 : decode cX8_device 49 = .ok (.aload_n 0, 1) := by decide +kernel
theorem dX8_device_50 : decode cX8_device 50 = .ok (.invokevirtual 179, 3) := by decide +kernel
theorem dX8_device_53 : decode cX8_device 53 = .ok (.ireturn, 1) := by decide +kernel
theorem dX8_device_54 : decode cX8_device 54 = .ok (.aload_n 0, 1) := by decide +kernel
theorem dX8_device_55 : decode cX8_device 55 = .ok (.getfield 166, 3) := by decide +kernel
theorem dX8_device_58 : decode cX8_device 58 = .ok (.ifCond .ne 7, 3) := by decide +kernel
theorem dX8_device_61 : decode cX8_device 61 = .ok (.iconst 0, 1) := by decide +kernel
theorem dX8_device_62 : decode cX8_device 62 = .ok (.goto 15, 3) := by decide +kernel
theorem dX8_device_65 : decode cX8_device 65 = .ok (.aload_n 0, 1) := by decide +kernel
theorem dX8_device_66 : decode cX8_device 66 = .ok (.getfield 170, 3) := by decide +kernel
theorem dX8_device_69 : decode cX8_device 69 = .ok (.ifCond .eq 7, 3) := by decide +kernel
theorem dX8_device_72 : decode cX8_device 72 = .ok (.iconst 2, 1) := by decide +kernel
theorem dX8_device_73 : decode cX8_device 73 = .ok (.goto 4, 3) := by decide +kernel
theorem dX8_device_76 : decode cX8_device 76 = .ok (.iconst 1, 1) := by decide +kernel
theorem dX8_device_77 : decode cX8_device 77 = .ok (.ireturn, 1) := by decide +kernel
theorem dX8_device_78 : decode cX8_device 78 = .ok (.aload_n 0, 1) := by decide +kernel
theorem dX8_device_79 : decode cX8_device 79 = .ok (.getfield 196, 3) := by decide +kernel
theorem dX8_device_82 : decode cX8_device 82 = .ok (.ireturn, 1) := by decide +kernel
theorem dX8_device_83 : decode cX8_device 83 = .ok (.aload_n 0, 1) := by decide +kernel
theorem dX8_device_84 : decode cX8_device 84 = .ok (.getfield 166, 3) := by decide +kernel
theorem dX8_device_87 : decode cX8_device 87 = .ok (.ifCond .eq 17, 3) := by decide +kernel
theorem dX8_device_90 : decode cX8_device 90 = .ok (.aload_n 0, 1) := by decide +kernel
theorem dX8_device_91 : decode cX8_device 91 = .ok (.getfield 190, 3) := by decide +kernel
theorem dX8_device_94 : decode cX8_device 94 = .ok (.aload_n 0, 1) := by decide +kernel
theorem dX8_device_95 : decode cX8_device 95 = .ok (.getfield 173, 3) := by decide +kernel
theorem dX8_device_98 : decode cX8_device 98 = .ok (.invokestatic 111, 3) := by decide +kernel
theorem dX8_device_101 : decode cX8_device 101 = .ok (.goto 4, 3) := by decide +kernel
theorem dX8_device_104 : decode cX8_device 104 = .ok (.iconst 0, 1) := by decide +kernel
theorem dX8_device_105 : decode cX8_device 105 = .ok (.ireturn, 1) := by decide +kernel
theorem dX8_device_106 : decode cX8_device 106 = .ok (.aload_n 0, 1) := by decide +kernel
theorem dX8_device_107 : decode cX8_device 107 = .ok (.getfield 166, 3) := by decide +kernel
theorem dX8_device_110 : decode cX8_device 110 = .ok (.ifCond .eq 30, 3) := by decide +kernel
theorem dX8_device_113 : decode cX8_device 113 = .ok (.aload_n 0, 1) := by decide +kernel
theorem dX8_device_114 : decode cX8_device 114 = .ok (.getfield 190, 3) := by decide +kernel
theorem dX8_device_117 : decode cX8_device 117 = .ok (.aload_n 0, 1) := by decide +kernel
theorem dX8_device_118 : decode cX8_device 118 = .ok (.getfield 173, 3) := by decide +kernel
theorem dX8_device_121 : decode cX8_device 121 = .ok (.if_icmp .le 19, 3) := by decide +kernel
theorem dX8_device_124 : decode cX8_device 124 = .ok (.aload_n 0, 1) := by decide +kernel
theorem dX8_device_125 : decode cX8_device 125 = .ok (.getfield 190, 3) := by decide +kernel
theorem dX8_device_128 : decode cX8_device 128 = .ok (.aload_n 0, 1) := by decide +kernel
theorem dX8_device_129 : decode cX8_device 129 = .ok (.getfield 173, 3) := by decide +kernel
theorem dX8_device_132 : decode cX8_device 132 = .ok (.isub, 1) := by decide +kernel
theorem dX8_device_133 : decode cX8_device 133 = .ok (.iconst 1, 1) := by decide +kernel
theorem dX8_device_134 : decode cX8_device 134 = .ok (.isub, 1) := by decide +kernel
theorem dX8_device_135 : decode cX8_device 135 = .ok (.iconst 2, 1) := by decide +kernel
theorem dX8_device_136 : decode cX8_device 136 = .ok (.idiv, 1) := by decide +kernel
theorem dX8_device_137 : decode cX8_device 137 = .ok (.goto 4, 3) := by decide +kernel
theorem dX8_device_140 : decode cX8_device 140 = .ok (.iconst (-1), 1) := by decide +kernel
theorem dX8_device_141 : decode cX8_device 141 = .ok (.ireturn, 1) := by decide +kernel
theorem dX8_device_142 : decode cX8_device 142 = .ok (.aload_n 0, 1) := by decide +kernel
theorem dX8_device_143 : decode cX8_device 143 = .ok (.getfield 166, 3) := by decide +kernel
theorem dX8_device_146 : decode cX8_device 146 = .ok (.ifCond .ne 7, 3) := by decide +kernel
theorem dX8_device_149 : decode cX8_device 149 = .ok (.iconst (-1), 1) := by decide +kernel
theorem dX8_device_150 : decode cX8_device 150 = .ok (.goto 15, 3) := by decide +kernel
theorem dX8_device_153 : decode cX8_device 153 = .ok (.aload_n 0, 1) := by decide +kernel
theorem dX8_device_154 : decode cX8_device 154 = .ok (.getfield 187, 3) := by decide +kernel
theorem dX8_device_157 : decode cX8_device 157 = .ok (.ifCond .eq 7, 3) := by decide +kernel
theorem dX8_device_160 : decode cX8_device 160 = .ok (.iconst 1, 1) := by decide +kernel
theorem dX8_device_161 : decode cX8_device 161 = .ok (.goto 4, 3) := by decide +kernel
theorem dX8_device_164 : decode cX8_device 164 = .ok (.iconst 0, 1) := by decide +kernel
theorem dX8_device_165 : decode cX8_device 165 = .ok (.ireturn, 1) := by decide +kernel
theorem dX8_device_166 : decode cX8_device 166 = .ok (.iload_n 1, 1) := by decide +kernel
theorem dX8_device_167 : decode cX8_device 167 = .ok (.bipush 10, 2) := by decide +kernel
theorem dX8_device_169 : decode cX8_device 169 = .ok (.sipush 129, 3) := by decide +kernel
theorem dX8_device_172 : decode cX8_device 172 = .ok (.invokestatic 99, 3) := by decide +kernel
theorem dX8_device_175 : decode cX8_device 175 = .ok (.ifCond .eq 19, 3) := by decide +kernel
theorem dX8_device_178 : decode cX8_device 178 = .ok (.aload_n 0, 1) := by decide +kernel
theorem dX8_device_179 : decode cX8_device 179 = .ok (.getfield 66, 3) := by decide +kernel
theorem dX8_device_182 : decode cX8_device 182 = .ok (.iload_n 1, 1) := by decide +kernel
theorem dX8_device_183 : decode cX8_device 183 = .ok (.bipush 10, 2) := by decide +kernel
theorem dX8_device_185 : decode cX8_device 185 = .ok (.isub, 1) := by decide +kernel
theorem dX8_device_186 : decode cX8_device 186 = .ok (.baload, 1) := by decide +kernel
theorem dX8_device_187 : decode cX8_device 187 = .ok (.sipush 255, 3) := by decide +kernel
theorem dX8_device_190 : decode cX8_device 190 = .ok (.iand, 1) := by decide +kernel
theorem dX8_device_191 : decode cX8_device 191 = .ok (.goto 4, 3) := by decide +kernel
theorem dX8_device_194 : decode cX8_device 194 = .ok (.iconst (-1), 1) := by decide +kernel
theorem dX8_device_195 : decode cX8_device 195 = .ok (.ireturn, 1) := by decide +kernel
theorem dX8_fleet_0 : decode cX8_fleet 0 = .ok (.aload_n 0, 1) := by decide +kernel
theorem dX8_fleet_1 : decode cX8_fleet 1 = .ok (.iload_n 1, 1) := by decide +kernel
theorem dX8_fleet_2 : decode cX8_fleet 2 = .ok (.invokevirtual 117, 3) := by decide +kernel
theorem dX8_fleet_5 : decode cX8_fleet 5 = .ok (.ifCond .eq 14, 3) := by decide +kernel
theorem dX8_fleet_8 : decode cX8_fleet 8 = .ok (.iload_n 2, 1) := by decide +kernel
theorem dX8_fleet_9 : decode cX8_fleet 9 = .ok (.iconst 0, 1) := by decide +kernel
theorem dX8_fleet_10 : decode cX8_fleet 10 = .ok (.sipush 1000, 3) := by decide +kernel
theorem dX8_fleet_13 : decode cX8_fleet 13 = .ok (.invokestatic 99, 3) := by decide +kernel
theorem dX8_fleet_16 : decode cX8_fleet 16 = .ok (.ifCond .ne 5, 3) := by decide +kernel
theorem dX8_fleet_19 : decode cX8_fleet 19 = .ok (.iconst 0, 1) := by decide +kernel
theorem dX8_fleet_20 : decode cX8_fleet 20 = .ok (.ireturn, 1) := by decide +kernel
theorem dX8_fleet_21 : decode cX8_fleet 21 = .ok (.aload_n 0, 1) := by decide +kernel
theorem dX8_fleet_22 : decode cX8_fleet 22 = .ok (.getfield 87, 3) := by decide +kernel
theorem dX8_fleet_25 : decode cX8_fleet 25 = .ok (.iload_n 1, 1) := by decide +kernel
theorem dX8_fleet_26 : decode cX8_fleet 26 = .ok (.iload_n 2, 1) := by decide +kernel
theorem dX8_fleet_27 : decode cX8_fleet 27 = .ok (.iastore, 1) := by decide +kernel
theorem dX8_fleet_28 : decode cX8_fleet 28 = .ok (.iconst 1, 1) := by decide +kernel
theorem dX8_fleet_29 : decode cX8_fleet 29 = .ok (.ireturn, 1) := by decide +kernel
theorem dX8_pair_0 : decode cX8_pair 0 = .ok (.iload_n 0, 1) := by decide +kernel
theorem dX8_pair_1 : decode cX8_pair 1 = .ok (.ifCond .ne 9, 3) := by decide +kernel
theorem dX8_pair_4 : decode cX8_pair 4 = .ok (.iload_n 1, 1) := by decide +kernel
theorem dX8_pair_5 : decode cX8_pair 5 = .ok (.iconst 1, 1) := by decide +kernel
theorem dX8_pair_6 : decode cX8_pair 6 = .ok (.isub, 1) := by decide +kernel
theorem dX8_pair_7 : decode cX8_pair 7 = .ok (.goto 27, 3) := by decide +kernel
theorem dX8_pair_10 : decode cX8_pair 10 = .ok (.iload_n 0, 1) := by decide +kernel
theorem dX8_pair_11 : decode cX8_pair 11 = .ok (.iconst 1, 1) := by decide +kernel
theorem dX8_pair_12 : decode cX8_pair 12 = .ok (.if_icmp .ne 9, 3) := by decide +kernel
theorem dX8_pair_15 : decode cX8_pair 15 = .ok (.iload_n 1, 1) := by decide +kernel
theorem dX8_pair_16 : decode cX8_pair 16 = .ok (.iconst 2, 1) := by decide +kernel
theorem dX8_pair_17 : decode cX8_pair 17 = .ok (.iadd, 1) := by decide +kernel
theorem dX8_pair_18 : decode cX8_pair 18 = .ok (.goto 16, 3) := by decide +kernel
theorem dX8_pair_21 : decode cX8_pair 21 = .ok (.iload_n 0, 1) := by decide +kernel
theorem dX8_pair_22 : decode cX8_pair 22 = .ok (.iconst 2, 1) := by decide +kernel
theorem dX8_pair_23 : decode cX8_pair 23 = .ok (.if_icmp .ne 9, 3) := by decide +kernel
theorem dX8_pair_26 : decode cX8_pair 26 = .ok (.iload_n 1, 1) := by decide +kernel
theorem dX8_pair_27 : decode cX8_pair 27 = .ok (.iconst 4, 1) := by decide +kernel
theorem dX8_pair_28 : decode cX8_pair 28 = .ok (.iadd, 1) := by decide +kernel
theorem dX8_pair_29 : decode cX8_pair 29 = .ok (.goto 5, 3) := by decide +kernel
theorem dX8_pair_32 : decode cX8_pair 32 = .ok (.bipush 9, 2) := by decide +kernel
theorem dX8_pair_34 : decode cX8_pair 34 = .ok (.ireturn, 1) := by decide +kernel
theorem dX8_hold_0 : decode cX8_hold 0 = .ok (.aload_n 0, 1) := by decide +kernel
theorem dX8_hold_1 : decode cX8_hold 1 = .ok (.iload_n 1, 1) := by decide +kernel
theorem dX8_hold_2 : decode cX8_hold 2 = .ok (.invokevirtual 117, 3) := by decide +kernel
theorem dX8_hold_5 : decode cX8_hold 5 = .ok (.ifCond .eq 30, 3) := by decide +kernel
theorem dX8_hold_8 : decode cX8_hold 8 = .ok (.aload_n 0, 1) := by decide +kernel
theorem dX8_hold_9 : decode cX8_hold 9 = .ok (.iload_n 2, 1) := by decide +kernel
theorem dX8_hold_10 : decode cX8_hold 10 = .ok (.invokevirtual 117, 3) := by decide +kernel
theorem dX8_hold_13 : decode cX8_hold 13 = .ok (.ifCond .eq 22, 3) := by decide +kernel
theorem dX8_hold_16 : decode cX8_hold 16 = .ok (.iload_n 1, 1) := by decide +kernel
theorem dX8_hold_17 : decode cX8_hold 17 = .ok (.iload_n 2, 1) := by decide +kernel
theorem dX8_hold_18 : decode cX8_hold 18 = .ok (.if_icmp .ge 17, 3) := by decide +kernel
theorem dX8_hold_21 : decode cX8_hold 21 = .ok (.aload_n 0, 1) := by decide +kernel
theorem dX8_hold_22 : decode cX8_hold 22 = .ok (.getfield 90, 3) := by decide +kernel
theorem dX8_hold_25 : decode cX8_hold 25 = .ok (.iload_n 1, 1) := by decide +kernel
theorem dX8_hold_26 : decode cX8_hold 26 = .ok (.iload_n 2, 1) := by decide +kernel
theorem dX8_hold_27 : decode cX8_hold 27 = .ok (.invokestatic 202, 3) := by decide +kernel
theorem dX8_hold_30 : decode cX8_hold 30 = .ok (.baload, 1) := by decide +kernel
theorem dX8_hold_31 : decode cX8_hold 31 = .ok (.iload_n 3, 1) := by decide +kernel
theorem dX8_hold_32 : decode cX8_hold 32 = .ok (.if_icmp .ne 5, 3) := by decide +kernel
theorem dX8_hold_35 : decode cX8_hold 35 = .ok (.iconst 0, 1) := by decide +kernel
theorem dX8_hold_36 : decode cX8_hold 36 = .ok (.ireturn, 1) := by decide +kernel
theorem dX8_hold_37 : decode cX8_hold 37 = .ok (.aload_n 0, 1) := by decide +kernel
theorem dX8_hold_38 : decode cX8_hold 38 = .ok (.getfield 90, 3) := by decide +kernel
theorem dX8_hold_41 : decode cX8_hold 41 = .ok (.iload_n 1, 1) := by decide +kernel
theorem dX8_hold_42 : decode cX8_hold 42 = .ok (.iload_n 2, 1) := by decide +kernel
theorem dX8_hold_43 : decode cX8_hold 43 = .ok (.invokestatic 202, 3) := by decide +kernel
theorem dX8_hold_46 : decode cX8_hold 46 = .ok (.iload_n 3, 1) := by decide +kernel
theorem dX8_hold_47 : decode cX8_hold 47 = .ok (.bastore, 1) := by decide +kernel
theorem dX8_hold_48 : decode cX8_hold 48 = .ok (.iconst 1, 1) := by decide +kernel
theorem dX8_hold_49 : decode cX8_hold 49 = .ok (.ireturn, 1) := by decide +kernel
theorem dX8_greatest_0 : decode cX8_greatest 0 = .ok (.iconst (-1), 1) := by decide +kernel
theorem dX8_greatest_1 : decode cX8_greatest 1 = .ok (.istore_n 1, 1) := by decide +kernel
theorem dX8_greatest_2 : decode cX8_greatest 2 = .ok (.iconst 0, 1) := by decide +kernel
theorem dX8_greatest_3 : decode cX8_greatest 3 = .ok (.istore_n 2, 1) := by decide +kernel
theorem dX8_greatest_4 : decode cX8_greatest 4 = .ok (.iload_n 2, 1) := by decide +kernel
theorem dX8_greatest_5 : decode cX8_greatest 5 = .ok (.iconst 5, 1) := by decide +kernel
theorem dX8_greatest_6 : decode cX8_greatest 6 = .ok (.if_icmp .ge 20, 3) := by decide +kernel
theorem dX8_greatest_9 : decode cX8_greatest 9 = .ok (.aload_n 0, 1) := by decide +kernel
theorem dX8_greatest_10 : decode cX8_greatest 10 = .ok (.getfield 16, 3) := by decide +kernel
theorem dX8_greatest_13 : decode cX8_greatest 13 = .ok (.iload_n 2, 1) := by decide +kernel
theorem dX8_greatest_14 : decode cX8_greatest 14 = .ok (.iaload, 1) := by decide +kernel
theorem dX8_greatest_15 : decode cX8_greatest 15 = .ok (.ifCond .le 5, 3) := by decide +kernel
theorem dX8_greatest_18 : decode cX8_greatest 18 = .ok (.iload_n 2, 1) := by decide +kernel
theorem dX8_greatest_19 : decode cX8_greatest 19 = .ok (.istore_n 1, 1) := by decide +kernel
theorem dX8_greatest_20 : decode cX8_greatest 20 = .ok (.iinc 2 1, 3) := by decide +kernel
theorem dX8_greatest_23 : decode cX8_greatest 23 = .ok (.goto (-19), 3) := by decide +kernel
theorem dX8_greatest_26 : decode cX8_greatest 26 = .ok (.iload_n 1, 1) := by decide +kernel
theorem dX8_greatest_27 : decode cX8_greatest 27 = .ok (.ireturn, 1) := by decide +kernel
theorem dX8_pairCosts_0 : decode cX8_pairCosts 0 = .ok (.iconst 0, 1) := by decide +kernel
theorem dX8_pairCosts_1 : decode cX8_pairCosts 1 = .ok (.istore_n 1, 1) := by decide +kernel
theorem dX8_pairCosts_2 : decode cX8_pairCosts 2 = .ok (.iload_n 1, 1) := by decide +kernel
theorem dX8_pairCosts_3 : decode cX8_pairCosts 3 = .ok (.iconst 5, 1) := by decide +kernel
theorem dX8_pairCosts_4 : decode cX8_pairCosts 4 = .ok (.if_icmp .ge 60, 3) := by decide +kernel
theorem dX8_pairCosts_7 : decode cX8_pairCosts 7 = .ok (.iload_n 1, 1) := by decide +kernel
theorem dX8_pairCosts_8 : decode cX8_pairCosts 8 = .ok (.iconst 1, 1) := by decide +kernel
theorem dX8_pairCosts_9 : decode cX8_pairCosts 9 = .ok (.iadd, 1) := by decide +kernel
theorem dX8_pairCosts_10 : decode cX8_pairCosts 10 = .ok (.istore_n 2, 1) := by decide +kernel
theorem dX8_pairCosts_11 : decode cX8_pairCosts 11 = .ok (.iload_n 2, 1) := by decide +kernel
theorem dX8_pairCosts_12 : decode cX8_pairCosts 12 = .ok (.iconst 5, 1) := by decide +kernel
theorem dX8_pairCosts_13 : decode cX8_pairCosts 13 = .ok (.if_icmp .ge 45, 3) := by decide +kernel
theorem dX8_pairCosts_16 : decode cX8_pairCosts 16 = .ok (.aload_n 0, 1) := by decide +kernel
theorem dX8_pairCosts_17 : decode cX8_pairCosts 17 = .ok (.getfield 93, 3) := by decide +kernel
theorem dX8_pairCosts_20 : decode cX8_pairCosts 20 = .ok (.iload_n 1, 1) := by decide +kernel
theorem dX8_pairCosts_21 : decode cX8_pairCosts 21 = .ok (.iload_n 2, 1) := by decide +kernel
theorem dX8_pairCosts_22 : decode cX8_pairCosts 22 = .ok (.invokestatic 202, 3) := by decide +kernel
theorem dX8_pairCosts_25 : decode cX8_pairCosts 25 = .ok (.aload_n 0, 1) := by decide +kernel
theorem dX8_pairCosts_26 : decode cX8_pairCosts 26 = .ok (.iload_n 1, 1) := by decide +kernel
theorem dX8_pairCosts_27 : decode cX8_pairCosts 27 = .ok (.invokevirtual 117, 3) := by decide +kernel
theorem dX8_pairCosts_30 : decode cX8_pairCosts 30 = .ok (.ifCond .eq 20, 3) := by decide +kernel
theorem dX8_pairCosts_33 : decode cX8_pairCosts 33 = .ok (.aload_n 0, 1) := by decide +kernel
theorem dX8_pairCosts_34 : decode cX8_pairCosts 34 = .ok (.iload_n 2, 1) := by decide +kernel
theorem dX8_pairCosts_35 : decode cX8_pairCosts 35 = .ok (.invokevirtual 117, 3) := by decide +kernel
theorem dX8_pairCosts_38 : decode cX8_pairCosts 38 = .ok (.ifCond .eq 12, 3) := by decide +kernel
theorem dX8_pairCosts_41 : decode cX8_pairCosts 41 = .ok (.aload_n 0, 1) := by decide +kernel
theorem dX8_pairCosts_42 : decode cX8_pairCosts 42 = .ok (.iload_n 1, 1) := by decide +kernel
theorem dX8_pairCosts_43 : decode cX8_pairCosts 43 = .ok (.iload_n 2, 1) := by decide +kernel
theorem dX8_pairCosts_44 : decode cX8_pairCosts 44 = .ok (.invokevirtual 205, 3) := by decide +kernel
theorem dX8_pairCosts_47 : decode cX8_pairCosts 47 = .ok (.goto 4, 3) := by decide +kernel
theorem dX8_pairCosts_50 : decode cX8_pairCosts 50 = .ok (.iconst (-1), 1) := by decide +kernel
theorem dX8_pairCosts_51 : decode cX8_pairCosts 51 = .ok (.iastore, 1) := by decide +kernel
theorem dX8_pairCosts_52 : decode cX8_pairCosts 52 = .ok (.iinc 2 1, 3) := by decide +kernel
theorem dX8_pairCosts_55 : decode cX8_pairCosts 55 = .ok (.goto (-44), 3) := by decide +kernel
theorem dX8_pairCosts_58 : decode cX8_pairCosts 58 = .ok (.iinc 1 1, 3) := by decide +kernel
theorem dX8_pairCosts_61 : decode cX8_pairCosts 61 = .ok (.goto (-59), 3) := by decide +kernel
theorem dX8_pairCosts_64 : decode cX8_pairCosts 64 = .ok (.return_, 1) := by decide +kernel
theorem dX8_sentBy_0 : decode cX8_sentBy 0 = .ok (.aload_n 0, 1) := by decide +kernel
theorem dX8_sentBy_1 : decode cX8_sentBy 1 = .ok (.invokevirtual 208, 3) := by decide +kernel
theorem dX8_sentBy_4 : decode cX8_sentBy 4 = .ok (.istore_n 2, 1) := by decide +kernel
theorem dX8_sentBy_5 : decode cX8_sentBy 5 = .ok (.iconst 0, 1) := by decide +kernel
theorem dX8_sentBy_6 : decode cX8_sentBy 6 = .ok (.istore_n 3, 1) := by decide +kernel
theorem dX8_sentBy_7 : decode cX8_sentBy 7 = .ok (.iload_n 2, 1) := by decide +kernel
theorem dX8_sentBy_8 : decode cX8_sentBy 8 = .ok (.istore 4, 2) := by decide +kernel
theorem dX8_sentBy_10 : decode cX8_sentBy 10 = .ok (.iload 4, 2) := by decide +kernel
theorem dX8_sentBy_12 : decode cX8_sentBy 12 = .ok (.ifCond .lt 148, 3) := by decide +kernel
theorem dX8_sentBy_15 : decode cX8_sentBy 15 = .ok (.aload_n 0, 1) := by decide +kernel
theorem dX8_sentBy_16 : decode cX8_sentBy 16 = .ok (.getfield 96, 3) := by decide +kernel
theorem dX8_sentBy_19 : decode cX8_sentBy 19 = .ok (.iload 4, 2) := by decide +kernel
theorem dX8_sentBy_21 : decode cX8_sentBy 21 = .ok (.iload 4, 2) := by decide +kernel
theorem dX8_sentBy_23 : decode cX8_sentBy 23 = .ok (.iload_n 2, 1) := by decide +kernel
theorem dX8_sentBy_24 : decode cX8_sentBy 24 = .ok (.if_icmp .ne 7, 3) := by decide +kernel
theorem dX8_sentBy_27 : decode cX8_sentBy 27 = .ok (.iconst 0, 1) := by decide +kernel
theorem dX8_sentBy_28 : decode cX8_sentBy 28 = .ok (.goto 11, 3) := by decide +kernel
theorem dX8_sentBy_31 : decode cX8_sentBy 31 = .ok (.iconst 3, 1) := by decide +kernel
theorem dX8_sentBy_32 : decode cX8_sentBy 32 = .ok (.aload_n 0, 1) := by decide +kernel
theorem dX8_sentBy_33 : decode cX8_sentBy 33 = .ok (.getfield 16, 3) := by decide +kernel
theorem dX8_sentBy_36 : decode cX8_sentBy 36 = .ok (.iload_n 2, 1) := by decide +kernel
theorem dX8_sentBy_37 : decode cX8_sentBy 37 = .ok (.iaload, 1) := by decide +kernel
theorem dX8_sentBy_38 : decode cX8_sentBy 38 = .ok (.iadd, 1) := by decide +kernel
theorem dX8_sentBy_39 : decode cX8_sentBy 39 = .ok (.iastore, 1) := by decide +kernel
theorem dX8_sentBy_40 : decode cX8_sentBy 40 = .ok (.iload 4, 2) := by decide +kernel
theorem dX8_sentBy_42 : decode cX8_sentBy 42 = .ok (.iconst 1, 1) := by decide +kernel
theorem dX8_sentBy_43 : decode cX8_sentBy 43 = .ok (.iadd, 1) := by decide +kernel
theorem dX8_sentBy_44 : decode cX8_sentBy 44 = .ok (.istore 5, 2) := by decide +kernel
theorem dX8_sentBy_46 : decode cX8_sentBy 46 = .ok (.iload 5, 2) := by decide +kernel
theorem dX8_sentBy_48 : decode cX8_sentBy 48 = .ok (.iload_n 2, 1) := by decide +kernel
theorem dX8_sentBy_49 : decode cX8_sentBy 49 = .ok (.if_icmp .gt 77, 3) := by decide +kernel
theorem dX8_sentBy_52 : decode cX8_sentBy 52 = .ok (.iload_n 1, 1) := by decide +kernel
theorem dX8_sentBy_53 : decode cX8_sentBy 53 = .ok (.iload 4, 2) := by decide +kernel
theorem dX8_sentBy_55 : decode cX8_sentBy 55 = .ok (.iload 5, 2) := by decide +kernel
theorem dX8_sentBy_57 : decode cX8_sentBy 57 = .ok (.invokestatic 202, 3) := by decide +kernel
theorem dX8_sentBy_60 : decode cX8_sentBy 60 = .ok (.ishr, 1) := by decide +kernel
theorem dX8_sentBy_61 : decode cX8_sentBy 61 = .ok (.iconst 1, 1) := by decide +kernel
theorem dX8_sentBy_62 : decode cX8_sentBy 62 = .ok (.iand, 1) := by decide +kernel
theorem dX8_sentBy_63 : decode cX8_sentBy 63 = .ok (.iconst 1, 1) := by decide +kernel
theorem dX8_sentBy_64 : decode cX8_sentBy 64 = .ok (.if_icmp .ne 56, 3) := by decide +kernel
theorem dX8_sentBy_67 : decode cX8_sentBy 67 = .ok (.aload_n 0, 1) := by decide +kernel
theorem dX8_sentBy_68 : decode cX8_sentBy 68 = .ok (.getfield 93, 3) := by decide +kernel
theorem dX8_sentBy_71 : decode cX8_sentBy 71 = .ok (.iload 4, 2) := by decide +kernel
theorem dX8_sentBy_73 : decode cX8_sentBy 73 = .ok (.iload 5, 2) := by decide +kernel
theorem dX8_sentBy_75 : decode cX8_sentBy 75 = .ok (.invokestatic 202, 3) := by decide +kernel
theorem dX8_sentBy_78 : decode cX8_sentBy 78 = .ok (.iaload, 1) := by decide +kernel
theorem dX8_sentBy_79 : decode cX8_sentBy 79 = .ok (.iconst (-1), 1) := by decide +kernel
theorem dX8_sentBy_80 : decode cX8_sentBy 80 = .ok (.if_icmp .eq 40, 3) := by decide +kernel
theorem dX8_sentBy_83 : decode cX8_sentBy 83 = .ok (.aload_n 0, 1) := by decide +kernel
theorem dX8_sentBy_84 : decode cX8_sentBy 84 = .ok (.getfield 96, 3) := by decide +kernel
theorem dX8_sentBy_87 : decode cX8_sentBy 87 = .ok (.iload 4, 2) := by decide +kernel
theorem dX8_sentBy_89 : decode cX8_sentBy 89 = .ok (.aload_n 0, 1) := by decide +kernel
theorem dX8_sentBy_90 : decode cX8_sentBy 90 = .ok (.getfield 96, 3) := by decide +kernel
theorem dX8_sentBy_93 : decode cX8_sentBy 93 = .ok (.iload 4, 2) := by decide +kernel
theorem dX8_sentBy_95 : decode cX8_sentBy 95 = .ok (.iaload, 1) := by decide +kernel
theorem dX8_sentBy_96 : decode cX8_sentBy 96 = .ok (.aload_n 0, 1) := by decide +kernel
theorem dX8_sentBy_97 : decode cX8_sentBy 97 = .ok (.getfield 93, 3) := by decide +kernel
theorem dX8_sentBy_100 : decode cX8_sentBy 100 = .ok (.iload 4, 2) := by decide +kernel
theorem dX8_sentBy_102 : decode cX8_sentBy 102 = .ok (.iload 5, 2) := by decide +kernel
theorem dX8_sentBy_104 : decode cX8_sentBy 104 = .ok (.invokestatic 202, 3) := by decide +kernel
theorem dX8_sentBy_107 : decode cX8_sentBy 107 = .ok (.iaload, 1) := by decide +kernel
theorem dX8_sentBy_108 : decode cX8_sentBy 108 = .ok (.aload_n 0, 1) := by decide +kernel
theorem dX8_sentBy_109 : decode cX8_sentBy 109 = .ok (.getfield 96, 3) := by decide +kernel
theorem dX8_sentBy_112 : decode cX8_sentBy 112 = .ok (.iload 5, 2) := by decide +kernel
theorem dX8_sentBy_114 : decode cX8_sentBy 114 = .ok (.iaload, 1) := by decide +kernel
theorem dX8_sentBy_115 : decode cX8_sentBy 115 = .ok (.iadd, 1) := by decide +kernel
theorem dX8_sentBy_116 : decode cX8_sentBy 116 = .ok (.invokestatic 111, 3) := by decide +kernel
theorem dX8_sentBy_119 : decode cX8_sentBy 119 = .ok (.iastore, 1) := by decide +kernel
theorem dX8_sentBy_120 : decode cX8_sentBy 120 = .ok (.iinc 5 1, 3) := by decide +kernel
theorem dX8_sentBy_123 : decode cX8_sentBy 123 = .ok (.goto (-77), 3) := by decide +kernel
theorem dX8_sentBy_126 : decode cX8_sentBy 126 = .ok (.aload_n 0, 1) := by decide +kernel
theorem dX8_sentBy_127 : decode cX8_sentBy 127 = .ok (.getfield 16, 3) := by decide +kernel
theorem dX8_sentBy_130 : decode cX8_sentBy 130 = .ok (.iload 4, 2) := by decide +kernel
theorem dX8_sentBy_132 : decode cX8_sentBy 132 = .ok (.iaload, 1) := by decide +kernel
theorem dX8_sentBy_133 : decode cX8_sentBy 133 = .ok (.ifCond .le 21, 3) := by decide +kernel
theorem dX8_sentBy_136 : decode cX8_sentBy 136 = .ok (.iload_n 3, 1) := by decide +kernel
theorem dX8_sentBy_137 : decode cX8_sentBy 137 = .ok (.aload_n 0, 1) := by decide +kernel
theorem dX8_sentBy_138 : decode cX8_sentBy 138 = .ok (.getfield 87, 3) := by decide +kernel
theorem dX8_sentBy_141 : decode cX8_sentBy 141 = .ok (.iload 4, 2) := by decide +kernel
theorem dX8_sentBy_143 : decode cX8_sentBy 143 = .ok (.iaload, 1) := by decide +kernel
theorem dX8_sentBy_144 : decode cX8_sentBy 144 = .ok (.aload_n 0, 1) := by decide +kernel
theorem dX8_sentBy_145 : decode cX8_sentBy 145 = .ok (.getfield 96, 3) := by decide +kernel
theorem dX8_sentBy_148 : decode cX8_sentBy 148 = .ok (.iload 4, 2) := by decide +kernel
theorem dX8_sentBy_150 : decode cX8_sentBy 150 = .ok (.iaload, 1) := by decide +kernel
theorem dX8_sentBy_151 : decode cX8_sentBy 151 = .ok (.imul, 1) := by decide +kernel
theorem dX8_sentBy_152 : decode cX8_sentBy 152 = .ok (.iadd, 1) := by decide +kernel
theorem dX8_sentBy_153 : decode cX8_sentBy 153 = .ok (.istore_n 3, 1) := by decide +kernel
theorem dX8_sentBy_154 : decode cX8_sentBy 154 = .ok (.iinc 4 (-1), 3) := by decide +kernel
theorem dX8_sentBy_157 : decode cX8_sentBy 157 = .ok (.goto (-147), 3) := by decide +kernel
theorem dX8_sentBy_160 : decode cX8_sentBy 160 = .ok (.iload_n 3, 1) := by decide +kernel
theorem dX8_sentBy_161 : decode cX8_sentBy 161 = .ok (.ireturn, 1) := by decide +kernel
theorem dX8_sent_0 : decode cX8_sent 0 = .ok (.aload_n 0, 1) := by decide +kernel
theorem dX8_sent_1 : decode cX8_sent 1 = .ok (.invokevirtual 208, 3) := by decide +kernel
theorem dX8_sent_4 : decode cX8_sent 4 = .ok (.iconst (-1), 1) := by decide +kernel
theorem dX8_sent_5 : decode cX8_sent 5 = .ok (.if_icmp .ne 5, 3) := by decide +kernel
theorem dX8_sent_8 : decode cX8_sent 8 = .ok (.iconst (-1), 1) := by decide +kernel
theorem dX8_sent_9 : decode cX8_sent 9 = .ok (.ireturn, 1) := by decide +kernel
theorem dX8_sent_10 : decode cX8_sent 10 = .ok (.aload_n 0, 1) := by decide +kernel
theorem dX8_sent_11 : decode cX8_sent 11 = .ok (.invokevirtual 211, 3) := by decide +kernel
theorem dX8_sent_14 : decode cX8_sent 14 = .ok (.iconst 0, 1) := by decide +kernel
theorem dX8_sent_15 : decode cX8_sent 15 = .ok (.istore_n 1, 1) := by decide +kernel
theorem dX8_sent_16 : decode cX8_sent 16 = .ok (.iconst 0, 1) := by decide +kernel
theorem dX8_sent_17 : decode cX8_sent 17 = .ok (.istore_n 2, 1) := by decide +kernel
theorem dX8_sent_18 : decode cX8_sent 18 = .ok (.iload_n 2, 1) := by decide +kernel
theorem dX8_sent_19 : decode cX8_sent 19 = .ok (.bipush 10, 2) := by decide +kernel
theorem dX8_sent_21 : decode cX8_sent 21 = .ok (.if_icmp .ge 28, 3) := by decide +kernel
theorem dX8_sent_24 : decode cX8_sent 24 = .ok (.iload_n 1, 1) := by decide +kernel
theorem dX8_sent_25 : decode cX8_sent 25 = .ok (.aload_n 0, 1) := by decide +kernel
theorem dX8_sent_26 : decode cX8_sent 26 = .ok (.getfield 90, 3) := by decide +kernel
theorem dX8_sent_29 : decode cX8_sent 29 = .ok (.iload_n 2, 1) := by decide +kernel
theorem dX8_sent_30 : decode cX8_sent 30 = .ok (.baload, 1) := by decide +kernel
theorem dX8_sent_31 : decode cX8_sent 31 = .ok (.ifCond .eq 9, 3) := by decide +kernel
theorem dX8_sent_34 : decode cX8_sent 34 = .ok (.iconst 1, 1) := by decide +kernel
theorem dX8_sent_35 : decode cX8_sent 35 = .ok (.iload_n 2, 1) := by decide +kernel
theorem dX8_sent_36 : decode cX8_sent 36 = .ok (.ishl, 1) := by decide +kernel
theorem dX8_sent_37 : decode cX8_sent 37 = .ok (.goto 4, 3) := by decide +kernel
theorem dX8_sent_40 : decode cX8_sent 40 = .ok (.iconst 0, 1) := by decide +kernel
theorem dX8_sent_41 : decode cX8_sent 41 = .ok (.ior, 1) := by decide +kernel
theorem dX8_sent_42 : decode cX8_sent 42 = .ok (.istore_n 1, 1) := by decide +kernel
theorem dX8_sent_43 : decode cX8_sent 43 = .ok (.iinc 2 1, 3) := by decide +kernel
theorem dX8_sent_46 : decode cX8_sent 46 = .ok (.goto (-28), 3) := by decide +kernel
theorem dX8_sent_49 : decode cX8_sent 49 = .ok (.aload_n 0, 1) := by decide +kernel
theorem dX8_sent_50 : decode cX8_sent 50 = .ok (.iload_n 1, 1) := by decide +kernel
theorem dX8_sent_51 : decode cX8_sent 51 = .ok (.invokevirtual 214, 3) := by decide +kernel
theorem dX8_sent_54 : decode cX8_sent 54 = .ok (.ireturn, 1) := by decide +kernel
theorem dX8_pairsIn_0 : decode cX8_pairsIn 0 = .ok (.iconst 0, 1) := by decide +kernel
theorem dX8_pairsIn_1 : decode cX8_pairsIn 1 = .ok (.istore_n 1, 1) := by decide +kernel
theorem dX8_pairsIn_2 : decode cX8_pairsIn 2 = .ok (.iload_n 0, 1) := by decide +kernel
theorem dX8_pairsIn_3 : decode cX8_pairsIn 3 = .ok (.istore_n 2, 1) := by decide +kernel
theorem dX8_pairsIn_4 : decode cX8_pairsIn 4 = .ok (.iload_n 2, 1) := by decide +kernel
theorem dX8_pairsIn_5 : decode cX8_pairsIn 5 = .ok (.ifCond .le 16, 3) := by decide +kernel
theorem dX8_pairsIn_8 : decode cX8_pairsIn 8 = .ok (.iload_n 1, 1) := by decide +kernel
theorem dX8_pairsIn_9 : decode cX8_pairsIn 9 = .ok (.iload_n 2, 1) := by decide +kernel
theorem dX8_pairsIn_10 : decode cX8_pairsIn 10 = .ok (.iconst 1, 1) := by decide +kernel
theorem dX8_pairsIn_11 : decode cX8_pairsIn 11 = .ok (.iand, 1) := by decide +kernel
theorem dX8_pairsIn_12 : decode cX8_pairsIn 12 = .ok (.iadd, 1) := by decide +kernel
theorem dX8_pairsIn_13 : decode cX8_pairsIn 13 = .ok (.istore_n 1, 1) := by decide +kernel
theorem dX8_pairsIn_14 : decode cX8_pairsIn 14 = .ok (.iload_n 2, 1) := by decide +kernel
theorem dX8_pairsIn_15 : decode cX8_pairsIn 15 = .ok (.iconst 1, 1) := by decide +kernel
theorem dX8_pairsIn_16 : decode cX8_pairsIn 16 = .ok (.ishr, 1) := by decide +kernel
theorem dX8_pairsIn_17 : decode cX8_pairsIn 17 = .ok (.istore_n 2, 1) := by decide +kernel
theorem dX8_pairsIn_18 : decode cX8_pairsIn 18 = .ok (.goto (-14), 3) := by decide +kernel
theorem dX8_pairsIn_21 : decode cX8_pairsIn 21 = .ok (.iload_n 1, 1) := by decide +kernel
theorem dX8_pairsIn_22 : decode cX8_pairsIn 22 = .ok (.ireturn, 1) := by decide +kernel
theorem dX8_isLess_0 : decode cX8_isLess 0 = .ok (.iload_n 0, 1) := by decide +kernel
theorem dX8_isLess_1 : decode cX8_isLess 1 = .ok (.iload_n 1, 1) := by decide +kernel
theorem dX8_isLess_2 : decode cX8_isLess 2 = .ok (.ixor, 1) := by decide +kernel
theorem dX8_isLess_3 : decode cX8_isLess 3 = .ok (.istore_n 2, 1) := by decide +kernel
theorem dX8_isLess_4 : decode cX8_isLess 4 = .ok (.iload_n 2, 1) := by decide +kernel
theorem dX8_isLess_5 : decode cX8_isLess 5 = .ok (.iload_n 2, 1) := by decide +kernel
theorem dX8_isLess_6 : decode cX8_isLess 6 = .ok (.ineg, 1) := by decide +kernel
theorem dX8_isLess_7 : decode cX8_isLess 7 = .ok (.iand, 1) := by decide +kernel
theorem dX8_isLess_8 : decode cX8_isLess 8 = .ok (.istore_n 3, 1) := by decide +kernel
theorem dX8_isLess_9 : decode cX8_isLess 9 = .ok (.iload_n 0, 1) := by decide +kernel
theorem dX8_isLess_10 : decode cX8_isLess 10 = .ok (.iload_n 3, 1) := by decide +kernel
theorem dX8_isLess_11 : decode cX8_isLess 11 = .ok (.iand, 1) := by decide +kernel
theorem dX8_isLess_12 : decode cX8_isLess 12 = .ok (.ifCond .eq 7, 3) := by decide +kernel
theorem dX8_isLess_15 : decode cX8_isLess 15 = .ok (.iconst 1, 1) := by decide +kernel
theorem dX8_isLess_16 : decode cX8_isLess 16 = .ok (.goto 4, 3) := by decide +kernel
theorem dX8_isLess_19 : decode cX8_isLess 19 = .ok (.iconst 0, 1) := by decide +kernel
theorem dX8_isLess_20 : decode cX8_isLess 20 = .ok (.ireturn, 1) := by decide +kernel
theorem dX8_best_0 : decode cX8_best 0 = .ok (.iload_n 1, 1) := by decide +kernel
theorem dX8_best_1 : decode cX8_best 1 = .ok (.iconst 0, 1) := by decide +kernel
theorem dX8_best_2 : decode cX8_best 2 = .ok (.iconst 3, 1) := by decide +kernel
theorem dX8_best_3 : decode cX8_best 3 = .ok (.invokestatic 99, 3) := by decide +kernel
theorem dX8_best_6 : decode cX8_best 6 = .ok (.ifCond .eq 20, 3) := by decide +kernel
theorem dX8_best_9 : decode cX8_best 9 = .ok (.iload_n 2, 1) := by decide +kernel
theorem dX8_best_10 : decode cX8_best 10 = .ok (.iconst 0, 1) := by decide +kernel
theorem dX8_best_11 : decode cX8_best 11 = .ok (.iconst 2, 1) := by decide +kernel
theorem dX8_best_12 : decode cX8_best 12 = .ok (.invokestatic 99, 3) := by decide +kernel
theorem dX8_best_15 : decode cX8_best 15 = .ok (.ifCond .eq 11, 3) := by decide +kernel
theorem dX8_best_18 : decode cX8_best 18 = .ok (.aload_n 0, 1) := by decide +kernel
theorem dX8_best_19 : decode cX8_best 19 = .ok (.invokevirtual 208, 3) := by decide +kernel
theorem dX8_best_22 : decode cX8_best 22 = .ok (.iconst (-1), 1) := by decide +kernel
theorem dX8_best_23 : decode cX8_best 23 = .ok (.if_icmp .ne 5, 3) := by decide +kernel
theorem dX8_best_26 : decode cX8_best 26 = .ok (.iconst (-1), 1) := by decide +kernel
theorem dX8_best_27 : decode cX8_best 27 = .ok (.ireturn, 1) := by decide +kernel
theorem dX8_best_28 : decode cX8_best 28 = .ok (.aload_n 0, 1) := by decide +kernel
theorem dX8_best_29 : decode cX8_best 29 = .ok (.invokevirtual 211, 3) := by decide +kernel
theorem dX8_best_32 : decode cX8_best 32 = .ok (.iconst 0, 1) := by decide +kernel
theorem dX8_best_33 : decode cX8_best 33 = .ok (.istore_n 3, 1) := by decide +kernel
theorem dX8_best_34 : decode cX8_best 34 = .ok (.aload_n 0, 1) := by decide +kernel
theorem dX8_best_35 : decode cX8_best 35 = .ok (.iconst 0, 1) := by decide +kernel
theorem dX8_best_36 : decode cX8_best 36 = .ok (.invokevirtual 214, 3) := by decide +kernel
theorem dX8_best_39 : decode cX8_best 39 = .ok (.istore 4, 2) := by decide +kernel
theorem dX8_best_41 : decode cX8_best 41 = .ok (.iconst 1, 1) := by decide +kernel
theorem dX8_best_42 : decode cX8_best 42 = .ok (.istore 5, 2) := by decide +kernel
theorem dX8_best_44 : decode cX8_best 44 = .ok (.iload 5, 2) := by decide +kernel
theorem dX8_best_46 : decode cX8_best 46 = .ok (.sipush 1024, 3) := by decide +kernel
theorem dX8_best_49 : decode cX8_best 49 = .ok (.if_icmp .ge 157, 3) := by decide +kernel
theorem dX8_best_52 : decode cX8_best 52 = .ok (.iload 5, 2) := by decide +kernel
theorem dX8_best_54 : decode cX8_best 54 = .ok (.invokestatic 217, 3) := by decide +kernel
theorem dX8_best_57 : decode cX8_best 57 = .ok (.istore 6, 2) := by decide +kernel
theorem dX8_best_59 : decode cX8_best 59 = .ok (.iload 6, 2) := by decide +kernel
theorem dX8_best_61 : decode cX8_best 61 = .ok (.iload_n 1, 1) := by decide +kernel
theorem dX8_best_62 : decode cX8_best 62 = .ok (.if_icmp .gt 7, 3) := by decide +kernel
theorem dX8_best_65 : decode cX8_best 65 = .ok (.iconst 1, 1) := by decide +kernel
theorem dX8_best_66 : decode cX8_best 66 = .ok (.goto 4, 3) := by decide +kernel
theorem dX8_best_69 : decode cX8_best 69 = .ok (.iconst 0, 1) := by decide +kernel
theorem dX8_best_70 : decode cX8_best 70 = .ok (.istore 7, 2) := by decide +kernel
theorem dX8_best_72 : decode cX8_best 72 = .ok (.iconst 0, 1) := by decide +kernel
theorem dX8_best_73 : decode cX8_best 73 = .ok (.istore 8, 2) := by decide +kernel
theorem dX8_best_75 : decode cX8_best 75 = .ok (.iload 8, 2) := by decide +kernel
theorem dX8_best_77 : decode cX8_best 77 = .ok (.bipush 10, 2) := by decide +kernel
theorem dX8_best_79 : decode cX8_best 79 = .ok (.if_icmp .ge 42, 3) := by decide +kernel
theorem dX8_best_82 : decode cX8_best 82 = .ok (.iload 7, 2) := by decide +kernel
theorem dX8_best_84 : decode cX8_best 84 = .ok (.ifCond .eq 28, 3) := by decide +kernel
theorem dX8_best_87 : decode cX8_best 87 = .ok (.iload 5, 2) := by decide +kernel
theorem dX8_best_89 : decode cX8_best 89 = .ok (.iload 8, 2) := by decide +kernel
theorem dX8_best_91 : decode cX8_best 91 = .ok (.ishr, 1) := by decide +kernel
theorem dX8_best_92 : decode cX8_best 92 = .ok (.iconst 1, 1) := by decide +kernel
theorem dX8_best_93 : decode cX8_best 93 = .ok (.iand, 1) := by decide +kernel
theorem dX8_best_94 : decode cX8_best 94 = .ok (.ifCond .eq 14, 3) := by decide +kernel
theorem dX8_best_97 : decode cX8_best 97 = .ok (.aload_n 0, 1) := by decide +kernel
theorem dX8_best_98 : decode cX8_best 98 = .ok (.getfield 93, 3) := by decide +kernel
theorem dX8_best_101 : decode cX8_best 101 = .ok (.iload 8, 2) := by decide +kernel
theorem dX8_best_103 : decode cX8_best 103 = .ok (.iaload, 1) := by decide +kernel
theorem dX8_best_104 : decode cX8_best 104 = .ok (.iconst (-1), 1) := by decide +kernel
theorem dX8_best_105 : decode cX8_best 105 = .ok (.if_icmp .eq 7, 3) := by decide +kernel
theorem dX8_best_108 : decode cX8_best 108 = .ok (.iconst 1, 1) := by decide +kernel
theorem dX8_best_109 : decode cX8_best 109 = .ok (.goto 4, 3) := by decide +kernel
theorem dX8_best_112 : decode cX8_best 112 = .ok (.iconst 0, 1) := by decide +kernel
theorem dX8_best_113 : decode cX8_best 113 = .ok (.istore 7, 2) := by decide +kernel
theorem dX8_best_115 : decode cX8_best 115 = .ok (.iinc 8 1, 3) := by decide +kernel
theorem dX8_best_118 : decode cX8_best 118 = .ok (.goto (-43), 3) := by decide +kernel
theorem dX8_best_121 : decode cX8_best 121 = .ok (.iload 7, 2) := by decide +kernel
theorem dX8_best_123 : decode cX8_best 123 = .ok (.ifCond .ne 6, 3) := by decide +kernel
theorem dX8_best_126 : decode cX8_best 126 = .ok (.goto 74, 3) := by decide +kernel
theorem dX8_best_129 : decode cX8_best 129 = .ok (.aload_n 0, 1) := by decide +kernel
theorem dX8_best_130 : decode cX8_best 130 = .ok (.iload 5, 2) := by decide +kernel
theorem dX8_best_132 : decode cX8_best 132 = .ok (.invokevirtual 214, 3) := by decide +kernel
theorem dX8_best_135 : decode cX8_best 135 = .ok (.istore 8, 2) := by decide +kernel
theorem dX8_best_137 : decode cX8_best 137 = .ok (.iload 8, 2) := by decide +kernel
theorem dX8_best_139 : decode cX8_best 139 = .ok (.iload 4, 2) := by decide +kernel
theorem dX8_best_141 : decode cX8_best 141 = .ok (.if_icmp .lt 37, 3) := by decide +kernel
theorem dX8_best_144 : decode cX8_best 144 = .ok (.iload 8, 2) := by decide +kernel
theorem dX8_best_146 : decode cX8_best 146 = .ok (.iload 4, 2) := by decide +kernel
theorem dX8_best_148 : decode cX8_best 148 = .ok (.if_icmp .ne 34, 3) := by decide +kernel
theorem dX8_best_151 : decode cX8_best 151 = .ok (.iload 6, 2) := by decide +kernel
theorem dX8_best_153 : decode cX8_best 153 = .ok (.iload_n 3, 1) := by decide +kernel
theorem dX8_best_154 : decode cX8_best 154 = .ok (.invokestatic 217, 3) := by decide +kernel
theorem dX8_best_157 : decode cX8_best 157 = .ok (.if_icmp .lt 21, 3) := by decide +kernel
theorem dX8_best_160 : decode cX8_best 160 = .ok (.iload 6, 2) := by decide +kernel
theorem dX8_best_162 : decode cX8_best 162 = .ok (.iload_n 3, 1) := by decide +kernel
theorem dX8_best_163 : decode cX8_best 163 = .ok (.invokestatic 217, 3) := by decide +kernel
theorem dX8_best_166 : decode cX8_best 166 = .ok (.if_icmp .ne 16, 3) := by decide +kernel
theorem dX8_best_169 : decode cX8_best 169 = .ok (.iload 5, 2) := by decide +kernel
theorem dX8_best_171 : decode cX8_best 171 = .ok (.iload_n 3, 1) := by decide +kernel
theorem dX8_best_172 : decode cX8_best 172 = .ok (.invokestatic 220, 3) := by decide +kernel
theorem dX8_best_175 : decode cX8_best 175 = .ok (.ifCond .eq 7, 3) := by decide +kernel
theorem dX8_best_178 : decode cX8_best 178 = .ok (.iconst 1, 1) := by decide +kernel
theorem dX8_best_179 : decode cX8_best 179 = .ok (.goto 4, 3) := by decide +kernel
theorem dX8_best_182 : decode cX8_best 182 = .ok (.iconst 0, 1) := by decide +kernel
theorem dX8_best_183 : decode cX8_best 183 = .ok (.istore 9, 2) := by decide +kernel
theorem dX8_best_185 : decode cX8_best 185 = .ok (.iload 9, 2) := by decide +kernel
theorem dX8_best_187 : decode cX8_best 187 = .ok (.ifCond .ne 6, 3) := by decide +kernel
theorem dX8_best_190 : decode cX8_best 190 = .ok (.goto 10, 3) := by decide +kernel
theorem dX8_best_193 : decode cX8_best 193 = .ok (.iload 5, 2) := by decide +kernel
theorem dX8_best_195 : decode cX8_best 195 = .ok (.istore_n 3, 1) := by decide +kernel
theorem dX8_best_196 : decode cX8_best 196 = .ok (.iload 8, 2) := by decide +kernel
theorem dX8_best_198 : decode cX8_best 198 = .ok (.istore 4, 2) := by decide +kernel
theorem dX8_best_200 : decode cX8_best 200 = .ok (.iinc 5 1, 3) := by decide +kernel
theorem dX8_best_203 : decode cX8_best 203 = .ok (.goto (-159), 3) := by decide +kernel
theorem dX8_best_206 : decode cX8_best 206 = .ok (.iload_n 2, 1) := by decide +kernel
theorem dX8_best_207 : decode cX8_best 207 = .ok (.ifCond .ne 8, 3) := by decide +kernel
theorem dX8_best_210 : decode cX8_best 210 = .ok (.iload 4, 2) := by decide +kernel
theorem dX8_best_212 : decode cX8_best 212 = .ok (.goto 16, 3) := by decide +kernel
theorem dX8_best_215 : decode cX8_best 215 = .ok (.iload_n 2, 1) := by decide +kernel
theorem dX8_best_216 : decode cX8_best 216 = .ok (.iconst 1, 1) := by decide +kernel
theorem dX8_best_217 : decode cX8_best 217 = .ok (.if_icmp .ne 10, 3) := by decide +kernel
theorem dX8_best_220 : decode cX8_best 220 = .ok (.iload_n 3, 1) := by decide +kernel
theorem dX8_best_221 : decode cX8_best 221 = .ok (.invokestatic 217, 3) := by decide +kernel
theorem dX8_best_224 : decode cX8_best 224 = .ok (.goto 4, 3) := by decide +kernel
theorem dX8_best_227 : decode cX8_best 227 = .ok (.iload_n 3, 1) := by decide +kernel
theorem dX8_best_228 : decode cX8_best 228 = .ok (.ireturn, 1) := by decide +kernel
theorem dJ6_bitCount_0f7a4_0 : decode cJ6_bitCount_0f7a4 0 = .ok (.iload_n 0, 1) := by decide +kernel
theorem dJ6_bitCount_0f7a4_1 : decode cJ6_bitCount_0f7a4 1 = .ok (.iload_n 0, 1) := by decide +kernel
theorem dJ6_bitCount_0f7a4_2 : decode cJ6_bitCount_0f7a4 2 = .ok (.iconst 1, 1) := by decide +kernel
theorem dJ6_bitCount_0f7a4_3 : decode cJ6_bitCount_0f7a4 3 = .ok (.iushr, 1) := by decide +kernel
theorem dJ6_bitCount_0f7a4_4 : decode cJ6_bitCount_0f7a4 4 = .ok (.ldc_w 265, 3) := by decide +kernel
theorem dJ6_bitCount_0f7a4_7 : decode cJ6_bitCount_0f7a4 7 = .ok (.iand, 1) := by decide +kernel
theorem dJ6_bitCount_0f7a4_8 : decode cJ6_bitCount_0f7a4 8 = .ok (.isub, 1) := by decide +kernel
theorem dJ6_bitCount_0f7a4_9 : decode cJ6_bitCount_0f7a4 9 = .ok (.istore_n 0, 1) := by decide +kernel
theorem dJ6_bitCount_0f7a4_10 : decode cJ6_bitCount_0f7a4 10 = .ok (.iload_n 0, 1) := by decide +kernel
theorem dJ6_bitCount_0f7a4_11 : decode cJ6_bitCount_0f7a4 11 = .ok (.ldc_w 266, 3) := by decide +kernel
theorem dJ6_bitCount_0f7a4_14 : decode cJ6_bitCount_0f7a4 14 = .ok (.iand, 1) := by decide +kernel
theorem dJ6_bitCount_0f7a4_15 : decode cJ6_bitCount_0f7a4 15 = .ok (.iload_n 0, 1) := by decide +kernel
theorem dJ6_bitCount_0f7a4_16 : decode cJ6_bitCount_0f7a4 16 = .ok (.iconst 2, 1) := by decide +kernel
theorem dJ6_bitCount_0f7a4_17 : decode cJ6_bitCount_0f7a4 17 = .ok (.iushr, 1) := by decide +kernel
theorem dJ6_bitCount_0f7a4_18 : decode cJ6_bitCount_0f7a4 18 = .ok (.ldc_w 266, 3) := by decide +kernel
theorem dJ6_bitCount_0f7a4_21 : decode cJ6_bitCount_0f7a4 21 = .ok (.iand, 1) := by decide +kernel
theorem dJ6_bitCount_0f7a4_22 : decode cJ6_bitCount_0f7a4 22 = .ok (.iadd, 1) := by decide +kernel
theorem dJ6_bitCount_0f7a4_23 : decode cJ6_bitCount_0f7a4 23 = .ok (.istore_n 0, 1) := by decide +kernel
theorem dJ6_bitCount_0f7a4_24 : decode cJ6_bitCount_0f7a4 24 = .ok (.iload_n 0, 1) := by decide +kernel
theorem dJ6_bitCount_0f7a4_25 : decode cJ6_bitCount_0f7a4 25 = .ok (.iload_n 0, 1) := by decide +kernel
theorem dJ6_bitCount_0f7a4_26 : decode cJ6_bitCount_0f7a4 26 = .ok (.iconst 4, 1) := by decide +kernel
theorem dJ6_bitCount_0f7a4_27 : decode cJ6_bitCount_0f7a4 27 = .ok (.iushr, 1) := by decide +kernel
theorem dJ6_bitCount_0f7a4_28 : decode cJ6_bitCount_0f7a4 28 = .ok (.iadd, 1) := by decide +kernel
theorem dJ6_bitCount_0f7a4_29 : decode cJ6_bitCount_0f7a4 29 = .ok (.ldc_w 267, 3) := by decide +kernel
theorem dJ6_bitCount_0f7a4_32 : decode cJ6_bitCount_0f7a4 32 = .ok (.iand, 1) := by decide +kernel
theorem dJ6_bitCount_0f7a4_33 : decode cJ6_bitCount_0f7a4 33 = .ok (.istore_n 0, 1) := by decide +kernel
theorem dJ6_bitCount_0f7a4_34 : decode cJ6_bitCount_0f7a4 34 = .ok (.iload_n 0, 1) := by decide +kernel
theorem dJ6_bitCount_0f7a4_35 : decode cJ6_bitCount_0f7a4 35 = .ok (.iload_n 0, 1) := by decide +kernel
theorem dJ6_bitCount_0f7a4_36 : decode cJ6_bitCount_0f7a4 36 = .ok (.bipush 8, 2) := by decide +kernel
theorem dJ6_bitCount_0f7a4_38 : decode cJ6_bitCount_0f7a4 38 = .ok (.iushr, 1) := by decide +kernel
theorem dJ6_bitCount_0f7a4_39 : decode cJ6_bitCount_0f7a4 39 = .ok (.iadd, 1) := by decide +kernel
theorem dJ6_bitCount_0f7a4_40 : decode cJ6_bitCount_0f7a4 40 = .ok (.istore_n 0, 1) := by decide +kernel
theorem dJ6_bitCount_0f7a4_41 : decode cJ6_bitCount_0f7a4 41 = .ok (.iload_n 0, 1) := by decide +kernel
theorem dJ6_bitCount_0f7a4_42 : decode cJ6_bitCount_0f7a4 42 = .ok (.iload_n 0, 1) := by decide +kernel
theorem dJ6_bitCount_0f7a4_43 : decode cJ6_bitCount_0f7a4 43 = .ok (.bipush 16, 2) := by decide +kernel
theorem dJ6_bitCount_0f7a4_45 : decode cJ6_bitCount_0f7a4 45 = .ok (.iushr, 1) := by decide +kernel
theorem dJ6_bitCount_0f7a4_46 : decode cJ6_bitCount_0f7a4 46 = .ok (.iadd, 1) := by decide +kernel
theorem dJ6_bitCount_0f7a4_47 : decode cJ6_bitCount_0f7a4 47 = .ok (.istore_n 0, 1) := by decide +kernel
theorem dJ6_bitCount_0f7a4_48 : decode cJ6_bitCount_0f7a4 48 = .ok (.iload_n 0, 1) := by decide +kernel
theorem dJ6_bitCount_0f7a4_49 : decode cJ6_bitCount_0f7a4 49 = .ok (.bipush 63, 2) := by decide +kernel
theorem dJ6_bitCount_0f7a4_51 : decode cJ6_bitCount_0f7a4 51 = .ok (.iand, 1) := by decide +kernel
theorem dJ6_bitCount_0f7a4_52 : decode cJ6_bitCount_0f7a4 52 = .ok (.ireturn, 1) := by decide +kernel
theorem dJ9_max_7cf53_0 : decode cJ9_max_7cf53 0 = .ok (.iload_n 0, 1) := by decide +kernel
theorem dJ9_max_7cf53_1 : decode cJ9_max_7cf53 1 = .ok (.iload_n 1, 1) := by decide +kernel
theorem dJ9_max_7cf53_2 : decode cJ9_max_7cf53 2 = .ok (.if_icmp .lt 7, 3) := by decide +kernel
theorem dJ9_max_7cf53_5 : decode cJ9_max_7cf53 5 = .ok (.iload_n 0, 1) := by decide +kernel
theorem dJ9_max_7cf53_6 : decode cJ9_max_7cf53 6 = .ok (.goto 4, 3) := by decide +kernel
theorem dJ9_max_7cf53_9 : decode cJ9_max_7cf53 9 = .ok (.iload_n 1, 1) := by decide +kernel
theorem dJ9_max_7cf53_10 : decode cJ9_max_7cf53 10 = .ok (.ireturn, 1) := by decide +kernel
theorem dJ9_min_7cf53_0 : decode cJ9_min_7cf53 0 = .ok (.iload_n 0, 1) := by decide +kernel
theorem dJ9_min_7cf53_1 : decode cJ9_min_7cf53 1 = .ok (.iload_n 1, 1) := by decide +kernel
theorem dJ9_min_7cf53_2 : decode cJ9_min_7cf53 2 = .ok (.if_icmp .gt 7, 3) := by decide +kernel
theorem dJ9_min_7cf53_5 : decode cJ9_min_7cf53 5 = .ok (.iload_n 0, 1) := by decide +kernel
theorem dJ9_min_7cf53_6 : decode cJ9_min_7cf53 6 = .ok (.goto 4, 3) := by decide +kernel
theorem dJ9_min_7cf53_9 : decode cJ9_min_7cf53 9 = .ok (.iload_n 1, 1) := by decide +kernel
theorem dJ9_min_7cf53_10 : decode cJ9_min_7cf53 10 = .ok (.ireturn, 1) := by decide +kernel
theorem dL_law_0 : decode cL_law 0 = .ok (.new 7, 3) := by decide +kernel
theorem dL_law_3 : decode cL_law 3 = .ok (.dup, 1) := by decide +kernel
theorem dL_law_4 : decode cL_law 4 = .ok (.invokespecial 9, 3) := by decide +kernel
theorem dL_law_7 : decode cL_law 7 = .ok (.astore_n 1, 1) := by decide +kernel
theorem dL_law_8 : decode cL_law 8 = .ok (.new 10, 3) := by decide +kernel
theorem dL_law_11 : decode cL_law 11 = .ok (.dup, 1) := by decide +kernel
theorem dL_law_12 : decode cL_law 12 = .ok (.invokespecial 12, 3) := by decide +kernel
theorem dL_law_15 : decode cL_law 15 = .ok (.astore_n 2, 1) := by decide +kernel
theorem dL_law_16 : decode cL_law 16 = .ok (.iconst 0, 1) := by decide +kernel
theorem dL_law_17 : decode cL_law 17 = .ok (.istore_n 3, 1) := by decide +kernel
theorem dL_law_18 : decode cL_law 18 = .ok (.iload_n 3, 1) := by decide +kernel
theorem dL_law_19 : decode cL_law 19 = .ok (.aload_n 0, 1) := by decide +kernel
theorem dL_law_20 : decode cL_law 20 = .ok (.arraylength, 1) := by decide +kernel
theorem dL_law_21 : decode cL_law 21 = .ok (.bipush 6, 2) := by decide +kernel
theorem dL_law_23 : decode cL_law 23 = .ok (.isub, 1) := by decide +kernel
theorem dL_law_24 : decode cL_law 24 = .ok (.if_icmp .gt 729, 3) := by decide +kernel
theorem dL_law_27 : decode cL_law 27 = .ok (.aload_n 0, 1) := by decide +kernel
theorem dL_law_28 : decode cL_law 28 = .ok (.iload_n 3, 1) := by decide +kernel
theorem dL_law_29 : decode cL_law 29 = .ok (.iaload, 1) := by decide +kernel
theorem dL_law_30 : decode cL_law 30 = .ok (.bipush 31, 2) := by decide +kernel
theorem dL_law_32 : decode cL_law 32 = .ok (.iand, 1) := by decide +kernel
theorem dL_law_33 : decode cL_law 33 = .ok (.tableswitch 714 0 18 #[91, 154, 187, 220, 243, 276, 329, 372, 405, 448, 471, 504, 527, 540, 553, 576, 609, 668, 681], 91) := by decide +kernel
theorem dL_law_124 : decode cL_law 124 = .ok (.aload_n 1, 1) := by decide +kernel
theorem dL_law_125 : decode cL_law 125 = .ok (.aload_n 0, 1) := by decide +kernel
theorem dL_law_126 : decode cL_law 126 = .ok (.iload_n 3, 1) := by decide +kernel
theorem dL_law_127 : decode cL_law 127 = .ok (.iconst 1, 1) := by decide +kernel
theorem dL_law_128 : decode cL_law 128 = .ok (.iadd, 1) := by decide +kernel
theorem dL_law_129 : decode cL_law 129 = .ok (.iaload, 1) := by decide +kernel
theorem dL_law_130 : decode cL_law 130 = .ok (.aload_n 0, 1) := by decide +kernel
theorem dL_law_131 : decode cL_law 131 = .ok (.iload_n 3, 1) := by decide +kernel
theorem dL_law_132 : decode cL_law 132 = .ok (.iconst 2, 1) := by decide +kernel
theorem dL_law_133 : decode cL_law 133 = .ok (.iadd, 1) := by decide +kernel
theorem dL_law_134 : decode cL_law 134 = .ok (.iaload, 1) := by decide +kernel
theorem dL_law_135 : decode cL_law 135 = .ok (.aload_n 0, 1) := by decide +kernel
theorem dL_law_136 : decode cL_law 136 = .ok (.iload_n 3, 1) := by decide +kernel
theorem dL_law_137 : decode cL_law 137 = .ok (.iconst 3, 1) := by decide +kernel
theorem dL_law_138 : decode cL_law 138 = .ok (.iadd, 1) := by decide +kernel
theorem dL_law_139 : decode cL_law 139 = .ok (.iaload, 1) := by decide +kernel
theorem dL_law_140 : decode cL_law 140 = .ok (.aload_n 0, 1) := by decide +kernel
theorem dL_law_141 : decode cL_law 141 = .ok (.iload_n 3, 1) := by decide +kernel
theorem dL_law_142 : decode cL_law 142 = .ok (.iconst 4, 1) := by decide +kernel
theorem dL_law_143 : decode cL_law 143 = .ok (.iadd, 1) := by decide +kernel
theorem dL_law_144 : decode cL_law 144 = .ok (.iaload, 1) := by decide +kernel
theorem dL_law_145 : decode cL_law 145 = .ok (.aload_n 0, 1) := by decide +kernel
theorem dL_law_146 : decode cL_law 146 = .ok (.iload_n 3, 1) := by decide +kernel
theorem dL_law_147 : decode cL_law 147 = .ok (.iconst 5, 1) := by decide +kernel
theorem dL_law_148 : decode cL_law 148 = .ok (.iadd, 1) := by decide +kernel
theorem dL_law_149 : decode cL_law 149 = .ok (.iaload, 1) := by decide +kernel
theorem dL_law_150 : decode cL_law 150 = .ok (.invokevirtual 13, 3) := by decide +kernel
theorem dL_law_153 : decode cL_law 153 = .ok (.aload_n 2, 1) := by decide +kernel
theorem dL_law_154 : decode cL_law 154 = .ok (.aload_n 0, 1) := by decide +kernel
theorem dL_law_155 : decode cL_law 155 = .ok (.iload_n 3, 1) := by decide +kernel
theorem dL_law_156 : decode cL_law 156 = .ok (.iconst 1, 1) := by decide +kernel
theorem dL_law_157 : decode cL_law 157 = .ok (.iadd, 1) := by decide +kernel
theorem dL_law_158 : decode cL_law 158 = .ok (.iaload, 1) := by decide +kernel
theorem dL_law_159 : decode cL_law 159 = .ok (.aload_n 0, 1) := by decide +kernel
theorem dL_law_160 : decode cL_law 160 = .ok (.iload_n 3, 1) := by decide +kernel
theorem dL_law_161 : decode cL_law 161 = .ok (.iconst 2, 1) := by decide +kernel
theorem dL_law_162 : decode cL_law 162 = .ok (.iadd, 1) := by decide +kernel
theorem dL_law_163 : decode cL_law 163 = .ok (.iaload, 1) := by decide +kernel
theorem dL_law_164 : decode cL_law 164 = .ok (.aload_n 0, 1) := by decide +kernel
theorem dL_law_165 : decode cL_law 165 = .ok (.iload_n 3, 1) := by decide +kernel
theorem dL_law_166 : decode cL_law 166 = .ok (.iconst 3, 1) := by decide +kernel
theorem dL_law_167 : decode cL_law 167 = .ok (.iadd, 1) := by decide +kernel
theorem dL_law_168 : decode cL_law 168 = .ok (.iaload, 1) := by decide +kernel
theorem dL_law_169 : decode cL_law 169 = .ok (.aload_n 0, 1) := by decide +kernel
theorem dL_law_170 : decode cL_law 170 = .ok (.iload_n 3, 1) := by decide +kernel
theorem dL_law_171 : decode cL_law 171 = .ok (.iconst 4, 1) := by decide +kernel
theorem dL_law_172 : decode cL_law 172 = .ok (.iadd, 1) := by decide +kernel
theorem dL_law_173 : decode cL_law 173 = .ok (.iaload, 1) := by decide +kernel
theorem dL_law_174 : decode cL_law 174 = .ok (.aload_n 0, 1) := by decide +kernel
theorem dL_law_175 : decode cL_law 175 = .ok (.iload_n 3, 1) := by decide +kernel
theorem dL_law_176 : decode cL_law 176 = .ok (.iconst 5, 1) := by decide +kernel
theorem dL_law_177 : decode cL_law 177 = .ok (.iadd, 1) := by decide +kernel
theorem dL_law_178 : decode cL_law 178 = .ok (.iaload, 1) := by decide +kernel
theorem dL_law_179 : decode cL_law 179 = .ok (.invokevirtual 17, 3) := by decide +kernel
theorem dL_law_182 : decode cL_law 182 = .ok (.if_icmp .eq 565, 3) := by decide +kernel
theorem dL_law_185 : decode cL_law 185 = .ok (.iconst 0, 1) := by decide +kernel
theorem dL_law_186 : decode cL_law 186 = .ok (.ireturn, 1) := by decide +kernel
theorem dL_law_187 : decode cL_law 187 = .ok (.aload_n 1, 1) := by decide +kernel
theorem dL_law_188 : decode cL_law 188 = .ok (.aload_n 0, 1) := by decide +kernel
theorem dL_law_189 : decode cL_law 189 = .ok (.iload_n 3, 1) := by decide +kernel
theorem dL_law_190 : decode cL_law 190 = .ok (.iconst 1, 1) := by decide +kernel
theorem dL_law_191 : decode cL_law 191 = .ok (.iadd, 1) := by decide +kernel
theorem dL_law_192 : decode cL_law 192 = .ok (.iaload, 1) := by decide +kernel
theorem dL_law_193 : decode cL_law 193 = .ok (.aload_n 0, 1) := by decide +kernel
theorem dL_law_194 : decode cL_law 194 = .ok (.iload_n 3, 1) := by decide +kernel
theorem dL_law_195 : decode cL_law 195 = .ok (.iconst 2, 1) := by decide +kernel
theorem dL_law_196 : decode cL_law 196 = .ok (.iadd, 1) := by decide +kernel
theorem dL_law_197 : decode cL_law 197 = .ok (.iaload, 1) := by decide +kernel
theorem dL_law_198 : decode cL_law 198 = .ok (.invokevirtual 18, 3) := by decide +kernel
theorem dL_law_201 : decode cL_law 201 = .ok (.aload_n 2, 1) := by decide +kernel
theorem dL_law_202 : decode cL_law 202 = .ok (.aload_n 0, 1) := by decide +kernel
theorem dL_law_203 : decode cL_law 203 = .ok (.iload_n 3, 1) := by decide +kernel
theorem dL_law_204 : decode cL_law 204 = .ok (.iconst 1, 1) := by decide +kernel
theorem dL_law_205 : decode cL_law 205 = .ok (.iadd, 1) := by decide +kernel
theorem dL_law_206 : decode cL_law 206 = .ok (.iaload, 1) := by decide +kernel
theorem dL_law_207 : decode cL_law 207 = .ok (.aload_n 0, 1) := by decide +kernel
theorem dL_law_208 : decode cL_law 208 = .ok (.iload_n 3, 1) := by decide +kernel
theorem dL_law_209 : decode cL_law 209 = .ok (.iconst 2, 1) := by decide +kernel
theorem dL_law_210 : decode cL_law 210 = .ok (.iadd, 1) := by decide +kernel
theorem dL_law_211 : decode cL_law 211 = .ok (.iaload, 1) := by decide +kernel
theorem dL_law_212 : decode cL_law 212 = .ok (.invokevirtual 22, 3) := by decide +kernel
theorem dL_law_215 : decode cL_law 215 = .ok (.if_icmp .eq 532, 3) := by decide +kernel
theorem dL_law_218 : decode cL_law 218 = .ok (.iconst 0, 1) := by decide +kernel
theorem dL_law_219 : decode cL_law 219 = .ok (.ireturn, 1) := by decide +kernel
theorem dL_law_220 : decode cL_law 220 = .ok (.aload_n 1, 1) := by decide +kernel
theorem dL_law_221 : decode cL_law 221 = .ok (.aload_n 0, 1) := by decide +kernel
theorem dL_law_222 : decode cL_law 222 = .ok (.iload_n 3, 1) := by decide +kernel
theorem dL_law_223 : decode cL_law 223 = .ok (.iconst 1, 1) := by decide +kernel
theorem dL_law_224 : decode cL_law 224 = .ok (.iadd, 1) := by decide +kernel
theorem dL_law_225 : decode cL_law 225 = .ok (.iaload, 1) := by decide +kernel
theorem dL_law_226 : decode cL_law 226 = .ok (.aload_n 0, 1) := by decide +kernel
theorem dL_law_227 : decode cL_law 227 = .ok (.iload_n 3, 1) := by decide +kernel
theorem dL_law_228 : decode cL_law 228 = .ok (.iconst 2, 1) := by decide +kernel
theorem dL_law_229 : decode cL_law 229 = .ok (.iadd, 1) := by decide +kernel
theorem dL_law_230 : decode cL_law 230 = .ok (.iaload, 1) := by decide +kernel
theorem dL_law_231 : decode cL_law 231 = .ok (.invokevirtual 23, 3) := by decide +kernel
theorem dL_law_234 : decode cL_law 234 = .ok (.aload_n 2, 1) := by decide +kernel
theorem dL_law_235 : decode cL_law 235 = .ok (.aload_n 0, 1) := by decide +kernel
theorem dL_law_236 : decode cL_law 236 = .ok (.iload_n 3, 1) := by decide +kernel
theorem dL_law_237 : decode cL_law 237 = .ok (.iconst 1, 1) := by decide +kernel
theorem dL_law_238 : decode cL_law 238 = .ok (.iadd, 1) := by decide +kernel
theorem dL_law_239 : decode cL_law 239 = .ok (.iaload, 1) := by decide +kernel
theorem dL_law_240 : decode cL_law 240 = .ok (.aload_n 0, 1) := by decide +kernel
theorem dL_law_241 : decode cL_law 241 = .ok (.iload_n 3, 1) := by decide +kernel
theorem dL_law_242 : decode cL_law 242 = .ok (.iconst 2, 1) := by decide +kernel
theorem dL_law_243 : decode cL_law 243 = .ok (.iadd, 1) := by decide +kernel
theorem dL_law_244 : decode cL_law 244 = .ok (.iaload, 1) := by decide +kernel
theorem dL_law_245 : decode cL_law 245 = .ok (.invokevirtual 26, 3) := by decide +kernel
theorem dL_law_248 : decode cL_law 248 = .ok (.if_icmp .eq 499, 3) := by decide +kernel
theorem dL_law_251 : decode cL_law 251 = .ok (.iconst 0, 1) := by decide +kernel
theorem dL_law_252 : decode cL_law 252 = .ok (.ireturn, 1) := by decide +kernel
theorem dL_law_253 : decode cL_law 253 = .ok (.aload_n 1, 1) := by decide +kernel
theorem dL_law_254 : decode cL_law 254 = .ok (.aload_n 0, 1) := by decide +kernel
theorem dL_law_255 : decode cL_law 255 = .ok (.iload_n 3, 1) := by decide +kernel
theorem dL_law_256 : decode cL_law 256 = .ok (.iconst 1, 1) := by decide +kernel
theorem dL_law_257 : decode cL_law 257 = .ok (.iadd, 1) := by decide +kernel
theorem dL_law_258 : decode cL_law 258 = .ok (.iaload, 1) := by decide +kernel
theorem dL_law_259 : decode cL_law 259 = .ok (.invokevirtual 27, 3) := by decide +kernel
theorem dL_law_262 : decode cL_law 262 = .ok (.aload_n 2, 1) := by decide +kernel
theorem dL_law_263 : decode cL_law 263 = .ok (.aload_n 0, 1) := by decide +kernel
theorem dL_law_264 : decode cL_law 264 = .ok (.iload_n 3, 1) := by decide +kernel
theorem dL_law_265 : decode cL_law 265 = .ok (.iconst 1, 1) := by decide +kernel
theorem dL_law_266 : decode cL_law 266 = .ok (.iadd, 1) := by decide +kernel
theorem dL_law_267 : decode cL_law 267 = .ok (.iaload, 1) := by decide +kernel
theorem dL_law_268 : decode cL_law 268 = .ok (.invokevirtual 31, 3) := by decide +kernel
theorem dL_law_271 : decode cL_law 271 = .ok (.if_icmp .eq 476, 3) := by decide +kernel
theorem dL_law_274 : decode cL_law 274 = .ok (.iconst 0, 1) := by decide +kernel
theorem dL_law_275 : decode cL_law 275 = .ok (.ireturn, 1) := by decide +kernel
theorem dL_law_276 : decode cL_law 276 = .ok (.aload_n 1, 1) := by decide +kernel
theorem dL_law_277 : decode cL_law 277 = .ok (.aload_n 0, 1) := by decide +kernel
theorem dL_law_278 : decode cL_law 278 = .ok (.iload_n 3, 1) := by decide +kernel
theorem dL_law_279 : decode cL_law 279 = .ok (.iconst 1, 1) := by decide +kernel
theorem dL_law_280 : decode cL_law 280 = .ok (.iadd, 1) := by decide +kernel
theorem dL_law_281 : decode cL_law 281 = .ok (.iaload, 1) := by decide +kernel
theorem dL_law_282 : decode cL_law 282 = .ok (.aload_n 0, 1) := by decide +kernel
theorem dL_law_283 : decode cL_law 283 = .ok (.iload_n 3, 1) := by decide +kernel
theorem dL_law_284 : decode cL_law 284 = .ok (.iconst 2, 1) := by decide +kernel
theorem dL_law_285 : decode cL_law 285 = .ok (.iadd, 1) := by decide +kernel
theorem dL_law_286 : decode cL_law 286 = .ok (.iaload, 1) := by decide +kernel
theorem dL_law_287 : decode cL_law 287 = .ok (.invokevirtual 32, 3) := by decide +kernel
theorem dL_law_290 : decode cL_law 290 = .ok (.aload_n 2, 1) := by decide +kernel
theorem dL_law_291 : decode cL_law 291 = .ok (.aload_n 0, 1) := by decide +kernel
theorem dL_law_292 : decode cL_law 292 = .ok (.iload_n 3, 1) := by decide +kernel
theorem dL_law_293 : decode cL_law 293 = .ok (.iconst 1, 1) := by decide +kernel
theorem dL_law_294 : decode cL_law 294 = .ok (.iadd, 1) := by decide +kernel
theorem dL_law_295 : decode cL_law 295 = .ok (.iaload, 1) := by decide +kernel
theorem dL_law_296 : decode cL_law 296 = .ok (.aload_n 0, 1) := by decide +kernel
theorem dL_law_297 : decode cL_law 297 = .ok (.iload_n 3, 1) := by decide +kernel
theorem dL_law_298 : decode cL_law 298 = .ok (.iconst 2, 1) := by decide +kernel
theorem dL_law_299 : decode cL_law 299 = .ok (.iadd, 1) := by decide +kernel
theorem dL_law_300 : decode cL_law 300 = .ok (.iaload, 1) := by decide +kernel
theorem dL_law_301 : decode cL_law 301 = .ok (.invokevirtual 35, 3) := by decide +kernel
theorem dL_law_304 : decode cL_law 304 = .ok (.if_icmp .eq 443, 3) := by decide +kernel
theorem dL_law_307 : decode cL_law 307 = .ok (.iconst 0, 1) := by decide +kernel
theorem dL_law_308 : decode cL_law 308 = .ok (.ireturn, 1) := by decide +kernel
theorem dL_law_309 : decode cL_law 309 = .ok (.aload_n 1, 1) := by decide +kernel
theorem dL_law_310 : decode cL_law 310 = .ok (.aload_n 0, 1) := by decide +kernel
theorem dL_law_311 : decode cL_law 311 = .ok (.iload_n 3, 1) := by decide +kernel
theorem dL_law_312 : decode cL_law 312 = .ok (.iconst 1, 1) := by decide +kernel
theorem dL_law_313 : decode cL_law 313 = .ok (.iadd, 1) := by decide +kernel
theorem dL_law_314 : decode cL_law 314 = .ok (.iaload, 1) := by decide +kernel
theorem dL_law_315 : decode cL_law 315 = .ok (.aload_n 0, 1) := by decide +kernel
theorem dL_law_316 : decode cL_law 316 = .ok (.iload_n 3, 1) := by decide +kernel
theorem dL_law_317 : decode cL_law 317 = .ok (.iconst 2, 1) := by decide +kernel
theorem dL_law_318 : decode cL_law 318 = .ok (.iadd, 1) := by decide +kernel
theorem dL_law_319 : decode cL_law 319 = .ok (.iaload, 1) := by decide +kernel
theorem dL_law_320 : decode cL_law 320 = .ok (.aload_n 0, 1) := by decide +kernel
theorem dL_law_321 : decode cL_law 321 = .ok (.iload_n 3, 1) := by decide +kernel
theorem dL_law_322 : decode cL_law 322 = .ok (.iconst 3, 1) := by decide +kernel
theorem dL_law_323 : decode cL_law 323 = .ok (.iadd, 1) := by decide +kernel
theorem dL_law_324 : decode cL_law 324 = .ok (.iaload, 1) := by decide +kernel
theorem dL_law_325 : decode cL_law 325 = .ok (.aload_n 0, 1) := by decide +kernel
theorem dL_law_326 : decode cL_law 326 = .ok (.iload_n 3, 1) := by decide +kernel
theorem dL_law_327 : decode cL_law 327 = .ok (.iconst 4, 1) := by decide +kernel
theorem dL_law_328 : decode cL_law 328 = .ok (.iadd, 1) := by decide +kernel
theorem dL_law_329 : decode cL_law 329 = .ok (.iaload, 1) := by decide +kernel
theorem dL_law_330 : decode cL_law 330 = .ok (.invokevirtual 36, 3) := by decide +kernel
theorem dL_law_333 : decode cL_law 333 = .ok (.aload_n 2, 1) := by decide +kernel
theorem dL_law_334 : decode cL_law 334 = .ok (.aload_n 0, 1) := by decide +kernel
theorem dL_law_335 : decode cL_law 335 = .ok (.iload_n 3, 1) := by decide +kernel
theorem dL_law_336 : decode cL_law 336 = .ok (.iconst 1, 1) := by decide +kernel
theorem dL_law_337 : decode cL_law 337 = .ok (.iadd, 1) := by decide +kernel
theorem dL_law_338 : decode cL_law 338 = .ok (.iaload, 1) := by decide +kernel
theorem dL_law_339 : decode cL_law 339 = .ok (.aload_n 0, 1) := by decide +kernel
theorem dL_law_340 : decode cL_law 340 = .ok (.iload_n 3, 1) := by decide +kernel
theorem dL_law_341 : decode cL_law 341 = .ok (.iconst 2, 1) := by decide +kernel
theorem dL_law_342 : decode cL_law 342 = .ok (.iadd, 1) := by decide +kernel
theorem dL_law_343 : decode cL_law 343 = .ok (.iaload, 1) := by decide +kernel
theorem dL_law_344 : decode cL_law 344 = .ok (.aload_n 0, 1) := by decide +kernel
theorem dL_law_345 : decode cL_law 345 = .ok (.iload_n 3, 1) := by decide +kernel
theorem dL_law_346 : decode cL_law 346 = .ok (.iconst 3, 1) := by decide +kernel
theorem dL_law_347 : decode cL_law 347 = .ok (.iadd, 1) := by decide +kernel
theorem dL_law_348 : decode cL_law 348 = .ok (.iaload, 1) := by decide +kernel
theorem dL_law_349 : decode cL_law 349 = .ok (.aload_n 0, 1) := by decide +kernel
theorem dL_law_350 : decode cL_law 350 = .ok (.iload_n 3, 1) := by decide +kernel
theorem dL_law_351 : decode cL_law 351 = .ok (.iconst 4, 1) := by decide +kernel
theorem dL_law_352 : decode cL_law 352 = .ok (.iadd, 1) := by decide +kernel
theorem dL_law_353 : decode cL_law 353 = .ok (.iaload, 1) := by decide +kernel
theorem dL_law_354 : decode cL_law 354 = .ok (.invokevirtual 40, 3) := by decide +kernel
theorem dL_law_357 : decode cL_law 357 = .ok (.if_icmp .eq 390, 3) := by decide +kernel
theorem dL_law_360 : decode cL_law 360 = .ok (.iconst 0, 1) := by decide +kernel
theorem dL_law_361 : decode cL_law 361 = .ok (.ireturn, 1) := by decide +kernel
theorem dL_law_362 : decode cL_law 362 = .ok (.aload_n 1, 1) := by decide +kernel
theorem dL_law_363 : decode cL_law 363 = .ok (.aload_n 0, 1) := by decide +kernel
theorem dL_law_364 : decode cL_law 364 = .ok (.iload_n 3, 1) := by decide +kernel
theorem dL_law_365 : decode cL_law 365 = .ok (.iconst 1, 1) := by decide +kernel
theorem dL_law_366 : decode cL_law 366 = .ok (.iadd, 1) := by decide +kernel
theorem dL_law_367 : decode cL_law 367 = .ok (.iaload, 1) := by decide +kernel
theorem dL_law_368 : decode cL_law 368 = .ok (.aload_n 0, 1) := by decide +kernel
theorem dL_law_369 : decode cL_law 369 = .ok (.iload_n 3, 1) := by decide +kernel
theorem dL_law_370 : decode cL_law 370 = .ok (.iconst 2, 1) := by decide +kernel
theorem dL_law_371 : decode cL_law 371 = .ok (.iadd, 1) := by decide +kernel
theorem dL_law_372 : decode cL_law 372 = .ok (.iaload, 1) := by decide +kernel
theorem dL_law_373 : decode cL_law 373 = .ok (.aload_n 0, 1) := by decide +kernel
theorem dL_law_374 : decode cL_law 374 = .ok (.iload_n 3, 1) := by decide +kernel
theorem dL_law_375 : decode cL_law 375 = .ok (.iconst 3, 1) := by decide +kernel
theorem dL_law_376 : decode cL_law 376 = .ok (.iadd, 1) := by decide +kernel
theorem dL_law_377 : decode cL_law 377 = .ok (.iaload, 1) := by decide +kernel
theorem dL_law_378 : decode cL_law 378 = .ok (.invokevirtual 41, 3) := by decide +kernel
theorem dL_law_381 : decode cL_law 381 = .ok (.aload_n 2, 1) := by decide +kernel
theorem dL_law_382 : decode cL_law 382 = .ok (.aload_n 0, 1) := by decide +kernel
theorem dL_law_383 : decode cL_law 383 = .ok (.iload_n 3, 1) := by decide +kernel
theorem dL_law_384 : decode cL_law 384 = .ok (.iconst 1, 1) := by decide +kernel
theorem dL_law_385 : decode cL_law 385 = .ok (.iadd, 1) := by decide +kernel
theorem dL_law_386 : decode cL_law 386 = .ok (.iaload, 1) := by decide +kernel
theorem dL_law_387 : decode cL_law 387 = .ok (.aload_n 0, 1) := by decide +kernel
theorem dL_law_388 : decode cL_law 388 = .ok (.iload_n 3, 1) := by decide +kernel
theorem dL_law_389 : decode cL_law 389 = .ok (.iconst 2, 1) := by decide +kernel
theorem dL_law_390 : decode cL_law 390 = .ok (.iadd, 1) := by decide +kernel
theorem dL_law_391 : decode cL_law 391 = .ok (.iaload, 1) := by decide +kernel
theorem dL_law_392 : decode cL_law 392 = .ok (.aload_n 0, 1) := by decide +kernel
theorem dL_law_393 : decode cL_law 393 = .ok (.iload_n 3, 1) := by decide +kernel
theorem dL_law_394 : decode cL_law 394 = .ok (.iconst 3, 1) := by decide +kernel
theorem dL_law_395 : decode cL_law 395 = .ok (.iadd, 1) := by decide +kernel
theorem dL_law_396 : decode cL_law 396 = .ok (.iaload, 1) := by decide +kernel
theorem dL_law_397 : decode cL_law 397 = .ok (.invokevirtual 45, 3) := by decide +kernel
theorem dL_law_400 : decode cL_law 400 = .ok (.if_icmp .eq 347, 3) := by decide +kernel
theorem dL_law_403 : decode cL_law 403 = .ok (.iconst 0, 1) := by decide +kernel
theorem dL_law_404 : decode cL_law 404 = .ok (.ireturn, 1) := by decide +kernel
theorem dL_law_405 : decode cL_law 405 = .ok (.aload_n 1, 1) := by decide +kernel
theorem dL_law_406 : decode cL_law 406 = .ok (.aload_n 0, 1) := by decide +kernel
theorem dL_law_407 : decode cL_law 407 = .ok (.iload_n 3, 1) := by decide +kernel
theorem dL_law_408 : decode cL_law 408 = .ok (.iconst 1, 1) := by decide +kernel
theorem dL_law_409 : decode cL_law 409 = .ok (.iadd, 1) := by decide +kernel
theorem dL_law_410 : decode cL_law 410 = .ok (.iaload, 1) := by decide +kernel
theorem dL_law_411 : decode cL_law 411 = .ok (.aload_n 0, 1) := by decide +kernel
theorem dL_law_412 : decode cL_law 412 = .ok (.iload_n 3, 1) := by decide +kernel
theorem dL_law_413 : decode cL_law 413 = .ok (.iconst 2, 1) := by decide +kernel
theorem dL_law_414 : decode cL_law 414 = .ok (.iadd, 1) := by decide +kernel
theorem dL_law_415 : decode cL_law 415 = .ok (.iaload, 1) := by decide +kernel
theorem dL_law_416 : decode cL_law 416 = .ok (.invokevirtual 46, 3) := by decide +kernel
theorem dL_law_419 : decode cL_law 419 = .ok (.aload_n 2, 1) := by decide +kernel
theorem dL_law_420 : decode cL_law 420 = .ok (.aload_n 0, 1) := by decide +kernel
theorem dL_law_421 : decode cL_law 421 = .ok (.iload_n 3, 1) := by decide +kernel
theorem dL_law_422 : decode cL_law 422 = .ok (.iconst 1, 1) := by decide +kernel
theorem dL_law_423 : decode cL_law 423 = .ok (.iadd, 1) := by decide +kernel
theorem dL_law_424 : decode cL_law 424 = .ok (.iaload, 1) := by decide +kernel
theorem dL_law_425 : decode cL_law 425 = .ok (.aload_n 0, 1) := by decide +kernel
theorem dL_law_426 : decode cL_law 426 = .ok (.iload_n 3, 1) := by decide +kernel
theorem dL_law_427 : decode cL_law 427 = .ok (.iconst 2, 1) := by decide +kernel
theorem dL_law_428 : decode cL_law 428 = .ok (.iadd, 1) := by decide +kernel
theorem dL_law_429 : decode cL_law 429 = .ok (.iaload, 1) := by decide +kernel
theorem dL_law_430 : decode cL_law 430 = .ok (.invokevirtual 49, 3) := by decide +kernel
theorem dL_law_433 : decode cL_law 433 = .ok (.if_icmp .eq 314, 3) := by decide +kernel
theorem dL_law_436 : decode cL_law 436 = .ok (.iconst 0, 1) := by decide +kernel
theorem dL_law_437 : decode cL_law 437 = .ok (.ireturn, 1) := by decide +kernel
theorem dL_law_438 : decode cL_law 438 = .ok (.aload_n 1, 1) := by decide +kernel
theorem dL_law_439 : decode cL_law 439 = .ok (.aload_n 0, 1) := by decide +kernel
theorem dL_law_440 : decode cL_law 440 = .ok (.iload_n 3, 1) := by decide +kernel
theorem dL_law_441 : decode cL_law 441 = .ok (.iconst 1, 1) := by decide +kernel
theorem dL_law_442 : decode cL_law 442 = .ok (.iadd, 1) := by decide +kernel
theorem dL_law_443 : decode cL_law 443 = .ok (.iaload, 1) := by decide +kernel
theorem dL_law_444 : decode cL_law 444 = .ok (.aload_n 0, 1) := by decide +kernel
theorem dL_law_445 : decode cL_law 445 = .ok (.iload_n 3, 1) := by decide +kernel
theorem dL_law_446 : decode cL_law 446 = .ok (.iconst 2, 1) := by decide +kernel
theorem dL_law_447 : decode cL_law 447 = .ok (.iadd, 1) := by decide +kernel
theorem dL_law_448 : decode cL_law 448 = .ok (.iaload, 1) := by decide +kernel
theorem dL_law_449 : decode cL_law 449 = .ok (.aload_n 0, 1) := by decide +kernel
theorem dL_law_450 : decode cL_law 450 = .ok (.iload_n 3, 1) := by decide +kernel
theorem dL_law_451 : decode cL_law 451 = .ok (.iconst 3, 1) := by decide +kernel
theorem dL_law_452 : decode cL_law 452 = .ok (.iadd, 1) := by decide +kernel
theorem dL_law_453 : decode cL_law 453 = .ok (.iaload, 1) := by decide +kernel
theorem dL_law_454 : decode cL_law 454 = .ok (.invokevirtual 50, 3) := by decide +kernel
theorem dL_law_457 : decode cL_law 457 = .ok (.aload_n 2, 1) := by decide +kernel
theorem dL_law_458 : decode cL_law 458 = .ok (.aload_n 0, 1) := by decide +kernel
theorem dL_law_459 : decode cL_law 459 = .ok (.iload_n 3, 1) := by decide +kernel
theorem dL_law_460 : decode cL_law 460 = .ok (.iconst 1, 1) := by decide +kernel
theorem dL_law_461 : decode cL_law 461 = .ok (.iadd, 1) := by decide +kernel
theorem dL_law_462 : decode cL_law 462 = .ok (.iaload, 1) := by decide +kernel
theorem dL_law_463 : decode cL_law 463 = .ok (.aload_n 0, 1) := by decide +kernel
theorem dL_law_464 : decode cL_law 464 = .ok (.iload_n 3, 1) := by decide +kernel
theorem dL_law_465 : decode cL_law 465 = .ok (.iconst 2, 1) := by decide +kernel
theorem dL_law_466 : decode cL_law 466 = .ok (.iadd, 1) := by decide +kernel
theorem dL_law_467 : decode cL_law 467 = .ok (.iaload, 1) := by decide +kernel
theorem dL_law_468 : decode cL_law 468 = .ok (.aload_n 0, 1) := by decide +kernel
theorem dL_law_469 : decode cL_law 469 = .ok (.iload_n 3, 1) := by decide +kernel
theorem dL_law_470 : decode cL_law 470 = .ok (.iconst 3, 1) := by decide +kernel
theorem dL_law_471 : decode cL_law 471 = .ok (.iadd, 1) := by decide +kernel
theorem dL_law_472 : decode cL_law 472 = .ok (.iaload, 1) := by decide +kernel
theorem dL_law_473 : decode cL_law 473 = .ok (.invokevirtual 53, 3) := by decide +kernel
theorem dL_law_476 : decode cL_law 476 = .ok (.if_icmp .eq 271, 3) := by decide +kernel
theorem dL_law_479 : decode cL_law 479 = .ok (.iconst 0, 1) := by decide +kernel
theorem dL_law_480 : decode cL_law 480 = .ok (.ireturn, 1) := by decide +kernel
theorem dL_law_481 : decode cL_law 481 = .ok (.aload_n 1, 1) := by decide +kernel
theorem dL_law_482 : decode cL_law 482 = .ok (.aload_n 0, 1) := by decide +kernel
theorem dL_law_483 : decode cL_law 483 = .ok (.iload_n 3, 1) := by decide +kernel
theorem dL_law_484 : decode cL_law 484 = .ok (.iconst 1, 1) := by decide +kernel
theorem dL_law_485 : decode cL_law 485 = .ok (.iadd, 1) := by decide +kernel
theorem dL_law_486 : decode cL_law 486 = .ok (.iaload, 1) := by decide +kernel
theorem dL_law_487 : decode cL_law 487 = .ok (.invokevirtual 54, 3) := by decide +kernel
theorem dL_law_490 : decode cL_law 490 = .ok (.aload_n 2, 1) := by decide +kernel
theorem dL_law_491 : decode cL_law 491 = .ok (.aload_n 0, 1) := by decide +kernel
theorem dL_law_492 : decode cL_law 492 = .ok (.iload_n 3, 1) := by decide +kernel
theorem dL_law_493 : decode cL_law 493 = .ok (.iconst 1, 1) := by decide +kernel
theorem dL_law_494 : decode cL_law 494 = .ok (.iadd, 1) := by decide +kernel
theorem dL_law_495 : decode cL_law 495 = .ok (.iaload, 1) := by decide +kernel
theorem dL_law_496 : decode cL_law 496 = .ok (.invokevirtual 58, 3) := by decide +kernel
theorem dL_law_499 : decode cL_law 499 = .ok (.if_icmp .eq 248, 3) := by decide +kernel
theorem dL_law_502 : decode cL_law 502 = .ok (.iconst 0, 1) := by decide +kernel
theorem dL_law_503 : decode cL_law 503 = .ok (.ireturn, 1) := by decide +kernel
theorem dL_law_504 : decode cL_law 504 = .ok (.aload_n 1, 1) := by decide +kernel
theorem dL_law_505 : decode cL_law 505 = .ok (.aload_n 0, 1) := by decide +kernel
theorem dL_law_506 : decode cL_law 506 = .ok (.iload_n 3, 1) := by decide +kernel
theorem dL_law_507 : decode cL_law 507 = .ok (.iconst 1, 1) := by decide +kernel
theorem dL_law_508 : decode cL_law 508 = .ok (.iadd, 1) := by decide +kernel
theorem dL_law_509 : decode cL_law 509 = .ok (.iaload, 1) := by decide +kernel
theorem dL_law_510 : decode cL_law 510 = .ok (.aload_n 0, 1) := by decide +kernel
theorem dL_law_511 : decode cL_law 511 = .ok (.iload_n 3, 1) := by decide +kernel
theorem dL_law_512 : decode cL_law 512 = .ok (.iconst 2, 1) := by decide +kernel
theorem dL_law_513 : decode cL_law 513 = .ok (.iadd, 1) := by decide +kernel
theorem dL_law_514 : decode cL_law 514 = .ok (.iaload, 1) := by decide +kernel
theorem dL_law_515 : decode cL_law 515 = .ok (.invokevirtual 59, 3) := by decide +kernel
theorem dL_law_518 : decode cL_law 518 = .ok (.aload_n 2, 1) := by decide +kernel
theorem dL_law_519 : decode cL_law 519 = .ok (.aload_n 0, 1) := by decide +kernel
theorem dL_law_520 : decode cL_law 520 = .ok (.iload_n 3, 1) := by decide +kernel
theorem dL_law_521 : decode cL_law 521 = .ok (.iconst 1, 1) := by decide +kernel
theorem dL_law_522 : decode cL_law 522 = .ok (.iadd, 1) := by decide +kernel
theorem dL_law_523 : decode cL_law 523 = .ok (.iaload, 1) := by decide +kernel
theorem dL_law_524 : decode cL_law 524 = .ok (.aload_n 0, 1) := by decide +kernel
theorem dL_law_525 : decode cL_law 525 = .ok (.iload_n 3, 1) := by decide +kernel
theorem dL_law_526 : decode cL_law 526 = .ok (.iconst 2, 1) := by decide +kernel
theorem dL_law_527 : decode cL_law 527 = .ok (.iadd, 1) := by decide +kernel
theorem dL_law_528 : decode cL_law 528 = .ok (.iaload, 1) := by decide +kernel
theorem dL_law_529 : decode cL_law 529 = .ok (.invokevirtual 62, 3) := by decide +kernel
theorem dL_law_532 : decode cL_law 532 = .ok (.if_icmp .eq 215, 3) := by decide +kernel
theorem dL_law_535 : decode cL_law 535 = .ok (.iconst 0, 1) := by decide +kernel
theorem dL_law_536 : decode cL_law 536 = .ok (.ireturn, 1) := by decide +kernel
theorem dL_law_537 : decode cL_law 537 = .ok (.aload_n 1, 1) := by decide +kernel
theorem dL_law_538 : decode cL_law 538 = .ok (.aload_n 0, 1) := by decide +kernel
theorem dL_law_539 : decode cL_law 539 = .ok (.iload_n 3, 1) := by decide +kernel
theorem dL_law_540 : decode cL_law 540 = .ok (.iconst 1, 1) := by decide +kernel
theorem dL_law_541 : decode cL_law 541 = .ok (.iadd, 1) := by decide +kernel
theorem dL_law_542 : decode cL_law 542 = .ok (.iaload, 1) := by decide +kernel
theorem dL_law_543 : decode cL_law 543 = .ok (.invokevirtual 63, 3) := by decide +kernel
theorem dL_law_546 : decode cL_law 546 = .ok (.aload_n 2, 1) := by decide +kernel
theorem dL_law_547 : decode cL_law 547 = .ok (.aload_n 0, 1) := by decide +kernel
theorem dL_law_548 : decode cL_law 548 = .ok (.iload_n 3, 1) := by decide +kernel
theorem dL_law_549 : decode cL_law 549 = .ok (.iconst 1, 1) := by decide +kernel
theorem dL_law_550 : decode cL_law 550 = .ok (.iadd, 1) := by decide +kernel
theorem dL_law_551 : decode cL_law 551 = .ok (.iaload, 1) := by decide +kernel
theorem dL_law_552 : decode cL_law 552 = .ok (.invokevirtual 66, 3) := by decide +kernel
theorem dL_law_555 : decode cL_law 555 = .ok (.if_icmp .eq 192, 3) := by decide +kernel
theorem dL_law_558 : decode cL_law 558 = .ok (.iconst 0, 1) := by decide +kernel
theorem dL_law_559 : decode cL_law 559 = .ok (.ireturn, 1) := by decide +kernel
theorem dL_law_560 : decode cL_law 560 = .ok (.aload_n 1, 1) := by decide +kernel
theorem dL_law_561 : decode cL_law 561 = .ok (.invokevirtual 67, 3) := by decide +kernel
theorem dL_law_564 : decode cL_law 564 = .ok (.aload_n 2, 1) := by decide +kernel
theorem dL_law_565 : decode cL_law 565 = .ok (.invokevirtual 71, 3) := by decide +kernel
theorem dL_law_568 : decode cL_law 568 = .ok (.if_icmp .eq 179, 3) := by decide +kernel
theorem dL_law_571 : decode cL_law 571 = .ok (.iconst 0, 1) := by decide +kernel
theorem dL_law_572 : decode cL_law 572 = .ok (.ireturn, 1) := by decide +kernel
theorem dL_law_573 : decode cL_law 573 = .ok (.aload_n 1, 1) := by decide +kernel
theorem dL_law_574 : decode cL_law 574 = .ok (.invokevirtual 72, 3) := by decide +kernel
theorem dL_law_577 : decode cL_law 577 = .ok (.aload_n 2, 1) := by decide +kernel
theorem dL_law_578 : decode cL_law 578 = .ok (.invokevirtual 76, 3) := by decide +kernel
theorem dL_law_581 : decode cL_law 581 = .ok (.if_icmp .eq 166, 3) := by decide +kernel
theorem dL_law_584 : decode cL_law 584 = .ok (.iconst 0, 1) := by decide +kernel
theorem dL_law_585 : decode cL_law 585 = .ok (.ireturn, 1) := by decide +kernel
theorem dL_law_586 : decode cL_law 586 = .ok (.aload_n 1, 1) := by decide +kernel
theorem dL_law_587 : decode cL_law 587 = .ok (.aload_n 0, 1) := by decide +kernel
theorem dL_law_588 : decode cL_law 588 = .ok (.iload_n 3, 1) := by decide +kernel
theorem dL_law_589 : decode cL_law 589 = .ok (.iconst 1, 1) := by decide +kernel
theorem dL_law_590 : decode cL_law 590 = .ok (.iadd, 1) := by decide +kernel
theorem dL_law_591 : decode cL_law 591 = .ok (.iaload, 1) := by decide +kernel
theorem dL_law_592 : decode cL_law 592 = .ok (.invokevirtual 77, 3) := by decide +kernel
theorem dL_law_595 : decode cL_law 595 = .ok (.aload_n 2, 1) := by decide +kernel
theorem dL_law_596 : decode cL_law 596 = .ok (.aload_n 0, 1) := by decide +kernel
theorem dL_law_597 : decode cL_law 597 = .ok (.iload_n 3, 1) := by decide +kernel
theorem dL_law_598 : decode cL_law 598 = .ok (.iconst 1, 1) := by decide +kernel
theorem dL_law_599 : decode cL_law 599 = .ok (.iadd, 1) := by decide +kernel
theorem dL_law_600 : decode cL_law 600 = .ok (.iaload, 1) := by decide +kernel
theorem dL_law_601 : decode cL_law 601 = .ok (.invokevirtual 80, 3) := by decide +kernel
theorem dL_law_604 : decode cL_law 604 = .ok (.if_icmp .eq 143, 3) := by decide +kernel
theorem dL_law_607 : decode cL_law 607 = .ok (.iconst 0, 1) := by decide +kernel
theorem dL_law_608 : decode cL_law 608 = .ok (.ireturn, 1) := by decide +kernel
theorem dL_law_609 : decode cL_law 609 = .ok (.aload_n 1, 1) := by decide +kernel
theorem dL_law_610 : decode cL_law 610 = .ok (.aload_n 0, 1) := by decide +kernel
theorem dL_law_611 : decode cL_law 611 = .ok (.iload_n 3, 1) := by decide +kernel
theorem dL_law_612 : decode cL_law 612 = .ok (.iconst 1, 1) := by decide +kernel
theorem dL_law_613 : decode cL_law 613 = .ok (.iadd, 1) := by decide +kernel
theorem dL_law_614 : decode cL_law 614 = .ok (.iaload, 1) := by decide +kernel
theorem dL_law_615 : decode cL_law 615 = .ok (.aload_n 0, 1) := by decide +kernel
theorem dL_law_616 : decode cL_law 616 = .ok (.iload_n 3, 1) := by decide +kernel
theorem dL_law_617 : decode cL_law 617 = .ok (.iconst 2, 1) := by decide +kernel
theorem dL_law_618 : decode cL_law 618 = .ok (.iadd, 1) := by decide +kernel
theorem dL_law_619 : decode cL_law 619 = .ok (.iaload, 1) := by decide +kernel
theorem dL_law_620 : decode cL_law 620 = .ok (.invokevirtual 81, 3) := by decide +kernel
theorem dL_law_623 : decode cL_law 623 = .ok (.aload_n 2, 1) := by decide +kernel
theorem dL_law_624 : decode cL_law 624 = .ok (.aload_n 0, 1) := by decide +kernel
theorem dL_law_625 : decode cL_law 625 = .ok (.iload_n 3, 1) := by decide +kernel
theorem dL_law_626 : decode cL_law 626 = .ok (.iconst 1, 1) := by decide +kernel
theorem dL_law_627 : decode cL_law 627 = .ok (.iadd, 1) := by decide +kernel
theorem dL_law_628 : decode cL_law 628 = .ok (.iaload, 1) := by decide +kernel
theorem dL_law_629 : decode cL_law 629 = .ok (.aload_n 0, 1) := by decide +kernel
theorem dL_law_630 : decode cL_law 630 = .ok (.iload_n 3, 1) := by decide +kernel
theorem dL_law_631 : decode cL_law 631 = .ok (.iconst 2, 1) := by decide +kernel
theorem dL_law_632 : decode cL_law 632 = .ok (.iadd, 1) := by decide +kernel
theorem dL_law_633 : decode cL_law 633 = .ok (.iaload, 1) := by decide +kernel
theorem dL_law_634 : decode cL_law 634 = .ok (.invokevirtual 85, 3) := by decide +kernel
theorem dL_law_637 : decode cL_law 637 = .ok (.if_icmp .eq 110, 3) := by decide +kernel
theorem dL_law_640 : decode cL_law 640 = .ok (.iconst 0, 1) := by decide +kernel
theorem dL_law_641 : decode cL_law 641 = .ok (.ireturn, 1) := by decide +kernel
theorem dL_law_642 : decode cL_law 642 = .ok (.aload_n 1, 1) := by decide +kernel
theorem dL_law_643 : decode cL_law 643 = .ok (.aload_n 0, 1) := by decide +kernel
theorem dL_law_644 : decode cL_law 644 = .ok (.iload_n 3, 1) := by decide +kernel
theorem dL_law_645 : decode cL_law 645 = .ok (.iconst 1, 1) := by decide +kernel
theorem dL_law_646 : decode cL_law 646 = .ok (.iadd, 1) := by decide +kernel
theorem dL_law_647 : decode cL_law 647 = .ok (.iaload, 1) := by decide +kernel
theorem dL_law_648 : decode cL_law 648 = .ok (.aload_n 0, 1) := by decide +kernel
theorem dL_law_649 : decode cL_law 649 = .ok (.iload_n 3, 1) := by decide +kernel
theorem dL_law_650 : decode cL_law 650 = .ok (.iconst 2, 1) := by decide +kernel
theorem dL_law_651 : decode cL_law 651 = .ok (.iadd, 1) := by decide +kernel
theorem dL_law_652 : decode cL_law 652 = .ok (.iaload, 1) := by decide +kernel
theorem dL_law_653 : decode cL_law 653 = .ok (.aload_n 0, 1) := by decide +kernel
theorem dL_law_654 : decode cL_law 654 = .ok (.iload_n 3, 1) := by decide +kernel
theorem dL_law_655 : decode cL_law 655 = .ok (.iconst 3, 1) := by decide +kernel
theorem dL_law_656 : decode cL_law 656 = .ok (.iadd, 1) := by decide +kernel
theorem dL_law_657 : decode cL_law 657 = .ok (.iaload, 1) := by decide +kernel
theorem dL_law_658 : decode cL_law 658 = .ok (.ifCond .eq 7, 3) := by decide +kernel
theorem dL_law_661 : decode cL_law 661 = .ok (.iconst 1, 1) := by decide +kernel
theorem dL_law_662 : decode cL_law 662 = .ok (.goto 4, 3) := by decide +kernel
theorem dL_law_665 : decode cL_law 665 = .ok (.iconst 0, 1) := by decide +kernel
theorem dL_law_666 : decode cL_law 666 = .ok (.invokevirtual 86, 3) := by decide +kernel
theorem dL_law_669 : decode cL_law 669 = .ok (.aload_n 2, 1) := by decide +kernel
theorem dL_law_670 : decode cL_law 670 = .ok (.aload_n 0, 1) := by decide +kernel
theorem dL_law_671 : decode cL_law 671 = .ok (.iload_n 3, 1) := by decide +kernel
theorem dL_law_672 : decode cL_law 672 = .ok (.iconst 1, 1) := by decide +kernel
theorem dL_law_673 : decode cL_law 673 = .ok (.iadd, 1) := by decide +kernel
theorem dL_law_674 : decode cL_law 674 = .ok (.iaload, 1) := by decide +kernel
theorem dL_law_675 : decode cL_law 675 = .ok (.aload_n 0, 1) := by decide +kernel
theorem dL_law_676 : decode cL_law 676 = .ok (.iload_n 3, 1) := by decide +kernel
theorem dL_law_677 : decode cL_law 677 = .ok (.iconst 2, 1) := by decide +kernel
theorem dL_law_678 : decode cL_law 678 = .ok (.iadd, 1) := by decide +kernel
theorem dL_law_679 : decode cL_law 679 = .ok (.iaload, 1) := by decide +kernel
theorem dL_law_680 : decode cL_law 680 = .ok (.aload_n 0, 1) := by decide +kernel
theorem dL_law_681 : decode cL_law 681 = .ok (.iload_n 3, 1) := by decide +kernel
theorem dL_law_682 : decode cL_law 682 = .ok (.iconst 3, 1) := by decide +kernel
theorem dL_law_683 : decode cL_law 683 = .ok (.iadd, 1) := by decide +kernel
theorem dL_law_684 : decode cL_law 684 = .ok (.iaload, 1) := by decide +kernel
theorem dL_law_685 : decode cL_law 685 = .ok (.ifCond .eq 7, 3) := by decide +kernel
theorem dL_law_688 : decode cL_law 688 = .ok (.iconst 1, 1) := by decide +kernel
theorem dL_law_689 : decode cL_law 689 = .ok (.goto 4, 3) := by decide +kernel
theorem dL_law_692 : decode cL_law 692 = .ok (.iconst 0, 1) := by decide +kernel
theorem dL_law_693 : decode cL_law 693 = .ok (.invokevirtual 90, 3) := by decide +kernel
theorem dL_law_696 : decode cL_law 696 = .ok (.if_icmp .eq 51, 3) := by decide +kernel
theorem dL_law_699 : decode cL_law 699 = .ok (.iconst 0, 1) := by decide +kernel
theorem dL_law_700 : decode cL_law 700 = .ok (.ireturn, 1) := by decide +kernel
theorem dL_law_701 : decode cL_law 701 = .ok (.aload_n 1, 1) := by decide +kernel
theorem dL_law_702 : decode cL_law 702 = .ok (.invokevirtual 91, 3) := by decide +kernel
theorem dL_law_705 : decode cL_law 705 = .ok (.aload_n 2, 1) := by decide +kernel
theorem dL_law_706 : decode cL_law 706 = .ok (.invokevirtual 94, 3) := by decide +kernel
theorem dL_law_709 : decode cL_law 709 = .ok (.if_icmp .eq 38, 3) := by decide +kernel
theorem dL_law_712 : decode cL_law 712 = .ok (.iconst 0, 1) := by decide +kernel
theorem dL_law_713 : decode cL_law 713 = .ok (.ireturn, 1) := by decide +kernel
theorem dL_law_714 : decode cL_law 714 = .ok (.aload_n 1, 1) := by decide +kernel
theorem dL_law_715 : decode cL_law 715 = .ok (.aload_n 0, 1) := by decide +kernel
theorem dL_law_716 : decode cL_law 716 = .ok (.iload_n 3, 1) := by decide +kernel
theorem dL_law_717 : decode cL_law 717 = .ok (.iconst 1, 1) := by decide +kernel
theorem dL_law_718 : decode cL_law 718 = .ok (.iadd, 1) := by decide +kernel
theorem dL_law_719 : decode cL_law 719 = .ok (.iaload, 1) := by decide +kernel
theorem dL_law_720 : decode cL_law 720 = .ok (.aload_n 0, 1) := by decide +kernel
theorem dL_law_721 : decode cL_law 721 = .ok (.iload_n 3, 1) := by decide +kernel
theorem dL_law_722 : decode cL_law 722 = .ok (.iconst 2, 1) := by decide +kernel
theorem dL_law_723 : decode cL_law 723 = .ok (.iadd, 1) := by decide +kernel
theorem dL_law_724 : decode cL_law 724 = .ok (.iaload, 1) := by decide +kernel
theorem dL_law_725 : decode cL_law 725 = .ok (.invokevirtual 95, 3) := by decide +kernel
theorem dL_law_728 : decode cL_law 728 = .ok (.aload_n 2, 1) := by decide +kernel
theorem dL_law_729 : decode cL_law 729 = .ok (.aload_n 0, 1) := by decide +kernel
theorem dL_law_730 : decode cL_law 730 = .ok (.iload_n 3, 1) := by decide +kernel
theorem dL_law_731 : decode cL_law 731 = .ok (.iconst 1, 1) := by decide +kernel
theorem dL_law_732 : decode cL_law 732 = .ok (.iadd, 1) := by decide +kernel
theorem dL_law_733 : decode cL_law 733 = .ok (.iaload, 1) := by decide +kernel
theorem dL_law_734 : decode cL_law 734 = .ok (.aload_n 0, 1) := by decide +kernel
theorem dL_law_735 : decode cL_law 735 = .ok (.iload_n 3, 1) := by decide +kernel
theorem dL_law_736 : decode cL_law 736 = .ok (.iconst 2, 1) := by decide +kernel
theorem dL_law_737 : decode cL_law 737 = .ok (.iadd, 1) := by decide +kernel
theorem dL_law_738 : decode cL_law 738 = .ok (.iaload, 1) := by decide +kernel
theorem dL_law_739 : decode cL_law 739 = .ok (.invokevirtual 98, 3) := by decide +kernel
theorem dL_law_742 : decode cL_law 742 = .ok (.if_icmp .eq 5, 3) := by decide +kernel
theorem dL_law_745 : decode cL_law 745 = .ok (.iconst 0, 1) := by decide +kernel
theorem dL_law_746 : decode cL_law 746 = .ok (.ireturn, 1) := by decide +kernel
theorem dL_law_747 : decode cL_law 747 = .ok (.iinc 3 6, 3) := by decide +kernel
theorem dL_law_750 : decode cL_law 750 = .ok (.goto (-732), 3) := by decide +kernel
theorem dL_law_753 : decode cL_law 753 = .ok (.iconst 1, 1) := by decide +kernel
theorem dL_law_754 : decode cL_law 754 = .ok (.ireturn, 1) := by decide +kernel
