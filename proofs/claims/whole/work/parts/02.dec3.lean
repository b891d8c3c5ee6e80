theorem dX8_earns_17 : decode cX8_earns 17 = .ok (.iload_n 3, 1) := by decide +kernel
theorem dX8_earns_18 : decode cX8_earns 18 = .ok (.aload_n 0, 1) := by decide +kernel
theorem dX8_earns_19 : decode cX8_earns 19 = .ok (.iload_n 1, 1) := by decide +kernel
theorem dX8_earns_20 : decode cX8_earns 20 = .ok (.iload_n 2, 1) := by decide +kernel
theorem dX8_earns_21 : decode cX8_earns 21 = .ok (.invokevirtual 78, 3) := by decide +kernel
theorem dX8_earns_24 : decode cX8_earns 24 = .ok (.isub, 1) := by decide +kernel
theorem dX8_earns_25 : decode cX8_earns 25 = .ok (.iconst 0, 1) := by decide +kernel
theorem dX8_earns_26 : decode cX8_earns 26 = .ok (.bipush 9, 2) := by decide +kernel
theorem dX8_earns_28 : decode cX8_earns 28 = .ok (.invokestatic 81, 3) := by decide +kernel
theorem dX8_earns_31 : decode cX8_earns 31 = .ok (.istore 4, 2) := by decide +kernel
theorem dX8_earns_33 : decode cX8_earns 33 = .ok (.iload_n 3, 1) := by decide +kernel
theorem dX8_earns_34 : decode cX8_earns 34 = .ok (.i2l, 1) := by decide +kernel
theorem dX8_earns_35 : decode cX8_earns 35 = .ok (.iconst 1, 1) := by decide +kernel
theorem dX8_earns_36 : decode cX8_earns 36 = .ok (.iconst 5, 1) := by decide +kernel
theorem dX8_earns_37 : decode cX8_earns 37 = .ok (.invokestatic 47, 3) := by decide +kernel
theorem dX8_earns_40 : decode cX8_earns 40 = .ok (.ifCond .eq 7, 3) := by decide +kernel
theorem dX8_earns_43 : decode cX8_earns 43 = .ok (.iconst 3, 1) := by decide +kernel
theorem dX8_earns_44 : decode cX8_earns 44 = .ok (.goto 4, 3) := by decide +kernel
theorem dX8_earns_47 : decode cX8_earns 47 = .ok (.iconst 0, 1) := by decide +kernel
theorem dX8_earns_48 : decode cX8_earns 48 = .ok (.istore 5, 2) := by decide +kernel
theorem dX8_earns_50 : decode cX8_earns 50 = .ok (.aload_n 0, 1) := by decide +kernel
theorem dX8_earns_51 : decode cX8_earns 51 = .ok (.iload_n 1, 1) := by decide +kernel
theorem dX8_earns_52 : decode cX8_earns 52 = .ok (.iconst 0, 1) := by decide +kernel
theorem dX8_earns_53 : decode cX8_earns 53 = .ok (.invokevirtual 75, 3) := by decide +kernel
theorem dX8_earns_56 : decode cX8_earns 56 = .ok (.tableswitch 104 1 5 #[36, 41, 44, 63, 81], 36) := by decide +kernel
theorem dX8_earns_92 : decode cX8_earns 92 = .ok (.iload 4, 2) := by decide +kernel
theorem dX8_earns_94 : decode cX8_earns 94 = .ok (.iconst 1, 1) := by decide +kernel
theorem dX8_earns_95 : decode cX8_earns 95 = .ok (.iadd, 1) := by decide +kernel
theorem dX8_earns_96 : decode cX8_earns 96 = .ok (.ireturn, 1) := by decide +kernel
theorem dX8_earns_97 : decode cX8_earns 97 = .ok (.iload 5, 2) := by decide +kernel
theorem dX8_earns_99 : decode cX8_earns 99 = .ok (.ireturn, 1) := by decide +kernel
theorem dX8_earns_100 : decode cX8_earns 100 = .ok (.aload_n 0, 1) := by decide +kernel
theorem dX8_earns_101 : decode cX8_earns 101 = .ok (.iload_n 1, 1) := by decide +kernel
theorem dX8_earns_102 : decode cX8_earns 102 = .ok (.iload_n 2, 1) := by decide +kernel
theorem dX8_earns_103 : decode cX8_earns 103 = .ok (.invokevirtual 78, 3) := by decide +kernel
theorem dX8_earns_106 : decode cX8_earns 106 = .ok (.ifCond .ne 10, 3) := by decide +kernel
theorem dX8_earns_109 : decode cX8_earns 109 = .ok (.iconst 2, 1) := by decide +kernel
theorem dX8_earns_110 : decode cX8_earns 110 = .ok (.iload 4, 2) := by decide +kernel
theorem dX8_earns_112 : decode cX8_earns 112 = .ok (.imul, 1) := by decide +kernel
theorem dX8_earns_113 : decode cX8_earns 113 = .ok (.goto 5, 3) := by decide +kernel
theorem dX8_earns_116 : decode cX8_earns 116 = .ok (.iload 4, 2) := by decide +kernel
theorem dX8_earns_118 : decode cX8_earns 118 = .ok (.ireturn, 1) := by decide +kernel
theorem dX8_earns_119 : decode cX8_earns 119 = .ok (.aload_n 0, 1) := by decide +kernel
theorem dX8_earns_120 : decode cX8_earns 120 = .ok (.iload_n 1, 1) := by decide +kernel
theorem dX8_earns_121 : decode cX8_earns 121 = .ok (.iload_n 2, 1) := by decide +kernel
theorem dX8_earns_122 : decode cX8_earns 122 = .ok (.invokevirtual 85, 3) := by decide +kernel
theorem dX8_earns_125 : decode cX8_earns 125 = .ok (.ifCond .eq 10, 3) := by decide +kernel
theorem dX8_earns_128 : decode cX8_earns 128 = .ok (.iload 4, 2) := by decide +kernel
theorem dX8_earns_130 : decode cX8_earns 130 = .ok (.iconst 1, 1) := by decide +kernel
theorem dX8_earns_131 : decode cX8_earns 131 = .ok (.iadd, 1) := by decide +kernel
theorem dX8_earns_132 : decode cX8_earns 132 = .ok (.goto 4, 3) := by decide +kernel
theorem dX8_earns_135 : decode cX8_earns 135 = .ok (.iconst 0, 1) := by decide +kernel
theorem dX8_earns_136 : decode cX8_earns 136 = .ok (.ireturn, 1) := by decide +kernel
theorem dX8_earns_137 : decode cX8_earns 137 = .ok (.aload_n 0, 1) := by decide +kernel
theorem dX8_earns_138 : decode cX8_earns 138 = .ok (.getfield 9, 3) := by decide +kernel
theorem dX8_earns_141 : decode cX8_earns 141 = .ok (.iconst 0, 1) := by decide +kernel
theorem dX8_earns_142 : decode cX8_earns 142 = .ok (.iaload, 1) := by decide +kernel
theorem dX8_earns_143 : decode cX8_earns 143 = .ok (.bipush 7, 2) := by decide +kernel
theorem dX8_earns_145 : decode cX8_earns 145 = .ok (.irem, 1) := by decide +kernel
theorem dX8_earns_146 : decode cX8_earns 146 = .ok (.iconst 1, 1) := by decide +kernel
theorem dX8_earns_147 : decode cX8_earns 147 = .ok (.if_icmp .ne 10, 3) := by decide +kernel
theorem dX8_earns_150 : decode cX8_earns 150 = .ok (.iload 5, 2) := by decide +kernel
theorem dX8_earns_152 : decode cX8_earns 152 = .ok (.iconst 5, 1) := by decide +kernel
theorem dX8_earns_153 : decode cX8_earns 153 = .ok (.iadd, 1) := by decide +kernel
theorem dX8_earns_154 : decode cX8_earns 154 = .ok (.goto 5, 3) := by decide +kernel
theorem dX8_earns_157 : decode cX8_earns 157 = .ok (.iload 5, 2) := by decide +kernel
theorem dX8_earns_159 : decode cX8_earns 159 = .ok (.ireturn, 1) := by decide +kernel
theorem dX8_earns_160 : decode cX8_earns 160 = .ok (.iload 4, 2) := by decide +kernel
theorem dX8_earns_162 : decode cX8_earns 162 = .ok (.ireturn, 1) := by decide +kernel
theorem dX8_wentTo_0 : decode cX8_wentTo 0 = .ok (.aload_n 0, 1) := by decide +kernel
theorem dX8_wentTo_1 : decode cX8_wentTo 1 = .ok (.iload_n 1, 1) := by decide +kernel
theorem dX8_wentTo_2 : decode cX8_wentTo 2 = .ok (.iload_n 3, 1) := by decide +kernel
theorem dX8_wentTo_3 : decode cX8_wentTo 3 = .ok (.invokevirtual 85, 3) := by decide +kernel
theorem dX8_wentTo_6 : decode cX8_wentTo 6 = .ok (.ifCond .eq 11, 3) := by decide +kernel
theorem dX8_wentTo_9 : decode cX8_wentTo 9 = .ok (.iload_n 2, 1) := by decide +kernel
theorem dX8_wentTo_10 : decode cX8_wentTo 10 = .ok (.iload_n 3, 1) := by decide +kernel
theorem dX8_wentTo_11 : decode cX8_wentTo 11 = .ok (.invokestatic 69, 3) := by decide +kernel
theorem dX8_wentTo_14 : decode cX8_wentTo 14 = .ok (.goto 4, 3) := by decide +kernel
theorem dX8_wentTo_17 : decode cX8_wentTo 17 = .ok (.iconst (-1), 1) := by decide +kernel
theorem dX8_wentTo_18 : decode cX8_wentTo 18 = .ok (.istore 4, 2) := by decide +kernel
theorem dX8_wentTo_20 : decode cX8_wentTo 20 = .ok (.iload 4, 2) := by decide +kernel
theorem dX8_wentTo_22 : decode cX8_wentTo 22 = .ok (.ifCond .ge 7, 3) := by decide +kernel
theorem dX8_wentTo_25 : decode cX8_wentTo 25 = .ok (.iload_n 2, 1) := by decide +kernel
theorem dX8_wentTo_26 : decode cX8_wentTo 26 = .ok (.goto 5, 3) := by decide +kernel
theorem dX8_wentTo_29 : decode cX8_wentTo 29 = .ok (.iload 4, 2) := by decide +kernel
theorem dX8_wentTo_31 : decode cX8_wentTo 31 = .ok (.ireturn, 1) := by decide +kernel
theorem dX8_comesAt_0 : decode cX8_comesAt 0 = .ok (.aload_n 0, 1) := by decide +kernel
theorem dX8_comesAt_1 : decode cX8_comesAt 1 = .ok (.getfield 9, 3) := by decide +kernel
theorem dX8_comesAt_4 : decode cX8_comesAt 4 = .ok (.iconst 3, 1) := by decide +kernel
theorem dX8_comesAt_5 : decode cX8_comesAt 5 = .ok (.iaload, 1) := by decide +kernel
theorem dX8_comesAt_6 : decode cX8_comesAt 6 = .ok (.istore 4, 2) := by decide +kernel
theorem dX8_comesAt_8 : decode cX8_comesAt 8 = .ok (.aload_n 0, 1) := by decide +kernel
theorem dX8_comesAt_9 : decode cX8_comesAt 9 = .ok (.getfield 9, 3) := by decide +kernel
theorem dX8_comesAt_12 : decode cX8_comesAt 12 = .ok (.iconst 3, 1) := by decide +kernel
theorem dX8_comesAt_13 : decode cX8_comesAt 13 = .ok (.dup2, 1) := by decide +kernel
theorem dX8_comesAt_14 : decode cX8_comesAt 14 = .ok (.iaload, 1) := by decide +kernel
theorem dX8_comesAt_15 : decode cX8_comesAt 15 = .ok (.iconst 1, 1) := by decide +kernel
theorem dX8_comesAt_16 : decode cX8_comesAt 16 = .ok (.iadd, 1) := by decide +kernel
theorem dX8_comesAt_17 : decode cX8_comesAt 17 = .ok (.iastore, 1) := by decide +kernel
theorem dX8_comesAt_18 : decode cX8_comesAt 18 = .ok (.aload_n 0, 1) := by decide +kernel
theorem dX8_comesAt_19 : decode cX8_comesAt 19 = .ok (.iload 4, 2) := by decide +kernel
theorem dX8_comesAt_21 : decode cX8_comesAt 21 = .ok (.iconst 0, 1) := by decide +kernel
theorem dX8_comesAt_22 : decode cX8_comesAt 22 = .ok (.iload_n 1, 1) := by decide +kernel
theorem dX8_comesAt_23 : decode cX8_comesAt 23 = .ok (.invokevirtual 89, 3) := by decide +kernel
theorem dX8_comesAt_26 : decode cX8_comesAt 26 = .ok (.aload_n 0, 1) := by decide +kernel
theorem dX8_comesAt_27 : decode cX8_comesAt 27 = .ok (.iload 4, 2) := by decide +kernel
theorem dX8_comesAt_29 : decode cX8_comesAt 29 = .ok (.iconst 1, 1) := by decide +kernel
theorem dX8_comesAt_30 : decode cX8_comesAt 30 = .ok (.iload_n 2, 1) := by decide +kernel
theorem dX8_comesAt_31 : decode cX8_comesAt 31 = .ok (.invokevirtual 89, 3) := by decide +kernel
theorem dX8_comesAt_34 : decode cX8_comesAt 34 = .ok (.aload_n 0, 1) := by decide +kernel
theorem dX8_comesAt_35 : decode cX8_comesAt 35 = .ok (.iload 4, 2) := by decide +kernel
theorem dX8_comesAt_37 : decode cX8_comesAt 37 = .ok (.iconst 2, 1) := by decide +kernel
theorem dX8_comesAt_38 : decode cX8_comesAt 38 = .ok (.iload_n 3, 1) := by decide +kernel
theorem dX8_comesAt_39 : decode cX8_comesAt 39 = .ok (.invokevirtual 89, 3) := by decide +kernel
theorem dX8_comesAt_42 : decode cX8_comesAt 42 = .ok (.aload_n 0, 1) := by decide +kernel
theorem dX8_comesAt_43 : decode cX8_comesAt 43 = .ok (.iload 4, 2) := by decide +kernel
theorem dX8_comesAt_45 : decode cX8_comesAt 45 = .ok (.iconst 3, 1) := by decide +kernel
theorem dX8_comesAt_46 : decode cX8_comesAt 46 = .ok (.iconst 0, 1) := by decide +kernel
theorem dX8_comesAt_47 : decode cX8_comesAt 47 = .ok (.invokevirtual 89, 3) := by decide +kernel
theorem dX8_comesAt_50 : decode cX8_comesAt 50 = .ok (.iload 4, 2) := by decide +kernel
theorem dX8_comesAt_52 : decode cX8_comesAt 52 = .ok (.ireturn, 1) := by decide +kernel
theorem dX8_thing_0 : decode cX8_thing 0 = .ok (.iload_n 1, 1) := by decide +kernel
theorem dX8_thing_1 : decode cX8_thing 1 = .ok (.i2l, 1) := by decide +kernel
theorem dX8_thing_2 : decode cX8_thing 2 = .ok (.iconst 0, 1) := by decide +kernel
theorem dX8_thing_3 : decode cX8_thing 3 = .ok (.iconst 5, 1) := by decide +kernel
theorem dX8_thing_4 : decode cX8_thing 4 = .ok (.invokestatic 47, 3) := by decide +kernel
theorem dX8_thing_7 : decode cX8_thing 7 = .ok (.ifCond .eq 10, 3) := by decide +kernel
theorem dX8_thing_10 : decode cX8_thing 10 = .ok (.iload_n 2, 1) := by decide +kernel
theorem dX8_thing_11 : decode cX8_thing 11 = .ok (.invokestatic 66, 3) := by decide +kernel
theorem dX8_thing_14 : decode cX8_thing 14 = .ok (.ifCond .ne 10, 3) := by decide +kernel
theorem dX8_thing_17 : decode cX8_thing 17 = .ok (.aload_n 0, 1) := by decide +kernel
theorem dX8_thing_18 : decode cX8_thing 18 = .ok (.ldc 41, 2) := by decide +kernel
theorem dX8_thing_20 : decode cX8_thing 20 = .ok (.invokevirtual 43, 3) := by decide +kernel
theorem dX8_thing_23 : decode cX8_thing 23 = .ok (.ireturn, 1) := by decide +kernel
theorem dX8_thing_24 : decode cX8_thing 24 = .ok (.aload_n 0, 1) := by decide +kernel
theorem dX8_thing_25 : decode cX8_thing 25 = .ok (.getfield 9, 3) := by decide +kernel
theorem dX8_thing_28 : decode cX8_thing 28 = .ok (.iconst 3, 1) := by decide +kernel
theorem dX8_thing_29 : decode cX8_thing 29 = .ok (.iaload, 1) := by decide +kernel
theorem dX8_thing_30 : decode cX8_thing 30 = .ok (.bipush 8, 2) := by decide +kernel
theorem dX8_thing_32 : decode cX8_thing 32 = .ok (.if_icmp .ne 12, 3) := by decide +kernel
theorem dX8_thing_35 : decode cX8_thing 35 = .ok (.aload_n 0, 1) := by decide +kernel
theorem dX8_thing_36 : decode cX8_thing 36 = .ok (.ldc 93, 2) := by decide +kernel
theorem dX8_thing_38 : decode cX8_thing 38 = .ok (.invokevirtual 43, 3) := by decide +kernel
theorem dX8_thing_41 : decode cX8_thing 41 = .ok (.goto 10, 3) := by decide +kernel
theorem dX8_thing_44 : decode cX8_thing 44 = .ok (.aload_n 0, 1) := by decide +kernel
theorem dX8_thing_45 : decode cX8_thing 45 = .ok (.iload_n 1, 1) := by decide +kernel
theorem dX8_thing_46 : decode cX8_thing 46 = .ok (.iload_n 2, 1) := by decide +kernel
theorem dX8_thing_47 : decode cX8_thing 47 = .ok (.iconst 0, 1) := by decide +kernel
theorem dX8_thing_48 : decode cX8_thing 48 = .ok (.invokevirtual 94, 3) := by decide +kernel
theorem dX8_thing_51 : decode cX8_thing 51 = .ok (.ireturn, 1) := by decide +kernel
theorem dX8_of_0 : decode cX8_of 0 = .ok (.aload_n 0, 1) := by decide +kernel
theorem dX8_of_1 : decode cX8_of 1 = .ok (.iload_n 1, 1) := by decide +kernel
theorem dX8_of_2 : decode cX8_of 2 = .ok (.invokevirtual 97, 3) := by decide +kernel
theorem dX8_of_5 : decode cX8_of 5 = .ok (.ifCond .eq 13, 3) := by decide +kernel
theorem dX8_of_8 : decode cX8_of 8 = .ok (.iload_n 2, 1) := by decide +kernel
theorem dX8_of_9 : decode cX8_of 9 = .ok (.i2l, 1) := by decide +kernel
theorem dX8_of_10 : decode cX8_of 10 = .ok (.iconst 0, 1) := by decide +kernel
theorem dX8_of_11 : decode cX8_of 11 = .ok (.iconst 5, 1) := by decide +kernel
theorem dX8_of_12 : decode cX8_of 12 = .ok (.invokestatic 47, 3) := by decide +kernel
theorem dX8_of_15 : decode cX8_of 15 = .ok (.ifCond .ne 10, 3) := by decide +kernel
theorem dX8_of_18 : decode cX8_of 18 = .ok (.aload_n 0, 1) := by decide +kernel
theorem dX8_of_19 : decode cX8_of 19 = .ok (.ldc 41, 2) := by decide +kernel
theorem dX8_of_21 : decode cX8_of 21 = .ok (.invokevirtual 43, 3) := by decide +kernel
theorem dX8_of_24 : decode cX8_of 24 = .ok (.ireturn, 1) := by decide +kernel
theorem dX8_of_25 : decode cX8_of 25 = .ok (.aload_n 0, 1) := by decide +kernel
theorem dX8_of_26 : decode cX8_of 26 = .ok (.aload_n 0, 1) := by decide +kernel
theorem dX8_of_27 : decode cX8_of 27 = .ok (.getfield 9, 3) := by decide +kernel
theorem dX8_of_30 : decode cX8_of 30 = .ok (.iconst 0, 1) := by decide +kernel
theorem dX8_of_31 : decode cX8_of 31 = .ok (.iaload, 1) := by decide +kernel
theorem dX8_of_32 : decode cX8_of 32 = .ok (.invokevirtual 63, 3) := by decide +kernel
theorem dX8_of_35 : decode cX8_of 35 = .ok (.istore_n 3, 1) := by decide +kernel
theorem dX8_of_36 : decode cX8_of 36 = .ok (.iload_n 2, 1) := by decide +kernel
theorem dX8_of_37 : decode cX8_of 37 = .ok (.iconst 4, 1) := by decide +kernel
theorem dX8_of_38 : decode cX8_of 38 = .ok (.if_icmp .ge 12, 3) := by decide +kernel
theorem dX8_of_41 : decode cX8_of 41 = .ok (.aload_n 0, 1) := by decide +kernel
theorem dX8_of_42 : decode cX8_of 42 = .ok (.iload_n 1, 1) := by decide +kernel
theorem dX8_of_43 : decode cX8_of 43 = .ok (.iload_n 2, 1) := by decide +kernel
theorem dX8_of_44 : decode cX8_of 44 = .ok (.invokevirtual 75, 3) := by decide +kernel
theorem dX8_of_47 : decode cX8_of 47 = .ok (.goto 31, 3) := by decide +kernel
theorem dX8_of_50 : decode cX8_of 50 = .ok (.iload_n 2, 1) := by decide +kernel
theorem dX8_of_51 : decode cX8_of 51 = .ok (.iconst 4, 1) := by decide +kernel
theorem dX8_of_52 : decode cX8_of 52 = .ok (.if_icmp .ne 12, 3) := by decide +kernel
theorem dX8_of_55 : decode cX8_of 55 = .ok (.aload_n 0, 1) := by decide +kernel
theorem dX8_of_56 : decode cX8_of 56 = .ok (.iload_n 1, 1) := by decide +kernel
theorem dX8_of_57 : decode cX8_of 57 = .ok (.iload_n 3, 1) := by decide +kernel
theorem dX8_of_58 : decode cX8_of 58 = .ok (.invokevirtual 100, 3) := by decide +kernel
theorem dX8_of_61 : decode cX8_of 61 = .ok (.goto 17, 3) := by decide +kernel
theorem dX8_of_64 : decode cX8_of 64 = .ok (.aload_n 0, 1) := by decide +kernel
theorem dX8_of_65 : decode cX8_of 65 = .ok (.iload_n 1, 1) := by decide +kernel
theorem dX8_of_66 : decode cX8_of 66 = .ok (.iload_n 3, 1) := by decide +kernel
theorem dX8_of_67 : decode cX8_of 67 = .ok (.invokevirtual 85, 3) := by decide +kernel
theorem dX8_of_70 : decode cX8_of 70 = .ok (.ifCond .eq 7, 3) := by decide +kernel
theorem dX8_of_73 : decode cX8_of 73 = .ok (.iconst 1, 1) := by decide +kernel
theorem dX8_of_74 : decode cX8_of 74 = .ok (.goto 4, 3) := by decide +kernel
theorem dX8_of_77 : decode cX8_of 77 = .ok (.iconst 0, 1) := by decide +kernel
theorem dX8_of_78 : decode cX8_of 78 = .ok (.ireturn, 1) := by decide +kernel
theorem dX8_set_0 : decode cX8_set 0 = .ok (.aload_n 0, 1) := by decide +kernel
theorem dX8_set_1 : decode cX8_set 1 = .ok (.iload_n 1, 1) := by decide +kernel
theorem dX8_set_2 : decode cX8_set 2 = .ok (.invokevirtual 97, 3) := by decide +kernel
theorem dX8_set_5 : decode cX8_set 5 = .ok (.ifCond .eq 48, 3) := by decide +kernel
theorem dX8_set_8 : decode cX8_set 8 = .ok (.iload_n 2, 1) := by decide +kernel
theorem dX8_set_9 : decode cX8_set 9 = .ok (.i2l, 1) := by decide +kernel
theorem dX8_set_10 : decode cX8_set 10 = .ok (.iconst 1, 1) := by decide +kernel
theorem dX8_set_11 : decode cX8_set 11 = .ok (.iconst 3, 1) := by decide +kernel
theorem dX8_set_12 : decode cX8_set 12 = .ok (.invokestatic 47, 3) := by decide +kernel
theorem dX8_set_15 : decode cX8_set 15 = .ok (.ifCond .eq 38, 3) := by decide +kernel
theorem dX8_set_18 : decode cX8_set 18 = .ok (.iload_n 3, 1) := by decide +kernel
theorem dX8_set_19 : decode cX8_set 19 = .ok (.i2l, 1) := by decide +kernel
theorem dX8_set_20 : decode cX8_set 20 = .ok (.iconst 0, 1) := by decide +kernel
theorem dX8_set_21 : decode cX8_set 21 = .ok (.iload_n 2, 1) := by decide +kernel
theorem dX8_set_22 : decode cX8_set 22 = .ok (.iconst 1, 1) := by decide +kernel
theorem dX8_set_23 : decode cX8_set 23 = .ok (.if_icmp .ne 8, 3) := by decide +kernel
theorem dX8_set_26 : decode cX8_set 26 = .ok (.bipush 35, 2) := by decide +kernel
theorem dX8_set_28 : decode cX8_set 28 = .ok (.goto 15, 3) := by decide +kernel
theorem dX8_set_31 : decode cX8_set 31 = .ok (.iload_n 2, 1) := by decide +kernel
theorem dX8_set_32 : decode cX8_set 32 = .ok (.iconst 2, 1) := by decide +kernel
theorem dX8_set_33 : decode cX8_set 33 = .ok (.if_icmp .ne 8, 3) := by decide +kernel
theorem dX8_set_36 : decode cX8_set 36 = .ok (.bipush 7, 2) := by decide +kernel
theorem dX8_set_38 : decode cX8_set 38 = .ok (.goto 5, 3) := by decide +kernel
theorem dX8_set_41 : decode cX8_set 41 = .ok (.ldc 103, 2) := by decide +kernel
theorem dX8_set_43 : decode cX8_set 43 = .ok (.invokestatic 47, 3) := by decide +kernel
theorem dX8_set_46 : decode cX8_set 46 = .ok (.ifCond .eq 7, 3) := by decide +kernel
theorem dX8_set_49 : decode cX8_set 49 = .ok (.iconst 1, 1) := by decide +kernel
theorem dX8_set_50 : decode cX8_set 50 = .ok (.goto 4, 3) := by decide +kernel
theorem dX8_set_53 : decode cX8_set 53 = .ok (.iconst 0, 1) := by decide +kernel
theorem dX8_set_54 : decode cX8_set 54 = .ok (.istore 4, 2) := by decide +kernel
theorem dX8_set_56 : decode cX8_set 56 = .ok (.iload 4, 2) := by decide +kernel
theorem dX8_set_58 : decode cX8_set 58 = .ok (.ifCond .eq 19, 3) := by decide +kernel
theorem dX8_set_61 : decode cX8_set 61 = .ok (.aload_n 0, 1) := by decide +kernel
theorem dX8_set_62 : decode cX8_set 62 = .ok (.bipush 11, 2) := by decide +kernel
theorem dX8_set_64 : decode cX8_set 64 = .ok (.iconst 4, 1) := by decide +kernel
theorem dX8_set_65 : decode cX8_set 65 = .ok (.iload_n 1, 1) := by decide +kernel
theorem dX8_set_66 : decode cX8_set 66 = .ok (.imul, 1) := by decide +kernel
theorem dX8_set_67 : decode cX8_set 67 = .ok (.iadd, 1) := by decide +kernel
theorem dX8_set_68 : decode cX8_set 68 = .ok (.iload_n 2, 1) := by decide +kernel
theorem dX8_set_69 : decode cX8_set 69 = .ok (.iadd, 1) := by decide +kernel
theorem dX8_set_70 : decode cX8_set 70 = .ok (.iload_n 3, 1) := by decide +kernel
theorem dX8_set_71 : decode cX8_set 71 = .ok (.invokevirtual 51, 3) := by decide +kernel
theorem dX8_set_74 : decode cX8_set 74 = .ok (.goto 9, 3) := by decide +kernel
theorem dX8_set_77 : decode cX8_set 77 = .ok (.aload_n 0, 1) := by decide +kernel
theorem dX8_set_78 : decode cX8_set 78 = .ok (.ldc 41, 2) := by decide +kernel
theorem dX8_set_80 : decode cX8_set 80 = .ok (.invokevirtual 43, 3) := by decide +kernel
theorem dX8_set_83 : decode cX8_set 83 = .ok (.ireturn, 1) := by decide +kernel
theorem dX8_turn_0 : decode cX8_turn 0 = .ok (.aload_n 0, 1) := by decide +kernel
theorem dX8_turn_1 : decode cX8_turn 1 = .ok (.iload_n 1, 1) := by decide +kernel
theorem dX8_turn_2 : decode cX8_turn 2 = .ok (.invokevirtual 97, 3) := by decide +kernel
theorem dX8_turn_5 : decode cX8_turn 5 = .ok (.ifCond .eq 27, 3) := by decide +kernel
theorem dX8_turn_8 : decode cX8_turn 8 = .ok (.iload_n 2, 1) := by decide +kernel
theorem dX8_turn_9 : decode cX8_turn 9 = .ok (.i2l, 1) := by decide +kernel
theorem dX8_turn_10 : decode cX8_turn 10 = .ok (.iconst 0, 1) := by decide +kernel
theorem dX8_turn_11 : decode cX8_turn 11 = .ok (.iconst 5, 1) := by decide +kernel
theorem dX8_turn_12 : decode cX8_turn 12 = .ok (.invokestatic 47, 3) := by decide +kernel
theorem dX8_turn_15 : decode cX8_turn 15 = .ok (.ifCond .eq 17, 3) := by decide +kernel
theorem dX8_turn_18 : decode cX8_turn 18 = .ok (.aload_n 0, 1) := by decide +kernel
theorem dX8_turn_19 : decode cX8_turn 19 = .ok (.bipush 11, 2) := by decide +kernel
theorem dX8_turn_21 : decode cX8_turn 21 = .ok (.iconst 4, 1) := by decide +kernel
theorem dX8_turn_22 : decode cX8_turn 22 = .ok (.iload_n 1, 1) := by decide +kernel
theorem dX8_turn_23 : decode cX8_turn 23 = .ok (.imul, 1) := by decide +kernel
theorem dX8_turn_24 : decode cX8_turn 24 = .ok (.iadd, 1) := by decide +kernel
theorem dX8_turn_25 : decode cX8_turn 25 = .ok (.iload_n 2, 1) := by decide +kernel
theorem dX8_turn_26 : decode cX8_turn 26 = .ok (.invokevirtual 51, 3) := by decide +kernel
theorem dX8_turn_29 : decode cX8_turn 29 = .ok (.goto 9, 3) := by decide +kernel
theorem dX8_turn_32 : decode cX8_turn 32 = .ok (.aload_n 0, 1) := by decide +kernel
theorem dX8_turn_33 : decode cX8_turn 33 = .ok (.ldc 41, 2) := by decide +kernel
theorem dX8_turn_35 : decode cX8_turn 35 = .ok (.invokevirtual 43, 3) := by decide +kernel
theorem dX8_turn_38 : decode cX8_turn 38 = .ok (.ireturn, 1) := by decide +kernel
theorem dX8_as_0 : decode cX8_as 0 = .ok (.aload_n 0, 1) := by decide +kernel
theorem dX8_as_1 : decode cX8_as 1 = .ok (.iload_n 1, 1) := by decide +kernel
theorem dX8_as_2 : decode cX8_as 2 = .ok (.invokevirtual 97, 3) := by decide +kernel
theorem dX8_as_5 : decode cX8_as 5 = .ok (.ifCond .eq 13, 3) := by decide +kernel
theorem dX8_as_8 : decode cX8_as 8 = .ok (.iload_n 2, 1) := by decide +kernel
theorem dX8_as_9 : decode cX8_as 9 = .ok (.i2l, 1) := by decide +kernel
theorem dX8_as_10 : decode cX8_as 10 = .ok (.iconst 0, 1) := by decide +kernel
theorem dX8_as_11 : decode cX8_as 11 = .ok (.iconst 5, 1) := by decide +kernel
theorem dX8_as_12 : decode cX8_as 12 = .ok (.invokestatic 47, 3) := by decide +kernel
theorem dX8_as_15 : decode cX8_as 15 = .ok (.ifCond .ne 10, 3) := by decide +kernel
theorem dX8_as_18 : decode cX8_as 18 = .ok (.aload_n 0, 1) := by decide +kernel
theorem dX8_as_19 : decode cX8_as 19 = .ok (.ldc 41, 2) := by decide +kernel
theorem dX8_as_21 : decode cX8_as 21 = .ok (.invokevirtual 43, 3) := by decide +kernel
theorem dX8_as_24 : decode cX8_as 24 = .ok (.ireturn, 1) := by decide +kernel
theorem dX8_as_25 : decode cX8_as 25 = .ok (.aload_n 0, 1) := by decide +kernel
theorem dX8_as_26 : decode cX8_as 26 = .ok (.iload_n 1, 1) := by decide +kernel
theorem dX8_as_27 : decode cX8_as 27 = .ok (.iconst 0, 1) := by decide +kernel
theorem dX8_as_28 : decode cX8_as 28 = .ok (.invokevirtual 75, 3) := by decide +kernel
theorem dX8_as_31 : decode cX8_as 31 = .ok (.istore_n 3, 1) := by decide +kernel
theorem dX8_as_32 : decode cX8_as 32 = .ok (.iload_n 2, 1) := by decide +kernel
theorem dX8_as_33 : decode cX8_as 33 = .ok (.ifCond .eq 28, 3) := by decide +kernel
theorem dX8_as_36 : decode cX8_as 36 = .ok (.iload_n 2, 1) := by decide +kernel
theorem dX8_as_37 : decode cX8_as 37 = .ok (.iload_n 3, 1) := by decide +kernel
theorem dX8_as_38 : decode cX8_as 38 = .ok (.if_icmp .eq 23, 3) := by decide +kernel
theorem dX8_as_41 : decode cX8_as 41 = .ok (.iload_n 2, 1) := by decide +kernel
theorem dX8_as_42 : decode cX8_as 42 = .ok (.iconst 1, 1) := by decide +kernel
theorem dX8_as_43 : decode cX8_as 43 = .ok (.if_icmp .ne 8, 3) := by decide +kernel
theorem dX8_as_46 : decode cX8_as 46 = .ok (.iload_n 3, 1) := by decide +kernel
theorem dX8_as_47 : decode cX8_as 47 = .ok (.iconst 4, 1) := by decide +kernel
theorem dX8_as_48 : decode cX8_as 48 = .ok (.if_icmp .eq 13, 3) := by decide +kernel
theorem dX8_as_51 : decode cX8_as 51 = .ok (.iload_n 2, 1) := by decide +kernel
theorem dX8_as_52 : decode cX8_as 52 = .ok (.iconst 2, 1) := by decide +kernel
theorem dX8_as_53 : decode cX8_as 53 = .ok (.if_icmp .ne 12, 3) := by decide +kernel
theorem dX8_as_56 : decode cX8_as 56 = .ok (.iload_n 3, 1) := by decide +kernel
theorem dX8_as_57 : decode cX8_as 57 = .ok (.iconst 5, 1) := by decide +kernel
theorem dX8_as_58 : decode cX8_as 58 = .ok (.if_icmp .ne 7, 3) := by decide +kernel
theorem dX8_as_61 : decode cX8_as 61 = .ok (.iconst 1, 1) := by decide +kernel
theorem dX8_as_62 : decode cX8_as 62 = .ok (.goto 4, 3) := by decide +kernel
theorem dX8_as_65 : decode cX8_as 65 = .ok (.iconst 0, 1) := by decide +kernel
theorem dX8_as_66 : decode cX8_as 66 = .ok (.istore 4, 2) := by decide +kernel
theorem dX8_as_68 : decode cX8_as 68 = .ok (.iload 4, 2) := by decide +kernel
theorem dX8_as_70 : decode cX8_as 70 = .ok (.ifCond .eq 12, 3) := by decide +kernel
theorem dX8_as_73 : decode cX8_as 73 = .ok (.aload_n 0, 1) := by decide +kernel
theorem dX8_as_74 : decode cX8_as 74 = .ok (.iload_n 1, 1) := by decide +kernel
theorem dX8_as_75 : decode cX8_as 75 = .ok (.iconst 3, 1) := by decide +kernel
theorem dX8_as_76 : decode cX8_as 76 = .ok (.invokevirtual 75, 3) := by decide +kernel
theorem dX8_as_79 : decode cX8_as 79 = .ok (.goto 9, 3) := by decide +kernel
theorem dX8_as_82 : decode cX8_as 82 = .ok (.aload_n 0, 1) := by decide +kernel
theorem dX8_as_83 : decode cX8_as 83 = .ok (.ldc 104, 2) := by decide +kernel
theorem dX8_as_85 : decode cX8_as 85 = .ok (.invokevirtual 43, 3) := by decide +kernel
theorem dX8_as_88 : decode cX8_as 88 = .ok (.ireturn, 1) := by decide +kernel
theorem dX8_goes_0 : decode cX8_goes 0 = .ok (.iconst 0, 1) := by decide +kernel
theorem dX8_goes_1 : decode cX8_goes 1 = .ok (.istore_n 2, 1) := by decide +kernel
theorem dX8_goes_2 : decode cX8_goes 2 = .ok (.iload_n 2, 1) := by decide +kernel
theorem dX8_goes_3 : decode cX8_goes 3 = .ok (.aload_n 0, 1) := by decide +kernel
theorem dX8_goes_4 : decode cX8_goes 4 = .ok (.getfield 9, 3) := by decide +kernel
theorem dX8_goes_7 : decode cX8_goes 7 = .ok (.iconst 3, 1) := by decide +kernel
theorem dX8_goes_8 : decode cX8_goes 8 = .ok (.iaload, 1) := by decide +kernel
theorem dX8_goes_9 : decode cX8_goes 9 = .ok (.if_icmp .ge 52, 3) := by decide +kernel
theorem dX8_goes_12 : decode cX8_goes 12 = .ok (.aload_n 0, 1) := by decide +kernel
theorem dX8_goes_13 : decode cX8_goes 13 = .ok (.iload_n 2, 1) := by decide +kernel
theorem dX8_goes_14 : decode cX8_goes 14 = .ok (.iconst 3, 1) := by decide +kernel
theorem dX8_goes_15 : decode cX8_goes 15 = .ok (.aload_n 0, 1) := by decide +kernel
theorem dX8_goes_16 : decode cX8_goes 16 = .ok (.iload_n 2, 1) := by decide +kernel
theorem dX8_goes_17 : decode cX8_goes 17 = .ok (.iconst 3, 1) := by decide +kernel
theorem dX8_goes_18 : decode cX8_goes 18 = .ok (.invokevirtual 75, 3) := by decide +kernel
theorem dX8_goes_21 : decode cX8_goes 21 = .ok (.aload_n 0, 1) := by decide +kernel
theorem dX8_goes_22 : decode cX8_goes 22 = .ok (.iload_n 2, 1) := by decide +kernel
theorem dX8_goes_23 : decode cX8_goes 23 = .ok (.iload_n 1, 1) := by decide +kernel
theorem dX8_goes_24 : decode cX8_goes 24 = .ok (.invokevirtual 100, 3) := by decide +kernel
theorem dX8_goes_27 : decode cX8_goes 27 = .ok (.iadd, 1) := by decide +kernel
theorem dX8_goes_28 : decode cX8_goes 28 = .ok (.iconst 0, 1) := by decide +kernel
theorem dX8_goes_29 : decode cX8_goes 29 = .ok (.ldc 103, 2) := by decide +kernel
theorem dX8_goes_31 : decode cX8_goes 31 = .ok (.invokestatic 81, 3) := by decide +kernel
theorem dX8_goes_34 : decode cX8_goes 34 = .ok (.invokevirtual 89, 3) := by decide +kernel
theorem dX8_goes_37 : decode cX8_goes 37 = .ok (.aload_n 0, 1) := by decide +kernel
theorem dX8_goes_38 : decode cX8_goes 38 = .ok (.iload_n 2, 1) := by decide +kernel
theorem dX8_goes_39 : decode cX8_goes 39 = .ok (.iconst 1, 1) := by decide +kernel
theorem dX8_goes_40 : decode cX8_goes 40 = .ok (.aload_n 0, 1) := by decide +kernel
theorem dX8_goes_41 : decode cX8_goes 41 = .ok (.iload_n 2, 1) := by decide +kernel
theorem dX8_goes_42 : decode cX8_goes 42 = .ok (.aload_n 0, 1) := by decide +kernel
theorem dX8_goes_43 : decode cX8_goes 43 = .ok (.iload_n 2, 1) := by decide +kernel
theorem dX8_goes_44 : decode cX8_goes 44 = .ok (.iconst 1, 1) := by decide +kernel
theorem dX8_goes_45 : decode cX8_goes 45 = .ok (.invokevirtual 75, 3) := by decide +kernel
theorem dX8_goes_48 : decode cX8_goes 48 = .ok (.iload_n 1, 1) := by decide +kernel
theorem dX8_goes_49 : decode cX8_goes 49 = .ok (.invokevirtual 105, 3) := by decide +kernel
theorem dX8_goes_52 : decode cX8_goes 52 = .ok (.invokevirtual 89, 3) := by decide +kernel
theorem dX8_goes_55 : decode cX8_goes 55 = .ok (.iinc 2 1, 3) := by decide +kernel
theorem dX8_goes_58 : decode cX8_goes 58 = .ok (.goto (-56), 3) := by decide +kernel
theorem dX8_goes_61 : decode cX8_goes 61 = .ok (.aload_n 0, 1) := by decide +kernel
theorem dX8_goes_62 : decode cX8_goes 62 = .ok (.getfield 9, 3) := by decide +kernel
theorem dX8_goes_65 : decode cX8_goes 65 = .ok (.iconst 0, 1) := by decide +kernel
theorem dX8_goes_66 : decode cX8_goes 66 = .ok (.dup2, 1) := by decide +kernel
theorem dX8_goes_67 : decode cX8_goes 67 = .ok (.iaload, 1) := by decide +kernel
theorem dX8_goes_68 : decode cX8_goes 68 = .ok (.iconst 1, 1) := by decide +kernel
theorem dX8_goes_69 : decode cX8_goes 69 = .ok (.iadd, 1) := by decide +kernel
theorem dX8_goes_70 : decode cX8_goes 70 = .ok (.iastore, 1) := by decide +kernel
theorem dX8_goes_71 : decode cX8_goes 71 = .ok (.return_, 1) := by decide +kernel
theorem dX8_day_0 : decode cX8_day 0 = .ok (.aload_n 0, 1) := by decide +kernel
theorem dX8_day_1 : decode cX8_day 1 = .ok (.aload_n 0, 1) := by decide +kernel
theorem dX8_day_2 : decode cX8_day 2 = .ok (.aload_n 0, 1) := by decide +kernel
theorem dX8_day_3 : decode cX8_day 3 = .ok (.getfield 9, 3) := by decide +kernel
theorem dX8_day_6 : decode cX8_day 6 = .ok (.iconst 0, 1) := by decide +kernel
theorem dX8_day_7 : decode cX8_day 7 = .ok (.iaload, 1) := by decide +kernel
theorem dX8_day_8 : decode cX8_day 8 = .ok (.invokevirtual 63, 3) := by decide +kernel
theorem dX8_day_11 : decode cX8_day 11 = .ok (.invokevirtual 108, 3) := by decide +kernel
theorem dX8_day_14 : decode cX8_day 14 = .ok (.return_, 1) := by decide +kernel
theorem dX8_sums_0 : decode cX8_sums 0 = .ok (.iconst 0, 1) := by decide +kernel
theorem dX8_sums_1 : decode cX8_sums 1 = .ok (.istore_n 1, 1) := by decide +kernel
theorem dX8_sums_2 : decode cX8_sums 2 = .ok (.iconst 0, 1) := by decide +kernel
theorem dX8_sums_3 : decode cX8_sums 3 = .ok (.istore_n 2, 1) := by decide +kernel
theorem dX8_sums_4 : decode cX8_sums 4 = .ok (.iload_n 2, 1) := by decide +kernel
theorem dX8_sums_5 : decode cX8_sums 5 = .ok (.aload_n 0, 1) := by decide +kernel
theorem dX8_sums_6 : decode cX8_sums 6 = .ok (.getfield 9, 3) := by decide +kernel
theorem dX8_sums_9 : decode cX8_sums 9 = .ok (.iconst 3, 1) := by decide +kernel
theorem dX8_sums_10 : decode cX8_sums 10 = .ok (.iaload, 1) := by decide +kernel
theorem dX8_sums_11 : decode cX8_sums 11 = .ok (.if_icmp .ge 18, 3) := by decide +kernel
theorem dX8_sums_14 : decode cX8_sums 14 = .ok (.iload_n 1, 1) := by decide +kernel
theorem dX8_sums_15 : decode cX8_sums 15 = .ok (.aload_n 0, 1) := by decide +kernel
theorem dX8_sums_16 : decode cX8_sums 16 = .ok (.iload_n 2, 1) := by decide +kernel
theorem dX8_sums_17 : decode cX8_sums 17 = .ok (.iconst 3, 1) := by decide +kernel
theorem dX8_sums_18 : decode cX8_sums 18 = .ok (.invokevirtual 75, 3) := by decide +kernel
theorem dX8_sums_21 : decode cX8_sums 21 = .ok (.iadd, 1) := by decide +kernel
theorem dX8_sums_22 : decode cX8_sums 22 = .ok (.istore_n 1, 1) := by decide +kernel
theorem dX8_sums_23 : decode cX8_sums 23 = .ok (.iinc 2 1, 3) := by decide +kernel
theorem dX8_sums_26 : decode cX8_sums 26 = .ok (.goto (-22), 3) := by decide +kernel
theorem dX8_sums_29 : decode cX8_sums 29 = .ok (.iload_n 1, 1) := by decide +kernel
theorem dX8_sums_30 : decode cX8_sums 30 = .ok (.ireturn, 1) := by decide +kernel
theorem dX8_days_0 : decode cX8_days 0 = .ok (.iload_n 1, 1) := by decide +kernel
theorem dX8_days_1 : decode cX8_days 1 = .ok (.i2l, 1) := by decide +kernel
theorem dX8_days_2 : decode cX8_days 2 = .ok (.iconst 1, 1) := by decide +kernel
theorem dX8_days_3 : decode cX8_days 3 = .ok (.bipush 60, 2) := by decide +kernel
theorem dX8_days_5 : decode cX8_days 5 = .ok (.invokestatic 47, 3) := by decide +kernel
theorem dX8_days_8 : decode cX8_days 8 = .ok (.ifCond .ne 10, 3) := by decide +kernel
theorem dX8_days_11 : decode cX8_days 11 = .ok (.aload_n 0, 1) := by decide +kernel
theorem dX8_days_12 : decode cX8_days 12 = .ok (.ldc 41, 2) := by decide +kernel
theorem dX8_days_14 : decode cX8_days 14 = .ok (.invokevirtual 43, 3) := by decide +kernel
theorem dX8_days_17 : decode cX8_days 17 = .ok (.ireturn, 1) := by decide +kernel
theorem dX8_days_18 : decode cX8_days 18 = .ok (.aload_n 0, 1) := by decide +kernel
theorem dX8_days_19 : decode cX8_days 19 = .ok (.getfield 9, 3) := by decide +kernel
theorem dX8_days_22 : decode cX8_days 22 = .ok (.iconst 0, 1) := by decide +kernel
theorem dX8_days_23 : decode cX8_days 23 = .ok (.iaload, 1) := by decide +kernel
theorem dX8_days_24 : decode cX8_days 24 = .ok (.iload_n 1, 1) := by decide +kernel
theorem dX8_days_25 : decode cX8_days 25 = .ok (.iadd, 1) := by decide +kernel
theorem dX8_days_26 : decode cX8_days 26 = .ok (.sipush 9999, 3) := by decide +kernel
theorem dX8_days_29 : decode cX8_days 29 = .ok (.if_icmp .le 10, 3) := by decide +kernel
theorem dX8_days_32 : decode cX8_days 32 = .ok (.aload_n 0, 1) := by decide +kernel
theorem dX8_days_33 : decode cX8_days 33 = .ok (.ldc 112, 2) := by decide +kernel
theorem dX8_days_35 : decode cX8_days 35 = .ok (.invokevirtual 43, 3) := by decide +kernel
theorem dX8_days_38 : decode cX8_days 38 = .ok (.ireturn, 1) := by decide +kernel
theorem dX8_days_39 : decode cX8_days 39 = .ok (.iconst 0, 1) := by decide +kernel
theorem dX8_days_40 : decode cX8_days 40 = .ok (.istore_n 2, 1) := by decide +kernel
theorem dX8_days_41 : decode cX8_days 41 = .ok (.iload_n 2, 1) := by decide +kernel
theorem dX8_days_42 : decode cX8_days 42 = .ok (.iload_n 1, 1) := by decide +kernel
theorem dX8_days_43 : decode cX8_days 43 = .ok (.if_icmp .ge 13, 3) := by decide +kernel
theorem dX8_days_46 : decode cX8_days 46 = .ok (.aload_n 0, 1) := by decide +kernel
theorem dX8_days_47 : decode cX8_days 47 = .ok (.invokevirtual 113, 3) := by decide +kernel
theorem dX8_days_50 : decode cX8_days 50 = .ok (.iinc 2 1, 3) := by decide +kernel
theorem dX8_days_53 : decode cX8_days 53 = .ok (.goto (-12), 3) := by decide +kernel
theorem dX8_days_56 : decode cX8_days 56 = .ok (.aload_n 0, 1) := by decide +kernel
theorem dX8_days_57 : decode cX8_days 57 = .ok (.invokevirtual 116, 3) := by decide +kernel
theorem dX8_days_60 : decode cX8_days 60 = .ok (.ireturn, 1) := by decide +kernel
theorem dX8_bribe_0 : decode cX8_bribe 0 = .ok (.iload_n 1, 1) := by decide +kernel
theorem dX8_bribe_1 : decode cX8_bribe 1 = .ok (.invokestatic 55, 3) := by decide +kernel
theorem dX8_bribe_4 : decode cX8_bribe 4 = .ok (.ifCond .ne 10, 3) := by decide +kernel
theorem dX8_bribe_7 : decode cX8_bribe 7 = .ok (.aload_n 0, 1) := by decide +kernel
theorem dX8_bribe_8 : decode cX8_bribe 8 = .ok (.ldc 41, 2) := by decide +kernel
theorem dX8_bribe_10 : decode cX8_bribe 10 = .ok (.invokevirtual 43, 3) := by decide +kernel
theorem dX8_bribe_13 : decode cX8_bribe 13 = .ok (.ireturn, 1) := by decide +kernel
theorem dX8_bribe_14 : decode cX8_bribe 14 = .ok (.aload_n 0, 1) := by decide +kernel
theorem dX8_bribe_15 : decode cX8_bribe 15 = .ok (.getfield 9, 3) := by decide +kernel
theorem dX8_bribe_18 : decode cX8_bribe 18 = .ok (.iconst 0, 1) := by decide +kernel
theorem dX8_bribe_19 : decode cX8_bribe 19 = .ok (.iaload, 1) := by decide +kernel
theorem dX8_bribe_20 : decode cX8_bribe 20 = .ok (.sipush 9999, 3) := by decide +kernel
theorem dX8_bribe_23 : decode cX8_bribe 23 = .ok (.if_icmp .ne 10, 3) := by decide +kernel
theorem dX8_bribe_26 : decode cX8_bribe 26 = .ok (.aload_n 0, 1) := by decide +kernel
theorem dX8_bribe_27 : decode cX8_bribe 27 = .ok (.ldc 112, 2) := by decide +kernel
theorem dX8_bribe_29 : decode cX8_bribe 29 = .ok (.invokevirtual 43, 3) := by decide +kernel
theorem dX8_bribe_32 : decode cX8_bribe 32 = .ok (.ireturn, 1) := by decide +kernel
theorem dX8_bribe_33 : decode cX8_bribe 33 = .ok (.aload_n 0, 1) := by decide +kernel
theorem dX8_bribe_34 : decode cX8_bribe 34 = .ok (.iload_n 1, 1) := by decide +kernel
theorem dX8_bribe_35 : decode cX8_bribe 35 = .ok (.invokevirtual 108, 3) := by decide +kernel
theorem dX8_bribe_38 : decode cX8_bribe 38 = .ok (.aload_n 0, 1) := by decide +kernel
theorem dX8_bribe_39 : decode cX8_bribe 39 = .ok (.invokevirtual 116, 3) := by decide +kernel
theorem dX8_bribe_42 : decode cX8_bribe 42 = .ok (.ireturn, 1) := by decide +kernel
theorem dX8_now_0 : decode cX8_now 0 = .ok (.iload_n 1, 1) := by decide +kernel
theorem dX8_now_1 : decode cX8_now 1 = .ok (.i2l, 1) := by decide +kernel
theorem dX8_now_2 : decode cX8_now 2 = .ok (.iconst 0, 1) := by decide +kernel
theorem dX8_now_3 : decode cX8_now 3 = .ok (.bipush 6, 2) := by decide +kernel
theorem dX8_now_5 : decode cX8_now 5 = .ok (.invokestatic 47, 3) := by decide +kernel
theorem dX8_now_8 : decode cX8_now 8 = .ok (.ifCond .ne 10, 3) := by decide +kernel
theorem dX8_now_11 : decode cX8_now 11 = .ok (.aload_n 0, 1) := by decide +kernel
theorem dX8_now_12 : decode cX8_now 12 = .ok (.ldc 41, 2) := by decide +kernel
theorem dX8_now_14 : decode cX8_now 14 = .ok (.invokevirtual 43, 3) := by decide +kernel
theorem dX8_now_17 : decode cX8_now 17 = .ok (.ireturn, 1) := by decide +kernel
theorem dX8_now_18 : decode cX8_now 18 = .ok (.aload_n 0, 1) := by decide +kernel
theorem dX8_now_19 : decode cX8_now 19 = .ok (.aload_n 0, 1) := by decide +kernel
theorem dX8_now_20 : decode cX8_now 20 = .ok (.getfield 9, 3) := by decide +kernel
theorem dX8_now_23 : decode cX8_now 23 = .ok (.iconst 0, 1) := by decide +kernel
theorem dX8_now_24 : decode cX8_now 24 = .ok (.iaload, 1) := by decide +kernel
theorem dX8_now_25 : decode cX8_now 25 = .ok (.invokevirtual 63, 3) := by decide +kernel
theorem dX8_now_28 : decode cX8_now 28 = .ok (.istore_n 2, 1) := by decide +kernel
theorem dX8_now_29 : decode cX8_now 29 = .ok (.iconst 0, 1) := by decide +kernel
theorem dX8_now_30 : decode cX8_now 30 = .ok (.istore_n 3, 1) := by decide +kernel
theorem dX8_now_31 : decode cX8_now 31 = .ok (.iconst 0, 1) := by decide +kernel
theorem dX8_now_32 : decode cX8_now 32 = .ok (.istore 4, 2) := by decide +kernel
theorem dX8_now_34 : decode cX8_now 34 = .ok (.iconst 0, 1) := by decide +kernel
theorem dX8_now_35 : decode cX8_now 35 = .ok (.istore 5, 2) := by decide +kernel
theorem dX8_now_37 : decode cX8_now 37 = .ok (.iload 5, 2) := by decide +kernel
theorem dX8_now_39 : decode cX8_now 39 = .ok (.aload_n 0, 1) := by decide +kernel
theorem dX8_now_40 : decode cX8_now 40 = .ok (.getfield 9, 3) := by decide +kernel
theorem dX8_now_43 : decode cX8_now 43 = .ok (.iconst 3, 1) := by decide +kernel
theorem dX8_now_44 : decode cX8_now 44 = .ok (.iaload, 1) := by decide +kernel
theorem dX8_now_45 : decode cX8_now 45 = .ok (.if_icmp .ge 42, 3) := by decide +kernel
theorem dX8_now_48 : decode cX8_now 48 = .ok (.iload_n 3, 1) := by decide +kernel
theorem dX8_now_49 : decode cX8_now 49 = .ok (.aload_n 0, 1) := by decide +kernel
theorem dX8_now_50 : decode cX8_now 50 = .ok (.iload 5, 2) := by decide +kernel
theorem dX8_now_52 : decode cX8_now 52 = .ok (.iload_n 2, 1) := by decide +kernel
theorem dX8_now_53 : decode cX8_now 53 = .ok (.invokevirtual 100, 3) := by decide +kernel
theorem dX8_now_56 : decode cX8_now 56 = .ok (.iadd, 1) := by decide +kernel
theorem dX8_now_57 : decode cX8_now 57 = .ok (.istore_n 3, 1) := by decide +kernel
theorem dX8_now_58 : decode cX8_now 58 = .ok (.iload 4, 2) := by decide +kernel
theorem dX8_now_60 : decode cX8_now 60 = .ok (.aload_n 0, 1) := by decide +kernel
theorem dX8_now_61 : decode cX8_now 61 = .ok (.iload 5, 2) := by decide +kernel
theorem dX8_now_63 : decode cX8_now 63 = .ok (.iload_n 2, 1) := by decide +kernel
theorem dX8_now_64 : decode cX8_now 64 = .ok (.invokevirtual 85, 3) := by decide +kernel
theorem dX8_now_67 : decode cX8_now 67 = .ok (.ifCond .eq 10, 3) := by decide +kernel
theorem dX8_now_70 : decode cX8_now 70 = .ok (.iconst 1, 1) := by decide +kernel
theorem dX8_now_71 : decode cX8_now 71 = .ok (.iload 5, 2) := by decide +kernel
theorem dX8_now_73 : decode cX8_now 73 = .ok (.ishl, 1) := by decide +kernel
theorem dX8_now_74 : decode cX8_now 74 = .ok (.goto 4, 3) := by decide +kernel
theorem dX8_now_77 : decode cX8_now 77 = .ok (.iconst 0, 1) := by decide +kernel
theorem dX8_now_78 : decode cX8_now 78 = .ok (.ior, 1) := by decide +kernel
theorem dX8_now_79 : decode cX8_now 79 = .ok (.istore 4, 2) := by decide +kernel
theorem dX8_now_81 : decode cX8_now 81 = .ok (.iinc 5 1, 3) := by decide +kernel
theorem dX8_now_84 : decode cX8_now 84 = .ok (.goto (-47), 3) := by decide +kernel
theorem dX8_now_87 : decode cX8_now 87 = .ok (.iload_n 1, 1) := by decide +kernel
theorem dX8_now_88 : decode cX8_now 88 = .ok (.tableswitch 67 0 5 #[40, 47, 49, 49, 60, 65], 40) := by decide +kernel
theorem dX8_now_128 : decode cX8_now 128 = .ok (.aload_n 0, 1) := by decide +kernel
theorem dX8_now_129 : decode cX8_now 129 = .ok (.getfield 9, 3) := by decide +kernel
theorem dX8_now_132 : decode cX8_now 132 = .ok (.iconst 0, 1) := by decide +kernel
theorem dX8_now_133 : decode cX8_now 133 = .ok (.iaload, 1) := by decide +kernel
theorem dX8_now_134 : decode cX8_now 134 = .ok (.ireturn, 1) := by decide +kernel
theorem dX8_now_135 : decode cX8_now 135 = .ok (.iload_n 2, 1) := by decide +kernel
theorem dX8_now_136 : decode cX8_now 136 = .ok (.ireturn, 1) := by decide +kernel
theorem dX8_now_137 : decode cX8_now 137 = .ok (.aload_n 0, 1) := by decide +kernel
theorem dX8_now_138 : decode cX8_now 138 = .ok (.getfield 9, 3) := by decide +kernel
theorem dX8_now_141 : decode cX8_now 141 = .ok (.iconst 1, 1) := by decide +kernel
theorem dX8_now_142 : decode cX8_now 142 = .ok (.iload_n 1, 1) := by decide +kernel
theorem dX8_now_143 : decode cX8_now 143 = .ok (.iadd, 1) := by decide +kernel
theorem dX8_now_144 : decode cX8_now 144 = .ok (.iconst 2, 1) := by decide +kernel
theorem dX8_now_145 : decode cX8_now 145 = .ok (.isub, 1) := by decide +kernel
theorem dX8_now_146 : decode cX8_now 146 = .ok (.iaload, 1) := by decide +kernel
theorem dX8_now_147 : decode cX8_now 147 = .ok (.ireturn, 1) := by decide +kernel
theorem dX8_now_148 : decode cX8_now 148 = .ok (.aload_n 0, 1) := by decide +kernel
theorem dX8_now_149 : decode cX8_now 149 = .ok (.invokevirtual 116, 3) := by decide +kernel
theorem dX8_now_152 : decode cX8_now 152 = .ok (.ireturn, 1) := by decide +kernel
theorem dX8_now_153 : decode cX8_now 153 = .ok (.iload_n 3, 1) := by decide +kernel
theorem dX8_now_154 : decode cX8_now 154 = .ok (.ireturn, 1) := by decide +kernel
theorem dX8_now_155 : decode cX8_now 155 = .ok (.iload 4, 2) := by decide +kernel
theorem dX8_now_157 : decode cX8_now 157 = .ok (.ireturn, 1) := by decide +kernel
theorem dX8_thinks_0 : decode cX8_thinks 0 = .ok (.aload_n 0, 1) := by decide +kernel
theorem dX8_thinks_1 : decode cX8_thinks 1 = .ok (.getfield 9, 3) := by decide +kernel
theorem dX8_thinks_4 : decode cX8_thinks 4 = .ok (.aload_n 0, 1) := by decide +kernel
theorem dX8_thinks_5 : decode cX8_thinks 5 = .ok (.getfield 16, 3) := by decide +kernel
theorem dX8_thinks_8 : decode cX8_thinks 8 = .ok (.invokestatic 120, 3) := by decide +kernel
theorem dX8_thinks_11 : decode cX8_thinks 11 = .ok (.return_, 1) := by decide +kernel
theorem dX8_putsBack_0 : decode cX8_putsBack 0 = .ok (.aload_n 0, 1) := by decide +kernel
theorem dX8_putsBack_1 : decode cX8_putsBack 1 = .ok (.getfield 16, 3) := by decide +kernel
theorem dX8_putsBack_4 : decode cX8_putsBack 4 = .ok (.aload_n 0, 1) := by decide +kernel
theorem dX8_putsBack_5 : decode cX8_putsBack 5 = .ok (.getfield 9, 3) := by decide +kernel
theorem dX8_putsBack_8 : decode cX8_putsBack 8 = .ok (.invokestatic 120, 3) := by decide +kernel
theorem dX8_putsBack_11 : decode cX8_putsBack 11 = .ok (.return_, 1) := by decide +kernel
theorem dX8_on_0 : decode cX8_on 0 = .ok (.aload_n 0, 1) := by decide +kernel
theorem dX8_on_1 : decode cX8_on 1 = .ok (.iload_n 1, 1) := by decide +kernel
theorem dX8_on_2 : decode cX8_on 2 = .ok (.invokevirtual 97, 3) := by decide +kernel
theorem dX8_on_5 : decode cX8_on 5 = .ok (.ifCond .eq 24, 3) := by decide +kernel
theorem dX8_on_8 : decode cX8_on 8 = .ok (.iload_n 2, 1) := by decide +kernel
theorem dX8_on_9 : decode cX8_on 9 = .ok (.i2l, 1) := by decide +kernel
theorem dX8_on_10 : decode cX8_on 10 = .ok (.iconst 0, 1) := by decide +kernel
theorem dX8_on_11 : decode cX8_on 11 = .ok (.bipush 60, 2) := by decide +kernel
theorem dX8_on_13 : decode cX8_on 13 = .ok (.invokestatic 47, 3) := by decide +kernel
theorem dX8_on_16 : decode cX8_on 16 = .ok (.ifCond .eq 13, 3) := by decide +kernel
theorem dX8_on_19 : decode cX8_on 19 = .ok (.iload_n 3, 1) := by decide +kernel
theorem dX8_on_20 : decode cX8_on 20 = .ok (.i2l, 1) := by decide +kernel
theorem dX8_on_21 : decode cX8_on 21 = .ok (.iconst 0, 1) := by decide +kernel
theorem dX8_on_22 : decode cX8_on 22 = .ok (.iconst 1, 1) := by decide +kernel
theorem dX8_on_23 : decode cX8_on 23 = .ok (.invokestatic 47, 3) := by decide +kernel
theorem dX8_on_26 : decode cX8_on 26 = .ok (.ifCond .ne 10, 3) := by decide +kernel
theorem dX8_on_29 : decode cX8_on 29 = .ok (.aload_n 0, 1) := by decide +kernel
theorem dX8_on_30 : decode cX8_on 30 = .ok (.ldc 41, 2) := by decide +kernel
theorem dX8_on_32 : decode cX8_on 32 = .ok (.invokevirtual 43, 3) := by decide +kernel
theorem dX8_on_35 : decode cX8_on 35 = .ok (.ireturn, 1) := by decide +kernel
theorem dX8_on_36 : decode cX8_on 36 = .ok (.aload_n 0, 1) := by decide +kernel
theorem dX8_on_37 : decode cX8_on 37 = .ok (.invokevirtual 124, 3) := by decide +kernel
theorem dX8_on_40 : decode cX8_on 40 = .ok (.iconst 0, 1) := by decide +kernel
theorem dX8_on_41 : decode cX8_on 41 = .ok (.istore 4, 2) := by decide +kernel
theorem dX8_on_43 : decode cX8_on 43 = .ok (.iload 4, 2) := by decide +kernel
theorem dX8_on_45 : decode cX8_on 45 = .ok (.iload_n 2, 1) := by decide +kernel
theorem dX8_on_46 : decode cX8_on 46 = .ok (.if_icmp .ge 13, 3) := by decide +kernel
theorem dX8_on_49 : decode cX8_on 49 = .ok (.aload_n 0, 1) := by decide +kernel
theorem dX8_on_50 : decode cX8_on 50 = .ok (.invokevirtual 113, 3) := by decide +kernel
theorem dX8_on_53 : decode cX8_on 53 = .ok (.iinc 4 1, 3) := by decide +kernel
theorem dX8_on_56 : decode cX8_on 56 = .ok (.goto (-13), 3) := by decide +kernel
theorem dX8_on_59 : decode cX8_on 59 = .ok (.aload_n 0, 1) := by decide +kernel
theorem dX8_on_60 : decode cX8_on 60 = .ok (.iload_n 1, 1) := by decide +kernel
theorem dX8_on_61 : decode cX8_on 61 = .ok (.iload_n 3, 1) := by decide +kernel
theorem dX8_on_62 : decode cX8_on 62 = .ok (.ifCond .ne 7, 3) := by decide +kernel
theorem dX8_on_65 : decode cX8_on 65 = .ok (.iconst 1, 1) := by decide +kernel
theorem dX8_on_66 : decode cX8_on 66 = .ok (.goto 4, 3) := by decide +kernel
theorem dX8_on_69 : decode cX8_on 69 = .ok (.iconst 3, 1) := by decide +kernel
theorem dX8_on_70 : decode cX8_on 70 = .ok (.invokevirtual 75, 3) := by decide +kernel
theorem dX8_on_73 : decode cX8_on 73 = .ok (.istore 4, 2) := by decide +kernel
theorem dX8_on_75 : decode cX8_on 75 = .ok (.aload_n 0, 1) := by decide +kernel
theorem dX8_on_76 : decode cX8_on 76 = .ok (.invokevirtual 127, 3) := by decide +kernel
theorem dX8_on_79 : decode cX8_on 79 = .ok (.iload 4, 2) := by decide +kernel
theorem dX8_on_81 : decode cX8_on 81 = .ok (.ireturn, 1) := by decide +kernel
theorem dX8_comes_0 : decode cX8_comes 0 = .ok (.aload_n 0, 1) := by decide +kernel
theorem dX8_comes_1 : decode cX8_comes 1 = .ok (.iload_n 1, 1) := by decide +kernel
theorem dX8_comes_2 : decode cX8_comes 2 = .ok (.invokevirtual 97, 3) := by decide +kernel
theorem dX8_comes_5 : decode cX8_comes 5 = .ok (.ifCond .eq 10, 3) := by decide +kernel
theorem dX8_comes_8 : decode cX8_comes 8 = .ok (.iload_n 2, 1) := by decide +kernel
theorem dX8_comes_9 : decode cX8_comes 9 = .ok (.invokestatic 66, 3) := by decide +kernel
theorem dX8_comes_12 : decode cX8_comes 12 = .ok (.ifCond .ne 10, 3) := by decide +kernel
theorem dX8_comes_15 : decode cX8_comes 15 = .ok (.aload_n 0, 1) := by decide +kernel
theorem dX8_comes_16 : decode cX8_comes 16 = .ok (.ldc 41, 2) := by decide +kernel
theorem dX8_comes_18 : decode cX8_comes 18 = .ok (.invokevirtual 43, 3) := by decide +kernel
theorem dX8_comes_21 : decode cX8_comes 21 = .ok (.ireturn, 1) := by decide +kernel
theorem dX8_comes_22 : decode cX8_comes 22 = .ok (.aload_n 0, 1) := by decide +kernel
theorem dX8_comes_23 : decode cX8_comes 23 = .ok (.invokevirtual 124, 3) := by decide +kernel
theorem dX8_comes_26 : decode cX8_comes 26 = .ok (.iconst 0, 1) := by decide +kernel
theorem dX8_comes_27 : decode cX8_comes 27 = .ok (.istore_n 3, 1) := by decide +kernel
theorem dX8_comes_28 : decode cX8_comes 28 = .ok (.iload_n 3, 1) := by decide +kernel
theorem dX8_comes_29 : decode cX8_comes 29 = .ok (.bipush 60, 2) := by decide +kernel
theorem dX8_comes_31 : decode cX8_comes 31 = .ok (.if_icmp .gt 23, 3) := by decide +kernel
theorem dX8_comes_34 : decode cX8_comes 34 = .ok (.aload_n 0, 1) := by decide +kernel
theorem dX8_comes_35 : decode cX8_comes 35 = .ok (.iload_n 1, 1) := by decide +kernel
theorem dX8_comes_36 : decode cX8_comes 36 = .ok (.iconst 1, 1) := by decide +kernel
theorem dX8_comes_37 : decode cX8_comes 37 = .ok (.invokevirtual 75, 3) := by decide +kernel
theorem dX8_comes_40 : decode cX8_comes 40 = .ok (.iload_n 2, 1) := by decide +kernel
theorem dX8_comes_41 : decode cX8_comes 41 = .ok (.if_icmp .eq 13, 3) := by decide +kernel
theorem dX8_comes_44 : decode cX8_comes 44 = .ok (.aload_n 0, 1) := by decide +kernel
theorem dX8_comes_45 : decode cX8_comes 45 = .ok (.invokevirtual 113, 3) := by decide +kernel
theorem dX8_comes_48 : decode cX8_comes 48 = .ok (.iinc 3 1, 3) := by decide +kernel
theorem dX8_comes_51 : decode cX8_comes 51 = .ok (.goto (-23), 3) := by decide +kernel
theorem dX8_comes_54 : decode cX8_comes 54 = .ok (.aload_n 0, 1) := by decide +kernel
theorem dX8_comes_55 : decode cX8_comes 55 = .ok (.invokevirtual 127, 3) := by decide +kernel
theorem dX8_comes_58 : decode cX8_comes 58 = .ok (.iload_n 3, 1) := by decide +kernel
theorem dX8_comes_59 : decode cX8_comes 59 = .ok (.bipush 60, 2) := by decide +kernel
theorem dX8_comes_61 : decode cX8_comes 61 = .ok (.if_icmp .le 12, 3) := by decide +kernel
theorem dX8_comes_64 : decode cX8_comes 64 = .ok (.aload_n 0, 1) := by decide +kernel
theorem dX8_comes_65 : decode cX8_comes 65 = .ok (.ldc 42, 2) := by decide +kernel
theorem dX8_comes_67 : decode cX8_comes 67 = .ok (.invokevirtual 43, 3) := by decide +kernel
theorem dX8_comes_70 : decode cX8_comes 70 = .ok (.goto 4, 3) := by decide +kernel
theorem dX8_comes_73 : decode cX8_comes 73 = .ok (.iload_n 3, 1) := by decide +kernel
theorem dX8_comes_74 : decode cX8_comes 74 = .ok (.ireturn, 1) := by decide +kernel
theorem dX8_meet_0 : decode cX8_meet 0 = .ok (.aload_n 0, 1) := by decide +kernel
theorem dX8_meet_1 : decode cX8_meet 1 = .ok (.iload_n 1, 1) := by decide +kernel
theorem dX8_meet_2 : decode cX8_meet 2 = .ok (.invokevirtual 97, 3) := by decide +kernel
theorem dX8_meet_5 : decode cX8_meet 5 = .ok (.ifCond .eq 16, 3) := by decide +kernel
theorem dX8_meet_8 : decode cX8_meet 8 = .ok (.aload_n 0, 1) := by decide +kernel
theorem dX8_meet_9 : decode cX8_meet 9 = .ok (.iload_n 2, 1) := by decide +kernel
theorem dX8_meet_10 : decode cX8_meet 10 = .ok (.invokevirtual 97, 3) := by decide +kernel
theorem dX8_meet_13 : decode cX8_meet 13 = .ok (.ifCond .eq 8, 3) := by decide +kernel
theorem dX8_meet_16 : decode cX8_meet 16 = .ok (.iload_n 1, 1) := by decide +kernel
theorem dX8_meet_17 : decode cX8_meet 17 = .ok (.iload_n 2, 1) := by decide +kernel
theorem dX8_meet_18 : decode cX8_meet 18 = .ok (.if_icmp .ne 10, 3) := by decide +kernel
theorem dX8_meet_21 : decode cX8_meet 21 = .ok (.aload_n 0, 1) := by decide +kernel
theorem dX8_meet_22 : decode cX8_meet 22 = .ok (.ldc 41, 2) := by decide +kernel
theorem dX8_meet_24 : decode cX8_meet 24 = .ok (.invokevirtual 43, 3) := by decide +kernel
theorem dX8_meet_27 : decode cX8_meet 27 = .ok (.ireturn, 1) := by decide +kernel
theorem dX8_meet_28 : decode cX8_meet 28 = .ok (.aload_n 0, 1) := by decide +kernel
theorem dX8_meet_29 : decode cX8_meet 29 = .ok (.invokevirtual 124, 3) := by decide +kernel
theorem dX8_meet_32 : decode cX8_meet 32 = .ok (.iconst 0, 1) := by decide +kernel
theorem dX8_meet_33 : decode cX8_meet 33 = .ok (.istore_n 3, 1) := by decide +kernel
theorem dX8_meet_34 : decode cX8_meet 34 = .ok (.iload_n 3, 1) := by decide +kernel
theorem dX8_meet_35 : decode cX8_meet 35 = .ok (.bipush 60, 2) := by decide +kernel
theorem dX8_meet_37 : decode cX8_meet 37 = .ok (.if_icmp .gt 28, 3) := by decide +kernel
theorem dX8_meet_40 : decode cX8_meet 40 = .ok (.aload_n 0, 1) := by decide +kernel
theorem dX8_meet_41 : decode cX8_meet 41 = .ok (.iload_n 1, 1) := by decide +kernel
theorem dX8_meet_42 : decode cX8_meet 42 = .ok (.iconst 1, 1) := by decide +kernel
theorem dX8_meet_43 : decode cX8_meet 43 = .ok (.invokevirtual 75, 3) := by decide +kernel
theorem dX8_meet_46 : decode cX8_meet 46 = .ok (.aload_n 0, 1) := by decide +kernel
theorem dX8_meet_47 : decode cX8_meet 47 = .ok (.iload_n 2, 1) := by decide +kernel
theorem dX8_meet_48 : decode cX8_meet 48 = .ok (.iconst 1, 1) := by decide +kernel
theorem dX8_meet_49 : decode cX8_meet 49 = .ok (.invokevirtual 75, 3) := by decide +kernel
theorem dX8_meet_52 : decode cX8_meet 52 = .ok (.if_icmp .eq 13, 3) := by decide +kernel
theorem dX8_meet_55 : decode cX8_meet 55 = .ok (.aload_n 0, 1) := by decide +kernel
theorem dX8_meet_56 : decode cX8_meet 56 = .ok (.invokevirtual 113, 3) := by decide +kernel
theorem dX8_meet_59 : decode cX8_meet 59 = .ok (.iinc 3 1, 3) := by decide +kernel
theorem dX8_meet_62 : decode cX8_meet 62 = .ok (.goto (-28), 3) := by decide +kernel
theorem dX8_meet_65 : decode cX8_meet 65 = .ok (.aload_n 0, 1) := by decide +kernel
theorem dX8_meet_66 : decode cX8_meet 66 = .ok (.invokevirtual 127, 3) := by decide +kernel
theorem dX8_meet_69 : decode cX8_meet 69 = .ok (.iload_n 3, 1) := by decide +kernel
theorem dX8_meet_70 : decode cX8_meet 70 = .ok (.bipush 60, 2) := by decide +kernel
theorem dX8_meet_72 : decode cX8_meet 72 = .ok (.if_icmp .le 12, 3) := by decide +kernel
theorem dX8_meet_75 : decode cX8_meet 75 = .ok (.aload_n 0, 1) := by decide +kernel
theorem dX8_meet_76 : decode cX8_meet 76 = .ok (.ldc 42, 2) := by decide +kernel
theorem dX8_meet_78 : decode cX8_meet 78 = .ok (.invokevirtual 43, 3) := by decide +kernel
theorem dX8_meet_81 : decode cX8_meet 81 = .ok (.goto 4, 3) := by decide +kernel
theorem dX8_meet_84 : decode cX8_meet 84 = .ok (.iload_n 3, 1) := by decide +kernel
theorem dX8_meet_85 : decode cX8_meet 85 = .ok (.ireturn, 1) := by decide +kernel
theorem dX8_begins_0 : decode cX8_begins 0 = .ok (.iconst 0, 1) := by decide +kernel
theorem dX8_begins_1 : decode cX8_begins 1 = .ok (.istore_n 2, 1) := by decide +kernel
theorem dX8_begins_2 : decode cX8_begins 2 = .ok (.iload_n 2, 1) := by decide +kernel
theorem dX8_begins_3 : decode cX8_begins 3 = .ok (.bipush 36, 2) := by decide +kernel
theorem dX8_begins_5 : decode cX8_begins 5 = .ok (.if_icmp .ge 31, 3) := by decide +kernel
theorem dX8_begins_8 : decode cX8_begins 8 = .ok (.aload_n 0, 1) := by decide +kernel
theorem dX8_begins_9 : decode cX8_begins 9 = .ok (.getfield 22, 3) := by decide +kernel
theorem dX8_begins_12 : decode cX8_begins 12 = .ok (.iload_n 2, 1) := by decide +kernel
theorem dX8_begins_13 : decode cX8_begins 13 = .ok (.iload_n 2, 1) := by decide +kernel
theorem dX8_begins_14 : decode cX8_begins 14 = .ok (.aload_n 0, 1) := by decide +kernel
theorem dX8_begins_15 : decode cX8_begins 15 = .ok (.iload_n 1, 1) := by decide +kernel
theorem dX8_begins_16 : decode cX8_begins 16 = .ok (.iconst 1, 1) := by decide +kernel
theorem dX8_begins_17 : decode cX8_begins 17 = .ok (.invokevirtual 75, 3) := by decide +kernel
theorem dX8_begins_20 : decode cX8_begins 20 = .ok (.if_icmp .ne 7, 3) := by decide +kernel
theorem dX8_begins_23 : decode cX8_begins 23 = .ok (.iconst 0, 1) := by decide +kernel
theorem dX8_begins_24 : decode cX8_begins 24 = .ok (.goto 5, 3) := by decide +kernel
theorem dX8_begins_27 : decode cX8_begins 27 = .ok (.bipush 99, 2) := by decide +kernel
theorem dX8_begins_29 : decode cX8_begins 29 = .ok (.iastore, 1) := by decide +kernel
theorem dX8_begins_30 : decode cX8_begins 30 = .ok (.iinc 2 1, 3) := by decide +kernel
theorem dX8_begins_33 : decode cX8_begins 33 = .ok (.goto (-31), 3) := by decide +kernel
theorem dX8_begins_36 : decode cX8_begins 36 = .ok (.return_, 1) := by decide +kernel
theorem dX8_cheaper_0 : decode cX8_cheaper 0 = .ok (.aload_n 0, 1) := by decide +kernel
theorem dX8_cheaper_1 : decode cX8_cheaper 1 = .ok (.getfield 25, 3) := by decide +kernel
theorem dX8_cheaper_4 : decode cX8_cheaper 4 = .ok (.iload_n 1, 1) := by decide +kernel
theorem dX8_cheaper_5 : decode cX8_cheaper 5 = .ok (.iload_n 2, 1) := by decide +kernel
theorem dX8_cheaper_6 : decode cX8_cheaper 6 = .ok (.aload_n 0, 1) := by decide +kernel
theorem dX8_cheaper_7 : decode cX8_cheaper 7 = .ok (.getfield 25, 3) := by decide +kernel
theorem dX8_cheaper_10 : decode cX8_cheaper 10 = .ok (.iload_n 1, 1) := by decide +kernel
theorem dX8_cheaper_11 : decode cX8_cheaper 11 = .ok (.iaload, 1) := by decide +kernel
theorem dX8_cheaper_12 : decode cX8_cheaper 12 = .ok (.if_icmp .ge 7, 3) := by decide +kernel
theorem dX8_cheaper_15 : decode cX8_cheaper 15 = .ok (.iload_n 2, 1) := by decide +kernel
theorem dX8_cheaper_16 : decode cX8_cheaper 16 = .ok (.goto 9, 3) := by decide +kernel
theorem dX8_cheaper_19 : decode cX8_cheaper 19 = .ok (.aload_n 0, 1) := by decide +kernel
theorem dX8_cheaper_20 : decode cX8_cheaper 20 = .ok (.getfield 25, 3) := by decide +kernel
theorem dX8_cheaper_23 : decode cX8_cheaper 23 = .ok (.iload_n 1, 1) := by decide +kernel
theorem dX8_cheaper_24 : decode cX8_cheaper 24 = .ok (.iaload, 1) := by decide +kernel
theorem dX8_cheaper_25 : decode cX8_cheaper 25 = .ok (.iastore, 1) := by decide +kernel
theorem dX8_cheaper_26 : decode cX8_cheaper 26 = .ok (.return_, 1) := by decide +kernel
theorem dX8_dayOn_0 : decode cX8_dayOn 0 = .ok (.aload_n 0, 1) := by decide +kernel
theorem dX8_dayOn_1 : decode cX8_dayOn 1 = .ok (.iload_n 2, 1) := by decide +kernel
theorem dX8_dayOn_2 : decode cX8_dayOn 2 = .ok (.invokevirtual 63, 3) := by decide +kernel
theorem dX8_dayOn_5 : decode cX8_dayOn 5 = .ok (.istore_n 3, 1) := by decide +kernel
theorem dX8_dayOn_6 : decode cX8_dayOn 6 = .ok (.iconst 0, 1) := by decide +kernel
theorem dX8_dayOn_7 : decode cX8_dayOn 7 = .ok (.istore 4, 2) := by decide +kernel
theorem dX8_dayOn_9 : decode cX8_dayOn 9 = .ok (.iload 4, 2) := by decide +kernel
theorem dX8_dayOn_11 : decode cX8_dayOn 11 = .ok (.bipush 36, 2) := by decide +kernel
theorem dX8_dayOn_13 : decode cX8_dayOn 13 = .ok (.if_icmp .ge 18, 3) := by decide +kernel
theorem dX8_dayOn_16 : decode cX8_dayOn 16 = .ok (.aload_n 0, 1) := by decide +kernel
theorem dX8_dayOn_17 : decode cX8_dayOn 17 = .ok (.getfield 25, 3) := by decide +kernel
theorem dX8_dayOn_20 : decode cX8_dayOn 20 = .ok (.iload 4, 2) := by decide +kernel
theorem dX8_dayOn_22 : decode cX8_dayOn 22 = .ok (.bipush 99, 2) := by decide +kernel
theorem dX8_dayOn_24 : decode cX8_dayOn 24 = .ok (.iastore, 1) := by decide +kernel
theorem dX8_dayOn_25 : decode cX8_dayOn 25 = .ok (.iinc 4 1, 3) := by decide +kernel
theorem dX8_dayOn_28 : decode cX8_dayOn 28 = .ok (.goto (-19), 3) := by decide +kernel
theorem dX8_dayOn_31 : decode cX8_dayOn 31 = .ok (.iconst 0, 1) := by decide +kernel
theorem dX8_dayOn_32 : decode cX8_dayOn 32 = .ok (.istore 4, 2) := by decide +kernel
theorem dX8_dayOn_34 : decode cX8_dayOn 34 = .ok (.iload 4, 2) := by decide +kernel
theorem dX8_dayOn_36 : decode cX8_dayOn 36 = .ok (.bipush 36, 2) := by decide +kernel
theorem dX8_dayOn_38 : decode cX8_dayOn 38 = .ok (.if_icmp .ge 78, 3) := by decide +kernel
theorem dX8_dayOn_41 : decode cX8_dayOn 41 = .ok (.aload_n 0, 1) := by decide +kernel
theorem dX8_dayOn_42 : decode cX8_dayOn 42 = .ok (.getfield 22, 3) := by decide +kernel
theorem dX8_dayOn_45 : decode cX8_dayOn 45 = .ok (.iload 4, 2) := by decide +kernel
theorem dX8_dayOn_47 : decode cX8_dayOn 47 = .ok (.iaload, 1) := by decide +kernel
theorem dX8_dayOn_48 : decode cX8_dayOn 48 = .ok (.bipush 99, 2) := by decide +kernel
theorem dX8_dayOn_50 : decode cX8_dayOn 50 = .ok (.if_icmp .ge 60, 3) := by decide +kernel
theorem dX8_dayOn_53 : decode cX8_dayOn 53 = .ok (.aload_n 0, 1) := by decide +kernel
theorem dX8_dayOn_54 : decode cX8_dayOn 54 = .ok (.aload_n 0, 1) := by decide +kernel
theorem dX8_dayOn_55 : decode cX8_dayOn 55 = .ok (.iload_n 1, 1) := by decide +kernel
theorem dX8_dayOn_56 : decode cX8_dayOn 56 = .ok (.iload 4, 2) := by decide +kernel
theorem dX8_dayOn_58 : decode cX8_dayOn 58 = .ok (.iload_n 3, 1) := by decide +kernel
theorem dX8_dayOn_59 : decode cX8_dayOn 59 = .ok (.invokevirtual 105, 3) := by decide +kernel
theorem dX8_dayOn_62 : decode cX8_dayOn 62 = .ok (.aload_n 0, 1) := by decide +kernel
theorem dX8_dayOn_63 : decode cX8_dayOn 63 = .ok (.getfield 22, 3) := by decide +kernel
theorem dX8_dayOn_66 : decode cX8_dayOn 66 = .ok (.iload 4, 2) := by decide +kernel
theorem dX8_dayOn_68 : decode cX8_dayOn 68 = .ok (.iaload, 1) := by decide +kernel
theorem dX8_dayOn_69 : decode cX8_dayOn 69 = .ok (.invokevirtual 130, 3) := by decide +kernel
theorem dX8_dayOn_72 : decode cX8_dayOn 72 = .ok (.iconst 0, 1) := by decide +kernel
theorem dX8_dayOn_73 : decode cX8_dayOn 73 = .ok (.istore 5, 2) := by decide +kernel
theorem dX8_dayOn_75 : decode cX8_dayOn 75 = .ok (.iload 5, 2) := by decide +kernel
theorem dX8_dayOn_77 : decode cX8_dayOn 77 = .ok (.bipush 8, 2) := by decide +kernel
theorem dX8_dayOn_79 : decode cX8_dayOn 79 = .ok (.if_icmp .ge 31, 3) := by decide +kernel
theorem dX8_dayOn_82 : decode cX8_dayOn 82 = .ok (.aload_n 0, 1) := by decide +kernel
theorem dX8_dayOn_83 : decode cX8_dayOn 83 = .ok (.aload_n 0, 1) := by decide +kernel
theorem dX8_dayOn_84 : decode cX8_dayOn 84 = .ok (.iload_n 1, 1) := by decide +kernel
theorem dX8_dayOn_85 : decode cX8_dayOn 85 = .ok (.iload 4, 2) := by decide +kernel
theorem dX8_dayOn_87 : decode cX8_dayOn 87 = .ok (.iload 5, 2) := by decide +kernel
theorem dX8_dayOn_89 : decode cX8_dayOn 89 = .ok (.invokevirtual 105, 3) := by decide +kernel
theorem dX8_dayOn_92 : decode cX8_dayOn 92 = .ok (.aload_n 0, 1) := by decide +kernel
theorem dX8_dayOn_93 : decode cX8_dayOn 93 = .ok (.getfield 22, 3) := by decide +kernel
theorem dX8_dayOn_96 : decode cX8_dayOn 96 = .ok (.iload 4, 2) := by decide +kernel
theorem dX8_dayOn_98 : decode cX8_dayOn 98 = .ok (.iaload, 1) := by decide +kernel
theorem dX8_dayOn_99 : decode cX8_dayOn 99 = .ok (.iconst 1, 1) := by decide +kernel
theorem dX8_dayOn_100 : decode cX8_dayOn 100 = .ok (.iadd, 1) := by decide +kernel
theorem dX8_dayOn_101 : decode cX8_dayOn 101 = .ok (.invokevirtual 130, 3) := by decide +kernel
theorem dX8_dayOn_104 : decode cX8_dayOn 104 = .ok (.iinc 5 1, 3) := by decide +kernel
theorem dX8_dayOn_107 : decode cX8_dayOn 107 = .ok (.goto (-32), 3) := by decide +kernel
theorem dX8_dayOn_110 : decode cX8_dayOn 110 = .ok (.iinc 4 1, 3) := by decide +kernel
theorem dX8_dayOn_113 : decode cX8_dayOn 113 = .ok (.goto (-79), 3) := by decide +kernel
theorem dX8_dayOn_116 : decode cX8_dayOn 116 = .ok (.iconst 0, 1) := by decide +kernel
theorem dX8_dayOn_117 : decode cX8_dayOn 117 = .ok (.istore 4, 2) := by decide +kernel
theorem dX8_dayOn_119 : decode cX8_dayOn 119 = .ok (.iload 4, 2) := by decide +kernel
theorem dX8_dayOn_121 : decode cX8_dayOn 121 = .ok (.bipush 36, 2) := by decide +kernel
theorem dX8_dayOn_123 : decode cX8_dayOn 123 = .ok (.if_icmp .ge 23, 3) := by decide +kernel
theorem dX8_dayOn_126 : decode cX8_dayOn 126 = .ok (.aload_n 0, 1) := by decide +kernel
theorem dX8_dayOn_127 : decode cX8_dayOn 127 = .ok (.getfield 22, 3) := by decide +kernel
theorem dX8_dayOn_130 : decode cX8_dayOn 130 = .ok (.iload 4, 2) := by decide +kernel
theorem dX8_dayOn_132 : decode cX8_dayOn 132 = .ok (.aload_n 0, 1) := by decide +kernel
theorem dX8_dayOn_133 : decode cX8_dayOn 133 = .ok (.getfield 25, 3) := by decide +kernel
theorem dX8_dayOn_136 : decode cX8_dayOn 136 = .ok (.iload 4, 2) := by decide +kernel
theorem dX8_dayOn_138 : decode cX8_dayOn 138 = .ok (.iaload, 1) := by decide +kernel
theorem dX8_dayOn_139 : decode cX8_dayOn 139 = .ok (.iastore, 1) := by decide +kernel
theorem dX8_dayOn_140 : decode cX8_dayOn 140 = .ok (.iinc 4 1, 3) := by decide +kernel
theorem dX8_dayOn_143 : decode cX8_dayOn 143 = .ok (.goto (-24), 3) := by decide +kernel
theorem dX8_dayOn_146 : decode cX8_dayOn 146 = .ok (.return_, 1) := by decide +kernel
theorem dX8_bribes_0 : decode cX8_bribes 0 = .ok (.aload_n 0, 1) := by decide +kernel
theorem dX8_bribes_1 : decode cX8_bribes 1 = .ok (.iload_n 1, 1) := by decide +kernel
theorem dX8_bribes_2 : decode cX8_bribes 2 = .ok (.invokevirtual 97, 3) := by decide +kernel
theorem dX8_bribes_5 : decode cX8_bribes 5 = .ok (.ifCond .eq 21, 3) := by decide +kernel
theorem dX8_bribes_8 : decode cX8_bribes 8 = .ok (.iload_n 2, 1) := by decide +kernel
theorem dX8_bribes_9 : decode cX8_bribes 9 = .ok (.invokestatic 66, 3) := by decide +kernel
theorem dX8_bribes_12 : decode cX8_bribes 12 = .ok (.ifCond .eq 14, 3) := by decide +kernel
theorem dX8_bribes_15 : decode cX8_bribes 15 = .ok (.iload_n 3, 1) := by decide +kernel
theorem dX8_bribes_16 : decode cX8_bribes 16 = .ok (.i2l, 1) := by decide +kernel
theorem dX8_bribes_17 : decode cX8_bribes 17 = .ok (.iconst 0, 1) := by decide +kernel
theorem dX8_bribes_18 : decode cX8_bribes 18 = .ok (.bipush 30, 2) := by decide +kernel
theorem dX8_bribes_20 : decode cX8_bribes 20 = .ok (.invokestatic 47, 3) := by decide +kernel
theorem dX8_bribes_23 : decode cX8_bribes 23 = .ok (.ifCond .ne 10, 3) := by decide +kernel
theorem dX8_bribes_26 : decode cX8_bribes 26 = .ok (.aload_n 0, 1) := by decide +kernel
theorem dX8_bribes_27 : decode cX8_bribes 27 = .ok (.ldc 41, 2) := by decide +kernel
theorem dX8_bribes_29 : decode cX8_bribes 29 = .ok (.invokevirtual 43, 3) := by decide +kernel
theorem dX8_bribes_32 : decode cX8_bribes 32 = .ok (.ireturn, 1) := by decide +kernel
theorem dX8_bribes_33 : decode cX8_bribes 33 = .ok (.aload_n 0, 1) := by decide +kernel
theorem dX8_bribes_34 : decode cX8_bribes 34 = .ok (.iload_n 1, 1) := by decide +kernel
theorem dX8_bribes_35 : decode cX8_bribes 35 = .ok (.invokevirtual 133, 3) := by decide +kernel
theorem dX8_bribes_38 : decode cX8_bribes 38 = .ok (.aload_n 0, 1) := by decide +kernel
theorem dX8_bribes_39 : decode cX8_bribes 39 = .ok (.getfield 22, 3) := by decide +kernel
theorem dX8_bribes_42 : decode cX8_bribes 42 = .ok (.iload_n 2, 1) := by decide +kernel
theorem dX8_bribes_43 : decode cX8_bribes 43 = .ok (.iaload, 1) := by decide +kernel
theorem dX8_bribes_44 : decode cX8_bribes 44 = .ok (.istore 4, 2) := by decide +kernel
theorem dX8_bribes_46 : decode cX8_bribes 46 = .ok (.iconst 0, 1) := by decide +kernel
theorem dX8_bribes_47 : decode cX8_bribes 47 = .ok (.istore 5, 2) := by decide +kernel
theorem dX8_bribes_49 : decode cX8_bribes 49 = .ok (.iload 5, 2) := by decide +kernel
theorem dX8_bribes_51 : decode cX8_bribes 51 = .ok (.iload_n 3, 1) := by decide +kernel
theorem dX8_bribes_52 : decode cX8_bribes 52 = .ok (.if_icmp .ge 47, 3) := by decide +kernel
theorem dX8_bribes_55 : decode cX8_bribes 55 = .ok (.aload_n 0, 1) := by decide +kernel
theorem dX8_bribes_56 : decode cX8_bribes 56 = .ok (.iload_n 1, 1) := by decide +kernel
theorem dX8_bribes_57 : decode cX8_bribes 57 = .ok (.aload_n 0, 1) := by decide +kernel
theorem dX8_bribes_58 : decode cX8_bribes 58 = .ok (.getfield 9, 3) := by decide +kernel
theorem dX8_bribes_61 : decode cX8_bribes 61 = .ok (.iconst 0, 1) := by decide +kernel
theorem dX8_bribes_62 : decode cX8_bribes 62 = .ok (.iaload, 1) := by decide +kernel
theorem dX8_bribes_63 : decode cX8_bribes 63 = .ok (.iload 5, 2) := by decide +kernel
theorem dX8_bribes_65 : decode cX8_bribes 65 = .ok (.iadd, 1) := by decide +kernel
theorem dX8_bribes_66 : decode cX8_bribes 66 = .ok (.invokevirtual 136, 3) := by decide +kernel
theorem dX8_bribes_69 : decode cX8_bribes 69 = .ok (.aload_n 0, 1) := by decide +kernel
theorem dX8_bribes_70 : decode cX8_bribes 70 = .ok (.getfield 22, 3) := by decide +kernel
theorem dX8_bribes_73 : decode cX8_bribes 73 = .ok (.iload_n 2, 1) := by decide +kernel
theorem dX8_bribes_74 : decode cX8_bribes 74 = .ok (.iaload, 1) := by decide +kernel
theorem dX8_bribes_75 : decode cX8_bribes 75 = .ok (.iload 4, 2) := by decide +kernel
theorem dX8_bribes_77 : decode cX8_bribes 77 = .ok (.if_icmp .ge 12, 3) := by decide +kernel
theorem dX8_bribes_80 : decode cX8_bribes 80 = .ok (.aload_n 0, 1) := by decide +kernel
theorem dX8_bribes_81 : decode cX8_bribes 81 = .ok (.getfield 22, 3) := by decide +kernel
theorem dX8_bribes_84 : decode cX8_bribes 84 = .ok (.iload_n 2, 1) := by decide +kernel
theorem dX8_bribes_85 : decode cX8_bribes 85 = .ok (.iaload, 1) := by decide +kernel
theorem dX8_bribes_86 : decode cX8_bribes 86 = .ok (.goto 5, 3) := by decide +kernel
theorem dX8_bribes_89 : decode cX8_bribes 89 = .ok (.iload 4, 2) := by decide +kernel
theorem dX8_bribes_91 : decode cX8_bribes 91 = .ok (.istore 4, 2) := by decide +kernel
theorem dX8_bribes_93 : decode cX8_bribes 93 = .ok (.iinc 5 1, 3) := by decide +kernel
theorem dX8_bribes_96 : decode cX8_bribes 96 = .ok (.goto (-47), 3) := by decide +kernel
theorem dX8_bribes_99 : decode cX8_bribes 99 = .ok (.iload 4, 2) := by decide +kernel
theorem dX8_bribes_101 : decode cX8_bribes 101 = .ok (.bipush 99, 2) := by decide +kernel
theorem dX8_bribes_103 : decode cX8_bribes 103 = .ok (.if_icmp .ne 12, 3) := by decide +kernel
theorem dX8_bribes_106 : decode cX8_bribes 106 = .ok (.aload_n 0, 1) := by decide +kernel
theorem dX8_bribes_107 : decode cX8_bribes 107 = .ok (.ldc 42, 2) := by decide +kernel
theorem dX8_bribes_109 : decode cX8_bribes 109 = .ok (.invokevirtual 43, 3) := by decide +kernel
theorem dX8_bribes_112 : decode cX8_bribes 112 = .ok (.goto 5, 3) := by decide +kernel
theorem dX8_bribes_115 : decode cX8_bribes 115 = .ok (.iload 4, 2) := by decide +kernel
theorem dX8_bribes_117 : decode cX8_bribes 117 = .ok (.ireturn, 1) := by decide +kernel
theorem dX8_soonest_0 : decode cX8_soonest 0 = .ok (.aload_n 0, 1) := by decide +kernel
theorem dX8_soonest_1 : decode cX8_soonest 1 = .ok (.iload_n 1, 1) := by decide +kernel
theorem dX8_soonest_2 : decode cX8_soonest 2 = .ok (.invokevirtual 97, 3) := by decide +kernel
theorem dX8_soonest_5 : decode cX8_soonest 5 = .ok (.ifCond .eq 21, 3) := by decide +kernel
theorem dX8_soonest_8 : decode cX8_soonest 8 = .ok (.iload_n 2, 1) := by decide +kernel
theorem dX8_soonest_9 : decode cX8_soonest 9 = .ok (.invokestatic 66, 3) := by decide +kernel
theorem dX8_soonest_12 : decode cX8_soonest 12 = .ok (.ifCond .eq 14, 3) := by decide +kernel
theorem dX8_soonest_15 : decode cX8_soonest 15 = .ok (.iload_n 3, 1) := by decide +kernel
theorem dX8_soonest_16 : decode cX8_soonest 16 = .ok (.i2l, 1) := by decide +kernel
theorem dX8_soonest_17 : decode cX8_soonest 17 = .ok (.iconst 0, 1) := by decide +kernel
theorem dX8_soonest_18 : decode cX8_soonest 18 = .ok (.bipush 30, 2) := by decide +kernel
theorem dX8_soonest_20 : decode cX8_soonest 20 = .ok (.invokestatic 47, 3) := by decide +kernel
theorem dX8_soonest_23 : decode cX8_soonest 23 = .ok (.ifCond .ne 10, 3) := by decide +kernel
theorem dX8_soonest_26 : decode cX8_soonest 26 = .ok (.aload_n 0, 1) := by decide +kernel
theorem dX8_soonest_27 : decode cX8_soonest 27 = .ok (.ldc 41, 2) := by decide +kernel
theorem dX8_soonest_29 : decode cX8_soonest 29 = .ok (.invokevirtual 43, 3) := by decide +kernel
theorem dX8_soonest_32 : decode cX8_soonest 32 = .ok (.ireturn, 1) := by decide +kernel
theorem dX8_soonest_33 : decode cX8_soonest 33 = .ok (.aload_n 0, 1) := by decide +kernel
theorem dX8_soonest_34 : decode cX8_soonest 34 = .ok (.iload_n 1, 1) := by decide +kernel
theorem dX8_soonest_35 : decode cX8_soonest 35 = .ok (.invokevirtual 133, 3) := by decide +kernel
theorem dX8_soonest_38 : decode cX8_soonest 38 = .ok (.iconst 0, 1) := by decide +kernel
theorem dX8_soonest_39 : decode cX8_soonest 39 = .ok (.istore 4, 2) := by decide +kernel
theorem dX8_soonest_41 : decode cX8_soonest 41 = .ok (.iload 4, 2) := by decide +kernel
theorem dX8_soonest_43 : decode cX8_soonest 43 = .ok (.bipush 30, 2) := by decide +kernel
theorem dX8_soonest_45 : decode cX8_soonest 45 = .ok (.if_icmp .gt 36, 3) := by decide +kernel
theorem dX8_soonest_48 : decode cX8_soonest 48 = .ok (.aload_n 0, 1) := by decide +kernel
theorem dX8_soonest_49 : decode cX8_soonest 49 = .ok (.getfield 22, 3) := by decide +kernel
theorem dX8_soonest_52 : decode cX8_soonest 52 = .ok (.iload_n 2, 1) := by decide +kernel
theorem dX8_soonest_53 : decode cX8_soonest 53 = .ok (.iaload, 1) := by decide +kernel
theorem dX8_soonest_54 : decode cX8_soonest 54 = .ok (.iload_n 3, 1) := by decide +kernel
theorem dX8_soonest_55 : decode cX8_soonest 55 = .ok (.if_icmp .gt 6, 3) := by decide +kernel
theorem dX8_soonest_58 : decode cX8_soonest 58 = .ok (.iload 4, 2) := by decide +kernel
theorem dX8_soonest_60 : decode cX8_soonest 60 = .ok (.ireturn, 1) := by decide +kernel
theorem dX8_soonest_61 : decode cX8_soonest 61 = .ok (.aload_n 0, 1) := by decide +kernel
theorem dX8_soonest_62 : decode cX8_soonest 62 = .ok (.iload_n 1, 1) := by decide +kernel
theorem dX8_soonest_63 : decode cX8_soonest 63 = .ok (.aload_n 0, 1) := by decide +kernel
theorem dX8_soonest_64 : decode cX8_soonest 64 = .ok (.getfield 9, 3) := by decide +kernel
theorem dX8_soonest_67 : decode cX8_soonest 67 = .ok (.iconst 0, 1) := by decide +kernel
theorem dX8_soonest_68 : decode cX8_soonest 68 = .ok (.iaload, 1) := by decide +kernel
theorem dX8_soonest_69 : decode cX8_soonest 69 = .ok (.iload 4, 2) := by decide +kernel
theorem dX8_soonest_71 : decode cX8_soonest 71 = .ok (.iadd, 1) := by decide +kernel
theorem dX8_soonest_72 : decode cX8_soonest 72 = .ok (.invokevirtual 136, 3) := by decide +kernel
theorem dX8_soonest_75 : decode cX8_soonest 75 = .ok (.iinc 4 1, 3) := by decide +kernel
theorem dX8_soonest_78 : decode cX8_soonest 78 = .ok (.goto (-37), 3) := by decide +kernel
theorem dX8_soonest_81 : decode cX8_soonest 81 = .ok (.aload_n 0, 1) := by decide +kernel
theorem dX8_soonest_82 : decode cX8_soonest 82 = .ok (.ldc 42, 2) := by decide +kernel
theorem dX8_soonest_84 : decode cX8_soonest 84 = .ok (.invokevirtual 43, 3) := by decide +kernel
theorem dX8_soonest_87 : decode cX8_soonest 87 = .ok (.ireturn, 1) := by decide +kernel
theorem dX8_reach_0 : decode cX8_reach 0 = .ok (.aload_n 0, 1) := by decide +kernel
theorem dX8_reach_1 : decode cX8_reach 1 = .ok (.iload_n 1, 1) := by decide +kernel
theorem dX8_reach_2 : decode cX8_reach 2 = .ok (.invokevirtual 97, 3) := by decide +kernel
theorem dX8_reach_5 : decode cX8_reach 5 = .ok (.ifCond .eq 14, 3) := by decide +kernel
theorem dX8_reach_8 : decode cX8_reach 8 = .ok (.iload_n 2, 1) := by decide +kernel
theorem dX8_reach_9 : decode cX8_reach 9 = .ok (.i2l, 1) := by decide +kernel
theorem dX8_reach_10 : decode cX8_reach 10 = .ok (.iconst 0, 1) := by decide +kernel
theorem dX8_reach_11 : decode cX8_reach 11 = .ok (.bipush 30, 2) := by decide +kernel
theorem dX8_reach_13 : decode cX8_reach 13 = .ok (.invokestatic 47, 3) := by decide +kernel
theorem dX8_reach_16 : decode cX8_reach 16 = .ok (.ifCond .ne 11, 3) := by decide +kernel
theorem dX8_reach_19 : decode cX8_reach 19 = .ok (.aload_n 0, 1) := by decide +kernel
theorem dX8_reach_20 : decode cX8_reach 20 = .ok (.ldc 41, 2) := by decide +kernel
theorem dX8_reach_22 : decode cX8_reach 22 = .ok (.invokevirtual 43, 3) := by decide +kernel
theorem dX8_reach_25 : decode cX8_reach 25 = .ok (.i2l, 1) := by decide +kernel
theorem dX8_reach_26 : decode cX8_reach 26 = .ok (.lreturn, 1) := by decide +kernel
theorem dX8_reach_27 : decode cX8_reach 27 = .ok (.aload_n 0, 1) := by decide +kernel
theorem dX8_reach_28 : decode cX8_reach 28 = .ok (.iload_n 1, 1) := by decide +kernel
theorem dX8_reach_29 : decode cX8_reach 29 = .ok (.invokevirtual 133, 3) := by decide +kernel
theorem dX8_reach_32 : decode cX8_reach 32 = .ok (.iconst 0, 1) := by decide +kernel
theorem dX8_reach_33 : decode cX8_reach 33 = .ok (.istore_n 3, 1) := by decide +kernel
theorem dX8_reach_34 : decode cX8_reach 34 = .ok (.iload_n 3, 1) := by decide +kernel
theorem dX8_reach_35 : decode cX8_reach 35 = .ok (.iload_n 2, 1) := by decide +kernel
theorem dX8_reach_36 : decode cX8_reach 36 = .ok (.if_icmp .ge 22, 3) := by decide +kernel
theorem dX8_reach_39 : decode cX8_reach 39 = .ok (.aload_n 0, 1) := by decide +kernel
theorem dX8_reach_40 : decode cX8_reach 40 = .ok (.iload_n 1, 1) := by decide +kernel
theorem dX8_reach_41 : decode cX8_reach 41 = .ok (.aload_n 0, 1) := by decide +kernel
theorem dX8_reach_42 : decode cX8_reach 42 = .ok (.getfield 9, 3) := by decide +kernel
theorem dX8_reach_45 : decode cX8_reach 45 = .ok (.iconst 0, 1) := by decide +kernel
theorem dX8_reach_46 : decode cX8_reach 46 = .ok (.iaload, 1) := by decide +kernel
theorem dX8_reach_47 : decode cX8_reach 47 = .ok (.iload_n 3, 1) := by decide +kernel
theorem dX8_reach_48 : decode cX8_reach 48 = .ok (.iadd, 1) := by decide +kernel
theorem dX8_reach_49 : decode cX8_reach 49 = .ok (.invokevirtual 136, 3) := by decide +kernel
theorem dX8_reach_52 : decode cX8_reach 52 = .ok (.iinc 3 1, 3) := by decide +kernel
theorem dX8_reach_55 : decode cX8_reach 55 = .ok (.goto (-21), 3) := by decide +kernel
theorem dX8_reach_58 : decode cX8_reach 58 = .ok (.lconst 0, 1) := by decide +kernel
theorem dX8_reach_59 : decode cX8_reach 59 = .ok (.lstore_n 3, 1) := by decide +kernel
theorem dX8_reach_60 : decode cX8_reach 60 = .ok (.iconst 0, 1) := by decide +kernel
theorem dX8_reach_61 : decode cX8_reach 61 = .ok (.istore 5, 2) := by decide +kernel
theorem dX8_reach_63 : decode cX8_reach 63 = .ok (.iload 5, 2) := by decide +kernel
theorem dX8_reach_65 : decode cX8_reach 65 = .ok (.bipush 36, 2) := by decide +kernel
theorem dX8_reach_67 : decode cX8_reach 67 = .ok (.if_icmp .ge 32, 3) := by decide +kernel
theorem dX8_reach_70 : decode cX8_reach 70 = .ok (.lload_n 3, 1) := by decide +kernel
theorem dX8_reach_71 : decode cX8_reach 71 = .ok (.aload_n 0, 1) := by decide +kernel
theorem dX8_reach_72 : decode cX8_reach 72 = .ok (.getfield 22, 3) := by decide +kernel
theorem dX8_reach_75 : decode cX8_reach 75 = .ok (.iload 5, 2) := by decide +kernel
theorem dX8_reach_77 : decode cX8_reach 77 = .ok (.iaload, 1) := by decide +kernel
theorem dX8_reach_78 : decode cX8_reach 78 = .ok (.bipush 99, 2) := by decide +kernel
theorem dX8_reach_80 : decode cX8_reach 80 = .ok (.if_icmp .ge 10, 3) := by decide +kernel
theorem dX8_reach_83 : decode cX8_reach 83 = .ok (.lconst 1, 1) := by decide +kernel
theorem dX8_reach_84 : decode cX8_reach 84 = .ok (.iload 5, 2) := by decide +kernel
theorem dX8_reach_86 : decode cX8_reach 86 = .ok (.lshl, 1) := by decide +kernel
theorem dX8_reach_87 : decode cX8_reach 87 = .ok (.goto 4, 3) := by decide +kernel
theorem dX8_reach_90 : decode cX8_reach 90 = .ok (.lconst 0, 1) := by decide +kernel
theorem dX8_reach_91 : decode cX8_reach 91 = .ok (.lor, 1) := by decide +kernel
theorem dX8_reach_92 : decode cX8_reach 92 = .ok (.lstore_n 3, 1) := by decide +kernel
theorem dX8_reach_93 : decode cX8_reach 93 = .ok (.iinc 5 1, 3) := by decide +kernel
theorem dX8_reach_96 : decode cX8_reach 96 = .ok (.goto (-33), 3) := by decide +kernel
theorem dX8_reach_99 : decode cX8_reach 99 = .ok (.lload_n 3, 1) := by decide +kernel
theorem dX8_reach_100 : decode cX8_reach 100 = .ok (.lreturn, 1) := by decide +kernel
theorem dX8_gainOn_0 : decode cX8_gainOn 0 = .ok (.aload_n 0, 1) := by decide +kernel
theorem dX8_gainOn_1 : decode cX8_gainOn 1 = .ok (.invokevirtual 116, 3) := by decide +kernel
theorem dX8_gainOn_4 : decode cX8_gainOn 4 = .ok (.istore_n 2, 1) := by decide +kernel
theorem dX8_gainOn_5 : decode cX8_gainOn 5 = .ok (.iconst 0, 1) := by decide +kernel
theorem dX8_gainOn_6 : decode cX8_gainOn 6 = .ok (.istore_n 3, 1) := by decide +kernel
theorem dX8_gainOn_7 : decode cX8_gainOn 7 = .ok (.iload_n 3, 1) := by decide +kernel
theorem dX8_gainOn_8 : decode cX8_gainOn 8 = .ok (.iload_n 1, 1) := by decide +kernel
theorem dX8_gainOn_9 : decode cX8_gainOn 9 = .ok (.if_icmp .ge 13, 3) := by decide +kernel
theorem dX8_gainOn_12 : decode cX8_gainOn 12 = .ok (.aload_n 0, 1) := by decide +kernel
theorem dX8_gainOn_13 : decode cX8_gainOn 13 = .ok (.invokevirtual 113, 3) := by decide +kernel
theorem dX8_gainOn_16 : decode cX8_gainOn 16 = .ok (.iinc 3 1, 3) := by decide +kernel
theorem dX8_gainOn_19 : decode cX8_gainOn 19 = .ok (.goto (-12), 3) := by decide +kernel
theorem dX8_gainOn_22 : decode cX8_gainOn 22 = .ok (.aload_n 0, 1) := by decide +kernel
theorem dX8_gainOn_23 : decode cX8_gainOn 23 = .ok (.invokevirtual 116, 3) := by decide +kernel
theorem dX8_gainOn_26 : decode cX8_gainOn 26 = .ok (.iload_n 2, 1) := by decide +kernel
theorem dX8_gainOn_27 : decode cX8_gainOn 27 = .ok (.isub, 1) := by decide +kernel
theorem dX8_gainOn_28 : decode cX8_gainOn 28 = .ok (.istore_n 3, 1) := by decide +kernel
theorem dX8_gainOn_29 : decode cX8_gainOn 29 = .ok (.aload_n 0, 1) := by decide +kernel
theorem dX8_gainOn_30 : decode cX8_gainOn 30 = .ok (.invokevirtual 127, 3) := by decide +kernel
theorem dX8_gainOn_33 : decode cX8_gainOn 33 = .ok (.iload_n 3, 1) := by decide +kernel
theorem dX8_gainOn_34 : decode cX8_gainOn 34 = .ok (.ireturn, 1) := by decide +kernel
theorem dX8_swap_0 : decode cX8_swap 0 = .ok (.iload_n 1, 1) := by decide +kernel
theorem dX8_swap_1 : decode cX8_swap 1 = .ok (.i2l, 1) := by decide +kernel
theorem dX8_swap_2 : decode cX8_swap 2 = .ok (.iconst 1, 1) := by decide +kernel
theorem dX8_swap_3 : decode cX8_swap 3 = .ok (.bipush 30, 2) := by decide +kernel
theorem dX8_swap_5 : decode cX8_swap 5 = .ok (.invokestatic 47, 3) := by decide +kernel
theorem dX8_swap_8 : decode cX8_swap 8 = .ok (.ifCond .ne 10, 3) := by decide +kernel
theorem dX8_swap_11 : decode cX8_swap 11 = .ok (.aload_n 0, 1) := by decide +kernel
theorem dX8_swap_12 : decode cX8_swap 12 = .ok (.ldc 41, 2) := by decide +kernel
theorem dX8_swap_14 : decode cX8_swap 14 = .ok (.invokevirtual 43, 3) := by decide +kernel
theorem dX8_swap_17 : decode cX8_swap 17 = .ok (.ireturn, 1) := by decide +kernel
theorem dX8_swap_18 : decode cX8_swap 18 = .ok (.aload_n 0, 1) := by decide +kernel
theorem dX8_swap_19 : decode cX8_swap 19 = .ok (.invokevirtual 124, 3) := by decide +kernel
theorem dX8_swap_22 : decode cX8_swap 22 = .ok (.aload_n 0, 1) := by decide +kernel
theorem dX8_swap_23 : decode cX8_swap 23 = .ok (.iload_n 1, 1) := by decide +kernel
theorem dX8_swap_24 : decode cX8_swap 24 = .ok (.invokevirtual 139, 3) := by decide +kernel
theorem dX8_swap_27 : decode cX8_swap 27 = .ok (.istore_n 2, 1) := by decide +kernel
theorem dX8_swap_28 : decode cX8_swap 28 = .ok (.iconst (-1), 1) := by decide +kernel
theorem dX8_swap_29 : decode cX8_swap 29 = .ok (.istore_n 3, 1) := by decide +kernel
theorem dX8_swap_30 : decode cX8_swap 30 = .ok (.iconst 0, 1) := by decide +kernel
theorem dX8_swap_31 : decode cX8_swap 31 = .ok (.istore 4, 2) := by decide +kernel
theorem dX8_swap_33 : decode cX8_swap 33 = .ok (.iload 4, 2) := by decide +kernel
theorem dX8_swap_35 : decode cX8_swap 35 = .ok (.bipush 7, 2) := by decide +kernel
theorem dX8_swap_37 : decode cX8_swap 37 = .ok (.if_icmp .ge 103, 3) := by decide +kernel
theorem dX8_swap_40 : decode cX8_swap 40 = .ok (.iload 4, 2) := by decide +kernel
theorem dX8_swap_42 : decode cX8_swap 42 = .ok (.iconst 1, 1) := by decide +kernel
theorem dX8_swap_43 : decode cX8_swap 43 = .ok (.iadd, 1) := by decide +kernel
theorem dX8_swap_44 : decode cX8_swap 44 = .ok (.istore 5, 2) := by decide +kernel
theorem dX8_swap_46 : decode cX8_swap 46 = .ok (.iload 5, 2) := by decide +kernel
theorem dX8_swap_48 : decode cX8_swap 48 = .ok (.bipush 7, 2) := by decide +kernel
theorem dX8_swap_50 : decode cX8_swap 50 = .ok (.if_icmp .ge 84, 3) := by decide +kernel
theorem dX8_swap_53 : decode cX8_swap 53 = .ok (.aload_n 0, 1) := by decide +kernel
theorem dX8_swap_54 : decode cX8_swap 54 = .ok (.getfield 9, 3) := by decide +kernel
theorem dX8_swap_57 : decode cX8_swap 57 = .ok (.iconst 4, 1) := by decide +kernel
theorem dX8_swap_58 : decode cX8_swap 58 = .ok (.iload 4, 2) := by decide +kernel
theorem dX8_swap_60 : decode cX8_swap 60 = .ok (.iadd, 1) := by decide +kernel
theorem dX8_swap_61 : decode cX8_swap 61 = .ok (.aload_n 0, 1) := by decide +kernel
theorem dX8_swap_62 : decode cX8_swap 62 = .ok (.getfield 16, 3) := by decide +kernel
theorem dX8_swap_65 : decode cX8_swap 65 = .ok (.iconst 4, 1) := by decide +kernel
theorem dX8_swap_66 : decode cX8_swap 66 = .ok (.iload 5, 2) := by decide +kernel
theorem dX8_swap_68 : decode cX8_swap 68 = .ok (.iadd, 1) := by decide +kernel
theorem dX8_swap_69 : decode cX8_swap 69 = .ok (.iaload, 1) := by decide +kernel
theorem dX8_swap_70 : decode cX8_swap 70 = .ok (.iastore, 1) := by decide +kernel
theorem dX8_swap_71 : decode cX8_swap 71 = .ok (.aload_n 0, 1) := by decide +kernel
theorem dX8_swap_72 : decode cX8_swap 72 = .ok (.getfield 9, 3) := by decide +kernel
theorem dX8_swap_75 : decode cX8_swap 75 = .ok (.iconst 4, 1) := by decide +kernel
theorem dX8_swap_76 : decode cX8_swap 76 = .ok (.iload 5, 2) := by decide +kernel
theorem dX8_swap_78 : decode cX8_swap 78 = .ok (.iadd, 1) := by decide +kernel
theorem dX8_swap_79 : decode cX8_swap 79 = .ok (.aload_n 0, 1) := by decide +kernel
theorem dX8_swap_80 : decode cX8_swap 80 = .ok (.getfield 16, 3) := by decide +kernel
theorem dX8_swap_83 : decode cX8_swap 83 = .ok (.iconst 4, 1) := by decide +kernel
theorem dX8_swap_84 : decode cX8_swap 84 = .ok (.iload 4, 2) := by decide +kernel
theorem dX8_swap_86 : decode cX8_swap 86 = .ok (.iadd, 1) := by decide +kernel
theorem dX8_swap_87 : decode cX8_swap 87 = .ok (.iaload, 1) := by decide +kernel
theorem dX8_swap_88 : decode cX8_swap 88 = .ok (.iastore, 1) := by decide +kernel
theorem dX8_swap_89 : decode cX8_swap 89 = .ok (.aload_n 0, 1) := by decide +kernel
theorem dX8_swap_90 : decode cX8_swap 90 = .ok (.iload_n 1, 1) := by decide +kernel
theorem dX8_swap_91 : decode cX8_swap 91 = .ok (.invokevirtual 139, 3) := by decide +kernel
theorem dX8_swap_94 : decode cX8_swap 94 = .ok (.istore 6, 2) := by decide +kernel
theorem dX8_swap_96 : decode cX8_swap 96 = .ok (.iload 6, 2) := by decide +kernel
theorem dX8_swap_98 : decode cX8_swap 98 = .ok (.iload_n 2, 1) := by decide +kernel
theorem dX8_swap_99 : decode cX8_swap 99 = .ok (.if_icmp .le 14, 3) := by decide +kernel
theorem dX8_swap_102 : decode cX8_swap 102 = .ok (.bipush 10, 2) := by decide +kernel
theorem dX8_swap_104 : decode cX8_swap 104 = .ok (.iload 4, 2) := by decide +kernel
theorem dX8_swap_106 : decode cX8_swap 106 = .ok (.imul, 1) := by decide +kernel
theorem dX8_swap_107 : decode cX8_swap 107 = .ok (.iload 5, 2) := by decide +kernel
theorem dX8_swap_109 : decode cX8_swap 109 = .ok (.iadd, 1) := by decide +kernel
theorem dX8_swap_110 : decode cX8_swap 110 = .ok (.goto 4, 3) := by decide +kernel
theorem dX8_swap_113 : decode cX8_swap 113 = .ok (.iload_n 3, 1) := by decide +kernel
theorem dX8_swap_114 : decode cX8_swap 114 = .ok (.istore_n 3, 1) := by decide +kernel
theorem dX8_swap_115 : decode cX8_swap 115 = .ok (.iload 6, 2) := by decide +kernel
theorem dX8_swap_117 : decode cX8_swap 117 = .ok (.iload_n 2, 1) := by decide +kernel
theorem dX8_swap_118 : decode cX8_swap 118 = .ok (.if_icmp .le 8, 3) := by decide +kernel
theorem dX8_swap_121 : decode cX8_swap 121 = .ok (.iload 6, 2) := by decide +kernel
theorem dX8_swap_123 : decode cX8_swap 123 = .ok (.goto 4, 3) := by decide +kernel
theorem dX8_swap_126 : decode cX8_swap 126 = .ok (.iload_n 2, 1) := by decide +kernel
theorem dX8_swap_127 : decode cX8_swap 127 = .ok (.istore_n 2, 1) := by decide +kernel
theorem dX8_swap_128 : decode cX8_swap 128 = .ok (.iinc 5 1, 3) := by decide +kernel
theorem dX8_swap_131 : decode cX8_swap 131 = .ok (.goto (-85), 3) := by decide +kernel
theorem dX8_swap_134 : decode cX8_swap 134 = .ok (.iinc 4 1, 3) := by decide +kernel
theorem dX8_swap_137 : decode cX8_swap 137 = .ok (.goto (-104), 3) := by decide +kernel
theorem dX8_swap_140 : decode cX8_swap 140 = .ok (.aload_n 0, 1) := by decide +kernel
theorem dX8_swap_141 : decode cX8_swap 141 = .ok (.iload_n 3, 1) := by decide +kernel
theorem dX8_swap_142 : decode cX8_swap 142 = .ok (.invokevirtual 72, 3) := by decide +kernel
theorem dX8_swap_145 : decode cX8_swap 145 = .ok (.ireturn, 1) := by decide +kernel
theorem dX8_missed_0 : decode cX8_missed 0 = .ok (.iload_n 1, 1) := by decide +kernel
theorem dX8_missed_1 : decode cX8_missed 1 = .ok (.i2l, 1) := by decide +kernel
theorem dX8_missed_2 : decode cX8_missed 2 = .ok (.iconst 1, 1) := by decide +kernel
theorem dX8_missed_3 : decode cX8_missed 3 = .ok (.bipush 30, 2) := by decide +kernel
theorem dX8_missed_5 : decode cX8_missed 5 = .ok (.invokestatic 47, 3) := by decide +kernel
theorem dX8_missed_8 : decode cX8_missed 8 = .ok (.ifCond .ne 10, 3) := by decide +kernel
theorem dX8_missed_11 : decode cX8_missed 11 = .ok (.aload_n 0, 1) := by decide +kernel
theorem dX8_missed_12 : decode cX8_missed 12 = .ok (.ldc 41, 2) := by decide +kernel
theorem dX8_missed_14 : decode cX8_missed 14 = .ok (.invokevirtual 43, 3) := by decide +kernel
theorem dX8_missed_17 : decode cX8_missed 17 = .ok (.ireturn, 1) := by decide +kernel
theorem dX8_missed_18 : decode cX8_missed 18 = .ok (.aload_n 0, 1) := by decide +kernel
theorem dX8_missed_19 : decode cX8_missed 19 = .ok (.invokevirtual 124, 3) := by decide +kernel
theorem dX8_missed_22 : decode cX8_missed 22 = .ok (.iconst 0, 1) := by decide +kernel
theorem dX8_missed_23 : decode cX8_missed 23 = .ok (.istore_n 2, 1) := by decide +kernel
theorem dX8_missed_24 : decode cX8_missed 24 = .ok (.iconst (-1), 1) := by decide +kernel
theorem dX8_missed_25 : decode cX8_missed 25 = .ok (.istore_n 3, 1) := by decide +kernel
theorem dX8_missed_26 : decode cX8_missed 26 = .ok (.iconst 0, 1) := by decide +kernel
theorem dX8_missed_27 : decode cX8_missed 27 = .ok (.istore 4, 2) := by decide +kernel
theorem dX8_missed_29 : decode cX8_missed 29 = .ok (.iload 4, 2) := by decide +kernel
theorem dX8_missed_31 : decode cX8_missed 31 = .ok (.bipush 8, 2) := by decide +kernel
theorem dX8_missed_33 : decode cX8_missed 33 = .ok (.if_icmp .ge 78, 3) := by decide +kernel
theorem dX8_missed_36 : decode cX8_missed 36 = .ok (.aload_n 0, 1) := by decide +kernel
theorem dX8_missed_37 : decode cX8_missed 37 = .ok (.getfield 16, 3) := by decide +kernel
theorem dX8_missed_40 : decode cX8_missed 40 = .ok (.iconst 2, 1) := by decide +kernel
theorem dX8_missed_41 : decode cX8_missed 41 = .ok (.iaload, 1) := by decide +kernel
theorem dX8_missed_42 : decode cX8_missed 42 = .ok (.iload 4, 2) := by decide +kernel
theorem dX8_missed_44 : decode cX8_missed 44 = .ok (.ishr, 1) := by decide +kernel
theorem dX8_missed_45 : decode cX8_missed 45 = .ok (.iconst 1, 1) := by decide +kernel
theorem dX8_missed_46 : decode cX8_missed 46 = .ok (.iand, 1) := by decide +kernel
theorem dX8_missed_47 : decode cX8_missed 47 = .ok (.ifCond .ne 58, 3) := by decide +kernel
theorem dX8_missed_50 : decode cX8_missed 50 = .ok (.aload_n 0, 1) := by decide +kernel
theorem dX8_missed_51 : decode cX8_missed 51 = .ok (.iload 4, 2) := by decide +kernel
theorem dX8_missed_53 : decode cX8_missed 53 = .ok (.iconst 1, 1) := by decide +kernel
theorem dX8_missed_54 : decode cX8_missed 54 = .ok (.invokevirtual 59, 3) := by decide +kernel
theorem dX8_missed_57 : decode cX8_missed 57 = .ok (.aload_n 0, 1) := by decide +kernel
theorem dX8_missed_58 : decode cX8_missed 58 = .ok (.iload_n 1, 1) := by decide +kernel
theorem dX8_missed_59 : decode cX8_missed 59 = .ok (.invokevirtual 139, 3) := by decide +kernel
theorem dX8_missed_62 : decode cX8_missed 62 = .ok (.istore 5, 2) := by decide +kernel
theorem dX8_missed_64 : decode cX8_missed 64 = .ok (.iload_n 3, 1) := by decide +kernel
theorem dX8_missed_65 : decode cX8_missed 65 = .ok (.ifCond .lt 9, 3) := by decide +kernel
theorem dX8_missed_68 : decode cX8_missed 68 = .ok (.iload 5, 2) := by decide +kernel
theorem dX8_missed_70 : decode cX8_missed 70 = .ok (.iload_n 2, 1) := by decide +kernel
theorem dX8_missed_71 : decode cX8_missed 71 = .ok (.if_icmp .ge 7, 3) := by decide +kernel
theorem dX8_missed_74 : decode cX8_missed 74 = .ok (.iconst 1, 1) := by decide +kernel
theorem dX8_missed_75 : decode cX8_missed 75 = .ok (.goto 4, 3) := by decide +kernel
theorem dX8_missed_78 : decode cX8_missed 78 = .ok (.iconst 0, 1) := by decide +kernel
theorem dX8_missed_79 : decode cX8_missed 79 = .ok (.istore 6, 2) := by decide +kernel
theorem dX8_missed_81 : decode cX8_missed 81 = .ok (.iload 6, 2) := by decide +kernel
theorem dX8_missed_83 : decode cX8_missed 83 = .ok (.ifCond .eq 8, 3) := by decide +kernel
theorem dX8_missed_86 : decode cX8_missed 86 = .ok (.iload 4, 2) := by decide +kernel
theorem dX8_missed_88 : decode cX8_missed 88 = .ok (.goto 4, 3) := by decide +kernel
theorem dX8_missed_91 : decode cX8_missed 91 = .ok (.iload_n 3, 1) := by decide +kernel
theorem dX8_missed_92 : decode cX8_missed 92 = .ok (.istore_n 3, 1) := by decide +kernel
theorem dX8_missed_93 : decode cX8_missed 93 = .ok (.iload 6, 2) := by decide +kernel
theorem dX8_missed_95 : decode cX8_missed 95 = .ok (.ifCond .eq 8, 3) := by decide +kernel
theorem dX8_missed_98 : decode cX8_missed 98 = .ok (.iload 5, 2) := by decide +kernel
theorem dX8_missed_100 : decode cX8_missed 100 = .ok (.goto 4, 3) := by decide +kernel
theorem dX8_missed_103 : decode cX8_missed 103 = .ok (.iload_n 2, 1) := by decide +kernel
theorem dX8_missed_104 : decode cX8_missed 104 = .ok (.istore_n 2, 1) := by decide +kernel
theorem dX8_missed_105 : decode cX8_missed 105 = .ok (.iinc 4 1, 3) := by decide +kernel
theorem dX8_missed_108 : decode cX8_missed 108 = .ok (.goto (-79), 3) := by decide +kernel
theorem dX8_missed_111 : decode cX8_missed 111 = .ok (.aload_n 0, 1) := by decide +kernel
theorem dX8_missed_112 : decode cX8_missed 112 = .ok (.iload_n 3, 1) := by decide +kernel
theorem dX8_missed_113 : decode cX8_missed 113 = .ok (.invokevirtual 72, 3) := by decide +kernel
theorem dX8_missed_116 : decode cX8_missed 116 = .ok (.ireturn, 1) := by decide +kernel
theorem dX8_enough_0 : decode cX8_enough 0 = .ok (.iload_n 1, 1) := by decide +kernel
theorem dX8_enough_1 : decode cX8_enough 1 = .ok (.i2l, 1) := by decide +kernel
theorem dX8_enough_2 : decode cX8_enough 2 = .ok (.iconst 1, 1) := by decide +kernel
theorem dX8_enough_3 : decode cX8_enough 3 = .ok (.bipush 30, 2) := by decide +kernel
theorem dX8_enough_5 : decode cX8_enough 5 = .ok (.invokestatic 47, 3) := by decide +kernel
theorem dX8_enough_8 : decode cX8_enough 8 = .ok (.ifCond .eq 14, 3) := by decide +kernel
theorem dX8_enough_11 : decode cX8_enough 11 = .ok (.iload_n 2, 1) := by decide +kernel
theorem dX8_enough_12 : decode cX8_enough 12 = .ok (.i2l, 1) := by decide +kernel
theorem dX8_enough_13 : decode cX8_enough 13 = .ok (.iconst 0, 1) := by decide +kernel
theorem dX8_enough_14 : decode cX8_enough 14 = .ok (.ldc 103, 2) := by decide +kernel
theorem dX8_enough_16 : decode cX8_enough 16 = .ok (.invokestatic 47, 3) := by decide +kernel
theorem dX8_enough_19 : decode cX8_enough 19 = .ok (.ifCond .ne 10, 3) := by decide +kernel
theorem dX8_enough_22 : decode cX8_enough 22 = .ok (.aload_n 0, 1) := by decide +kernel
theorem dX8_enough_23 : decode cX8_enough 23 = .ok (.ldc 41, 2) := by decide +kernel
theorem dX8_enough_25 : decode cX8_enough 25 = .ok (.invokevirtual 43, 3) := by decide +kernel
theorem dX8_enough_28 : decode cX8_enough 28 = .ok (.ireturn, 1) := by decide +kernel
theorem dX8_enough_29 : decode cX8_enough 29 = .ok (.aload_n 0, 1) := by decide +kernel
theorem dX8_enough_30 : decode cX8_enough 30 = .ok (.invokevirtual 124, 3) := by decide +kernel
theorem dX8_enough_33 : decode cX8_enough 33 = .ok (.iconst (-1), 1) := by decide +kernel
theorem dX8_enough_34 : decode cX8_enough 34 = .ok (.istore_n 3, 1) := by decide +kernel
theorem dX8_enough_35 : decode cX8_enough 35 = .ok (.bipush 9, 2) := by decide +kernel
theorem dX8_enough_37 : decode cX8_enough 37 = .ok (.istore 4, 2) := by decide +kernel
theorem dX8_enough_39 : decode cX8_enough 39 = .ok (.iload 4, 2) := by decide +kernel
theorem dX8_enough_41 : decode cX8_enough 41 = .ok (.ifCond .lt 33, 3) := by decide +kernel
theorem dX8_enough_44 : decode cX8_enough 44 = .ok (.aload_n 0, 1) := by decide +kernel
theorem dX8_enough_45 : decode cX8_enough 45 = .ok (.getfield 9, 3) := by decide +kernel
theorem dX8_enough_48 : decode cX8_enough 48 = .ok (.iconst 1, 1) := by decide +kernel
theorem dX8_enough_49 : decode cX8_enough 49 = .ok (.iload 4, 2) := by decide +kernel
theorem dX8_enough_51 : decode cX8_enough 51 = .ok (.iastore, 1) := by decide +kernel
theorem dX8_enough_52 : decode cX8_enough 52 = .ok (.aload_n 0, 1) := by decide +kernel
theorem dX8_enough_53 : decode cX8_enough 53 = .ok (.iload_n 1, 1) := by decide +kernel
theorem dX8_enough_54 : decode cX8_enough 54 = .ok (.invokevirtual 139, 3) := by decide +kernel
theorem dX8_enough_57 : decode cX8_enough 57 = .ok (.iload_n 2, 1) := by decide +kernel
theorem dX8_enough_58 : decode cX8_enough 58 = .ok (.if_icmp .lt 8, 3) := by decide +kernel
theorem dX8_enough_61 : decode cX8_enough 61 = .ok (.iload 4, 2) := by decide +kernel
theorem dX8_enough_63 : decode cX8_enough 63 = .ok (.goto 4, 3) := by decide +kernel
theorem dX8_enough_66 : decode cX8_enough 66 = .ok (.iload_n 3, 1) := by decide +kernel
theorem dX8_enough_67 : decode cX8_enough 67 = .ok (.istore_n 3, 1) := by decide +kernel
theorem dX8_enough_68 : decode cX8_enough 68 = .ok (.iinc 4 (-1), 3) := by decide +kernel
theorem dX8_enough_71 : decode cX8_enough 71 = .ok (.goto (-32), 3) := by decide +kernel
theorem dX8_enough_74 : decode cX8_enough 74 = .ok (.aload_n 0, 1) := by decide +kernel
theorem dX8_enough_75 : decode cX8_enough 75 = .ok (.iload_n 3, 1) := by decide +kernel
theorem dX8_enough_76 : decode cX8_enough 76 = .ok (.invokevirtual 72, 3) := by decide +kernel
theorem dX8_enough_79 : decode cX8_enough 79 = .ok (.ireturn, 1) := by decide +kernel
theorem dX8_bestAt_0 : decode cX8_bestAt 0 = .ok (.aload_n 0, 1) := by decide +kernel
theorem dX8_bestAt_1 : decode cX8_bestAt 1 = .ok (.invokevirtual 124, 3) := by decide +kernel
theorem dX8_bestAt_4 : decode cX8_bestAt 4 = .ok (.iconst 0, 1) := by decide +kernel
theorem dX8_bestAt_5 : decode cX8_bestAt 5 = .ok (.istore 4, 2) := by decide +kernel
theorem dX8_bestAt_7 : decode cX8_bestAt 7 = .ok (.iconst (-1), 1) := by decide +kernel
theorem dX8_bestAt_8 : decode cX8_bestAt 8 = .ok (.istore 5, 2) := by decide +kernel
theorem dX8_bestAt_10 : decode cX8_bestAt 10 = .ok (.iconst 0, 1) := by decide +kernel
theorem dX8_bestAt_11 : decode cX8_bestAt 11 = .ok (.istore 6, 2) := by decide +kernel
theorem dX8_bestAt_13 : decode cX8_bestAt 13 = .ok (.iload 6, 2) := by decide +kernel
theorem dX8_bestAt_15 : decode cX8_bestAt 15 = .ok (.iload_n 2, 1) := by decide +kernel
theorem dX8_bestAt_16 : decode cX8_bestAt 16 = .ok (.if_icmp .ge 56, 3) := by decide +kernel
theorem dX8_bestAt_19 : decode cX8_bestAt 19 = .ok (.aload_n 0, 1) := by decide +kernel
theorem dX8_bestAt_20 : decode cX8_bestAt 20 = .ok (.getfield 9, 3) := by decide +kernel
theorem dX8_bestAt_23 : decode cX8_bestAt 23 = .ok (.iload_n 1, 1) := by decide +kernel
theorem dX8_bestAt_24 : decode cX8_bestAt 24 = .ok (.iload 6, 2) := by decide +kernel
theorem dX8_bestAt_26 : decode cX8_bestAt 26 = .ok (.iastore, 1) := by decide +kernel
theorem dX8_bestAt_27 : decode cX8_bestAt 27 = .ok (.aload_n 0, 1) := by decide +kernel
theorem dX8_bestAt_28 : decode cX8_bestAt 28 = .ok (.iload_n 3, 1) := by decide +kernel
theorem dX8_bestAt_29 : decode cX8_bestAt 29 = .ok (.invokevirtual 139, 3) := by decide +kernel
theorem dX8_bestAt_32 : decode cX8_bestAt 32 = .ok (.istore 7, 2) := by decide +kernel
theorem dX8_bestAt_34 : decode cX8_bestAt 34 = .ok (.iload 7, 2) := by decide +kernel
theorem dX8_bestAt_36 : decode cX8_bestAt 36 = .ok (.iload 5, 2) := by decide +kernel
theorem dX8_bestAt_38 : decode cX8_bestAt 38 = .ok (.if_icmp .le 8, 3) := by decide +kernel
theorem dX8_bestAt_41 : decode cX8_bestAt 41 = .ok (.iload 6, 2) := by decide +kernel
theorem dX8_bestAt_43 : decode cX8_bestAt 43 = .ok (.goto 5, 3) := by decide +kernel
theorem dX8_bestAt_46 : decode cX8_bestAt 46 = .ok (.iload 4, 2) := by decide +kernel
theorem dX8_bestAt_48 : decode cX8_bestAt 48 = .ok (.istore 4, 2) := by decide +kernel
theorem dX8_bestAt_50 : decode cX8_bestAt 50 = .ok (.iload 7, 2) := by decide +kernel
theorem dX8_bestAt_52 : decode cX8_bestAt 52 = .ok (.iload 5, 2) := by decide +kernel
theorem dX8_bestAt_54 : decode cX8_bestAt 54 = .ok (.if_icmp .le 8, 3) := by decide +kernel
theorem dX8_bestAt_57 : decode cX8_bestAt 57 = .ok (.iload 7, 2) := by decide +kernel
theorem dX8_bestAt_59 : decode cX8_bestAt 59 = .ok (.goto 5, 3) := by decide +kernel
theorem dX8_bestAt_62 : decode cX8_bestAt 62 = .ok (.iload 5, 2) := by decide +kernel
theorem dX8_bestAt_64 : decode cX8_bestAt 64 = .ok (.istore 5, 2) := by decide +kernel
