theorem dX6_goDay_88 : decode cX6_goDay 88 = .ok (.aload_n 0, 1) := by decide +kernel
theorem dX6_goDay_89 : decode cX6_goDay 89 = .ok (.getfield 9, 3) := by decide +kernel
theorem dX6_goDay_92 : decode cX6_goDay 92 = .ok (.iload 4, 2) := by decide +kernel
theorem dX6_goDay_94 : decode cX6_goDay 94 = .ok (.iaload, 1) := by decide +kernel
theorem dX6_goDay_95 : decode cX6_goDay 95 = .ok (.iconst 1, 1) := by decide +kernel
theorem dX6_goDay_96 : decode cX6_goDay 96 = .ok (.iadd, 1) := by decide +kernel
theorem dX6_goDay_97 : decode cX6_goDay 97 = .ok (.invokevirtual 24, 3) := by decide +kernel
theorem dX6_goDay_100 : decode cX6_goDay 100 = .ok (.iinc 5 1, 3) := by decide +kernel
theorem dX6_goDay_103 : decode cX6_goDay 103 = .ok (.goto (-32), 3) := by decide +kernel
theorem dX6_goDay_106 : decode cX6_goDay 106 = .ok (.iinc 4 1, 3) := by decide +kernel
theorem dX6_goDay_109 : decode cX6_goDay 109 = .ok (.goto (-80), 3) := by decide +kernel
theorem dX6_goDay_112 : decode cX6_goDay 112 = .ok (.aload_n 0, 1) := by decide +kernel
theorem dX6_goDay_113 : decode cX6_goDay 113 = .ok (.getfield 15, 3) := by decide +kernel
theorem dX6_goDay_116 : decode cX6_goDay 116 = .ok (.iconst 0, 1) := by decide +kernel
theorem dX6_goDay_117 : decode cX6_goDay 117 = .ok (.aload_n 0, 1) := by decide +kernel
theorem dX6_goDay_118 : decode cX6_goDay 118 = .ok (.getfield 9, 3) := by decide +kernel
theorem dX6_goDay_121 : decode cX6_goDay 121 = .ok (.iconst 0, 1) := by decide +kernel
theorem dX6_goDay_122 : decode cX6_goDay 122 = .ok (.bipush 36, 2) := by decide +kernel
theorem dX6_goDay_124 : decode cX6_goDay 124 = .ok (.invokestatic 28, 3) := by decide +kernel
theorem dX6_goDay_127 : decode cX6_goDay 127 = .ok (.return_, 1) := by decide +kernel
theorem dX6_reached_0 : decode cX6_reached 0 = .ok (.lconst 0, 1) := by decide +kernel
theorem dX6_reached_1 : decode cX6_reached 1 = .ok (.lstore_n 1, 1) := by decide +kernel
theorem dX6_reached_2 : decode cX6_reached 2 = .ok (.iconst 0, 1) := by decide +kernel
theorem dX6_reached_3 : decode cX6_reached 3 = .ok (.istore_n 3, 1) := by decide +kernel
theorem dX6_reached_4 : decode cX6_reached 4 = .ok (.iload_n 3, 1) := by decide +kernel
theorem dX6_reached_5 : decode cX6_reached 5 = .ok (.bipush 36, 2) := by decide +kernel
theorem dX6_reached_7 : decode cX6_reached 7 = .ok (.if_icmp .ge 27, 3) := by decide +kernel
theorem dX6_reached_10 : decode cX6_reached 10 = .ok (.aload_n 0, 1) := by decide +kernel
theorem dX6_reached_11 : decode cX6_reached 11 = .ok (.getfield 9, 3) := by decide +kernel
theorem dX6_reached_14 : decode cX6_reached 14 = .ok (.iload_n 3, 1) := by decide +kernel
theorem dX6_reached_15 : decode cX6_reached 15 = .ok (.iaload, 1) := by decide +kernel
theorem dX6_reached_16 : decode cX6_reached 16 = .ok (.sipush 1000, 3) := by decide +kernel
theorem dX6_reached_19 : decode cX6_reached 19 = .ok (.if_icmp .ge 9, 3) := by decide +kernel
theorem dX6_reached_22 : decode cX6_reached 22 = .ok (.lload_n 1, 1) := by decide +kernel
theorem dX6_reached_23 : decode cX6_reached 23 = .ok (.lconst 1, 1) := by decide +kernel
theorem dX6_reached_24 : decode cX6_reached 24 = .ok (.iload_n 3, 1) := by decide +kernel
theorem dX6_reached_25 : decode cX6_reached 25 = .ok (.lshl, 1) := by decide +kernel
theorem dX6_reached_26 : decode cX6_reached 26 = .ok (.lor, 1) := by decide +kernel
theorem dX6_reached_27 : decode cX6_reached 27 = .ok (.lstore_n 1, 1) := by decide +kernel
theorem dX6_reached_28 : decode cX6_reached 28 = .ok (.iinc 3 1, 3) := by decide +kernel
theorem dX6_reached_31 : decode cX6_reached 31 = .ok (.goto (-27), 3) := by decide +kernel
theorem dX6_reached_34 : decode cX6_reached 34 = .ok (.lload_n 1, 1) := by decide +kernel
theorem dX6_reached_35 : decode cX6_reached 35 = .ok (.lreturn, 1) := by decide +kernel
theorem dX6_lower_0 : decode cX6_lower 0 = .ok (.iload_n 1, 1) := by decide +kernel
theorem dX6_lower_1 : decode cX6_lower 1 = .ok (.bipush 35, 2) := by decide +kernel
theorem dX6_lower_3 : decode cX6_lower 3 = .ok (.invokestatic 34, 3) := by decide +kernel
theorem dX6_lower_6 : decode cX6_lower 6 = .ok (.ifCond .eq 20, 3) := by decide +kernel
theorem dX6_lower_9 : decode cX6_lower 9 = .ok (.iload_n 2, 1) := by decide +kernel
theorem dX6_lower_10 : decode cX6_lower 10 = .ok (.aload_n 0, 1) := by decide +kernel
theorem dX6_lower_11 : decode cX6_lower 11 = .ok (.getfield 15, 3) := by decide +kernel
theorem dX6_lower_14 : decode cX6_lower 14 = .ok (.iload_n 1, 1) := by decide +kernel
theorem dX6_lower_15 : decode cX6_lower 15 = .ok (.iaload, 1) := by decide +kernel
theorem dX6_lower_16 : decode cX6_lower 16 = .ok (.if_icmp .ge 10, 3) := by decide +kernel
theorem dX6_lower_19 : decode cX6_lower 19 = .ok (.aload_n 0, 1) := by decide +kernel
theorem dX6_lower_20 : decode cX6_lower 20 = .ok (.getfield 15, 3) := by decide +kernel
theorem dX6_lower_23 : decode cX6_lower 23 = .ok (.iload_n 1, 1) := by decide +kernel
theorem dX6_lower_24 : decode cX6_lower 24 = .ok (.iload_n 2, 1) := by decide +kernel
theorem dX6_lower_25 : decode cX6_lower 25 = .ok (.iastore, 1) := by decide +kernel
theorem dX6_lower_26 : decode cX6_lower 26 = .ok (.return_, 1) := by decide +kernel
theorem dX7_init_0 : decode cX7_init 0 = .ok (.aload_n 0, 1) := by decide +kernel
theorem dX7_init_1 : decode cX7_init 1 = .ok (.invokespecial 1, 3) := by decide +kernel
theorem dX7_init_4 : decode cX7_init 4 = .ok (.aload_n 0, 1) := by decide +kernel
theorem dX7_init_5 : decode cX7_init 5 = .ok (.new 7, 3) := by decide +kernel
theorem dX7_init_8 : decode cX7_init 8 = .ok (.dup, 1) := by decide +kernel
theorem dX7_init_9 : decode cX7_init 9 = .ok (.invokespecial 9, 3) := by decide +kernel
theorem dX7_init_12 : decode cX7_init 12 = .ok (.putfield 10, 3) := by decide +kernel
theorem dX7_init_15 : decode cX7_init 15 = .ok (.aload_n 0, 1) := by decide +kernel
theorem dX7_init_16 : decode cX7_init 16 = .ok (.new 7, 3) := by decide +kernel
theorem dX7_init_19 : decode cX7_init 19 = .ok (.dup, 1) := by decide +kernel
theorem dX7_init_20 : decode cX7_init 20 = .ok (.invokespecial 9, 3) := by decide +kernel
theorem dX7_init_23 : decode cX7_init 23 = .ok (.putfield 16, 3) := by decide +kernel
theorem dX7_init_26 : decode cX7_init 26 = .ok (.aload_n 0, 1) := by decide +kernel
theorem dX7_init_27 : decode cX7_init 27 = .ok (.new 7, 3) := by decide +kernel
theorem dX7_init_30 : decode cX7_init 30 = .ok (.dup, 1) := by decide +kernel
theorem dX7_init_31 : decode cX7_init 31 = .ok (.invokespecial 9, 3) := by decide +kernel
theorem dX7_init_34 : decode cX7_init 34 = .ok (.putfield 19, 3) := by decide +kernel
theorem dX7_init_37 : decode cX7_init 37 = .ok (.aload_n 0, 1) := by decide +kernel
theorem dX7_init_38 : decode cX7_init 38 = .ok (.iconst 0, 1) := by decide +kernel
theorem dX7_init_39 : decode cX7_init 39 = .ok (.putfield 22, 3) := by decide +kernel
theorem dX7_init_42 : decode cX7_init 42 = .ok (.aload_n 0, 1) := by decide +kernel
theorem dX7_init_43 : decode cX7_init 43 = .ok (.new 26, 3) := by decide +kernel
theorem dX7_init_46 : decode cX7_init 46 = .ok (.dup, 1) := by decide +kernel
theorem dX7_init_47 : decode cX7_init 47 = .ok (.invokespecial 28, 3) := by decide +kernel
theorem dX7_init_50 : decode cX7_init 50 = .ok (.putfield 29, 3) := by decide +kernel
theorem dX7_init_53 : decode cX7_init 53 = .ok (.aload_n 0, 1) := by decide +kernel
theorem dX7_init_54 : decode cX7_init 54 = .ok (.new 26, 3) := by decide +kernel
theorem dX7_init_57 : decode cX7_init 57 = .ok (.dup, 1) := by decide +kernel
theorem dX7_init_58 : decode cX7_init 58 = .ok (.invokespecial 28, 3) := by decide +kernel
theorem dX7_init_61 : decode cX7_init 61 = .ok (.putfield 33, 3) := by decide +kernel
theorem dX7_init_64 : decode cX7_init 64 = .ok (.aload_n 0, 1) := by decide +kernel
theorem dX7_init_65 : decode cX7_init 65 = .ok (.new 36, 3) := by decide +kernel
theorem dX7_init_68 : decode cX7_init 68 = .ok (.dup, 1) := by decide +kernel
theorem dX7_init_69 : decode cX7_init 69 = .ok (.invokespecial 38, 3) := by decide +kernel
theorem dX7_init_72 : decode cX7_init 72 = .ok (.putfield 39, 3) := by decide +kernel
theorem dX7_init_75 : decode cX7_init 75 = .ok (.aload_n 0, 1) := by decide +kernel
theorem dX7_init_76 : decode cX7_init 76 = .ok (.new 43, 3) := by decide +kernel
theorem dX7_init_79 : decode cX7_init 79 = .ok (.dup, 1) := by decide +kernel
theorem dX7_init_80 : decode cX7_init 80 = .ok (.invokespecial 45, 3) := by decide +kernel
theorem dX7_init_83 : decode cX7_init 83 = .ok (.putfield 46, 3) := by decide +kernel
theorem dX7_init_86 : decode cX7_init 86 = .ok (.aload_n 0, 1) := by decide +kernel
theorem dX7_init_87 : decode cX7_init 87 = .ok (.new 50, 3) := by decide +kernel
theorem dX7_init_90 : decode cX7_init 90 = .ok (.dup, 1) := by decide +kernel
theorem dX7_init_91 : decode cX7_init 91 = .ok (.invokespecial 52, 3) := by decide +kernel
theorem dX7_init_94 : decode cX7_init 94 = .ok (.putfield 53, 3) := by decide +kernel
theorem dX7_init_97 : decode cX7_init 97 = .ok (.aload_n 0, 1) := by decide +kernel
theorem dX7_init_98 : decode cX7_init 98 = .ok (.new 57, 3) := by decide +kernel
theorem dX7_init_101 : decode cX7_init 101 = .ok (.dup, 1) := by decide +kernel
theorem dX7_init_102 : decode cX7_init 102 = .ok (.aload_n 0, 1) := by decide +kernel
theorem dX7_init_103 : decode cX7_init 103 = .ok (.getfield 53, 3) := by decide +kernel
theorem dX7_init_106 : decode cX7_init 106 = .ok (.invokespecial 59, 3) := by decide +kernel
theorem dX7_init_109 : decode cX7_init 109 = .ok (.putfield 62, 3) := by decide +kernel
theorem dX7_init_112 : decode cX7_init 112 = .ok (.aload_n 0, 1) := by decide +kernel
theorem dX7_init_113 : decode cX7_init 113 = .ok (.iconst 4, 1) := by decide +kernel
theorem dX7_init_114 : decode cX7_init 114 = .ok (.anewarray 66, 3) := by decide +kernel
theorem dX7_init_117 : decode cX7_init 117 = .ok (.putfield 68, 3) := by decide +kernel
theorem dX7_init_120 : decode cX7_init 120 = .ok (.iconst 0, 1) := by decide +kernel
theorem dX7_init_121 : decode cX7_init 121 = .ok (.istore_n 1, 1) := by decide +kernel
theorem dX7_init_122 : decode cX7_init 122 = .ok (.iload_n 1, 1) := by decide +kernel
theorem dX7_init_123 : decode cX7_init 123 = .ok (.iconst 4, 1) := by decide +kernel
theorem dX7_init_124 : decode cX7_init 124 = .ok (.if_icmp .ge 22, 3) := by decide +kernel
theorem dX7_init_127 : decode cX7_init 127 = .ok (.aload_n 0, 1) := by decide +kernel
theorem dX7_init_128 : decode cX7_init 128 = .ok (.getfield 68, 3) := by decide +kernel
theorem dX7_init_131 : decode cX7_init 131 = .ok (.iload_n 1, 1) := by decide +kernel
theorem dX7_init_132 : decode cX7_init 132 = .ok (.new 66, 3) := by decide +kernel
theorem dX7_init_135 : decode cX7_init 135 = .ok (.dup, 1) := by decide +kernel
theorem dX7_init_136 : decode cX7_init 136 = .ok (.invokespecial 72, 3) := by decide +kernel
theorem dX7_init_139 : decode cX7_init 139 = .ok (.aastore, 1) := by decide +kernel
theorem dX7_init_140 : decode cX7_init 140 = .ok (.iinc 1 1, 3) := by decide +kernel
theorem dX7_init_143 : decode cX7_init 143 = .ok (.goto (-21), 3) := by decide +kernel
theorem dX7_init_146 : decode cX7_init 146 = .ok (.aload_n 0, 1) := by decide +kernel
theorem dX7_init_147 : decode cX7_init 147 = .ok (.bipush 7, 2) := by decide +kernel
theorem dX7_init_149 : decode cX7_init 149 = .ok (.newarray .int, 2) := by decide +kernel
theorem dX7_init_151 : decode cX7_init 151 = .ok (.putfield 73, 3) := by decide +kernel
theorem dX7_init_154 : decode cX7_init 154 = .ok (.return_, 1) := by decide +kernel
theorem dX7_rota_0 : decode cX7_rota 0 = .ok (.iload_n 1, 1) := by decide +kernel
theorem dX7_rota_1 : decode cX7_rota 1 = .ok (.bipush 6, 2) := by decide +kernel
theorem dX7_rota_3 : decode cX7_rota 3 = .ok (.invokestatic 77, 3) := by decide +kernel
theorem dX7_rota_6 : decode cX7_rota 6 = .ok (.ifCond .eq 12, 3) := by decide +kernel
theorem dX7_rota_9 : decode cX7_rota 9 = .ok (.iload_n 2, 1) := by decide +kernel
theorem dX7_rota_10 : decode cX7_rota 10 = .ok (.bipush 8, 2) := by decide +kernel
theorem dX7_rota_12 : decode cX7_rota 12 = .ok (.invokestatic 77, 3) := by decide +kernel
theorem dX7_rota_15 : decode cX7_rota 15 = .ok (.ifCond .ne 10, 3) := by decide +kernel
theorem dX7_rota_18 : decode cX7_rota 18 = .ok (.aload_n 0, 1) := by decide +kernel
theorem dX7_rota_19 : decode cX7_rota 19 = .ok (.ldc 81, 2) := by decide +kernel
theorem dX7_rota_21 : decode cX7_rota 21 = .ok (.invokevirtual 82, 3) := by decide +kernel
theorem dX7_rota_24 : decode cX7_rota 24 = .ok (.ireturn, 1) := by decide +kernel
theorem dX7_rota_25 : decode cX7_rota 25 = .ok (.aload_n 0, 1) := by decide +kernel
theorem dX7_rota_26 : decode cX7_rota 26 = .ok (.getfield 10, 3) := by decide +kernel
theorem dX7_rota_29 : decode cX7_rota 29 = .ok (.getfield 86, 3) := by decide +kernel
theorem dX7_rota_32 : decode cX7_rota 32 = .ok (.iload_n 1, 1) := by decide +kernel
theorem dX7_rota_33 : decode cX7_rota 33 = .ok (.iaload, 1) := by decide +kernel
theorem dX7_rota_34 : decode cX7_rota 34 = .ok (.istore_n 3, 1) := by decide +kernel
theorem dX7_rota_35 : decode cX7_rota 35 = .ok (.aload_n 0, 1) := by decide +kernel
theorem dX7_rota_36 : decode cX7_rota 36 = .ok (.getfield 10, 3) := by decide +kernel
theorem dX7_rota_39 : decode cX7_rota 39 = .ok (.getfield 86, 3) := by decide +kernel
theorem dX7_rota_42 : decode cX7_rota 42 = .ok (.iload_n 1, 1) := by decide +kernel
theorem dX7_rota_43 : decode cX7_rota 43 = .ok (.iload_n 2, 1) := by decide +kernel
theorem dX7_rota_44 : decode cX7_rota 44 = .ok (.iastore, 1) := by decide +kernel
theorem dX7_rota_45 : decode cX7_rota 45 = .ok (.iload_n 3, 1) := by decide +kernel
theorem dX7_rota_46 : decode cX7_rota 46 = .ok (.ireturn, 1) := by decide +kernel
theorem dX7_rotaOf_0 : decode cX7_rotaOf 0 = .ok (.iload_n 1, 1) := by decide +kernel
theorem dX7_rotaOf_1 : decode cX7_rotaOf 1 = .ok (.bipush 6, 2) := by decide +kernel
theorem dX7_rotaOf_3 : decode cX7_rotaOf 3 = .ok (.invokestatic 77, 3) := by decide +kernel
theorem dX7_rotaOf_6 : decode cX7_rotaOf 6 = .ok (.ifCond .ne 10, 3) := by decide +kernel
theorem dX7_rotaOf_9 : decode cX7_rotaOf 9 = .ok (.aload_n 0, 1) := by decide +kernel
theorem dX7_rotaOf_10 : decode cX7_rotaOf 10 = .ok (.ldc 81, 2) := by decide +kernel
theorem dX7_rotaOf_12 : decode cX7_rotaOf 12 = .ok (.invokevirtual 82, 3) := by decide +kernel
theorem dX7_rotaOf_15 : decode cX7_rotaOf 15 = .ok (.ireturn, 1) := by decide +kernel
theorem dX7_rotaOf_16 : decode cX7_rotaOf 16 = .ok (.aload_n 0, 1) := by decide +kernel
theorem dX7_rotaOf_17 : decode cX7_rotaOf 17 = .ok (.getfield 10, 3) := by decide +kernel
theorem dX7_rotaOf_20 : decode cX7_rotaOf 20 = .ok (.getfield 86, 3) := by decide +kernel
theorem dX7_rotaOf_23 : decode cX7_rotaOf 23 = .ok (.iload_n 1, 1) := by decide +kernel
theorem dX7_rotaOf_24 : decode cX7_rotaOf 24 = .ok (.iaload, 1) := by decide +kernel
theorem dX7_rotaOf_25 : decode cX7_rotaOf 25 = .ok (.ireturn, 1) := by decide +kernel
theorem dX7_sick_0 : decode cX7_sick 0 = .ok (.iload_n 1, 1) := by decide +kernel
theorem dX7_sick_1 : decode cX7_sick 1 = .ok (.bipush 7, 2) := by decide +kernel
theorem dX7_sick_3 : decode cX7_sick 3 = .ok (.invokestatic 77, 3) := by decide +kernel
theorem dX7_sick_6 : decode cX7_sick 6 = .ok (.ifCond .eq 11, 3) := by decide +kernel
theorem dX7_sick_9 : decode cX7_sick 9 = .ok (.iload_n 2, 1) := by decide +kernel
theorem dX7_sick_10 : decode cX7_sick 10 = .ok (.iconst 1, 1) := by decide +kernel
theorem dX7_sick_11 : decode cX7_sick 11 = .ok (.invokestatic 77, 3) := by decide +kernel
theorem dX7_sick_14 : decode cX7_sick 14 = .ok (.ifCond .ne 10, 3) := by decide +kernel
theorem dX7_sick_17 : decode cX7_sick 17 = .ok (.aload_n 0, 1) := by decide +kernel
theorem dX7_sick_18 : decode cX7_sick 18 = .ok (.ldc 81, 2) := by decide +kernel
theorem dX7_sick_20 : decode cX7_sick 20 = .ok (.invokevirtual 82, 3) := by decide +kernel
theorem dX7_sick_23 : decode cX7_sick 23 = .ok (.ireturn, 1) := by decide +kernel
theorem dX7_sick_24 : decode cX7_sick 24 = .ok (.aload_n 0, 1) := by decide +kernel
theorem dX7_sick_25 : decode cX7_sick 25 = .ok (.getfield 10, 3) := by decide +kernel
theorem dX7_sick_28 : decode cX7_sick 28 = .ok (.iload_n 1, 1) := by decide +kernel
theorem dX7_sick_29 : decode cX7_sick 29 = .ok (.invokevirtual 89, 3) := by decide +kernel
theorem dX7_sick_32 : decode cX7_sick 32 = .ok (.ifCond .eq 7, 3) := by decide +kernel
theorem dX7_sick_35 : decode cX7_sick 35 = .ok (.iconst 1, 1) := by decide +kernel
theorem dX7_sick_36 : decode cX7_sick 36 = .ok (.goto 4, 3) := by decide +kernel
theorem dX7_sick_39 : decode cX7_sick 39 = .ok (.iconst 0, 1) := by decide +kernel
theorem dX7_sick_40 : decode cX7_sick 40 = .ok (.istore_n 3, 1) := by decide +kernel
theorem dX7_sick_41 : decode cX7_sick 41 = .ok (.aload_n 0, 1) := by decide +kernel
theorem dX7_sick_42 : decode cX7_sick 42 = .ok (.getfield 10, 3) := by decide +kernel
theorem dX7_sick_45 : decode cX7_sick 45 = .ok (.iload_n 1, 1) := by decide +kernel
theorem dX7_sick_46 : decode cX7_sick 46 = .ok (.iload_n 2, 1) := by decide +kernel
theorem dX7_sick_47 : decode cX7_sick 47 = .ok (.iconst 1, 1) := by decide +kernel
theorem dX7_sick_48 : decode cX7_sick 48 = .ok (.if_icmp .ne 7, 3) := by decide +kernel
theorem dX7_sick_51 : decode cX7_sick 51 = .ok (.iconst 1, 1) := by decide +kernel
theorem dX7_sick_52 : decode cX7_sick 52 = .ok (.goto 4, 3) := by decide +kernel
theorem dX7_sick_55 : decode cX7_sick 55 = .ok (.iconst 0, 1) := by decide +kernel
theorem dX7_sick_56 : decode cX7_sick 56 = .ok (.invokevirtual 93, 3) := by decide +kernel
theorem dX7_sick_59 : decode cX7_sick 59 = .ok (.iload_n 3, 1) := by decide +kernel
theorem dX7_sick_60 : decode cX7_sick 60 = .ok (.ireturn, 1) := by decide +kernel
theorem dX7_force_0 : decode cX7_force 0 = .ok (.iload_n 1, 1) := by decide +kernel
theorem dX7_force_1 : decode cX7_force 1 = .ok (.bipush 9, 2) := by decide +kernel
theorem dX7_force_3 : decode cX7_force 3 = .ok (.invokestatic 77, 3) := by decide +kernel
theorem dX7_force_6 : decode cX7_force 6 = .ok (.ifCond .ne 10, 3) := by decide +kernel
theorem dX7_force_9 : decode cX7_force 9 = .ok (.aload_n 0, 1) := by decide +kernel
theorem dX7_force_10 : decode cX7_force 10 = .ok (.ldc 81, 2) := by decide +kernel
theorem dX7_force_12 : decode cX7_force 12 = .ok (.invokevirtual 82, 3) := by decide +kernel
theorem dX7_force_15 : decode cX7_force 15 = .ok (.ireturn, 1) := by decide +kernel
theorem dX7_force_16 : decode cX7_force 16 = .ok (.aload_n 0, 1) := by decide +kernel
theorem dX7_force_17 : decode cX7_force 17 = .ok (.getfield 10, 3) := by decide +kernel
theorem dX7_force_20 : decode cX7_force 20 = .ok (.getfield 97, 3) := by decide +kernel
theorem dX7_force_23 : decode cX7_force 23 = .ok (.istore_n 2, 1) := by decide +kernel
theorem dX7_force_24 : decode cX7_force 24 = .ok (.aload_n 0, 1) := by decide +kernel
theorem dX7_force_25 : decode cX7_force 25 = .ok (.getfield 10, 3) := by decide +kernel
theorem dX7_force_28 : decode cX7_force 28 = .ok (.iload_n 1, 1) := by decide +kernel
theorem dX7_force_29 : decode cX7_force 29 = .ok (.putfield 97, 3) := by decide +kernel
theorem dX7_force_32 : decode cX7_force 32 = .ok (.iload_n 2, 1) := by decide +kernel
theorem dX7_force_33 : decode cX7_force 33 = .ok (.ireturn, 1) := by decide +kernel
theorem dX7_blows_0 : decode cX7_blows 0 = .ok (.iload_n 1, 1) := by decide +kernel
theorem dX7_blows_1 : decode cX7_blows 1 = .ok (.sipush 9999, 3) := by decide +kernel
theorem dX7_blows_4 : decode cX7_blows 4 = .ok (.invokestatic 77, 3) := by decide +kernel
theorem dX7_blows_7 : decode cX7_blows 7 = .ok (.ifCond .ne 10, 3) := by decide +kernel
theorem dX7_blows_10 : decode cX7_blows 10 = .ok (.aload_n 0, 1) := by decide +kernel
theorem dX7_blows_11 : decode cX7_blows 11 = .ok (.ldc 81, 2) := by decide +kernel
theorem dX7_blows_13 : decode cX7_blows 13 = .ok (.invokevirtual 82, 3) := by decide +kernel
theorem dX7_blows_16 : decode cX7_blows 16 = .ok (.ireturn, 1) := by decide +kernel
theorem dX7_blows_17 : decode cX7_blows 17 = .ok (.aload_n 0, 1) := by decide +kernel
theorem dX7_blows_18 : decode cX7_blows 18 = .ok (.getfield 10, 3) := by decide +kernel
theorem dX7_blows_21 : decode cX7_blows 21 = .ok (.iload_n 1, 1) := by decide +kernel
theorem dX7_blows_22 : decode cX7_blows 22 = .ok (.invokevirtual 101, 3) := by decide +kernel
theorem dX7_blows_25 : decode cX7_blows 25 = .ok (.ireturn, 1) := by decide +kernel
theorem dX7_lee_0 : decode cX7_lee 0 = .ok (.iload_n 1, 1) := by decide +kernel
theorem dX7_lee_1 : decode cX7_lee 1 = .ok (.bipush 35, 2) := by decide +kernel
theorem dX7_lee_3 : decode cX7_lee 3 = .ok (.invokestatic 77, 3) := by decide +kernel
theorem dX7_lee_6 : decode cX7_lee 6 = .ok (.ifCond .eq 12, 3) := by decide +kernel
theorem dX7_lee_9 : decode cX7_lee 9 = .ok (.iload_n 2, 1) := by decide +kernel
theorem dX7_lee_10 : decode cX7_lee 10 = .ok (.bipush 7, 2) := by decide +kernel
theorem dX7_lee_12 : decode cX7_lee 12 = .ok (.invokestatic 77, 3) := by decide +kernel
theorem dX7_lee_15 : decode cX7_lee 15 = .ok (.ifCond .ne 10, 3) := by decide +kernel
theorem dX7_lee_18 : decode cX7_lee 18 = .ok (.aload_n 0, 1) := by decide +kernel
theorem dX7_lee_19 : decode cX7_lee 19 = .ok (.ldc 81, 2) := by decide +kernel
theorem dX7_lee_21 : decode cX7_lee 21 = .ok (.invokevirtual 82, 3) := by decide +kernel
theorem dX7_lee_24 : decode cX7_lee 24 = .ok (.ireturn, 1) := by decide +kernel
theorem dX7_lee_25 : decode cX7_lee 25 = .ok (.iload_n 1, 1) := by decide +kernel
theorem dX7_lee_26 : decode cX7_lee 26 = .ok (.iload_n 2, 1) := by decide +kernel
theorem dX7_lee_27 : decode cX7_lee 27 = .ok (.invokestatic 104, 3) := by decide +kernel
theorem dX7_lee_30 : decode cX7_lee 30 = .ok (.istore_n 3, 1) := by decide +kernel
theorem dX7_lee_31 : decode cX7_lee 31 = .ok (.iload_n 3, 1) := by decide +kernel
theorem dX7_lee_32 : decode cX7_lee 32 = .ok (.iconst (-1), 1) := by decide +kernel
theorem dX7_lee_33 : decode cX7_lee 33 = .ok (.if_icmp .ne 12, 3) := by decide +kernel
theorem dX7_lee_36 : decode cX7_lee 36 = .ok (.aload_n 0, 1) := by decide +kernel
theorem dX7_lee_37 : decode cX7_lee 37 = .ok (.ldc 108, 2) := by decide +kernel
theorem dX7_lee_39 : decode cX7_lee 39 = .ok (.invokevirtual 82, 3) := by decide +kernel
theorem dX7_lee_42 : decode cX7_lee 42 = .ok (.goto 4, 3) := by decide +kernel
theorem dX7_lee_45 : decode cX7_lee 45 = .ok (.iload_n 3, 1) := by decide +kernel
theorem dX7_lee_46 : decode cX7_lee 46 = .ok (.ireturn, 1) := by decide +kernel
theorem dX7_thing_0 : decode cX7_thing 0 = .ok (.iload_n 1, 1) := by decide +kernel
theorem dX7_thing_1 : decode cX7_thing 1 = .ok (.iconst 5, 1) := by decide +kernel
theorem dX7_thing_2 : decode cX7_thing 2 = .ok (.invokestatic 77, 3) := by decide +kernel
theorem dX7_thing_5 : decode cX7_thing 5 = .ok (.ifCond .eq 12, 3) := by decide +kernel
theorem dX7_thing_8 : decode cX7_thing 8 = .ok (.iload_n 2, 1) := by decide +kernel
theorem dX7_thing_9 : decode cX7_thing 9 = .ok (.bipush 35, 2) := by decide +kernel
theorem dX7_thing_11 : decode cX7_thing 11 = .ok (.invokestatic 77, 3) := by decide +kernel
theorem dX7_thing_14 : decode cX7_thing 14 = .ok (.ifCond .ne 10, 3) := by decide +kernel
theorem dX7_thing_17 : decode cX7_thing 17 = .ok (.aload_n 0, 1) := by decide +kernel
theorem dX7_thing_18 : decode cX7_thing 18 = .ok (.ldc 81, 2) := by decide +kernel
theorem dX7_thing_20 : decode cX7_thing 20 = .ok (.invokevirtual 82, 3) := by decide +kernel
theorem dX7_thing_23 : decode cX7_thing 23 = .ok (.ireturn, 1) := by decide +kernel
theorem dX7_thing_24 : decode cX7_thing 24 = .ok (.aload_n 0, 1) := by decide +kernel
theorem dX7_thing_25 : decode cX7_thing 25 = .ok (.getfield 10, 3) := by decide +kernel
theorem dX7_thing_28 : decode cX7_thing 28 = .ok (.invokevirtual 109, 3) := by decide +kernel
theorem dX7_thing_31 : decode cX7_thing 31 = .ok (.ifCond .eq 10, 3) := by decide +kernel
theorem dX7_thing_34 : decode cX7_thing 34 = .ok (.aload_n 0, 1) := by decide +kernel
theorem dX7_thing_35 : decode cX7_thing 35 = .ok (.ldc 113, 2) := by decide +kernel
theorem dX7_thing_37 : decode cX7_thing 37 = .ok (.invokevirtual 82, 3) := by decide +kernel
theorem dX7_thing_40 : decode cX7_thing 40 = .ok (.ireturn, 1) := by decide +kernel
theorem dX7_thing_41 : decode cX7_thing 41 = .ok (.aload_n 0, 1) := by decide +kernel
theorem dX7_thing_42 : decode cX7_thing 42 = .ok (.getfield 10, 3) := by decide +kernel
theorem dX7_thing_45 : decode cX7_thing 45 = .ok (.iload_n 1, 1) := by decide +kernel
theorem dX7_thing_46 : decode cX7_thing 46 = .ok (.iload_n 2, 1) := by decide +kernel
theorem dX7_thing_47 : decode cX7_thing 47 = .ok (.iconst 0, 1) := by decide +kernel
theorem dX7_thing_48 : decode cX7_thing 48 = .ok (.invokevirtual 114, 3) := by decide +kernel
theorem dX7_thing_51 : decode cX7_thing 51 = .ok (.aload_n 0, 1) := by decide +kernel
theorem dX7_thing_52 : decode cX7_thing 52 = .ok (.getfield 10, 3) := by decide +kernel
theorem dX7_thing_55 : decode cX7_thing 55 = .ok (.getfield 118, 3) := by decide +kernel
theorem dX7_thing_58 : decode cX7_thing 58 = .ok (.iconst 1, 1) := by decide +kernel
theorem dX7_thing_59 : decode cX7_thing 59 = .ok (.isub, 1) := by decide +kernel
theorem dX7_thing_60 : decode cX7_thing 60 = .ok (.ireturn, 1) := by decide +kernel
theorem dX7_of_0 : decode cX7_of 0 = .ok (.aload_n 0, 1) := by decide +kernel
theorem dX7_of_1 : decode cX7_of 1 = .ok (.getfield 10, 3) := by decide +kernel
theorem dX7_of_4 : decode cX7_of 4 = .ok (.iload_n 1, 1) := by decide +kernel
theorem dX7_of_5 : decode cX7_of 5 = .ok (.invokevirtual 121, 3) := by decide +kernel
theorem dX7_of_8 : decode cX7_of 8 = .ok (.ifCond .eq 11, 3) := by decide +kernel
theorem dX7_of_11 : decode cX7_of 11 = .ok (.iload_n 2, 1) := by decide +kernel
theorem dX7_of_12 : decode cX7_of 12 = .ok (.iconst 5, 1) := by decide +kernel
theorem dX7_of_13 : decode cX7_of 13 = .ok (.invokestatic 77, 3) := by decide +kernel
theorem dX7_of_16 : decode cX7_of 16 = .ok (.ifCond .ne 10, 3) := by decide +kernel
theorem dX7_of_19 : decode cX7_of 19 = .ok (.aload_n 0, 1) := by decide +kernel
theorem dX7_of_20 : decode cX7_of 20 = .ok (.ldc 81, 2) := by decide +kernel
theorem dX7_of_22 : decode cX7_of 22 = .ok (.invokevirtual 82, 3) := by decide +kernel
theorem dX7_of_25 : decode cX7_of 25 = .ok (.ireturn, 1) := by decide +kernel
theorem dX7_of_26 : decode cX7_of 26 = .ok (.aload_n 0, 1) := by decide +kernel
theorem dX7_of_27 : decode cX7_of 27 = .ok (.getfield 10, 3) := by decide +kernel
theorem dX7_of_30 : decode cX7_of 30 = .ok (.getfield 124, 3) := by decide +kernel
theorem dX7_of_33 : decode cX7_of 33 = .ok (.iload_n 1, 1) := by decide +kernel
theorem dX7_of_34 : decode cX7_of 34 = .ok (.aaload, 1) := by decide +kernel
theorem dX7_of_35 : decode cX7_of 35 = .ok (.astore_n 3, 1) := by decide +kernel
theorem dX7_of_36 : decode cX7_of 36 = .ok (.aload_n 0, 1) := by decide +kernel
theorem dX7_of_37 : decode cX7_of 37 = .ok (.getfield 10, 3) := by decide +kernel
theorem dX7_of_40 : decode cX7_of 40 = .ok (.aload_n 0, 1) := by decide +kernel
theorem dX7_of_41 : decode cX7_of 41 = .ok (.getfield 10, 3) := by decide +kernel
theorem dX7_of_44 : decode cX7_of 44 = .ok (.getfield 128, 3) := by decide +kernel
theorem dX7_of_47 : decode cX7_of 47 = .ok (.invokevirtual 101, 3) := by decide +kernel
theorem dX7_of_50 : decode cX7_of 50 = .ok (.istore 4, 2) := by decide +kernel
theorem dX7_of_52 : decode cX7_of 52 = .ok (.iload_n 2, 1) := by decide +kernel
theorem dX7_of_53 : decode cX7_of 53 = .ok (.tableswitch 76 0 4 #[35, 40, 45, 50, 55], 35) := by decide +kernel
theorem dX7_of_88 : decode cX7_of 88 = .ok (.aload_n 3, 1) := by decide +kernel
theorem dX7_of_89 : decode cX7_of 89 = .ok (.getfield 131, 3) := by decide +kernel
theorem dX7_of_92 : decode cX7_of 92 = .ok (.ireturn, 1) := by decide +kernel
theorem dX7_of_93 : decode cX7_of 93 = .ok (.aload_n 3, 1) := by decide +kernel
theorem dX7_of_94 : decode cX7_of 94 = .ok (.getfield 134, 3) := by decide +kernel
theorem dX7_of_97 : decode cX7_of 97 = .ok (.ireturn, 1) := by decide +kernel
theorem dX7_of_98 : decode cX7_of 98 = .ok (.aload_n 3, 1) := by decide +kernel
theorem dX7_of_99 : decode cX7_of 99 = .ok (.getfield 137, 3) := by decide +kernel
theorem dX7_of_102 : decode cX7_of 102 = .ok (.ireturn, 1) := by decide +kernel
theorem dX7_of_103 : decode cX7_of 103 = .ok (.aload_n 3, 1) := by decide +kernel
theorem dX7_of_104 : decode cX7_of 104 = .ok (.getfield 140, 3) := by decide +kernel
theorem dX7_of_107 : decode cX7_of 107 = .ok (.ireturn, 1) := by decide +kernel
theorem dX7_of_108 : decode cX7_of 108 = .ok (.aload_n 3, 1) := by decide +kernel
theorem dX7_of_109 : decode cX7_of 109 = .ok (.aload_n 0, 1) := by decide +kernel
theorem dX7_of_110 : decode cX7_of 110 = .ok (.getfield 10, 3) := by decide +kernel
theorem dX7_of_113 : decode cX7_of 113 = .ok (.getfield 128, 3) := by decide +kernel
theorem dX7_of_116 : decode cX7_of 116 = .ok (.iload 4, 2) := by decide +kernel
theorem dX7_of_118 : decode cX7_of 118 = .ok (.aload_n 0, 1) := by decide +kernel
theorem dX7_of_119 : decode cX7_of 119 = .ok (.getfield 10, 3) := by decide +kernel
theorem dX7_of_122 : decode cX7_of 122 = .ok (.getfield 97, 3) := by decide +kernel
theorem dX7_of_125 : decode cX7_of 125 = .ok (.invokevirtual 143, 3) := by decide +kernel
theorem dX7_of_128 : decode cX7_of 128 = .ok (.ireturn, 1) := by decide +kernel
theorem dX7_of_129 : decode cX7_of 129 = .ok (.aload_n 3, 1) := by decide +kernel
theorem dX7_of_130 : decode cX7_of 130 = .ok (.iload 4, 2) := by decide +kernel
theorem dX7_of_132 : decode cX7_of 132 = .ok (.aload_n 0, 1) := by decide +kernel
theorem dX7_of_133 : decode cX7_of 133 = .ok (.getfield 10, 3) := by decide +kernel
theorem dX7_of_136 : decode cX7_of 136 = .ok (.getfield 97, 3) := by decide +kernel
theorem dX7_of_139 : decode cX7_of 139 = .ok (.invokevirtual 147, 3) := by decide +kernel
theorem dX7_of_142 : decode cX7_of 142 = .ok (.ifCond .eq 7, 3) := by decide +kernel
theorem dX7_of_145 : decode cX7_of 145 = .ok (.iconst 1, 1) := by decide +kernel
theorem dX7_of_146 : decode cX7_of 146 = .ok (.goto 4, 3) := by decide +kernel
theorem dX7_of_149 : decode cX7_of 149 = .ok (.iconst 0, 1) := by decide +kernel
theorem dX7_of_150 : decode cX7_of 150 = .ok (.ireturn, 1) := by decide +kernel
theorem dX7_set_0 : decode cX7_set 0 = .ok (.aload_n 0, 1) := by decide +kernel
theorem dX7_set_1 : decode cX7_set 1 = .ok (.getfield 10, 3) := by decide +kernel
theorem dX7_set_4 : decode cX7_set 4 = .ok (.iload_n 1, 1) := by decide +kernel
theorem dX7_set_5 : decode cX7_set 5 = .ok (.invokevirtual 121, 3) := by decide +kernel
theorem dX7_set_8 : decode cX7_set 8 = .ok (.ifCond .eq 24, 3) := by decide +kernel
theorem dX7_set_11 : decode cX7_set 11 = .ok (.iload_n 2, 1) := by decide +kernel
theorem dX7_set_12 : decode cX7_set 12 = .ok (.iconst 1, 1) := by decide +kernel
theorem dX7_set_13 : decode cX7_set 13 = .ok (.if_icmp .lt 19, 3) := by decide +kernel
theorem dX7_set_16 : decode cX7_set 16 = .ok (.iload_n 2, 1) := by decide +kernel
theorem dX7_set_17 : decode cX7_set 17 = .ok (.iconst 3, 1) := by decide +kernel
theorem dX7_set_18 : decode cX7_set 18 = .ok (.if_icmp .gt 14, 3) := by decide +kernel
theorem dX7_set_21 : decode cX7_set 21 = .ok (.iload_n 3, 1) := by decide +kernel
theorem dX7_set_22 : decode cX7_set 22 = .ok (.iload_n 2, 1) := by decide +kernel
theorem dX7_set_23 : decode cX7_set 23 = .ok (.invokestatic 150, 3) := by decide +kernel
theorem dX7_set_26 : decode cX7_set 26 = .ok (.invokestatic 77, 3) := by decide +kernel
theorem dX7_set_29 : decode cX7_set 29 = .ok (.ifCond .ne 10, 3) := by decide +kernel
theorem dX7_set_32 : decode cX7_set 32 = .ok (.aload_n 0, 1) := by decide +kernel
theorem dX7_set_33 : decode cX7_set 33 = .ok (.ldc 81, 2) := by decide +kernel
theorem dX7_set_35 : decode cX7_set 35 = .ok (.invokevirtual 82, 3) := by decide +kernel
theorem dX7_set_38 : decode cX7_set 38 = .ok (.ireturn, 1) := by decide +kernel
theorem dX7_set_39 : decode cX7_set 39 = .ok (.aload_n 0, 1) := by decide +kernel
theorem dX7_set_40 : decode cX7_set 40 = .ok (.getfield 10, 3) := by decide +kernel
theorem dX7_set_43 : decode cX7_set 43 = .ok (.getfield 124, 3) := by decide +kernel
theorem dX7_set_46 : decode cX7_set 46 = .ok (.iload_n 1, 1) := by decide +kernel
theorem dX7_set_47 : decode cX7_set 47 = .ok (.aaload, 1) := by decide +kernel
theorem dX7_set_48 : decode cX7_set 48 = .ok (.astore 4, 2) := by decide +kernel
theorem dX7_set_50 : decode cX7_set 50 = .ok (.iload_n 2, 1) := by decide +kernel
theorem dX7_set_51 : decode cX7_set 51 = .ok (.iconst 1, 1) := by decide +kernel
theorem dX7_set_52 : decode cX7_set 52 = .ok (.if_icmp .ne 19, 3) := by decide +kernel
theorem dX7_set_55 : decode cX7_set 55 = .ok (.aload 4, 2) := by decide +kernel
theorem dX7_set_57 : decode cX7_set 57 = .ok (.getfield 134, 3) := by decide +kernel
theorem dX7_set_60 : decode cX7_set 60 = .ok (.istore 5, 2) := by decide +kernel
theorem dX7_set_62 : decode cX7_set 62 = .ok (.aload 4, 2) := by decide +kernel
theorem dX7_set_64 : decode cX7_set 64 = .ok (.iload_n 3, 1) := by decide +kernel
theorem dX7_set_65 : decode cX7_set 65 = .ok (.putfield 134, 3) := by decide +kernel
theorem dX7_set_68 : decode cX7_set 68 = .ok (.goto 37, 3) := by decide +kernel
theorem dX7_set_71 : decode cX7_set 71 = .ok (.iload_n 2, 1) := by decide +kernel
theorem dX7_set_72 : decode cX7_set 72 = .ok (.iconst 2, 1) := by decide +kernel
theorem dX7_set_73 : decode cX7_set 73 = .ok (.if_icmp .ne 19, 3) := by decide +kernel
theorem dX7_set_76 : decode cX7_set 76 = .ok (.aload 4, 2) := by decide +kernel
theorem dX7_set_78 : decode cX7_set 78 = .ok (.getfield 137, 3) := by decide +kernel
theorem dX7_set_81 : decode cX7_set 81 = .ok (.istore 5, 2) := by decide +kernel
theorem dX7_set_83 : decode cX7_set 83 = .ok (.aload 4, 2) := by decide +kernel
theorem dX7_set_85 : decode cX7_set 85 = .ok (.iload_n 3, 1) := by decide +kernel
theorem dX7_set_86 : decode cX7_set 86 = .ok (.putfield 137, 3) := by decide +kernel
theorem dX7_set_89 : decode cX7_set 89 = .ok (.goto 16, 3) := by decide +kernel
theorem dX7_set_92 : decode cX7_set 92 = .ok (.aload 4, 2) := by decide +kernel
theorem dX7_set_94 : decode cX7_set 94 = .ok (.getfield 140, 3) := by decide +kernel
theorem dX7_set_97 : decode cX7_set 97 = .ok (.istore 5, 2) := by decide +kernel
theorem dX7_set_99 : decode cX7_set 99 = .ok (.aload 4, 2) := by decide +kernel
theorem dX7_set_101 : decode cX7_set 101 = .ok (.iload_n 3, 1) := by decide +kernel
theorem dX7_set_102 : decode cX7_set 102 = .ok (.putfield 140, 3) := by decide +kernel
theorem dX7_set_105 : decode cX7_set 105 = .ok (.iload 5, 2) := by decide +kernel
theorem dX7_set_107 : decode cX7_set 107 = .ok (.ireturn, 1) := by decide +kernel
theorem dX7_turn_0 : decode cX7_turn 0 = .ok (.aload_n 0, 1) := by decide +kernel
theorem dX7_turn_1 : decode cX7_turn 1 = .ok (.getfield 10, 3) := by decide +kernel
theorem dX7_turn_4 : decode cX7_turn 4 = .ok (.iload_n 1, 1) := by decide +kernel
theorem dX7_turn_5 : decode cX7_turn 5 = .ok (.invokevirtual 121, 3) := by decide +kernel
theorem dX7_turn_8 : decode cX7_turn 8 = .ok (.ifCond .eq 11, 3) := by decide +kernel
theorem dX7_turn_11 : decode cX7_turn 11 = .ok (.iload_n 2, 1) := by decide +kernel
theorem dX7_turn_12 : decode cX7_turn 12 = .ok (.iconst 5, 1) := by decide +kernel
theorem dX7_turn_13 : decode cX7_turn 13 = .ok (.invokestatic 77, 3) := by decide +kernel
theorem dX7_turn_16 : decode cX7_turn 16 = .ok (.ifCond .ne 10, 3) := by decide +kernel
theorem dX7_turn_19 : decode cX7_turn 19 = .ok (.aload_n 0, 1) := by decide +kernel
theorem dX7_turn_20 : decode cX7_turn 20 = .ok (.ldc 81, 2) := by decide +kernel
theorem dX7_turn_22 : decode cX7_turn 22 = .ok (.invokevirtual 82, 3) := by decide +kernel
theorem dX7_turn_25 : decode cX7_turn 25 = .ok (.ireturn, 1) := by decide +kernel
theorem dX7_turn_26 : decode cX7_turn 26 = .ok (.aload_n 0, 1) := by decide +kernel
theorem dX7_turn_27 : decode cX7_turn 27 = .ok (.getfield 10, 3) := by decide +kernel
theorem dX7_turn_30 : decode cX7_turn 30 = .ok (.getfield 124, 3) := by decide +kernel
theorem dX7_turn_33 : decode cX7_turn 33 = .ok (.iload_n 1, 1) := by decide +kernel
theorem dX7_turn_34 : decode cX7_turn 34 = .ok (.aaload, 1) := by decide +kernel
theorem dX7_turn_35 : decode cX7_turn 35 = .ok (.astore_n 3, 1) := by decide +kernel
theorem dX7_turn_36 : decode cX7_turn 36 = .ok (.aload_n 3, 1) := by decide +kernel
theorem dX7_turn_37 : decode cX7_turn 37 = .ok (.getfield 131, 3) := by decide +kernel
theorem dX7_turn_40 : decode cX7_turn 40 = .ok (.istore 4, 2) := by decide +kernel
theorem dX7_turn_42 : decode cX7_turn 42 = .ok (.aload_n 3, 1) := by decide +kernel
theorem dX7_turn_43 : decode cX7_turn 43 = .ok (.iload_n 2, 1) := by decide +kernel
theorem dX7_turn_44 : decode cX7_turn 44 = .ok (.putfield 131, 3) := by decide +kernel
theorem dX7_turn_47 : decode cX7_turn 47 = .ok (.iload 4, 2) := by decide +kernel
theorem dX7_turn_49 : decode cX7_turn 49 = .ok (.ireturn, 1) := by decide +kernel
theorem dX7_as_0 : decode cX7_as 0 = .ok (.aload_n 0, 1) := by decide +kernel
theorem dX7_as_1 : decode cX7_as 1 = .ok (.getfield 10, 3) := by decide +kernel
theorem dX7_as_4 : decode cX7_as 4 = .ok (.iload_n 1, 1) := by decide +kernel
theorem dX7_as_5 : decode cX7_as 5 = .ok (.invokevirtual 121, 3) := by decide +kernel
theorem dX7_as_8 : decode cX7_as 8 = .ok (.ifCond .eq 11, 3) := by decide +kernel
theorem dX7_as_11 : decode cX7_as 11 = .ok (.iload_n 2, 1) := by decide +kernel
theorem dX7_as_12 : decode cX7_as 12 = .ok (.iconst 5, 1) := by decide +kernel
theorem dX7_as_13 : decode cX7_as 13 = .ok (.invokestatic 77, 3) := by decide +kernel
theorem dX7_as_16 : decode cX7_as 16 = .ok (.ifCond .ne 10, 3) := by decide +kernel
theorem dX7_as_19 : decode cX7_as 19 = .ok (.aload_n 0, 1) := by decide +kernel
theorem dX7_as_20 : decode cX7_as 20 = .ok (.ldc 81, 2) := by decide +kernel
theorem dX7_as_22 : decode cX7_as 22 = .ok (.invokevirtual 82, 3) := by decide +kernel
theorem dX7_as_25 : decode cX7_as 25 = .ok (.ireturn, 1) := by decide +kernel
theorem dX7_as_26 : decode cX7_as 26 = .ok (.aload_n 0, 1) := by decide +kernel
theorem dX7_as_27 : decode cX7_as 27 = .ok (.getfield 10, 3) := by decide +kernel
theorem dX7_as_30 : decode cX7_as 30 = .ok (.getfield 124, 3) := by decide +kernel
theorem dX7_as_33 : decode cX7_as 33 = .ok (.iload_n 1, 1) := by decide +kernel
theorem dX7_as_34 : decode cX7_as 34 = .ok (.aaload, 1) := by decide +kernel
theorem dX7_as_35 : decode cX7_as 35 = .ok (.astore_n 3, 1) := by decide +kernel
theorem dX7_as_36 : decode cX7_as 36 = .ok (.aload_n 3, 1) := by decide +kernel
theorem dX7_as_37 : decode cX7_as 37 = .ok (.getfield 131, 3) := by decide +kernel
theorem dX7_as_40 : decode cX7_as 40 = .ok (.iload_n 2, 1) := by decide +kernel
theorem dX7_as_41 : decode cX7_as 41 = .ok (.invokestatic 153, 3) := by decide +kernel
theorem dX7_as_44 : decode cX7_as 44 = .ok (.ifCond .eq 10, 3) := by decide +kernel
theorem dX7_as_47 : decode cX7_as 47 = .ok (.aload_n 3, 1) := by decide +kernel
theorem dX7_as_48 : decode cX7_as 48 = .ok (.getfield 140, 3) := by decide +kernel
theorem dX7_as_51 : decode cX7_as 51 = .ok (.goto 9, 3) := by decide +kernel
theorem dX7_as_54 : decode cX7_as 54 = .ok (.aload_n 0, 1) := by decide +kernel
theorem dX7_as_55 : decode cX7_as 55 = .ok (.ldc 156, 2) := by decide +kernel
theorem dX7_as_57 : decode cX7_as 57 = .ok (.invokevirtual 82, 3) := by decide +kernel
theorem dX7_as_60 : decode cX7_as 60 = .ok (.ireturn, 1) := by decide +kernel
theorem dX7_days_0 : decode cX7_days 0 = .ok (.iload_n 1, 1) := by decide +kernel
theorem dX7_days_1 : decode cX7_days 1 = .ok (.bipush 60, 2) := by decide +kernel
theorem dX7_days_3 : decode cX7_days 3 = .ok (.invokestatic 157, 3) := by decide +kernel
theorem dX7_days_6 : decode cX7_days 6 = .ok (.ifCond .ne 10, 3) := by decide +kernel
theorem dX7_days_9 : decode cX7_days 9 = .ok (.aload_n 0, 1) := by decide +kernel
theorem dX7_days_10 : decode cX7_days 10 = .ok (.ldc 81, 2) := by decide +kernel
theorem dX7_days_12 : decode cX7_days 12 = .ok (.invokevirtual 82, 3) := by decide +kernel
theorem dX7_days_15 : decode cX7_days 15 = .ok (.ireturn, 1) := by decide +kernel
theorem dX7_days_16 : decode cX7_days 16 = .ok (.aload_n 0, 1) := by decide +kernel
theorem dX7_days_17 : decode cX7_days 17 = .ok (.getfield 10, 3) := by decide +kernel
theorem dX7_days_20 : decode cX7_days 20 = .ok (.getfield 128, 3) := by decide +kernel
theorem dX7_days_23 : decode cX7_days 23 = .ok (.iload_n 1, 1) := by decide +kernel
theorem dX7_days_24 : decode cX7_days 24 = .ok (.iadd, 1) := by decide +kernel
theorem dX7_days_25 : decode cX7_days 25 = .ok (.sipush 9999, 3) := by decide +kernel
theorem dX7_days_28 : decode cX7_days 28 = .ok (.if_icmp .le 10, 3) := by decide +kernel
theorem dX7_days_31 : decode cX7_days 31 = .ok (.aload_n 0, 1) := by decide +kernel
theorem dX7_days_32 : decode cX7_days 32 = .ok (.ldc 160, 2) := by decide +kernel
theorem dX7_days_34 : decode cX7_days 34 = .ok (.invokevirtual 82, 3) := by decide +kernel
theorem dX7_days_37 : decode cX7_days 37 = .ok (.ireturn, 1) := by decide +kernel
theorem dX7_days_38 : decode cX7_days 38 = .ok (.aload_n 0, 1) := by decide +kernel
theorem dX7_days_39 : decode cX7_days 39 = .ok (.getfield 10, 3) := by decide +kernel
theorem dX7_days_42 : decode cX7_days 42 = .ok (.iload_n 1, 1) := by decide +kernel
theorem dX7_days_43 : decode cX7_days 43 = .ok (.invokevirtual 161, 3) := by decide +kernel
theorem dX7_days_46 : decode cX7_days 46 = .ok (.pop, 1) := by decide +kernel
theorem dX7_days_47 : decode cX7_days 47 = .ok (.aload_n 0, 1) := by decide +kernel
theorem dX7_days_48 : decode cX7_days 48 = .ok (.getfield 10, 3) := by decide +kernel
theorem dX7_days_51 : decode cX7_days 51 = .ok (.invokevirtual 164, 3) := by decide +kernel
theorem dX7_days_54 : decode cX7_days 54 = .ok (.ireturn, 1) := by decide +kernel
theorem dX7_bribe_0 : decode cX7_bribe 0 = .ok (.iload_n 1, 1) := by decide +kernel
theorem dX7_bribe_1 : decode cX7_bribe 1 = .ok (.bipush 7, 2) := by decide +kernel
theorem dX7_bribe_3 : decode cX7_bribe 3 = .ok (.invokestatic 77, 3) := by decide +kernel
theorem dX7_bribe_6 : decode cX7_bribe 6 = .ok (.ifCond .ne 10, 3) := by decide +kernel
theorem dX7_bribe_9 : decode cX7_bribe 9 = .ok (.aload_n 0, 1) := by decide +kernel
theorem dX7_bribe_10 : decode cX7_bribe 10 = .ok (.ldc 81, 2) := by decide +kernel
theorem dX7_bribe_12 : decode cX7_bribe 12 = .ok (.invokevirtual 82, 3) := by decide +kernel
theorem dX7_bribe_15 : decode cX7_bribe 15 = .ok (.ireturn, 1) := by decide +kernel
theorem dX7_bribe_16 : decode cX7_bribe 16 = .ok (.aload_n 0, 1) := by decide +kernel
theorem dX7_bribe_17 : decode cX7_bribe 17 = .ok (.getfield 10, 3) := by decide +kernel
theorem dX7_bribe_20 : decode cX7_bribe 20 = .ok (.getfield 128, 3) := by decide +kernel
theorem dX7_bribe_23 : decode cX7_bribe 23 = .ok (.sipush 9999, 3) := by decide +kernel
theorem dX7_bribe_26 : decode cX7_bribe 26 = .ok (.if_icmp .lt 10, 3) := by decide +kernel
theorem dX7_bribe_29 : decode cX7_bribe 29 = .ok (.aload_n 0, 1) := by decide +kernel
theorem dX7_bribe_30 : decode cX7_bribe 30 = .ok (.ldc 160, 2) := by decide +kernel
theorem dX7_bribe_32 : decode cX7_bribe 32 = .ok (.invokevirtual 82, 3) := by decide +kernel
theorem dX7_bribe_35 : decode cX7_bribe 35 = .ok (.ireturn, 1) := by decide +kernel
theorem dX7_bribe_36 : decode cX7_bribe 36 = .ok (.aload_n 0, 1) := by decide +kernel
theorem dX7_bribe_37 : decode cX7_bribe 37 = .ok (.getfield 10, 3) := by decide +kernel
theorem dX7_bribe_40 : decode cX7_bribe 40 = .ok (.iload_n 1, 1) := by decide +kernel
theorem dX7_bribe_41 : decode cX7_bribe 41 = .ok (.invokevirtual 168, 3) := by decide +kernel
theorem dX7_bribe_44 : decode cX7_bribe 44 = .ok (.aload_n 0, 1) := by decide +kernel
theorem dX7_bribe_45 : decode cX7_bribe 45 = .ok (.getfield 10, 3) := by decide +kernel
theorem dX7_bribe_48 : decode cX7_bribe 48 = .ok (.invokevirtual 164, 3) := by decide +kernel
theorem dX7_bribe_51 : decode cX7_bribe 51 = .ok (.ireturn, 1) := by decide +kernel
theorem dX7_now_0 : decode cX7_now 0 = .ok (.iload_n 1, 1) := by decide +kernel
theorem dX7_now_1 : decode cX7_now 1 = .ok (.tableswitch 106 0 6 #[43, 51, 66, 74, 82, 90, 98], 43) := by decide +kernel
theorem dX7_now_44 : decode cX7_now 44 = .ok (.aload_n 0, 1) := by decide +kernel
theorem dX7_now_45 : decode cX7_now 45 = .ok (.getfield 10, 3) := by decide +kernel
theorem dX7_now_48 : decode cX7_now 48 = .ok (.getfield 128, 3) := by decide +kernel
theorem dX7_now_51 : decode cX7_now 51 = .ok (.ireturn, 1) := by decide +kernel
theorem dX7_now_52 : decode cX7_now 52 = .ok (.aload_n 0, 1) := by decide +kernel
theorem dX7_now_53 : decode cX7_now 53 = .ok (.getfield 10, 3) := by decide +kernel
theorem dX7_now_56 : decode cX7_now 56 = .ok (.aload_n 0, 1) := by decide +kernel
theorem dX7_now_57 : decode cX7_now 57 = .ok (.getfield 10, 3) := by decide +kernel
theorem dX7_now_60 : decode cX7_now 60 = .ok (.getfield 128, 3) := by decide +kernel
theorem dX7_now_63 : decode cX7_now 63 = .ok (.invokevirtual 101, 3) := by decide +kernel
theorem dX7_now_66 : decode cX7_now 66 = .ok (.ireturn, 1) := by decide +kernel
theorem dX7_now_67 : decode cX7_now 67 = .ok (.aload_n 0, 1) := by decide +kernel
theorem dX7_now_68 : decode cX7_now 68 = .ok (.getfield 10, 3) := by decide +kernel
theorem dX7_now_71 : decode cX7_now 71 = .ok (.getfield 97, 3) := by decide +kernel
theorem dX7_now_74 : decode cX7_now 74 = .ok (.ireturn, 1) := by decide +kernel
theorem dX7_now_75 : decode cX7_now 75 = .ok (.aload_n 0, 1) := by decide +kernel
theorem dX7_now_76 : decode cX7_now 76 = .ok (.getfield 10, 3) := by decide +kernel
theorem dX7_now_79 : decode cX7_now 79 = .ok (.getfield 172, 3) := by decide +kernel
theorem dX7_now_82 : decode cX7_now 82 = .ok (.ireturn, 1) := by decide +kernel
theorem dX7_now_83 : decode cX7_now 83 = .ok (.aload_n 0, 1) := by decide +kernel
theorem dX7_now_84 : decode cX7_now 84 = .ok (.getfield 10, 3) := by decide +kernel
theorem dX7_now_87 : decode cX7_now 87 = .ok (.invokevirtual 164, 3) := by decide +kernel
theorem dX7_now_90 : decode cX7_now 90 = .ok (.ireturn, 1) := by decide +kernel
theorem dX7_now_91 : decode cX7_now 91 = .ok (.aload_n 0, 1) := by decide +kernel
theorem dX7_now_92 : decode cX7_now 92 = .ok (.getfield 10, 3) := by decide +kernel
theorem dX7_now_95 : decode cX7_now 95 = .ok (.invokevirtual 175, 3) := by decide +kernel
theorem dX7_now_98 : decode cX7_now 98 = .ok (.ireturn, 1) := by decide +kernel
theorem dX7_now_99 : decode cX7_now 99 = .ok (.aload_n 0, 1) := by decide +kernel
theorem dX7_now_100 : decode cX7_now 100 = .ok (.getfield 10, 3) := by decide +kernel
theorem dX7_now_103 : decode cX7_now 103 = .ok (.invokevirtual 178, 3) := by decide +kernel
theorem dX7_now_106 : decode cX7_now 106 = .ok (.ireturn, 1) := by decide +kernel
theorem dX7_now_107 : decode cX7_now 107 = .ok (.aload_n 0, 1) := by decide +kernel
theorem dX7_now_108 : decode cX7_now 108 = .ok (.ldc 81, 2) := by decide +kernel
theorem dX7_now_110 : decode cX7_now 110 = .ok (.invokevirtual 82, 3) := by decide +kernel
theorem dX7_now_113 : decode cX7_now 113 = .ok (.ireturn, 1) := by decide +kernel
theorem dX7_on_0 : decode cX7_on 0 = .ok (.aload_n 0, 1) := by decide +kernel
theorem dX7_on_1 : decode cX7_on 1 = .ok (.getfield 10, 3) := by decide +kernel
theorem dX7_on_4 : decode cX7_on 4 = .ok (.iload_n 1, 1) := by decide +kernel
theorem dX7_on_5 : decode cX7_on 5 = .ok (.invokevirtual 121, 3) := by decide +kernel
theorem dX7_on_8 : decode cX7_on 8 = .ok (.ifCond .eq 20, 3) := by decide +kernel
theorem dX7_on_11 : decode cX7_on 11 = .ok (.iload_n 2, 1) := by decide +kernel
theorem dX7_on_12 : decode cX7_on 12 = .ok (.bipush 60, 2) := by decide +kernel
theorem dX7_on_14 : decode cX7_on 14 = .ok (.invokestatic 77, 3) := by decide +kernel
theorem dX7_on_17 : decode cX7_on 17 = .ok (.ifCond .eq 11, 3) := by decide +kernel
theorem dX7_on_20 : decode cX7_on 20 = .ok (.iload_n 3, 1) := by decide +kernel
theorem dX7_on_21 : decode cX7_on 21 = .ok (.iconst 1, 1) := by decide +kernel
theorem dX7_on_22 : decode cX7_on 22 = .ok (.invokestatic 77, 3) := by decide +kernel
theorem dX7_on_25 : decode cX7_on 25 = .ok (.ifCond .ne 10, 3) := by decide +kernel
theorem dX7_on_28 : decode cX7_on 28 = .ok (.aload_n 0, 1) := by decide +kernel
theorem dX7_on_29 : decode cX7_on 29 = .ok (.ldc 81, 2) := by decide +kernel
theorem dX7_on_31 : decode cX7_on 31 = .ok (.invokevirtual 82, 3) := by decide +kernel
theorem dX7_on_34 : decode cX7_on 34 = .ok (.ireturn, 1) := by decide +kernel
theorem dX7_on_35 : decode cX7_on 35 = .ok (.aload_n 0, 1) := by decide +kernel
theorem dX7_on_36 : decode cX7_on 36 = .ok (.getfield 29, 3) := by decide +kernel
theorem dX7_on_39 : decode cX7_on 39 = .ok (.aload_n 0, 1) := by decide +kernel
theorem dX7_on_40 : decode cX7_on 40 = .ok (.getfield 10, 3) := by decide +kernel
theorem dX7_on_43 : decode cX7_on 43 = .ok (.getfield 124, 3) := by decide +kernel
theorem dX7_on_46 : decode cX7_on 46 = .ok (.iload_n 1, 1) := by decide +kernel
theorem dX7_on_47 : decode cX7_on 47 = .ok (.aaload, 1) := by decide +kernel
theorem dX7_on_48 : decode cX7_on 48 = .ok (.invokevirtual 181, 3) := by decide +kernel
theorem dX7_on_51 : decode cX7_on 51 = .ok (.iconst 0, 1) := by decide +kernel
theorem dX7_on_52 : decode cX7_on 52 = .ok (.istore 4, 2) := by decide +kernel
theorem dX7_on_54 : decode cX7_on 54 = .ok (.iload 4, 2) := by decide +kernel
theorem dX7_on_56 : decode cX7_on 56 = .ok (.iload_n 2, 1) := by decide +kernel
theorem dX7_on_57 : decode cX7_on 57 = .ok (.if_icmp .ge 22, 3) := by decide +kernel
theorem dX7_on_60 : decode cX7_on 60 = .ok (.aload_n 0, 1) := by decide +kernel
theorem dX7_on_61 : decode cX7_on 61 = .ok (.getfield 10, 3) := by decide +kernel
theorem dX7_on_64 : decode cX7_on 64 = .ok (.aload_n 0, 1) := by decide +kernel
theorem dX7_on_65 : decode cX7_on 65 = .ok (.getfield 29, 3) := by decide +kernel
theorem dX7_on_68 : decode cX7_on 68 = .ok (.iload 4, 2) := by decide +kernel
theorem dX7_on_70 : decode cX7_on 70 = .ok (.invokevirtual 185, 3) := by decide +kernel
theorem dX7_on_73 : decode cX7_on 73 = .ok (.iinc 4 1, 3) := by decide +kernel
theorem dX7_on_76 : decode cX7_on 76 = .ok (.goto (-22), 3) := by decide +kernel
theorem dX7_on_79 : decode cX7_on 79 = .ok (.iload_n 3, 1) := by decide +kernel
theorem dX7_on_80 : decode cX7_on 80 = .ok (.ifCond .ne 13, 3) := by decide +kernel
theorem dX7_on_83 : decode cX7_on 83 = .ok (.aload_n 0, 1) := by decide +kernel
theorem dX7_on_84 : decode cX7_on 84 = .ok (.getfield 29, 3) := by decide +kernel
theorem dX7_on_87 : decode cX7_on 87 = .ok (.getfield 134, 3) := by decide +kernel
theorem dX7_on_90 : decode cX7_on 90 = .ok (.goto 10, 3) := by decide +kernel
theorem dX7_on_93 : decode cX7_on 93 = .ok (.aload_n 0, 1) := by decide +kernel
theorem dX7_on_94 : decode cX7_on 94 = .ok (.getfield 29, 3) := by decide +kernel
theorem dX7_on_97 : decode cX7_on 97 = .ok (.getfield 140, 3) := by decide +kernel
theorem dX7_on_100 : decode cX7_on 100 = .ok (.ireturn, 1) := by decide +kernel
theorem dX7_comes_0 : decode cX7_comes 0 = .ok (.aload_n 0, 1) := by decide +kernel
theorem dX7_comes_1 : decode cX7_comes 1 = .ok (.getfield 10, 3) := by decide +kernel
theorem dX7_comes_4 : decode cX7_comes 4 = .ok (.iload_n 1, 1) := by decide +kernel
theorem dX7_comes_5 : decode cX7_comes 5 = .ok (.invokevirtual 121, 3) := by decide +kernel
theorem dX7_comes_8 : decode cX7_comes 8 = .ok (.ifCond .eq 12, 3) := by decide +kernel
theorem dX7_comes_11 : decode cX7_comes 11 = .ok (.iload_n 2, 1) := by decide +kernel
theorem dX7_comes_12 : decode cX7_comes 12 = .ok (.bipush 35, 2) := by decide +kernel
theorem dX7_comes_14 : decode cX7_comes 14 = .ok (.invokestatic 77, 3) := by decide +kernel
theorem dX7_comes_17 : decode cX7_comes 17 = .ok (.ifCond .ne 10, 3) := by decide +kernel
theorem dX7_comes_20 : decode cX7_comes 20 = .ok (.aload_n 0, 1) := by decide +kernel
theorem dX7_comes_21 : decode cX7_comes 21 = .ok (.ldc 81, 2) := by decide +kernel
theorem dX7_comes_23 : decode cX7_comes 23 = .ok (.invokevirtual 82, 3) := by decide +kernel
theorem dX7_comes_26 : decode cX7_comes 26 = .ok (.ireturn, 1) := by decide +kernel
theorem dX7_comes_27 : decode cX7_comes 27 = .ok (.aload_n 0, 1) := by decide +kernel
theorem dX7_comes_28 : decode cX7_comes 28 = .ok (.getfield 29, 3) := by decide +kernel
theorem dX7_comes_31 : decode cX7_comes 31 = .ok (.aload_n 0, 1) := by decide +kernel
theorem dX7_comes_32 : decode cX7_comes 32 = .ok (.getfield 10, 3) := by decide +kernel
theorem dX7_comes_35 : decode cX7_comes 35 = .ok (.getfield 124, 3) := by decide +kernel
theorem dX7_comes_38 : decode cX7_comes 38 = .ok (.iload_n 1, 1) := by decide +kernel
theorem dX7_comes_39 : decode cX7_comes 39 = .ok (.aaload, 1) := by decide +kernel
theorem dX7_comes_40 : decode cX7_comes 40 = .ok (.invokevirtual 181, 3) := by decide +kernel
theorem dX7_comes_43 : decode cX7_comes 43 = .ok (.iconst 0, 1) := by decide +kernel
theorem dX7_comes_44 : decode cX7_comes 44 = .ok (.istore_n 3, 1) := by decide +kernel
theorem dX7_comes_45 : decode cX7_comes 45 = .ok (.iload_n 3, 1) := by decide +kernel
theorem dX7_comes_46 : decode cX7_comes 46 = .ok (.bipush 60, 2) := by decide +kernel
theorem dX7_comes_48 : decode cX7_comes 48 = .ok (.if_icmp .gt 34, 3) := by decide +kernel
theorem dX7_comes_51 : decode cX7_comes 51 = .ok (.aload_n 0, 1) := by decide +kernel
theorem dX7_comes_52 : decode cX7_comes 52 = .ok (.getfield 29, 3) := by decide +kernel
theorem dX7_comes_55 : decode cX7_comes 55 = .ok (.getfield 134, 3) := by decide +kernel
theorem dX7_comes_58 : decode cX7_comes 58 = .ok (.iload_n 2, 1) := by decide +kernel
theorem dX7_comes_59 : decode cX7_comes 59 = .ok (.if_icmp .ne 5, 3) := by decide +kernel
theorem dX7_comes_62 : decode cX7_comes 62 = .ok (.iload_n 3, 1) := by decide +kernel
theorem dX7_comes_63 : decode cX7_comes 63 = .ok (.ireturn, 1) := by decide +kernel
theorem dX7_comes_64 : decode cX7_comes 64 = .ok (.aload_n 0, 1) := by decide +kernel
theorem dX7_comes_65 : decode cX7_comes 65 = .ok (.getfield 10, 3) := by decide +kernel
theorem dX7_comes_68 : decode cX7_comes 68 = .ok (.aload_n 0, 1) := by decide +kernel
theorem dX7_comes_69 : decode cX7_comes 69 = .ok (.getfield 29, 3) := by decide +kernel
theorem dX7_comes_72 : decode cX7_comes 72 = .ok (.iload_n 3, 1) := by decide +kernel
theorem dX7_comes_73 : decode cX7_comes 73 = .ok (.invokevirtual 185, 3) := by decide +kernel
theorem dX7_comes_76 : decode cX7_comes 76 = .ok (.iinc 3 1, 3) := by decide +kernel
theorem dX7_comes_79 : decode cX7_comes 79 = .ok (.goto (-34), 3) := by decide +kernel
theorem dX7_comes_82 : decode cX7_comes 82 = .ok (.aload_n 0, 1) := by decide +kernel
theorem dX7_comes_83 : decode cX7_comes 83 = .ok (.ldc 108, 2) := by decide +kernel
theorem dX7_comes_85 : decode cX7_comes 85 = .ok (.invokevirtual 82, 3) := by decide +kernel
theorem dX7_comes_88 : decode cX7_comes 88 = .ok (.ireturn, 1) := by decide +kernel
theorem dX7_meet_0 : decode cX7_meet 0 = .ok (.aload_n 0, 1) := by decide +kernel
theorem dX7_meet_1 : decode cX7_meet 1 = .ok (.getfield 10, 3) := by decide +kernel
theorem dX7_meet_4 : decode cX7_meet 4 = .ok (.iload_n 1, 1) := by decide +kernel
theorem dX7_meet_5 : decode cX7_meet 5 = .ok (.invokevirtual 121, 3) := by decide +kernel
theorem dX7_meet_8 : decode cX7_meet 8 = .ok (.ifCond .eq 19, 3) := by decide +kernel
theorem dX7_meet_11 : decode cX7_meet 11 = .ok (.aload_n 0, 1) := by decide +kernel
theorem dX7_meet_12 : decode cX7_meet 12 = .ok (.getfield 10, 3) := by decide +kernel
theorem dX7_meet_15 : decode cX7_meet 15 = .ok (.iload_n 2, 1) := by decide +kernel
theorem dX7_meet_16 : decode cX7_meet 16 = .ok (.invokevirtual 121, 3) := by decide +kernel
theorem dX7_meet_19 : decode cX7_meet 19 = .ok (.ifCond .eq 8, 3) := by decide +kernel
theorem dX7_meet_22 : decode cX7_meet 22 = .ok (.iload_n 1, 1) := by decide +kernel
theorem dX7_meet_23 : decode cX7_meet 23 = .ok (.iload_n 2, 1) := by decide +kernel
theorem dX7_meet_24 : decode cX7_meet 24 = .ok (.if_icmp .ne 10, 3) := by decide +kernel
theorem dX7_meet_27 : decode cX7_meet 27 = .ok (.aload_n 0, 1) := by decide +kernel
theorem dX7_meet_28 : decode cX7_meet 28 = .ok (.ldc 81, 2) := by decide +kernel
theorem dX7_meet_30 : decode cX7_meet 30 = .ok (.invokevirtual 82, 3) := by decide +kernel
theorem dX7_meet_33 : decode cX7_meet 33 = .ok (.ireturn, 1) := by decide +kernel
theorem dX7_meet_34 : decode cX7_meet 34 = .ok (.aload_n 0, 1) := by decide +kernel
theorem dX7_meet_35 : decode cX7_meet 35 = .ok (.getfield 29, 3) := by decide +kernel
theorem dX7_meet_38 : decode cX7_meet 38 = .ok (.aload_n 0, 1) := by decide +kernel
theorem dX7_meet_39 : decode cX7_meet 39 = .ok (.getfield 10, 3) := by decide +kernel
theorem dX7_meet_42 : decode cX7_meet 42 = .ok (.getfield 124, 3) := by decide +kernel
theorem dX7_meet_45 : decode cX7_meet 45 = .ok (.iload_n 1, 1) := by decide +kernel
theorem dX7_meet_46 : decode cX7_meet 46 = .ok (.aaload, 1) := by decide +kernel
theorem dX7_meet_47 : decode cX7_meet 47 = .ok (.invokevirtual 181, 3) := by decide +kernel
theorem dX7_meet_50 : decode cX7_meet 50 = .ok (.aload_n 0, 1) := by decide +kernel
theorem dX7_meet_51 : decode cX7_meet 51 = .ok (.getfield 33, 3) := by decide +kernel
theorem dX7_meet_54 : decode cX7_meet 54 = .ok (.aload_n 0, 1) := by decide +kernel
theorem dX7_meet_55 : decode cX7_meet 55 = .ok (.getfield 10, 3) := by decide +kernel
theorem dX7_meet_58 : decode cX7_meet 58 = .ok (.getfield 124, 3) := by decide +kernel
theorem dX7_meet_61 : decode cX7_meet 61 = .ok (.iload_n 2, 1) := by decide +kernel
theorem dX7_meet_62 : decode cX7_meet 62 = .ok (.aaload, 1) := by decide +kernel
theorem dX7_meet_63 : decode cX7_meet 63 = .ok (.invokevirtual 181, 3) := by decide +kernel
theorem dX7_meet_66 : decode cX7_meet 66 = .ok (.iconst 0, 1) := by decide +kernel
theorem dX7_meet_67 : decode cX7_meet 67 = .ok (.istore_n 3, 1) := by decide +kernel
theorem dX7_meet_68 : decode cX7_meet 68 = .ok (.iload_n 3, 1) := by decide +kernel
theorem dX7_meet_69 : decode cX7_meet 69 = .ok (.bipush 60, 2) := by decide +kernel
theorem dX7_meet_71 : decode cX7_meet 71 = .ok (.if_icmp .gt 52, 3) := by decide +kernel
theorem dX7_meet_74 : decode cX7_meet 74 = .ok (.aload_n 0, 1) := by decide +kernel
theorem dX7_meet_75 : decode cX7_meet 75 = .ok (.getfield 29, 3) := by decide +kernel
theorem dX7_meet_78 : decode cX7_meet 78 = .ok (.getfield 134, 3) := by decide +kernel
theorem dX7_meet_81 : decode cX7_meet 81 = .ok (.aload_n 0, 1) := by decide +kernel
theorem dX7_meet_82 : decode cX7_meet 82 = .ok (.getfield 33, 3) := by decide +kernel
theorem dX7_meet_85 : decode cX7_meet 85 = .ok (.getfield 134, 3) := by decide +kernel
theorem dX7_meet_88 : decode cX7_meet 88 = .ok (.if_icmp .ne 5, 3) := by decide +kernel
theorem dX7_meet_91 : decode cX7_meet 91 = .ok (.iload_n 3, 1) := by decide +kernel
theorem dX7_meet_92 : decode cX7_meet 92 = .ok (.ireturn, 1) := by decide +kernel
theorem dX7_meet_93 : decode cX7_meet 93 = .ok (.aload_n 0, 1) := by decide +kernel
theorem dX7_meet_94 : decode cX7_meet 94 = .ok (.getfield 10, 3) := by decide +kernel
theorem dX7_meet_97 : decode cX7_meet 97 = .ok (.aload_n 0, 1) := by decide +kernel
theorem dX7_meet_98 : decode cX7_meet 98 = .ok (.getfield 29, 3) := by decide +kernel
theorem dX7_meet_101 : decode cX7_meet 101 = .ok (.iload_n 3, 1) := by decide +kernel
theorem dX7_meet_102 : decode cX7_meet 102 = .ok (.invokevirtual 185, 3) := by decide +kernel
theorem dX7_meet_105 : decode cX7_meet 105 = .ok (.aload_n 0, 1) := by decide +kernel
theorem dX7_meet_106 : decode cX7_meet 106 = .ok (.getfield 10, 3) := by decide +kernel
theorem dX7_meet_109 : decode cX7_meet 109 = .ok (.aload_n 0, 1) := by decide +kernel
theorem dX7_meet_110 : decode cX7_meet 110 = .ok (.getfield 33, 3) := by decide +kernel
theorem dX7_meet_113 : decode cX7_meet 113 = .ok (.iload_n 3, 1) := by decide +kernel
theorem dX7_meet_114 : decode cX7_meet 114 = .ok (.invokevirtual 185, 3) := by decide +kernel
theorem dX7_meet_117 : decode cX7_meet 117 = .ok (.iinc 3 1, 3) := by decide +kernel
theorem dX7_meet_120 : decode cX7_meet 120 = .ok (.goto (-52), 3) := by decide +kernel
theorem dX7_meet_123 : decode cX7_meet 123 = .ok (.aload_n 0, 1) := by decide +kernel
theorem dX7_meet_124 : decode cX7_meet 124 = .ok (.ldc 108, 2) := by decide +kernel
theorem dX7_meet_126 : decode cX7_meet 126 = .ok (.invokevirtual 82, 3) := by decide +kernel
theorem dX7_meet_129 : decode cX7_meet 129 = .ok (.ireturn, 1) := by decide +kernel
theorem dX7_bribes_0 : decode cX7_bribes 0 = .ok (.aload_n 0, 1) := by decide +kernel
theorem dX7_bribes_1 : decode cX7_bribes 1 = .ok (.getfield 10, 3) := by decide +kernel
theorem dX7_bribes_4 : decode cX7_bribes 4 = .ok (.iload_n 1, 1) := by decide +kernel
theorem dX7_bribes_5 : decode cX7_bribes 5 = .ok (.invokevirtual 121, 3) := by decide +kernel
theorem dX7_bribes_8 : decode cX7_bribes 8 = .ok (.ifCond .eq 21, 3) := by decide +kernel
theorem dX7_bribes_11 : decode cX7_bribes 11 = .ok (.iload_n 2, 1) := by decide +kernel
theorem dX7_bribes_12 : decode cX7_bribes 12 = .ok (.bipush 35, 2) := by decide +kernel
theorem dX7_bribes_14 : decode cX7_bribes 14 = .ok (.invokestatic 77, 3) := by decide +kernel
theorem dX7_bribes_17 : decode cX7_bribes 17 = .ok (.ifCond .eq 12, 3) := by decide +kernel
theorem dX7_bribes_20 : decode cX7_bribes 20 = .ok (.iload_n 3, 1) := by decide +kernel
theorem dX7_bribes_21 : decode cX7_bribes 21 = .ok (.bipush 30, 2) := by decide +kernel
theorem dX7_bribes_23 : decode cX7_bribes 23 = .ok (.invokestatic 77, 3) := by decide +kernel
theorem dX7_bribes_26 : decode cX7_bribes 26 = .ok (.ifCond .ne 10, 3) := by decide +kernel
theorem dX7_bribes_29 : decode cX7_bribes 29 = .ok (.aload_n 0, 1) := by decide +kernel
theorem dX7_bribes_30 : decode cX7_bribes 30 = .ok (.ldc 81, 2) := by decide +kernel
theorem dX7_bribes_32 : decode cX7_bribes 32 = .ok (.invokevirtual 82, 3) := by decide +kernel
theorem dX7_bribes_35 : decode cX7_bribes 35 = .ok (.ireturn, 1) := by decide +kernel
theorem dX7_bribes_36 : decode cX7_bribes 36 = .ok (.aload_n 0, 1) := by decide +kernel
theorem dX7_bribes_37 : decode cX7_bribes 37 = .ok (.getfield 10, 3) := by decide +kernel
theorem dX7_bribes_40 : decode cX7_bribes 40 = .ok (.getfield 124, 3) := by decide +kernel
theorem dX7_bribes_43 : decode cX7_bribes 43 = .ok (.iload_n 1, 1) := by decide +kernel
theorem dX7_bribes_44 : decode cX7_bribes 44 = .ok (.aaload, 1) := by decide +kernel
theorem dX7_bribes_45 : decode cX7_bribes 45 = .ok (.astore 4, 2) := by decide +kernel
theorem dX7_bribes_47 : decode cX7_bribes 47 = .ok (.aload_n 0, 1) := by decide +kernel
theorem dX7_bribes_48 : decode cX7_bribes 48 = .ok (.getfield 39, 3) := by decide +kernel
theorem dX7_bribes_51 : decode cX7_bribes 51 = .ok (.aload 4, 2) := by decide +kernel
theorem dX7_bribes_53 : decode cX7_bribes 53 = .ok (.getfield 134, 3) := by decide +kernel
theorem dX7_bribes_56 : decode cX7_bribes 56 = .ok (.invokevirtual 189, 3) := by decide +kernel
theorem dX7_bribes_59 : decode cX7_bribes 59 = .ok (.aload_n 0, 1) := by decide +kernel
theorem dX7_bribes_60 : decode cX7_bribes 60 = .ok (.getfield 39, 3) := by decide +kernel
theorem dX7_bribes_63 : decode cX7_bribes 63 = .ok (.getfield 192, 3) := by decide +kernel
theorem dX7_bribes_66 : decode cX7_bribes 66 = .ok (.iload_n 2, 1) := by decide +kernel
theorem dX7_bribes_67 : decode cX7_bribes 67 = .ok (.iaload, 1) := by decide +kernel
theorem dX7_bribes_68 : decode cX7_bribes 68 = .ok (.istore 5, 2) := by decide +kernel
theorem dX7_bribes_70 : decode cX7_bribes 70 = .ok (.iconst 0, 1) := by decide +kernel
theorem dX7_bribes_71 : decode cX7_bribes 71 = .ok (.istore 6, 2) := by decide +kernel
theorem dX7_bribes_73 : decode cX7_bribes 73 = .ok (.iload 6, 2) := by decide +kernel
theorem dX7_bribes_75 : decode cX7_bribes 75 = .ok (.iload_n 3, 1) := by decide +kernel
theorem dX7_bribes_76 : decode cX7_bribes 76 = .ok (.if_icmp .ge 58, 3) := by decide +kernel
theorem dX7_bribes_79 : decode cX7_bribes 79 = .ok (.aload_n 0, 1) := by decide +kernel
theorem dX7_bribes_80 : decode cX7_bribes 80 = .ok (.getfield 39, 3) := by decide +kernel
theorem dX7_bribes_83 : decode cX7_bribes 83 = .ok (.aload 4, 2) := by decide +kernel
theorem dX7_bribes_85 : decode cX7_bribes 85 = .ok (.aload_n 0, 1) := by decide +kernel
theorem dX7_bribes_86 : decode cX7_bribes 86 = .ok (.getfield 10, 3) := by decide +kernel
theorem dX7_bribes_89 : decode cX7_bribes 89 = .ok (.aload_n 0, 1) := by decide +kernel
theorem dX7_bribes_90 : decode cX7_bribes 90 = .ok (.getfield 10, 3) := by decide +kernel
theorem dX7_bribes_93 : decode cX7_bribes 93 = .ok (.getfield 128, 3) := by decide +kernel
theorem dX7_bribes_96 : decode cX7_bribes 96 = .ok (.iload 6, 2) := by decide +kernel
theorem dX7_bribes_98 : decode cX7_bribes 98 = .ok (.iadd, 1) := by decide +kernel
theorem dX7_bribes_99 : decode cX7_bribes 99 = .ok (.invokevirtual 101, 3) := by decide +kernel
theorem dX7_bribes_102 : decode cX7_bribes 102 = .ok (.aload_n 0, 1) := by decide +kernel
theorem dX7_bribes_103 : decode cX7_bribes 103 = .ok (.getfield 10, 3) := by decide +kernel
theorem dX7_bribes_106 : decode cX7_bribes 106 = .ok (.getfield 97, 3) := by decide +kernel
theorem dX7_bribes_109 : decode cX7_bribes 109 = .ok (.invokevirtual 195, 3) := by decide +kernel
theorem dX7_bribes_112 : decode cX7_bribes 112 = .ok (.iload 5, 2) := by decide +kernel
theorem dX7_bribes_114 : decode cX7_bribes 114 = .ok (.aload_n 0, 1) := by decide +kernel
theorem dX7_bribes_115 : decode cX7_bribes 115 = .ok (.getfield 39, 3) := by decide +kernel
theorem dX7_bribes_118 : decode cX7_bribes 118 = .ok (.getfield 192, 3) := by decide +kernel
theorem dX7_bribes_121 : decode cX7_bribes 121 = .ok (.iload_n 2, 1) := by decide +kernel
theorem dX7_bribes_122 : decode cX7_bribes 122 = .ok (.iaload, 1) := by decide +kernel
theorem dX7_bribes_123 : decode cX7_bribes 123 = .ok (.invokestatic 198, 3) := by decide +kernel
theorem dX7_bribes_126 : decode cX7_bribes 126 = .ok (.istore 5, 2) := by decide +kernel
theorem dX7_bribes_128 : decode cX7_bribes 128 = .ok (.iinc 6 1, 3) := by decide +kernel
theorem dX7_bribes_131 : decode cX7_bribes 131 = .ok (.goto (-58), 3) := by decide +kernel
theorem dX7_bribes_134 : decode cX7_bribes 134 = .ok (.iload 5, 2) := by decide +kernel
theorem dX7_bribes_136 : decode cX7_bribes 136 = .ok (.sipush 1000, 3) := by decide +kernel
theorem dX7_bribes_139 : decode cX7_bribes 139 = .ok (.if_icmp .ne 12, 3) := by decide +kernel
theorem dX7_bribes_142 : decode cX7_bribes 142 = .ok (.aload_n 0, 1) := by decide +kernel
theorem dX7_bribes_143 : decode cX7_bribes 143 = .ok (.ldc 108, 2) := by decide +kernel
theorem dX7_bribes_145 : decode cX7_bribes 145 = .ok (.invokevirtual 82, 3) := by decide +kernel
theorem dX7_bribes_148 : decode cX7_bribes 148 = .ok (.goto 5, 3) := by decide +kernel
theorem dX7_bribes_151 : decode cX7_bribes 151 = .ok (.iload 5, 2) := by decide +kernel
theorem dX7_bribes_153 : decode cX7_bribes 153 = .ok (.ireturn, 1) := by decide +kernel
theorem dX7_soonest_0 : decode cX7_soonest 0 = .ok (.aload_n 0, 1) := by decide +kernel
theorem dX7_soonest_1 : decode cX7_soonest 1 = .ok (.getfield 10, 3) := by decide +kernel
theorem dX7_soonest_4 : decode cX7_soonest 4 = .ok (.iload_n 1, 1) := by decide +kernel
theorem dX7_soonest_5 : decode cX7_soonest 5 = .ok (.invokevirtual 121, 3) := by decide +kernel
theorem dX7_soonest_8 : decode cX7_soonest 8 = .ok (.ifCond .eq 21, 3) := by decide +kernel
theorem dX7_soonest_11 : decode cX7_soonest 11 = .ok (.iload_n 2, 1) := by decide +kernel
theorem dX7_soonest_12 : decode cX7_soonest 12 = .ok (.bipush 35, 2) := by decide +kernel
theorem dX7_soonest_14 : decode cX7_soonest 14 = .ok (.invokestatic 77, 3) := by decide +kernel
theorem dX7_soonest_17 : decode cX7_soonest 17 = .ok (.ifCond .eq 12, 3) := by decide +kernel
theorem dX7_soonest_20 : decode cX7_soonest 20 = .ok (.iload_n 3, 1) := by decide +kernel
theorem dX7_soonest_21 : decode cX7_soonest 21 = .ok (.bipush 30, 2) := by decide +kernel
theorem dX7_soonest_23 : decode cX7_soonest 23 = .ok (.invokestatic 77, 3) := by decide +kernel
theorem dX7_soonest_26 : decode cX7_soonest 26 = .ok (.ifCond .ne 10, 3) := by decide +kernel
theorem dX7_soonest_29 : decode cX7_soonest 29 = .ok (.aload_n 0, 1) := by decide +kernel
theorem dX7_soonest_30 : decode cX7_soonest 30 = .ok (.ldc 81, 2) := by decide +kernel
theorem dX7_soonest_32 : decode cX7_soonest 32 = .ok (.invokevirtual 82, 3) := by decide +kernel
theorem dX7_soonest_35 : decode cX7_soonest 35 = .ok (.ireturn, 1) := by decide +kernel
theorem dX7_soonest_36 : decode cX7_soonest 36 = .ok (.aload_n 0, 1) := by decide +kernel
theorem dX7_soonest_37 : decode cX7_soonest 37 = .ok (.getfield 10, 3) := by decide +kernel
theorem dX7_soonest_40 : decode cX7_soonest 40 = .ok (.getfield 124, 3) := by decide +kernel
theorem dX7_soonest_43 : decode cX7_soonest 43 = .ok (.iload_n 1, 1) := by decide +kernel
theorem dX7_soonest_44 : decode cX7_soonest 44 = .ok (.aaload, 1) := by decide +kernel
theorem dX7_soonest_45 : decode cX7_soonest 45 = .ok (.astore 4, 2) := by decide +kernel
theorem dX7_soonest_47 : decode cX7_soonest 47 = .ok (.aload_n 0, 1) := by decide +kernel
theorem dX7_soonest_48 : decode cX7_soonest 48 = .ok (.getfield 39, 3) := by decide +kernel
theorem dX7_soonest_51 : decode cX7_soonest 51 = .ok (.aload 4, 2) := by decide +kernel
theorem dX7_soonest_53 : decode cX7_soonest 53 = .ok (.getfield 134, 3) := by decide +kernel
theorem dX7_soonest_56 : decode cX7_soonest 56 = .ok (.invokevirtual 189, 3) := by decide +kernel
theorem dX7_soonest_59 : decode cX7_soonest 59 = .ok (.iconst 0, 1) := by decide +kernel
theorem dX7_soonest_60 : decode cX7_soonest 60 = .ok (.istore 5, 2) := by decide +kernel
theorem dX7_soonest_62 : decode cX7_soonest 62 = .ok (.iload 5, 2) := by decide +kernel
theorem dX7_soonest_64 : decode cX7_soonest 64 = .ok (.bipush 30, 2) := by decide +kernel
theorem dX7_soonest_66 : decode cX7_soonest 66 = .ok (.if_icmp .gt 58, 3) := by decide +kernel
theorem dX7_soonest_69 : decode cX7_soonest 69 = .ok (.aload_n 0, 1) := by decide +kernel
theorem dX7_soonest_70 : decode cX7_soonest 70 = .ok (.getfield 39, 3) := by decide +kernel
theorem dX7_soonest_73 : decode cX7_soonest 73 = .ok (.getfield 192, 3) := by decide +kernel
theorem dX7_soonest_76 : decode cX7_soonest 76 = .ok (.iload_n 2, 1) := by decide +kernel
theorem dX7_soonest_77 : decode cX7_soonest 77 = .ok (.iaload, 1) := by decide +kernel
theorem dX7_soonest_78 : decode cX7_soonest 78 = .ok (.iload_n 3, 1) := by decide +kernel
theorem dX7_soonest_79 : decode cX7_soonest 79 = .ok (.if_icmp .gt 6, 3) := by decide +kernel
theorem dX7_soonest_82 : decode cX7_soonest 82 = .ok (.iload 5, 2) := by decide +kernel
theorem dX7_soonest_84 : decode cX7_soonest 84 = .ok (.ireturn, 1) := by decide +kernel
theorem dX7_soonest_85 : decode cX7_soonest 85 = .ok (.aload_n 0, 1) := by decide +kernel
theorem dX7_soonest_86 : decode cX7_soonest 86 = .ok (.getfield 39, 3) := by decide +kernel
theorem dX7_soonest_89 : decode cX7_soonest 89 = .ok (.aload 4, 2) := by decide +kernel
theorem dX7_soonest_91 : decode cX7_soonest 91 = .ok (.aload_n 0, 1) := by decide +kernel
theorem dX7_soonest_92 : decode cX7_soonest 92 = .ok (.getfield 10, 3) := by decide +kernel
theorem dX7_soonest_95 : decode cX7_soonest 95 = .ok (.aload_n 0, 1) := by decide +kernel
theorem dX7_soonest_96 : decode cX7_soonest 96 = .ok (.getfield 10, 3) := by decide +kernel
theorem dX7_soonest_99 : decode cX7_soonest 99 = .ok (.getfield 128, 3) := by decide +kernel
theorem dX7_soonest_102 : decode cX7_soonest 102 = .ok (.iload 5, 2) := by decide +kernel
theorem dX7_soonest_104 : decode cX7_soonest 104 = .ok (.iadd, 1) := by decide +kernel
theorem dX7_soonest_105 : decode cX7_soonest 105 = .ok (.invokevirtual 101, 3) := by decide +kernel
theorem dX7_soonest_108 : decode cX7_soonest 108 = .ok (.aload_n 0, 1) := by decide +kernel
theorem dX7_soonest_109 : decode cX7_soonest 109 = .ok (.getfield 10, 3) := by decide +kernel
theorem dX7_soonest_112 : decode cX7_soonest 112 = .ok (.getfield 97, 3) := by decide +kernel
theorem dX7_soonest_115 : decode cX7_soonest 115 = .ok (.invokevirtual 195, 3) := by decide +kernel
theorem dX7_soonest_118 : decode cX7_soonest 118 = .ok (.iinc 5 1, 3) := by decide +kernel
theorem dX7_soonest_121 : decode cX7_soonest 121 = .ok (.goto (-59), 3) := by decide +kernel
theorem dX7_soonest_124 : decode cX7_soonest 124 = .ok (.aload_n 0, 1) := by decide +kernel
theorem dX7_soonest_125 : decode cX7_soonest 125 = .ok (.ldc 108, 2) := by decide +kernel
theorem dX7_soonest_127 : decode cX7_soonest 127 = .ok (.invokevirtual 82, 3) := by decide +kernel
theorem dX7_soonest_130 : decode cX7_soonest 130 = .ok (.ireturn, 1) := by decide +kernel
theorem dX7_reach_0 : decode cX7_reach 0 = .ok (.aload_n 0, 1) := by decide +kernel
theorem dX7_reach_1 : decode cX7_reach 1 = .ok (.getfield 10, 3) := by decide +kernel
theorem dX7_reach_4 : decode cX7_reach 4 = .ok (.iload_n 1, 1) := by decide +kernel
theorem dX7_reach_5 : decode cX7_reach 5 = .ok (.invokevirtual 121, 3) := by decide +kernel
theorem dX7_reach_8 : decode cX7_reach 8 = .ok (.ifCond .eq 12, 3) := by decide +kernel
theorem dX7_reach_11 : decode cX7_reach 11 = .ok (.iload_n 2, 1) := by decide +kernel
theorem dX7_reach_12 : decode cX7_reach 12 = .ok (.bipush 30, 2) := by decide +kernel
theorem dX7_reach_14 : decode cX7_reach 14 = .ok (.invokestatic 77, 3) := by decide +kernel
theorem dX7_reach_17 : decode cX7_reach 17 = .ok (.ifCond .ne 11, 3) := by decide +kernel
theorem dX7_reach_20 : decode cX7_reach 20 = .ok (.aload_n 0, 1) := by decide +kernel
theorem dX7_reach_21 : decode cX7_reach 21 = .ok (.ldc 81, 2) := by decide +kernel
theorem dX7_reach_23 : decode cX7_reach 23 = .ok (.invokevirtual 82, 3) := by decide +kernel
theorem dX7_reach_26 : decode cX7_reach 26 = .ok (.i2l, 1) := by decide +kernel
theorem dX7_reach_27 : decode cX7_reach 27 = .ok (.lreturn, 1) := by decide +kernel
theorem dX7_reach_28 : decode cX7_reach 28 = .ok (.aload_n 0, 1) := by decide +kernel
theorem dX7_reach_29 : decode cX7_reach 29 = .ok (.getfield 10, 3) := by decide +kernel
theorem dX7_reach_32 : decode cX7_reach 32 = .ok (.getfield 124, 3) := by decide +kernel
theorem dX7_reach_35 : decode cX7_reach 35 = .ok (.iload_n 1, 1) := by decide +kernel
theorem dX7_reach_36 : decode cX7_reach 36 = .ok (.aaload, 1) := by decide +kernel
theorem dX7_reach_37 : decode cX7_reach 37 = .ok (.astore_n 3, 1) := by decide +kernel
theorem dX7_reach_38 : decode cX7_reach 38 = .ok (.aload_n 0, 1) := by decide +kernel
theorem dX7_reach_39 : decode cX7_reach 39 = .ok (.getfield 39, 3) := by decide +kernel
theorem dX7_reach_42 : decode cX7_reach 42 = .ok (.aload_n 3, 1) := by decide +kernel
theorem dX7_reach_43 : decode cX7_reach 43 = .ok (.getfield 134, 3) := by decide +kernel
theorem dX7_reach_46 : decode cX7_reach 46 = .ok (.invokevirtual 189, 3) := by decide +kernel
theorem dX7_reach_49 : decode cX7_reach 49 = .ok (.iconst 0, 1) := by decide +kernel
theorem dX7_reach_50 : decode cX7_reach 50 = .ok (.istore 4, 2) := by decide +kernel
theorem dX7_reach_52 : decode cX7_reach 52 = .ok (.iload 4, 2) := by decide +kernel
theorem dX7_reach_54 : decode cX7_reach 54 = .ok (.iload_n 2, 1) := by decide +kernel
theorem dX7_reach_55 : decode cX7_reach 55 = .ok (.if_icmp .ge 41, 3) := by decide +kernel
theorem dX7_reach_58 : decode cX7_reach 58 = .ok (.aload_n 0, 1) := by decide +kernel
theorem dX7_reach_59 : decode cX7_reach 59 = .ok (.getfield 39, 3) := by decide +kernel
theorem dX7_reach_62 : decode cX7_reach 62 = .ok (.aload_n 3, 1) := by decide +kernel
theorem dX7_reach_63 : decode cX7_reach 63 = .ok (.aload_n 0, 1) := by decide +kernel
theorem dX7_reach_64 : decode cX7_reach 64 = .ok (.getfield 10, 3) := by decide +kernel
theorem dX7_reach_67 : decode cX7_reach 67 = .ok (.aload_n 0, 1) := by decide +kernel
theorem dX7_reach_68 : decode cX7_reach 68 = .ok (.getfield 10, 3) := by decide +kernel
theorem dX7_reach_71 : decode cX7_reach 71 = .ok (.getfield 128, 3) := by decide +kernel
theorem dX7_reach_74 : decode cX7_reach 74 = .ok (.iload 4, 2) := by decide +kernel
theorem dX7_reach_76 : decode cX7_reach 76 = .ok (.iadd, 1) := by decide +kernel
theorem dX7_reach_77 : decode cX7_reach 77 = .ok (.invokevirtual 101, 3) := by decide +kernel
theorem dX7_reach_80 : decode cX7_reach 80 = .ok (.aload_n 0, 1) := by decide +kernel
theorem dX7_reach_81 : decode cX7_reach 81 = .ok (.getfield 10, 3) := by decide +kernel
theorem dX7_reach_84 : decode cX7_reach 84 = .ok (.getfield 97, 3) := by decide +kernel
theorem dX7_reach_87 : decode cX7_reach 87 = .ok (.invokevirtual 195, 3) := by decide +kernel
theorem dX7_reach_90 : decode cX7_reach 90 = .ok (.iinc 4 1, 3) := by decide +kernel
theorem dX7_reach_93 : decode cX7_reach 93 = .ok (.goto (-41), 3) := by decide +kernel
theorem dX7_reach_96 : decode cX7_reach 96 = .ok (.aload_n 0, 1) := by decide +kernel
theorem dX7_reach_97 : decode cX7_reach 97 = .ok (.getfield 39, 3) := by decide +kernel
theorem dX7_reach_100 : decode cX7_reach 100 = .ok (.invokevirtual 203, 3) := by decide +kernel
theorem dX7_reach_103 : decode cX7_reach 103 = .ok (.lreturn, 1) := by decide +kernel
theorem dX7_swap_0 : decode cX7_swap 0 = .ok (.iload_n 1, 1) := by decide +kernel
theorem dX7_swap_1 : decode cX7_swap 1 = .ok (.bipush 30, 2) := by decide +kernel
theorem dX7_swap_3 : decode cX7_swap 3 = .ok (.invokestatic 157, 3) := by decide +kernel
theorem dX7_swap_6 : decode cX7_swap 6 = .ok (.ifCond .ne 10, 3) := by decide +kernel
theorem dX7_swap_9 : decode cX7_swap 9 = .ok (.aload_n 0, 1) := by decide +kernel
theorem dX7_swap_10 : decode cX7_swap 10 = .ok (.ldc 81, 2) := by decide +kernel
theorem dX7_swap_12 : decode cX7_swap 12 = .ok (.invokevirtual 82, 3) := by decide +kernel
theorem dX7_swap_15 : decode cX7_swap 15 = .ok (.ireturn, 1) := by decide +kernel
theorem dX7_swap_16 : decode cX7_swap 16 = .ok (.aload_n 0, 1) := by decide +kernel
theorem dX7_swap_17 : decode cX7_swap 17 = .ok (.getfield 16, 3) := by decide +kernel
theorem dX7_swap_20 : decode cX7_swap 20 = .ok (.aload_n 0, 1) := by decide +kernel
theorem dX7_swap_21 : decode cX7_swap 21 = .ok (.getfield 10, 3) := by decide +kernel
theorem dX7_swap_24 : decode cX7_swap 24 = .ok (.invokevirtual 207, 3) := by decide +kernel
theorem dX7_swap_27 : decode cX7_swap 27 = .ok (.aload_n 0, 1) := by decide +kernel
theorem dX7_swap_28 : decode cX7_swap 28 = .ok (.getfield 46, 3) := by decide +kernel
theorem dX7_swap_31 : decode cX7_swap 31 = .ok (.aload_n 0, 1) := by decide +kernel
theorem dX7_swap_32 : decode cX7_swap 32 = .ok (.getfield 16, 3) := by decide +kernel
theorem dX7_swap_35 : decode cX7_swap 35 = .ok (.iload_n 1, 1) := by decide +kernel
theorem dX7_swap_36 : decode cX7_swap 36 = .ok (.invokevirtual 161, 3) := by decide +kernel
theorem dX7_swap_39 : decode cX7_swap 39 = .ok (.invokevirtual 210, 3) := by decide +kernel
theorem dX7_swap_42 : decode cX7_swap 42 = .ok (.iconst 0, 1) := by decide +kernel
theorem dX7_swap_43 : decode cX7_swap 43 = .ok (.istore_n 2, 1) := by decide +kernel
theorem dX7_swap_44 : decode cX7_swap 44 = .ok (.iload_n 2, 1) := by decide +kernel
theorem dX7_swap_45 : decode cX7_swap 45 = .ok (.bipush 7, 2) := by decide +kernel
theorem dX7_swap_47 : decode cX7_swap 47 = .ok (.if_icmp .ge 93, 3) := by decide +kernel
theorem dX7_swap_50 : decode cX7_swap 50 = .ok (.iload_n 2, 1) := by decide +kernel
theorem dX7_swap_51 : decode cX7_swap 51 = .ok (.iconst 1, 1) := by decide +kernel
theorem dX7_swap_52 : decode cX7_swap 52 = .ok (.iadd, 1) := by decide +kernel
theorem dX7_swap_53 : decode cX7_swap 53 = .ok (.istore_n 3, 1) := by decide +kernel
theorem dX7_swap_54 : decode cX7_swap 54 = .ok (.iload_n 3, 1) := by decide +kernel
theorem dX7_swap_55 : decode cX7_swap 55 = .ok (.bipush 7, 2) := by decide +kernel
theorem dX7_swap_57 : decode cX7_swap 57 = .ok (.if_icmp .ge 77, 3) := by decide +kernel
theorem dX7_swap_60 : decode cX7_swap 60 = .ok (.aload_n 0, 1) := by decide +kernel
theorem dX7_swap_61 : decode cX7_swap 61 = .ok (.getfield 16, 3) := by decide +kernel
theorem dX7_swap_64 : decode cX7_swap 64 = .ok (.aload_n 0, 1) := by decide +kernel
theorem dX7_swap_65 : decode cX7_swap 65 = .ok (.getfield 10, 3) := by decide +kernel
theorem dX7_swap_68 : decode cX7_swap 68 = .ok (.invokevirtual 207, 3) := by decide +kernel
theorem dX7_swap_71 : decode cX7_swap 71 = .ok (.aload_n 0, 1) := by decide +kernel
theorem dX7_swap_72 : decode cX7_swap 72 = .ok (.getfield 16, 3) := by decide +kernel
theorem dX7_swap_75 : decode cX7_swap 75 = .ok (.getfield 86, 3) := by decide +kernel
theorem dX7_swap_78 : decode cX7_swap 78 = .ok (.iload_n 2, 1) := by decide +kernel
theorem dX7_swap_79 : decode cX7_swap 79 = .ok (.aload_n 0, 1) := by decide +kernel
theorem dX7_swap_80 : decode cX7_swap 80 = .ok (.getfield 10, 3) := by decide +kernel
theorem dX7_swap_83 : decode cX7_swap 83 = .ok (.getfield 86, 3) := by decide +kernel
theorem dX7_swap_86 : decode cX7_swap 86 = .ok (.iload_n 3, 1) := by decide +kernel
theorem dX7_swap_87 : decode cX7_swap 87 = .ok (.iaload, 1) := by decide +kernel
theorem dX7_swap_88 : decode cX7_swap 88 = .ok (.iastore, 1) := by decide +kernel
theorem dX7_swap_89 : decode cX7_swap 89 = .ok (.aload_n 0, 1) := by decide +kernel
theorem dX7_swap_90 : decode cX7_swap 90 = .ok (.getfield 16, 3) := by decide +kernel
theorem dX7_swap_93 : decode cX7_swap 93 = .ok (.getfield 86, 3) := by decide +kernel
theorem dX7_swap_96 : decode cX7_swap 96 = .ok (.iload_n 3, 1) := by decide +kernel
theorem dX7_swap_97 : decode cX7_swap 97 = .ok (.aload_n 0, 1) := by decide +kernel
theorem dX7_swap_98 : decode cX7_swap 98 = .ok (.getfield 10, 3) := by decide +kernel
theorem dX7_swap_101 : decode cX7_swap 101 = .ok (.getfield 86, 3) := by decide +kernel
theorem dX7_swap_104 : decode cX7_swap 104 = .ok (.iload_n 2, 1) := by decide +kernel
theorem dX7_swap_105 : decode cX7_swap 105 = .ok (.iaload, 1) := by decide +kernel
theorem dX7_swap_106 : decode cX7_swap 106 = .ok (.iastore, 1) := by decide +kernel
theorem dX7_swap_107 : decode cX7_swap 107 = .ok (.aload_n 0, 1) := by decide +kernel
theorem dX7_swap_108 : decode cX7_swap 108 = .ok (.getfield 46, 3) := by decide +kernel
theorem dX7_swap_111 : decode cX7_swap 111 = .ok (.bipush 10, 2) := by decide +kernel
theorem dX7_swap_113 : decode cX7_swap 113 = .ok (.iload_n 2, 1) := by decide +kernel
theorem dX7_swap_114 : decode cX7_swap 114 = .ok (.imul, 1) := by decide +kernel
theorem dX7_swap_115 : decode cX7_swap 115 = .ok (.iload_n 3, 1) := by decide +kernel
theorem dX7_swap_116 : decode cX7_swap 116 = .ok (.iadd, 1) := by decide +kernel
theorem dX7_swap_117 : decode cX7_swap 117 = .ok (.aload_n 0, 1) := by decide +kernel
theorem dX7_swap_118 : decode cX7_swap 118 = .ok (.getfield 16, 3) := by decide +kernel
theorem dX7_swap_121 : decode cX7_swap 121 = .ok (.iload_n 1, 1) := by decide +kernel
theorem dX7_swap_122 : decode cX7_swap 122 = .ok (.invokevirtual 161, 3) := by decide +kernel
theorem dX7_swap_125 : decode cX7_swap 125 = .ok (.invokevirtual 211, 3) := by decide +kernel
theorem dX7_swap_128 : decode cX7_swap 128 = .ok (.iinc 3 1, 3) := by decide +kernel
theorem dX7_swap_131 : decode cX7_swap 131 = .ok (.goto (-77), 3) := by decide +kernel
theorem dX7_swap_134 : decode cX7_swap 134 = .ok (.iinc 2 1, 3) := by decide +kernel
theorem dX7_swap_137 : decode cX7_swap 137 = .ok (.goto (-93), 3) := by decide +kernel
theorem dX7_swap_140 : decode cX7_swap 140 = .ok (.aload_n 0, 1) := by decide +kernel
theorem dX7_swap_141 : decode cX7_swap 141 = .ok (.getfield 46, 3) := by decide +kernel
theorem dX7_swap_144 : decode cX7_swap 144 = .ok (.getfield 215, 3) := by decide +kernel
theorem dX7_swap_147 : decode cX7_swap 147 = .ok (.iconst (-1), 1) := by decide +kernel
theorem dX7_swap_148 : decode cX7_swap 148 = .ok (.if_icmp .ne 12, 3) := by decide +kernel
theorem dX7_swap_151 : decode cX7_swap 151 = .ok (.aload_n 0, 1) := by decide +kernel
theorem dX7_swap_152 : decode cX7_swap 152 = .ok (.ldc 108, 2) := by decide +kernel
theorem dX7_swap_154 : decode cX7_swap 154 = .ok (.invokevirtual 82, 3) := by decide +kernel
theorem dX7_swap_157 : decode cX7_swap 157 = .ok (.goto 10, 3) := by decide +kernel
theorem dX7_swap_160 : decode cX7_swap 160 = .ok (.aload_n 0, 1) := by decide +kernel
theorem dX7_swap_161 : decode cX7_swap 161 = .ok (.getfield 46, 3) := by decide +kernel
theorem dX7_swap_164 : decode cX7_swap 164 = .ok (.getfield 215, 3) := by decide +kernel
theorem dX7_swap_167 : decode cX7_swap 167 = .ok (.ireturn, 1) := by decide +kernel
theorem dX7_missed_0 : decode cX7_missed 0 = .ok (.iload_n 1, 1) := by decide +kernel
theorem dX7_missed_1 : decode cX7_missed 1 = .ok (.bipush 30, 2) := by decide +kernel
theorem dX7_missed_3 : decode cX7_missed 3 = .ok (.invokestatic 157, 3) := by decide +kernel
theorem dX7_missed_6 : decode cX7_missed 6 = .ok (.ifCond .ne 10, 3) := by decide +kernel
theorem dX7_missed_9 : decode cX7_missed 9 = .ok (.aload_n 0, 1) := by decide +kernel
theorem dX7_missed_10 : decode cX7_missed 10 = .ok (.ldc 81, 2) := by decide +kernel
theorem dX7_missed_12 : decode cX7_missed 12 = .ok (.invokevirtual 82, 3) := by decide +kernel
theorem dX7_missed_15 : decode cX7_missed 15 = .ok (.ireturn, 1) := by decide +kernel
theorem dX7_missed_16 : decode cX7_missed 16 = .ok (.aload_n 0, 1) := by decide +kernel
theorem dX7_missed_17 : decode cX7_missed 17 = .ok (.getfield 46, 3) := by decide +kernel
theorem dX7_missed_20 : decode cX7_missed 20 = .ok (.ldc 218, 2) := by decide +kernel
theorem dX7_missed_22 : decode cX7_missed 22 = .ok (.invokevirtual 210, 3) := by decide +kernel
theorem dX7_missed_25 : decode cX7_missed 25 = .ok (.iconst 0, 1) := by decide +kernel
theorem dX7_missed_26 : decode cX7_missed 26 = .ok (.istore_n 2, 1) := by decide +kernel
theorem dX7_missed_27 : decode cX7_missed 27 = .ok (.iload_n 2, 1) := by decide +kernel
theorem dX7_missed_28 : decode cX7_missed 28 = .ok (.bipush 8, 2) := by decide +kernel
theorem dX7_missed_30 : decode cX7_missed 30 = .ok (.if_icmp .ge 57, 3) := by decide +kernel
theorem dX7_missed_33 : decode cX7_missed 33 = .ok (.aload_n 0, 1) := by decide +kernel
theorem dX7_missed_34 : decode cX7_missed 34 = .ok (.getfield 10, 3) := by decide +kernel
theorem dX7_missed_37 : decode cX7_missed 37 = .ok (.iload_n 2, 1) := by decide +kernel
theorem dX7_missed_38 : decode cX7_missed 38 = .ok (.invokevirtual 89, 3) := by decide +kernel
theorem dX7_missed_41 : decode cX7_missed 41 = .ok (.ifCond .ne 40, 3) := by decide +kernel
theorem dX7_missed_44 : decode cX7_missed 44 = .ok (.aload_n 0, 1) := by decide +kernel
theorem dX7_missed_45 : decode cX7_missed 45 = .ok (.getfield 16, 3) := by decide +kernel
theorem dX7_missed_48 : decode cX7_missed 48 = .ok (.aload_n 0, 1) := by decide +kernel
theorem dX7_missed_49 : decode cX7_missed 49 = .ok (.getfield 10, 3) := by decide +kernel
theorem dX7_missed_52 : decode cX7_missed 52 = .ok (.invokevirtual 207, 3) := by decide +kernel
theorem dX7_missed_55 : decode cX7_missed 55 = .ok (.aload_n 0, 1) := by decide +kernel
theorem dX7_missed_56 : decode cX7_missed 56 = .ok (.getfield 16, 3) := by decide +kernel
theorem dX7_missed_59 : decode cX7_missed 59 = .ok (.iload_n 2, 1) := by decide +kernel
theorem dX7_missed_60 : decode cX7_missed 60 = .ok (.iconst 1, 1) := by decide +kernel
theorem dX7_missed_61 : decode cX7_missed 61 = .ok (.invokevirtual 93, 3) := by decide +kernel
theorem dX7_missed_64 : decode cX7_missed 64 = .ok (.aload_n 0, 1) := by decide +kernel
theorem dX7_missed_65 : decode cX7_missed 65 = .ok (.getfield 46, 3) := by decide +kernel
theorem dX7_missed_68 : decode cX7_missed 68 = .ok (.iload_n 2, 1) := by decide +kernel
theorem dX7_missed_69 : decode cX7_missed 69 = .ok (.aload_n 0, 1) := by decide +kernel
theorem dX7_missed_70 : decode cX7_missed 70 = .ok (.getfield 16, 3) := by decide +kernel
theorem dX7_missed_73 : decode cX7_missed 73 = .ok (.iload_n 1, 1) := by decide +kernel
theorem dX7_missed_74 : decode cX7_missed 74 = .ok (.invokevirtual 161, 3) := by decide +kernel
theorem dX7_missed_77 : decode cX7_missed 77 = .ok (.ineg, 1) := by decide +kernel
theorem dX7_missed_78 : decode cX7_missed 78 = .ok (.invokevirtual 211, 3) := by decide +kernel
theorem dX7_missed_81 : decode cX7_missed 81 = .ok (.iinc 2 1, 3) := by decide +kernel
theorem dX7_missed_84 : decode cX7_missed 84 = .ok (.goto (-57), 3) := by decide +kernel
theorem dX7_missed_87 : decode cX7_missed 87 = .ok (.aload_n 0, 1) := by decide +kernel
theorem dX7_missed_88 : decode cX7_missed 88 = .ok (.getfield 46, 3) := by decide +kernel
theorem dX7_missed_91 : decode cX7_missed 91 = .ok (.getfield 215, 3) := by decide +kernel
theorem dX7_missed_94 : decode cX7_missed 94 = .ok (.iconst (-1), 1) := by decide +kernel
theorem dX7_missed_95 : decode cX7_missed 95 = .ok (.if_icmp .ne 12, 3) := by decide +kernel
theorem dX7_missed_98 : decode cX7_missed 98 = .ok (.aload_n 0, 1) := by decide +kernel
theorem dX7_missed_99 : decode cX7_missed 99 = .ok (.ldc 108, 2) := by decide +kernel
theorem dX7_missed_101 : decode cX7_missed 101 = .ok (.invokevirtual 82, 3) := by decide +kernel
theorem dX7_missed_104 : decode cX7_missed 104 = .ok (.goto 10, 3) := by decide +kernel
theorem dX7_missed_107 : decode cX7_missed 107 = .ok (.aload_n 0, 1) := by decide +kernel
theorem dX7_missed_108 : decode cX7_missed 108 = .ok (.getfield 46, 3) := by decide +kernel
theorem dX7_missed_111 : decode cX7_missed 111 = .ok (.getfield 215, 3) := by decide +kernel
theorem dX7_missed_114 : decode cX7_missed 114 = .ok (.ireturn, 1) := by decide +kernel
theorem dX7_enough_0 : decode cX7_enough 0 = .ok (.iload_n 1, 1) := by decide +kernel
theorem dX7_enough_1 : decode cX7_enough 1 = .ok (.bipush 30, 2) := by decide +kernel
theorem dX7_enough_3 : decode cX7_enough 3 = .ok (.invokestatic 157, 3) := by decide +kernel
theorem dX7_enough_6 : decode cX7_enough 6 = .ok (.ifCond .eq 12, 3) := by decide +kernel
theorem dX7_enough_9 : decode cX7_enough 9 = .ok (.iload_n 2, 1) := by decide +kernel
theorem dX7_enough_10 : decode cX7_enough 10 = .ok (.ldc 219, 2) := by decide +kernel
theorem dX7_enough_12 : decode cX7_enough 12 = .ok (.invokestatic 77, 3) := by decide +kernel
theorem dX7_enough_15 : decode cX7_enough 15 = .ok (.ifCond .ne 10, 3) := by decide +kernel
theorem dX7_enough_18 : decode cX7_enough 18 = .ok (.aload_n 0, 1) := by decide +kernel
theorem dX7_enough_19 : decode cX7_enough 19 = .ok (.ldc 81, 2) := by decide +kernel
theorem dX7_enough_21 : decode cX7_enough 21 = .ok (.invokevirtual 82, 3) := by decide +kernel
theorem dX7_enough_24 : decode cX7_enough 24 = .ok (.ireturn, 1) := by decide +kernel
theorem dX7_enough_25 : decode cX7_enough 25 = .ok (.iconst 0, 1) := by decide +kernel
theorem dX7_enough_26 : decode cX7_enough 26 = .ok (.istore_n 3, 1) := by decide +kernel
theorem dX7_enough_27 : decode cX7_enough 27 = .ok (.iload_n 3, 1) := by decide +kernel
theorem dX7_enough_28 : decode cX7_enough 28 = .ok (.bipush 9, 2) := by decide +kernel
theorem dX7_enough_30 : decode cX7_enough 30 = .ok (.if_icmp .gt 42, 3) := by decide +kernel
theorem dX7_enough_33 : decode cX7_enough 33 = .ok (.aload_n 0, 1) := by decide +kernel
theorem dX7_enough_34 : decode cX7_enough 34 = .ok (.getfield 16, 3) := by decide +kernel
theorem dX7_enough_37 : decode cX7_enough 37 = .ok (.aload_n 0, 1) := by decide +kernel
theorem dX7_enough_38 : decode cX7_enough 38 = .ok (.getfield 10, 3) := by decide +kernel
theorem dX7_enough_41 : decode cX7_enough 41 = .ok (.invokevirtual 207, 3) := by decide +kernel
theorem dX7_enough_44 : decode cX7_enough 44 = .ok (.aload_n 0, 1) := by decide +kernel
theorem dX7_enough_45 : decode cX7_enough 45 = .ok (.getfield 16, 3) := by decide +kernel
theorem dX7_enough_48 : decode cX7_enough 48 = .ok (.iload_n 3, 1) := by decide +kernel
theorem dX7_enough_49 : decode cX7_enough 49 = .ok (.putfield 97, 3) := by decide +kernel
theorem dX7_enough_52 : decode cX7_enough 52 = .ok (.aload_n 0, 1) := by decide +kernel
theorem dX7_enough_53 : decode cX7_enough 53 = .ok (.getfield 16, 3) := by decide +kernel
theorem dX7_enough_56 : decode cX7_enough 56 = .ok (.iload_n 1, 1) := by decide +kernel
theorem dX7_enough_57 : decode cX7_enough 57 = .ok (.invokevirtual 161, 3) := by decide +kernel
theorem dX7_enough_60 : decode cX7_enough 60 = .ok (.iload_n 2, 1) := by decide +kernel
theorem dX7_enough_61 : decode cX7_enough 61 = .ok (.if_icmp .lt 5, 3) := by decide +kernel
theorem dX7_enough_64 : decode cX7_enough 64 = .ok (.iload_n 3, 1) := by decide +kernel
theorem dX7_enough_65 : decode cX7_enough 65 = .ok (.ireturn, 1) := by decide +kernel
theorem dX7_enough_66 : decode cX7_enough 66 = .ok (.iinc 3 1, 3) := by decide +kernel
theorem dX7_enough_69 : decode cX7_enough 69 = .ok (.goto (-42), 3) := by decide +kernel
theorem dX7_enough_72 : decode cX7_enough 72 = .ok (.aload_n 0, 1) := by decide +kernel
theorem dX7_enough_73 : decode cX7_enough 73 = .ok (.ldc 108, 2) := by decide +kernel
theorem dX7_enough_75 : decode cX7_enough 75 = .ok (.invokevirtual 82, 3) := by decide +kernel
theorem dX7_enough_78 : decode cX7_enough 78 = .ok (.ireturn, 1) := by decide +kernel
theorem dX7_kind_0 : decode cX7_kind 0 = .ok (.aload_n 0, 1) := by decide +kernel
theorem dX7_kind_1 : decode cX7_kind 1 = .ok (.getfield 10, 3) := by decide +kernel
theorem dX7_kind_4 : decode cX7_kind 4 = .ok (.iload_n 1, 1) := by decide +kernel
theorem dX7_kind_5 : decode cX7_kind 5 = .ok (.invokevirtual 121, 3) := by decide +kernel
theorem dX7_kind_8 : decode cX7_kind 8 = .ok (.ifCond .eq 12, 3) := by decide +kernel
theorem dX7_kind_11 : decode cX7_kind 11 = .ok (.iload_n 2, 1) := by decide +kernel
theorem dX7_kind_12 : decode cX7_kind 12 = .ok (.bipush 30, 2) := by decide +kernel
theorem dX7_kind_14 : decode cX7_kind 14 = .ok (.invokestatic 157, 3) := by decide +kernel
theorem dX7_kind_17 : decode cX7_kind 17 = .ok (.ifCond .ne 10, 3) := by decide +kernel
theorem dX7_kind_20 : decode cX7_kind 20 = .ok (.aload_n 0, 1) := by decide +kernel
theorem dX7_kind_21 : decode cX7_kind 21 = .ok (.ldc 81, 2) := by decide +kernel
theorem dX7_kind_23 : decode cX7_kind 23 = .ok (.invokevirtual 82, 3) := by decide +kernel
theorem dX7_kind_26 : decode cX7_kind 26 = .ok (.ireturn, 1) := by decide +kernel
theorem dX7_kind_27 : decode cX7_kind 27 = .ok (.aload_n 0, 1) := by decide +kernel
theorem dX7_kind_28 : decode cX7_kind 28 = .ok (.getfield 46, 3) := by decide +kernel
theorem dX7_kind_31 : decode cX7_kind 31 = .ok (.ldc 218, 2) := by decide +kernel
theorem dX7_kind_33 : decode cX7_kind 33 = .ok (.invokevirtual 210, 3) := by decide +kernel
theorem dX7_kind_36 : decode cX7_kind 36 = .ok (.iconst 0, 1) := by decide +kernel
theorem dX7_kind_37 : decode cX7_kind 37 = .ok (.istore_n 3, 1) := by decide +kernel
theorem dX7_kind_38 : decode cX7_kind 38 = .ok (.iload_n 3, 1) := by decide +kernel
theorem dX7_kind_39 : decode cX7_kind 39 = .ok (.bipush 6, 2) := by decide +kernel
theorem dX7_kind_41 : decode cX7_kind 41 = .ok (.if_icmp .ge 49, 3) := by decide +kernel
theorem dX7_kind_44 : decode cX7_kind 44 = .ok (.aload_n 0, 1) := by decide +kernel
theorem dX7_kind_45 : decode cX7_kind 45 = .ok (.getfield 16, 3) := by decide +kernel
theorem dX7_kind_48 : decode cX7_kind 48 = .ok (.aload_n 0, 1) := by decide +kernel
theorem dX7_kind_49 : decode cX7_kind 49 = .ok (.getfield 10, 3) := by decide +kernel
theorem dX7_kind_52 : decode cX7_kind 52 = .ok (.invokevirtual 207, 3) := by decide +kernel
theorem dX7_kind_55 : decode cX7_kind 55 = .ok (.aload_n 0, 1) := by decide +kernel
theorem dX7_kind_56 : decode cX7_kind 56 = .ok (.getfield 16, 3) := by decide +kernel
theorem dX7_kind_59 : decode cX7_kind 59 = .ok (.getfield 124, 3) := by decide +kernel
theorem dX7_kind_62 : decode cX7_kind 62 = .ok (.iload_n 1, 1) := by decide +kernel
theorem dX7_kind_63 : decode cX7_kind 63 = .ok (.aaload, 1) := by decide +kernel
theorem dX7_kind_64 : decode cX7_kind 64 = .ok (.iload_n 3, 1) := by decide +kernel
theorem dX7_kind_65 : decode cX7_kind 65 = .ok (.putfield 131, 3) := by decide +kernel
theorem dX7_kind_68 : decode cX7_kind 68 = .ok (.aload_n 0, 1) := by decide +kernel
theorem dX7_kind_69 : decode cX7_kind 69 = .ok (.getfield 46, 3) := by decide +kernel
theorem dX7_kind_72 : decode cX7_kind 72 = .ok (.iload_n 3, 1) := by decide +kernel
theorem dX7_kind_73 : decode cX7_kind 73 = .ok (.aload_n 0, 1) := by decide +kernel
theorem dX7_kind_74 : decode cX7_kind 74 = .ok (.getfield 16, 3) := by decide +kernel
theorem dX7_kind_77 : decode cX7_kind 77 = .ok (.iload_n 2, 1) := by decide +kernel
theorem dX7_kind_78 : decode cX7_kind 78 = .ok (.invokevirtual 161, 3) := by decide +kernel
theorem dX7_kind_81 : decode cX7_kind 81 = .ok (.invokevirtual 211, 3) := by decide +kernel
theorem dX7_kind_84 : decode cX7_kind 84 = .ok (.iinc 3 1, 3) := by decide +kernel
theorem dX7_kind_87 : decode cX7_kind 87 = .ok (.goto (-49), 3) := by decide +kernel
theorem dX7_kind_90 : decode cX7_kind 90 = .ok (.aload_n 0, 1) := by decide +kernel
theorem dX7_kind_91 : decode cX7_kind 91 = .ok (.getfield 46, 3) := by decide +kernel
theorem dX7_kind_94 : decode cX7_kind 94 = .ok (.getfield 215, 3) := by decide +kernel
theorem dX7_kind_97 : decode cX7_kind 97 = .ok (.ireturn, 1) := by decide +kernel
theorem dX7_facing_0 : decode cX7_facing 0 = .ok (.aload_n 0, 1) := by decide +kernel
theorem dX7_facing_1 : decode cX7_facing 1 = .ok (.getfield 10, 3) := by decide +kernel
theorem dX7_facing_4 : decode cX7_facing 4 = .ok (.iload_n 1, 1) := by decide +kernel
theorem dX7_facing_5 : decode cX7_facing 5 = .ok (.invokevirtual 121, 3) := by decide +kernel
theorem dX7_facing_8 : decode cX7_facing 8 = .ok (.ifCond .eq 12, 3) := by decide +kernel
theorem dX7_facing_11 : decode cX7_facing 11 = .ok (.iload_n 2, 1) := by decide +kernel
theorem dX7_facing_12 : decode cX7_facing 12 = .ok (.bipush 30, 2) := by decide +kernel
theorem dX7_facing_14 : decode cX7_facing 14 = .ok (.invokestatic 157, 3) := by decide +kernel
theorem dX7_facing_17 : decode cX7_facing 17 = .ok (.ifCond .ne 10, 3) := by decide +kernel
theorem dX7_facing_20 : decode cX7_facing 20 = .ok (.aload_n 0, 1) := by decide +kernel
theorem dX7_facing_21 : decode cX7_facing 21 = .ok (.ldc 81, 2) := by decide +kernel
theorem dX7_facing_23 : decode cX7_facing 23 = .ok (.invokevirtual 82, 3) := by decide +kernel
theorem dX7_facing_26 : decode cX7_facing 26 = .ok (.ireturn, 1) := by decide +kernel
theorem dX7_facing_27 : decode cX7_facing 27 = .ok (.aload_n 0, 1) := by decide +kernel
theorem dX7_facing_28 : decode cX7_facing 28 = .ok (.getfield 46, 3) := by decide +kernel
theorem dX7_facing_31 : decode cX7_facing 31 = .ok (.ldc 218, 2) := by decide +kernel
theorem dX7_facing_33 : decode cX7_facing 33 = .ok (.invokevirtual 210, 3) := by decide +kernel
theorem dX7_facing_36 : decode cX7_facing 36 = .ok (.iconst 0, 1) := by decide +kernel
theorem dX7_facing_37 : decode cX7_facing 37 = .ok (.istore_n 3, 1) := by decide +kernel
theorem dX7_facing_38 : decode cX7_facing 38 = .ok (.iload_n 3, 1) := by decide +kernel
theorem dX7_facing_39 : decode cX7_facing 39 = .ok (.bipush 8, 2) := by decide +kernel
theorem dX7_facing_41 : decode cX7_facing 41 = .ok (.if_icmp .ge 49, 3) := by decide +kernel
theorem dX7_facing_44 : decode cX7_facing 44 = .ok (.aload_n 0, 1) := by decide +kernel
theorem dX7_facing_45 : decode cX7_facing 45 = .ok (.getfield 16, 3) := by decide +kernel
theorem dX7_facing_48 : decode cX7_facing 48 = .ok (.aload_n 0, 1) := by decide +kernel
theorem dX7_facing_49 : decode cX7_facing 49 = .ok (.getfield 10, 3) := by decide +kernel
theorem dX7_facing_52 : decode cX7_facing 52 = .ok (.invokevirtual 207, 3) := by decide +kernel
theorem dX7_facing_55 : decode cX7_facing 55 = .ok (.aload_n 0, 1) := by decide +kernel
theorem dX7_facing_56 : decode cX7_facing 56 = .ok (.getfield 16, 3) := by decide +kernel
theorem dX7_facing_59 : decode cX7_facing 59 = .ok (.getfield 124, 3) := by decide +kernel
theorem dX7_facing_62 : decode cX7_facing 62 = .ok (.iload_n 1, 1) := by decide +kernel
theorem dX7_facing_63 : decode cX7_facing 63 = .ok (.aaload, 1) := by decide +kernel
theorem dX7_facing_64 : decode cX7_facing 64 = .ok (.iload_n 3, 1) := by decide +kernel
theorem dX7_facing_65 : decode cX7_facing 65 = .ok (.putfield 137, 3) := by decide +kernel
theorem dX7_facing_68 : decode cX7_facing 68 = .ok (.aload_n 0, 1) := by decide +kernel
theorem dX7_facing_69 : decode cX7_facing 69 = .ok (.getfield 46, 3) := by decide +kernel
theorem dX7_facing_72 : decode cX7_facing 72 = .ok (.iload_n 3, 1) := by decide +kernel
theorem dX7_facing_73 : decode cX7_facing 73 = .ok (.aload_n 0, 1) := by decide +kernel
theorem dX7_facing_74 : decode cX7_facing 74 = .ok (.getfield 16, 3) := by decide +kernel
theorem dX7_facing_77 : decode cX7_facing 77 = .ok (.iload_n 2, 1) := by decide +kernel
theorem dX7_facing_78 : decode cX7_facing 78 = .ok (.invokevirtual 161, 3) := by decide +kernel
theorem dX7_facing_81 : decode cX7_facing 81 = .ok (.invokevirtual 211, 3) := by decide +kernel
theorem dX7_facing_84 : decode cX7_facing 84 = .ok (.iinc 3 1, 3) := by decide +kernel
theorem dX7_facing_87 : decode cX7_facing 87 = .ok (.goto (-49), 3) := by decide +kernel
theorem dX7_facing_90 : decode cX7_facing 90 = .ok (.aload_n 0, 1) := by decide +kernel
theorem dX7_facing_91 : decode cX7_facing 91 = .ok (.getfield 46, 3) := by decide +kernel
theorem dX7_facing_94 : decode cX7_facing 94 = .ok (.getfield 215, 3) := by decide +kernel
theorem dX7_facing_97 : decode cX7_facing 97 = .ok (.ireturn, 1) := by decide +kernel
theorem dX7_best_0 : decode cX7_best 0 = .ok (.iload_n 1, 1) := by decide +kernel
theorem dX7_best_1 : decode cX7_best 1 = .ok (.bipush 6, 2) := by decide +kernel
theorem dX7_best_3 : decode cX7_best 3 = .ok (.invokestatic 77, 3) := by decide +kernel
theorem dX7_best_6 : decode cX7_best 6 = .ok (.ifCond .eq 12, 3) := by decide +kernel
theorem dX7_best_9 : decode cX7_best 9 = .ok (.iload_n 2, 1) := by decide +kernel
theorem dX7_best_10 : decode cX7_best 10 = .ok (.bipush 30, 2) := by decide +kernel
theorem dX7_best_12 : decode cX7_best 12 = .ok (.invokestatic 157, 3) := by decide +kernel
theorem dX7_best_15 : decode cX7_best 15 = .ok (.ifCond .ne 10, 3) := by decide +kernel
theorem dX7_best_18 : decode cX7_best 18 = .ok (.aload_n 0, 1) := by decide +kernel
theorem dX7_best_19 : decode cX7_best 19 = .ok (.ldc 81, 2) := by decide +kernel
theorem dX7_best_21 : decode cX7_best 21 = .ok (.invokevirtual 82, 3) := by decide +kernel
theorem dX7_best_24 : decode cX7_best 24 = .ok (.ireturn, 1) := by decide +kernel
theorem dX7_best_25 : decode cX7_best 25 = .ok (.aload_n 0, 1) := by decide +kernel
theorem dX7_best_26 : decode cX7_best 26 = .ok (.getfield 46, 3) := by decide +kernel
theorem dX7_best_29 : decode cX7_best 29 = .ok (.ldc 218, 2) := by decide +kernel
theorem dX7_best_31 : decode cX7_best 31 = .ok (.invokevirtual 210, 3) := by decide +kernel
theorem dX7_best_34 : decode cX7_best 34 = .ok (.iconst 0, 1) := by decide +kernel
theorem dX7_best_35 : decode cX7_best 35 = .ok (.istore_n 3, 1) := by decide +kernel
theorem dX7_best_36 : decode cX7_best 36 = .ok (.iload_n 3, 1) := by decide +kernel
