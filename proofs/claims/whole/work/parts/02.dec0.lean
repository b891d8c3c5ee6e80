theorem dX0_init_0 : decode cX0_init 0 = .ok (.aload_n 0, 1) := by decide +kernel
theorem dX0_init_1 : decode cX0_init 1 = .ok (.invokespecial 1, 3) := by decide +kernel
theorem dX0_init_4 : decode cX0_init 4 = .ok (.return_, 1) := by decide +kernel
theorem dX0_begin_0 : decode cX0_begin 0 = .ok (.aload_n 0, 1) := by decide +kernel
theorem dX0_begin_1 : decode cX0_begin 1 = .ok (.iconst (-1), 1) := by decide +kernel
theorem dX0_begin_2 : decode cX0_begin 2 = .ok (.putfield 9, 3) := by decide +kernel
theorem dX0_begin_5 : decode cX0_begin 5 = .ok (.aload_n 0, 1) := by decide +kernel
theorem dX0_begin_6 : decode cX0_begin 6 = .ok (.iload_n 1, 1) := by decide +kernel
theorem dX0_begin_7 : decode cX0_begin 7 = .ok (.putfield 13, 3) := by decide +kernel
theorem dX0_begin_10 : decode cX0_begin 10 = .ok (.return_, 1) := by decide +kernel
theorem dX0_weigh_0 : decode cX0_weigh 0 = .ok (.iload_n 2, 1) := by decide +kernel
theorem dX0_weigh_1 : decode cX0_weigh 1 = .ok (.aload_n 0, 1) := by decide +kernel
theorem dX0_weigh_2 : decode cX0_weigh 2 = .ok (.getfield 13, 3) := by decide +kernel
theorem dX0_weigh_5 : decode cX0_weigh 5 = .ok (.if_icmp .le 13, 3) := by decide +kernel
theorem dX0_weigh_8 : decode cX0_weigh 8 = .ok (.aload_n 0, 1) := by decide +kernel
theorem dX0_weigh_9 : decode cX0_weigh 9 = .ok (.iload_n 1, 1) := by decide +kernel
theorem dX0_weigh_10 : decode cX0_weigh 10 = .ok (.putfield 9, 3) := by decide +kernel
theorem dX0_weigh_13 : decode cX0_weigh 13 = .ok (.aload_n 0, 1) := by decide +kernel
theorem dX0_weigh_14 : decode cX0_weigh 14 = .ok (.iload_n 2, 1) := by decide +kernel
theorem dX0_weigh_15 : decode cX0_weigh 15 = .ok (.putfield 13, 3) := by decide +kernel
theorem dX0_weigh_18 : decode cX0_weigh 18 = .ok (.return_, 1) := by decide +kernel
theorem dX1_init_0 : decode cX1_init 0 = .ok (.aload_n 0, 1) := by decide +kernel
theorem dX1_init_1 : decode cX1_init 1 = .ok (.invokespecial 3, 3) := by decide +kernel
theorem dX1_init_4 : decode cX1_init 4 = .ok (.aload_n 0, 1) := by decide +kernel
theorem dX1_init_5 : decode cX1_init 5 = .ok (.iconst 0, 1) := by decide +kernel
theorem dX1_init_6 : decode cX1_init 6 = .ok (.putfield 9, 3) := by decide +kernel
theorem dX1_init_9 : decode cX1_init 9 = .ok (.aload_n 0, 1) := by decide +kernel
theorem dX1_init_10 : decode cX1_init 10 = .ok (.bipush 7, 2) := by decide +kernel
theorem dX1_init_12 : decode cX1_init 12 = .ok (.newarray .int, 2) := by decide +kernel
theorem dX1_init_14 : decode cX1_init 14 = .ok (.putfield 15, 3) := by decide +kernel
theorem dX1_init_17 : decode cX1_init 17 = .ok (.iconst 0, 1) := by decide +kernel
theorem dX1_init_18 : decode cX1_init 18 = .ok (.istore_n 1, 1) := by decide +kernel
theorem dX1_init_19 : decode cX1_init 19 = .ok (.iload_n 1, 1) := by decide +kernel
theorem dX1_init_20 : decode cX1_init 20 = .ok (.bipush 7, 2) := by decide +kernel
theorem dX1_init_22 : decode cX1_init 22 = .ok (.if_icmp .ge 27, 3) := by decide +kernel
theorem dX1_init_25 : decode cX1_init 25 = .ok (.aload_n 0, 1) := by decide +kernel
theorem dX1_init_26 : decode cX1_init 26 = .ok (.getfield 15, 3) := by decide +kernel
theorem dX1_init_29 : decode cX1_init 29 = .ok (.iload_n 1, 1) := by decide +kernel
theorem dX1_init_30 : decode cX1_init 30 = .ok (.iload_n 1, 1) := by decide +kernel
theorem dX1_init_31 : decode cX1_init 31 = .ok (.bipush 6, 2) := by decide +kernel
theorem dX1_init_33 : decode cX1_init 33 = .ok (.if_icmp .ne 8, 3) := by decide +kernel
theorem dX1_init_36 : decode cX1_init 36 = .ok (.bipush 8, 2) := by decide +kernel
theorem dX1_init_38 : decode cX1_init 38 = .ok (.goto 4, 3) := by decide +kernel
theorem dX1_init_41 : decode cX1_init 41 = .ok (.iload_n 1, 1) := by decide +kernel
theorem dX1_init_42 : decode cX1_init 42 = .ok (.iastore, 1) := by decide +kernel
theorem dX1_init_43 : decode cX1_init 43 = .ok (.iinc 1 1, 3) := by decide +kernel
theorem dX1_init_46 : decode cX1_init 46 = .ok (.goto (-27), 3) := by decide +kernel
theorem dX1_init_49 : decode cX1_init 49 = .ok (.aload_n 0, 1) := by decide +kernel
theorem dX1_init_50 : decode cX1_init 50 = .ok (.iconst 0, 1) := by decide +kernel
theorem dX1_init_51 : decode cX1_init 51 = .ok (.putfield 19, 3) := by decide +kernel
theorem dX1_init_54 : decode cX1_init 54 = .ok (.aload_n 0, 1) := by decide +kernel
theorem dX1_init_55 : decode cX1_init 55 = .ok (.iconst 4, 1) := by decide +kernel
theorem dX1_init_56 : decode cX1_init 56 = .ok (.putfield 22, 3) := by decide +kernel
theorem dX1_init_59 : decode cX1_init 59 = .ok (.aload_n 0, 1) := by decide +kernel
theorem dX1_init_60 : decode cX1_init 60 = .ok (.iconst 0, 1) := by decide +kernel
theorem dX1_init_61 : decode cX1_init 61 = .ok (.putfield 25, 3) := by decide +kernel
theorem dX1_init_64 : decode cX1_init 64 = .ok (.aload_n 0, 1) := by decide +kernel
theorem dX1_init_65 : decode cX1_init 65 = .ok (.bipush 8, 2) := by decide +kernel
theorem dX1_init_67 : decode cX1_init 67 = .ok (.anewarray 28, 3) := by decide +kernel
theorem dX1_init_70 : decode cX1_init 70 = .ok (.putfield 30, 3) := by decide +kernel
theorem dX1_init_73 : decode cX1_init 73 = .ok (.iconst 0, 1) := by decide +kernel
theorem dX1_init_74 : decode cX1_init 74 = .ok (.istore_n 1, 1) := by decide +kernel
theorem dX1_init_75 : decode cX1_init 75 = .ok (.iload_n 1, 1) := by decide +kernel
theorem dX1_init_76 : decode cX1_init 76 = .ok (.bipush 8, 2) := by decide +kernel
theorem dX1_init_78 : decode cX1_init 78 = .ok (.if_icmp .ge 22, 3) := by decide +kernel
theorem dX1_init_81 : decode cX1_init 81 = .ok (.aload_n 0, 1) := by decide +kernel
theorem dX1_init_82 : decode cX1_init 82 = .ok (.getfield 30, 3) := by decide +kernel
theorem dX1_init_85 : decode cX1_init 85 = .ok (.iload_n 1, 1) := by decide +kernel
theorem dX1_init_86 : decode cX1_init 86 = .ok (.new 28, 3) := by decide +kernel
theorem dX1_init_89 : decode cX1_init 89 = .ok (.dup, 1) := by decide +kernel
theorem dX1_init_90 : decode cX1_init 90 = .ok (.invokespecial 34, 3) := by decide +kernel
theorem dX1_init_93 : decode cX1_init 93 = .ok (.aastore, 1) := by decide +kernel
theorem dX1_init_94 : decode cX1_init 94 = .ok (.iinc 1 1, 3) := by decide +kernel
theorem dX1_init_97 : decode cX1_init 97 = .ok (.goto (-22), 3) := by decide +kernel
theorem dX1_init_100 : decode cX1_init 100 = .ok (.return_, 1) := by decide +kernel
theorem dX1_become_0 : decode cX1_become 0 = .ok (.aload_n 0, 1) := by decide +kernel
theorem dX1_become_1 : decode cX1_become 1 = .ok (.aload_n 1, 1) := by decide +kernel
theorem dX1_become_2 : decode cX1_become 2 = .ok (.getfield 9, 3) := by decide +kernel
theorem dX1_become_5 : decode cX1_become 5 = .ok (.putfield 9, 3) := by decide +kernel
theorem dX1_become_8 : decode cX1_become 8 = .ok (.aload_n 1, 1) := by decide +kernel
theorem dX1_become_9 : decode cX1_become 9 = .ok (.getfield 15, 3) := by decide +kernel
theorem dX1_become_12 : decode cX1_become 12 = .ok (.iconst 0, 1) := by decide +kernel
theorem dX1_become_13 : decode cX1_become 13 = .ok (.aload_n 0, 1) := by decide +kernel
theorem dX1_become_14 : decode cX1_become 14 = .ok (.getfield 15, 3) := by decide +kernel
theorem dX1_become_17 : decode cX1_become 17 = .ok (.iconst 0, 1) := by decide +kernel
theorem dX1_become_18 : decode cX1_become 18 = .ok (.bipush 7, 2) := by decide +kernel
theorem dX1_become_20 : decode cX1_become 20 = .ok (.invokestatic 35, 3) := by decide +kernel
theorem dX1_become_23 : decode cX1_become 23 = .ok (.aload_n 0, 1) := by decide +kernel
theorem dX1_become_24 : decode cX1_become 24 = .ok (.aload_n 1, 1) := by decide +kernel
theorem dX1_become_25 : decode cX1_become 25 = .ok (.getfield 19, 3) := by decide +kernel
theorem dX1_become_28 : decode cX1_become 28 = .ok (.putfield 19, 3) := by decide +kernel
theorem dX1_become_31 : decode cX1_become 31 = .ok (.aload_n 0, 1) := by decide +kernel
theorem dX1_become_32 : decode cX1_become 32 = .ok (.aload_n 1, 1) := by decide +kernel
theorem dX1_become_33 : decode cX1_become 33 = .ok (.getfield 22, 3) := by decide +kernel
theorem dX1_become_36 : decode cX1_become 36 = .ok (.putfield 22, 3) := by decide +kernel
theorem dX1_become_39 : decode cX1_become 39 = .ok (.aload_n 0, 1) := by decide +kernel
theorem dX1_become_40 : decode cX1_become 40 = .ok (.aload_n 1, 1) := by decide +kernel
theorem dX1_become_41 : decode cX1_become 41 = .ok (.getfield 25, 3) := by decide +kernel
theorem dX1_become_44 : decode cX1_become 44 = .ok (.putfield 25, 3) := by decide +kernel
theorem dX1_become_47 : decode cX1_become 47 = .ok (.iconst 0, 1) := by decide +kernel
theorem dX1_become_48 : decode cX1_become 48 = .ok (.istore_n 2, 1) := by decide +kernel
theorem dX1_become_49 : decode cX1_become 49 = .ok (.iload_n 2, 1) := by decide +kernel
theorem dX1_become_50 : decode cX1_become 50 = .ok (.aload_n 0, 1) := by decide +kernel
theorem dX1_become_51 : decode cX1_become 51 = .ok (.getfield 25, 3) := by decide +kernel
theorem dX1_become_54 : decode cX1_become 54 = .ok (.if_icmp .ge 24, 3) := by decide +kernel
theorem dX1_become_57 : decode cX1_become 57 = .ok (.aload_n 0, 1) := by decide +kernel
theorem dX1_become_58 : decode cX1_become 58 = .ok (.getfield 30, 3) := by decide +kernel
theorem dX1_become_61 : decode cX1_become 61 = .ok (.iload_n 2, 1) := by decide +kernel
theorem dX1_become_62 : decode cX1_become 62 = .ok (.aaload, 1) := by decide +kernel
theorem dX1_become_63 : decode cX1_become 63 = .ok (.aload_n 1, 1) := by decide +kernel
theorem dX1_become_64 : decode cX1_become 64 = .ok (.getfield 30, 3) := by decide +kernel
theorem dX1_become_67 : decode cX1_become 67 = .ok (.iload_n 2, 1) := by decide +kernel
theorem dX1_become_68 : decode cX1_become 68 = .ok (.aaload, 1) := by decide +kernel
theorem dX1_become_69 : decode cX1_become 69 = .ok (.invokevirtual 41, 3) := by decide +kernel
theorem dX1_become_72 : decode cX1_become 72 = .ok (.iinc 2 1, 3) := by decide +kernel
theorem dX1_become_75 : decode cX1_become 75 = .ok (.goto (-26), 3) := by decide +kernel
theorem dX1_become_78 : decode cX1_become 78 = .ok (.return_, 1) := by decide +kernel
theorem dX1_has_0 : decode cX1_has 0 = .ok (.iload_n 1, 1) := by decide +kernel
theorem dX1_has_1 : decode cX1_has 1 = .ok (.ifCond .lt 15, 3) := by decide +kernel
theorem dX1_has_4 : decode cX1_has 4 = .ok (.iload_n 1, 1) := by decide +kernel
theorem dX1_has_5 : decode cX1_has 5 = .ok (.aload_n 0, 1) := by decide +kernel
theorem dX1_has_6 : decode cX1_has 6 = .ok (.getfield 25, 3) := by decide +kernel
theorem dX1_has_9 : decode cX1_has 9 = .ok (.if_icmp .ge 7, 3) := by decide +kernel
theorem dX1_has_12 : decode cX1_has 12 = .ok (.iconst 1, 1) := by decide +kernel
theorem dX1_has_13 : decode cX1_has 13 = .ok (.goto 4, 3) := by decide +kernel
theorem dX1_has_16 : decode cX1_has 16 = .ok (.iconst 0, 1) := by decide +kernel
theorem dX1_has_17 : decode cX1_has 17 = .ok (.ireturn, 1) := by decide +kernel
theorem dX1_isFull_0 : decode cX1_isFull 0 = .ok (.aload_n 0, 1) := by decide +kernel
theorem dX1_isFull_1 : decode cX1_isFull 1 = .ok (.getfield 25, 3) := by decide +kernel
theorem dX1_isFull_4 : decode cX1_isFull 4 = .ok (.bipush 8, 2) := by decide +kernel
theorem dX1_isFull_6 : decode cX1_isFull 6 = .ok (.if_icmp .lt 7, 3) := by decide +kernel
theorem dX1_isFull_9 : decode cX1_isFull 9 = .ok (.iconst 1, 1) := by decide +kernel
theorem dX1_isFull_10 : decode cX1_isFull 10 = .ok (.goto 4, 3) := by decide +kernel
theorem dX1_isFull_13 : decode cX1_isFull 13 = .ok (.iconst 0, 1) := by decide +kernel
theorem dX1_isFull_14 : decode cX1_isFull 14 = .ok (.ireturn, 1) := by decide +kernel
theorem dX1_add_0 : decode cX1_add 0 = .ok (.aload_n 0, 1) := by decide +kernel
theorem dX1_add_1 : decode cX1_add 1 = .ok (.invokevirtual 45, 3) := by decide +kernel
theorem dX1_add_4 : decode cX1_add 4 = .ok (.ifCond .eq 4, 3) := by decide +kernel
theorem dX1_add_7 : decode cX1_add 7 = .ok (.return_, 1) := by decide +kernel
theorem dX1_add_8 : decode cX1_add 8 = .ok (.aload_n 0, 1) := by decide +kernel
theorem dX1_add_9 : decode cX1_add 9 = .ok (.getfield 30, 3) := by decide +kernel
theorem dX1_add_12 : decode cX1_add 12 = .ok (.aload_n 0, 1) := by decide +kernel
theorem dX1_add_13 : decode cX1_add 13 = .ok (.getfield 25, 3) := by decide +kernel
theorem dX1_add_16 : decode cX1_add 16 = .ok (.aaload, 1) := by decide +kernel
theorem dX1_add_17 : decode cX1_add 17 = .ok (.astore 4, 2) := by decide +kernel
theorem dX1_add_19 : decode cX1_add 19 = .ok (.aload 4, 2) := by decide +kernel
theorem dX1_add_21 : decode cX1_add 21 = .ok (.iload_n 1, 1) := by decide +kernel
theorem dX1_add_22 : decode cX1_add 22 = .ok (.putfield 49, 3) := by decide +kernel
theorem dX1_add_25 : decode cX1_add 25 = .ok (.aload 4, 2) := by decide +kernel
theorem dX1_add_27 : decode cX1_add 27 = .ok (.iload_n 2, 1) := by decide +kernel
theorem dX1_add_28 : decode cX1_add 28 = .ok (.putfield 52, 3) := by decide +kernel
theorem dX1_add_31 : decode cX1_add 31 = .ok (.aload 4, 2) := by decide +kernel
theorem dX1_add_33 : decode cX1_add 33 = .ok (.iload_n 3, 1) := by decide +kernel
theorem dX1_add_34 : decode cX1_add 34 = .ok (.putfield 55, 3) := by decide +kernel
theorem dX1_add_37 : decode cX1_add 37 = .ok (.aload 4, 2) := by decide +kernel
theorem dX1_add_39 : decode cX1_add 39 = .ok (.iconst 0, 1) := by decide +kernel
theorem dX1_add_40 : decode cX1_add 40 = .ok (.putfield 58, 3) := by decide +kernel
theorem dX1_add_43 : decode cX1_add 43 = .ok (.aload_n 0, 1) := by decide +kernel
theorem dX1_add_44 : decode cX1_add 44 = .ok (.dup, 1) := by decide +kernel
theorem dX1_add_45 : decode cX1_add 45 = .ok (.getfield 25, 3) := by decide +kernel
theorem dX1_add_48 : decode cX1_add 48 = .ok (.iconst 1, 1) := by decide +kernel
theorem dX1_add_49 : decode cX1_add 49 = .ok (.iadd, 1) := by decide +kernel
theorem dX1_add_50 : decode cX1_add 50 = .ok (.putfield 25, 3) := by decide +kernel
theorem dX1_add_53 : decode cX1_add 53 = .ok (.return_, 1) := by decide +kernel
theorem dX1_isSick_0 : decode cX1_isSick 0 = .ok (.aload_n 0, 1) := by decide +kernel
theorem dX1_isSick_1 : decode cX1_isSick 1 = .ok (.getfield 19, 3) := by decide +kernel
theorem dX1_isSick_4 : decode cX1_isSick 4 = .ok (.iload_n 1, 1) := by decide +kernel
theorem dX1_isSick_5 : decode cX1_isSick 5 = .ok (.ishr, 1) := by decide +kernel
theorem dX1_isSick_6 : decode cX1_isSick 6 = .ok (.iconst 1, 1) := by decide +kernel
theorem dX1_isSick_7 : decode cX1_isSick 7 = .ok (.iand, 1) := by decide +kernel
theorem dX1_isSick_8 : decode cX1_isSick 8 = .ok (.iconst 1, 1) := by decide +kernel
theorem dX1_isSick_9 : decode cX1_isSick 9 = .ok (.if_icmp .ne 7, 3) := by decide +kernel
theorem dX1_isSick_12 : decode cX1_isSick 12 = .ok (.iconst 1, 1) := by decide +kernel
theorem dX1_isSick_13 : decode cX1_isSick 13 = .ok (.goto 4, 3) := by decide +kernel
theorem dX1_isSick_16 : decode cX1_isSick 16 = .ok (.iconst 0, 1) := by decide +kernel
theorem dX1_isSick_17 : decode cX1_isSick 17 = .ok (.ireturn, 1) := by decide +kernel
theorem dX1_makeSick_0 : decode cX1_makeSick 0 = .ok (.aload_n 0, 1) := by decide +kernel
theorem dX1_makeSick_1 : decode cX1_makeSick 1 = .ok (.iload_n 2, 1) := by decide +kernel
theorem dX1_makeSick_2 : decode cX1_makeSick 2 = .ok (.ifCond .eq 14, 3) := by decide +kernel
theorem dX1_makeSick_5 : decode cX1_makeSick 5 = .ok (.aload_n 0, 1) := by decide +kernel
theorem dX1_makeSick_6 : decode cX1_makeSick 6 = .ok (.getfield 19, 3) := by decide +kernel
theorem dX1_makeSick_9 : decode cX1_makeSick 9 = .ok (.iconst 1, 1) := by decide +kernel
theorem dX1_makeSick_10 : decode cX1_makeSick 10 = .ok (.iload_n 1, 1) := by decide +kernel
theorem dX1_makeSick_11 : decode cX1_makeSick 11 = .ok (.ishl, 1) := by decide +kernel
theorem dX1_makeSick_12 : decode cX1_makeSick 12 = .ok (.ior, 1) := by decide +kernel
theorem dX1_makeSick_13 : decode cX1_makeSick 13 = .ok (.goto 13, 3) := by decide +kernel
theorem dX1_makeSick_16 : decode cX1_makeSick 16 = .ok (.aload_n 0, 1) := by decide +kernel
theorem dX1_makeSick_17 : decode cX1_makeSick 17 = .ok (.getfield 19, 3) := by decide +kernel
theorem dX1_makeSick_20 : decode cX1_makeSick 20 = .ok (.iconst 1, 1) := by decide +kernel
theorem dX1_makeSick_21 : decode cX1_makeSick 21 = .ok (.iload_n 1, 1) := by decide +kernel
theorem dX1_makeSick_22 : decode cX1_makeSick 22 = .ok (.ishl, 1) := by decide +kernel
theorem dX1_makeSick_23 : decode cX1_makeSick 23 = .ok (.iconst (-1), 1) := by decide +kernel
theorem dX1_makeSick_24 : decode cX1_makeSick 24 = .ok (.ixor, 1) := by decide +kernel
theorem dX1_makeSick_25 : decode cX1_makeSick 25 = .ok (.iand, 1) := by decide +kernel
theorem dX1_makeSick_26 : decode cX1_makeSick 26 = .ok (.putfield 19, 3) := by decide +kernel
theorem dX1_makeSick_29 : decode cX1_makeSick 29 = .ok (.return_, 1) := by decide +kernel
theorem dX1_calms_0 : decode cX1_calms 0 = .ok (.iconst 0, 1) := by decide +kernel
theorem dX1_calms_1 : decode cX1_calms 1 = .ok (.istore_n 1, 1) := by decide +kernel
theorem dX1_calms_2 : decode cX1_calms 2 = .ok (.iconst 0, 1) := by decide +kernel
theorem dX1_calms_3 : decode cX1_calms 3 = .ok (.istore_n 2, 1) := by decide +kernel
theorem dX1_calms_4 : decode cX1_calms 4 = .ok (.iload_n 2, 1) := by decide +kernel
theorem dX1_calms_5 : decode cX1_calms 5 = .ok (.bipush 7, 2) := by decide +kernel
theorem dX1_calms_7 : decode cX1_calms 7 = .ok (.if_icmp .ge 23, 3) := by decide +kernel
theorem dX1_calms_10 : decode cX1_calms 10 = .ok (.aload_n 0, 1) := by decide +kernel
theorem dX1_calms_11 : decode cX1_calms 11 = .ok (.getfield 15, 3) := by decide +kernel
theorem dX1_calms_14 : decode cX1_calms 14 = .ok (.iload_n 2, 1) := by decide +kernel
theorem dX1_calms_15 : decode cX1_calms 15 = .ok (.iaload, 1) := by decide +kernel
theorem dX1_calms_16 : decode cX1_calms 16 = .ok (.bipush 8, 2) := by decide +kernel
theorem dX1_calms_18 : decode cX1_calms 18 = .ok (.if_icmp .ne 6, 3) := by decide +kernel
theorem dX1_calms_21 : decode cX1_calms 21 = .ok (.iinc 1 1, 3) := by decide +kernel
theorem dX1_calms_24 : decode cX1_calms 24 = .ok (.iinc 2 1, 3) := by decide +kernel
theorem dX1_calms_27 : decode cX1_calms 27 = .ok (.goto (-23), 3) := by decide +kernel
theorem dX1_calms_30 : decode cX1_calms 30 = .ok (.iload_n 1, 1) := by decide +kernel
theorem dX1_calms_31 : decode cX1_calms 31 = .ok (.ireturn, 1) := by decide +kernel
theorem dX1_windOn_0 : decode cX1_windOn 0 = .ok (.aload_n 0, 1) := by decide +kernel
theorem dX1_windOn_1 : decode cX1_windOn 1 = .ok (.getfield 15, 3) := by decide +kernel
theorem dX1_windOn_4 : decode cX1_windOn 4 = .ok (.iload_n 1, 1) := by decide +kernel
theorem dX1_windOn_5 : decode cX1_windOn 5 = .ok (.bipush 7, 2) := by decide +kernel
theorem dX1_windOn_7 : decode cX1_windOn 7 = .ok (.invokestatic 61, 3) := by decide +kernel
theorem dX1_windOn_10 : decode cX1_windOn 10 = .ok (.iaload, 1) := by decide +kernel
theorem dX1_windOn_11 : decode cX1_windOn 11 = .ok (.istore_n 2, 1) := by decide +kernel
theorem dX1_windOn_12 : decode cX1_windOn 12 = .ok (.iload_n 2, 1) := by decide +kernel
theorem dX1_windOn_13 : decode cX1_windOn 13 = .ok (.bipush 8, 2) := by decide +kernel
theorem dX1_windOn_15 : decode cX1_windOn 15 = .ok (.if_icmp .ne 6, 3) := by decide +kernel
theorem dX1_windOn_18 : decode cX1_windOn 18 = .ok (.bipush 8, 2) := by decide +kernel
theorem dX1_windOn_20 : decode cX1_windOn 20 = .ok (.ireturn, 1) := by decide +kernel
theorem dX1_windOn_21 : decode cX1_windOn 21 = .ok (.iconst 0, 1) := by decide +kernel
theorem dX1_windOn_22 : decode cX1_windOn 22 = .ok (.istore_n 3, 1) := by decide +kernel
theorem dX1_windOn_23 : decode cX1_windOn 23 = .ok (.iload_n 3, 1) := by decide +kernel
theorem dX1_windOn_24 : decode cX1_windOn 24 = .ok (.bipush 8, 2) := by decide +kernel
theorem dX1_windOn_26 : decode cX1_windOn 26 = .ok (.if_icmp .ge 29, 3) := by decide +kernel
theorem dX1_windOn_29 : decode cX1_windOn 29 = .ok (.iload_n 2, 1) := by decide +kernel
theorem dX1_windOn_30 : decode cX1_windOn 30 = .ok (.iload_n 3, 1) := by decide +kernel
theorem dX1_windOn_31 : decode cX1_windOn 31 = .ok (.iadd, 1) := by decide +kernel
theorem dX1_windOn_32 : decode cX1_windOn 32 = .ok (.bipush 8, 2) := by decide +kernel
theorem dX1_windOn_34 : decode cX1_windOn 34 = .ok (.irem, 1) := by decide +kernel
theorem dX1_windOn_35 : decode cX1_windOn 35 = .ok (.istore 4, 2) := by decide +kernel
theorem dX1_windOn_37 : decode cX1_windOn 37 = .ok (.aload_n 0, 1) := by decide +kernel
theorem dX1_windOn_38 : decode cX1_windOn 38 = .ok (.iload 4, 2) := by decide +kernel
theorem dX1_windOn_40 : decode cX1_windOn 40 = .ok (.invokevirtual 67, 3) := by decide +kernel
theorem dX1_windOn_43 : decode cX1_windOn 43 = .ok (.ifCond .ne 6, 3) := by decide +kernel
theorem dX1_windOn_46 : decode cX1_windOn 46 = .ok (.iload 4, 2) := by decide +kernel
theorem dX1_windOn_48 : decode cX1_windOn 48 = .ok (.ireturn, 1) := by decide +kernel
theorem dX1_windOn_49 : decode cX1_windOn 49 = .ok (.iinc 3 1, 3) := by decide +kernel
theorem dX1_windOn_52 : decode cX1_windOn 52 = .ok (.goto (-29), 3) := by decide +kernel
theorem dX1_windOn_55 : decode cX1_windOn 55 = .ok (.bipush 8, 2) := by decide +kernel
theorem dX1_windOn_57 : decode cX1_windOn 57 = .ok (.ireturn, 1) := by decide +kernel
theorem dX1_sums_0 : decode cX1_sums 0 = .ok (.iconst 0, 1) := by decide +kernel
theorem dX1_sums_1 : decode cX1_sums 1 = .ok (.istore_n 1, 1) := by decide +kernel
theorem dX1_sums_2 : decode cX1_sums 2 = .ok (.iconst 0, 1) := by decide +kernel
theorem dX1_sums_3 : decode cX1_sums 3 = .ok (.istore_n 2, 1) := by decide +kernel
theorem dX1_sums_4 : decode cX1_sums 4 = .ok (.iload_n 2, 1) := by decide +kernel
theorem dX1_sums_5 : decode cX1_sums 5 = .ok (.aload_n 0, 1) := by decide +kernel
theorem dX1_sums_6 : decode cX1_sums 6 = .ok (.getfield 25, 3) := by decide +kernel
theorem dX1_sums_9 : decode cX1_sums 9 = .ok (.if_icmp .ge 21, 3) := by decide +kernel
theorem dX1_sums_12 : decode cX1_sums 12 = .ok (.iload_n 1, 1) := by decide +kernel
theorem dX1_sums_13 : decode cX1_sums 13 = .ok (.aload_n 0, 1) := by decide +kernel
theorem dX1_sums_14 : decode cX1_sums 14 = .ok (.getfield 30, 3) := by decide +kernel
theorem dX1_sums_17 : decode cX1_sums 17 = .ok (.iload_n 2, 1) := by decide +kernel
theorem dX1_sums_18 : decode cX1_sums 18 = .ok (.aaload, 1) := by decide +kernel
theorem dX1_sums_19 : decode cX1_sums 19 = .ok (.getfield 58, 3) := by decide +kernel
theorem dX1_sums_22 : decode cX1_sums 22 = .ok (.iadd, 1) := by decide +kernel
theorem dX1_sums_23 : decode cX1_sums 23 = .ok (.istore_n 1, 1) := by decide +kernel
theorem dX1_sums_24 : decode cX1_sums 24 = .ok (.iinc 2 1, 3) := by decide +kernel
theorem dX1_sums_27 : decode cX1_sums 27 = .ok (.goto (-23), 3) := by decide +kernel
theorem dX1_sums_30 : decode cX1_sums 30 = .ok (.iload_n 1, 1) := by decide +kernel
theorem dX1_sums_31 : decode cX1_sums 31 = .ok (.ireturn, 1) := by decide +kernel
theorem dX1_earningsToday_0 : decode cX1_earningsToday 0 = .ok (.aload_n 0, 1) := by decide +kernel
theorem dX1_earningsToday_1 : decode cX1_earningsToday 1 = .ok (.aload_n 0, 1) := by decide +kernel
theorem dX1_earningsToday_2 : decode cX1_earningsToday 2 = .ok (.getfield 9, 3) := by decide +kernel
theorem dX1_earningsToday_5 : decode cX1_earningsToday 5 = .ok (.invokevirtual 71, 3) := by decide +kernel
theorem dX1_earningsToday_8 : decode cX1_earningsToday 8 = .ok (.istore_n 1, 1) := by decide +kernel
theorem dX1_earningsToday_9 : decode cX1_earningsToday 9 = .ok (.iconst 0, 1) := by decide +kernel
theorem dX1_earningsToday_10 : decode cX1_earningsToday 10 = .ok (.istore_n 2, 1) := by decide +kernel
theorem dX1_earningsToday_11 : decode cX1_earningsToday 11 = .ok (.iconst 0, 1) := by decide +kernel
theorem dX1_earningsToday_12 : decode cX1_earningsToday 12 = .ok (.istore_n 3, 1) := by decide +kernel
theorem dX1_earningsToday_13 : decode cX1_earningsToday 13 = .ok (.iload_n 3, 1) := by decide +kernel
theorem dX1_earningsToday_14 : decode cX1_earningsToday 14 = .ok (.aload_n 0, 1) := by decide +kernel
theorem dX1_earningsToday_15 : decode cX1_earningsToday 15 = .ok (.getfield 25, 3) := by decide +kernel
theorem dX1_earningsToday_18 : decode cX1_earningsToday 18 = .ok (.if_icmp .ge 30, 3) := by decide +kernel
theorem dX1_earningsToday_21 : decode cX1_earningsToday 21 = .ok (.iload_n 2, 1) := by decide +kernel
theorem dX1_earningsToday_22 : decode cX1_earningsToday 22 = .ok (.aload_n 0, 1) := by decide +kernel
theorem dX1_earningsToday_23 : decode cX1_earningsToday 23 = .ok (.getfield 30, 3) := by decide +kernel
theorem dX1_earningsToday_26 : decode cX1_earningsToday 26 = .ok (.iload_n 3, 1) := by decide +kernel
theorem dX1_earningsToday_27 : decode cX1_earningsToday 27 = .ok (.aaload, 1) := by decide +kernel
theorem dX1_earningsToday_28 : decode cX1_earningsToday 28 = .ok (.aload_n 0, 1) := by decide +kernel
theorem dX1_earningsToday_29 : decode cX1_earningsToday 29 = .ok (.getfield 9, 3) := by decide +kernel
theorem dX1_earningsToday_32 : decode cX1_earningsToday 32 = .ok (.iload_n 1, 1) := by decide +kernel
theorem dX1_earningsToday_33 : decode cX1_earningsToday 33 = .ok (.aload_n 0, 1) := by decide +kernel
theorem dX1_earningsToday_34 : decode cX1_earningsToday 34 = .ok (.getfield 22, 3) := by decide +kernel
theorem dX1_earningsToday_37 : decode cX1_earningsToday 37 = .ok (.invokevirtual 75, 3) := by decide +kernel
theorem dX1_earningsToday_40 : decode cX1_earningsToday 40 = .ok (.iadd, 1) := by decide +kernel
theorem dX1_earningsToday_41 : decode cX1_earningsToday 41 = .ok (.istore_n 2, 1) := by decide +kernel
theorem dX1_earningsToday_42 : decode cX1_earningsToday 42 = .ok (.iinc 3 1, 3) := by decide +kernel
theorem dX1_earningsToday_45 : decode cX1_earningsToday 45 = .ok (.goto (-32), 3) := by decide +kernel
theorem dX1_earningsToday_48 : decode cX1_earningsToday 48 = .ok (.iload_n 2, 1) := by decide +kernel
theorem dX1_earningsToday_49 : decode cX1_earningsToday 49 = .ok (.ireturn, 1) := by decide +kernel
theorem dX1_goingToday_0 : decode cX1_goingToday 0 = .ok (.aload_n 0, 1) := by decide +kernel
theorem dX1_goingToday_1 : decode cX1_goingToday 1 = .ok (.aload_n 0, 1) := by decide +kernel
theorem dX1_goingToday_2 : decode cX1_goingToday 2 = .ok (.getfield 9, 3) := by decide +kernel
theorem dX1_goingToday_5 : decode cX1_goingToday 5 = .ok (.invokevirtual 71, 3) := by decide +kernel
theorem dX1_goingToday_8 : decode cX1_goingToday 8 = .ok (.istore_n 1, 1) := by decide +kernel
theorem dX1_goingToday_9 : decode cX1_goingToday 9 = .ok (.iconst 0, 1) := by decide +kernel
theorem dX1_goingToday_10 : decode cX1_goingToday 10 = .ok (.istore_n 2, 1) := by decide +kernel
theorem dX1_goingToday_11 : decode cX1_goingToday 11 = .ok (.iconst 0, 1) := by decide +kernel
theorem dX1_goingToday_12 : decode cX1_goingToday 12 = .ok (.istore_n 3, 1) := by decide +kernel
theorem dX1_goingToday_13 : decode cX1_goingToday 13 = .ok (.iload_n 3, 1) := by decide +kernel
theorem dX1_goingToday_14 : decode cX1_goingToday 14 = .ok (.aload_n 0, 1) := by decide +kernel
theorem dX1_goingToday_15 : decode cX1_goingToday 15 = .ok (.getfield 25, 3) := by decide +kernel
theorem dX1_goingToday_18 : decode cX1_goingToday 18 = .ok (.if_icmp .ge 32, 3) := by decide +kernel
theorem dX1_goingToday_21 : decode cX1_goingToday 21 = .ok (.aload_n 0, 1) := by decide +kernel
theorem dX1_goingToday_22 : decode cX1_goingToday 22 = .ok (.getfield 30, 3) := by decide +kernel
theorem dX1_goingToday_25 : decode cX1_goingToday 25 = .ok (.iload_n 3, 1) := by decide +kernel
theorem dX1_goingToday_26 : decode cX1_goingToday 26 = .ok (.aaload, 1) := by decide +kernel
theorem dX1_goingToday_27 : decode cX1_goingToday 27 = .ok (.iload_n 1, 1) := by decide +kernel
theorem dX1_goingToday_28 : decode cX1_goingToday 28 = .ok (.aload_n 0, 1) := by decide +kernel
theorem dX1_goingToday_29 : decode cX1_goingToday 29 = .ok (.getfield 22, 3) := by decide +kernel
theorem dX1_goingToday_32 : decode cX1_goingToday 32 = .ok (.invokevirtual 79, 3) := by decide +kernel
theorem dX1_goingToday_35 : decode cX1_goingToday 35 = .ok (.ifCond .eq 9, 3) := by decide +kernel
theorem dX1_goingToday_38 : decode cX1_goingToday 38 = .ok (.iload_n 2, 1) := by decide +kernel
theorem dX1_goingToday_39 : decode cX1_goingToday 39 = .ok (.iconst 1, 1) := by decide +kernel
theorem dX1_goingToday_40 : decode cX1_goingToday 40 = .ok (.iload_n 3, 1) := by decide +kernel
theorem dX1_goingToday_41 : decode cX1_goingToday 41 = .ok (.ishl, 1) := by decide +kernel
theorem dX1_goingToday_42 : decode cX1_goingToday 42 = .ok (.ior, 1) := by decide +kernel
theorem dX1_goingToday_43 : decode cX1_goingToday 43 = .ok (.istore_n 2, 1) := by decide +kernel
theorem dX1_goingToday_44 : decode cX1_goingToday 44 = .ok (.iinc 3 1, 3) := by decide +kernel
theorem dX1_goingToday_47 : decode cX1_goingToday 47 = .ok (.goto (-34), 3) := by decide +kernel
theorem dX1_goingToday_50 : decode cX1_goingToday 50 = .ok (.iload_n 2, 1) := by decide +kernel
theorem dX1_goingToday_51 : decode cX1_goingToday 51 = .ok (.ireturn, 1) := by decide +kernel
theorem dX1_goDay_0 : decode cX1_goDay 0 = .ok (.iconst 0, 1) := by decide +kernel
theorem dX1_goDay_1 : decode cX1_goDay 1 = .ok (.istore_n 2, 1) := by decide +kernel
theorem dX1_goDay_2 : decode cX1_goDay 2 = .ok (.iload_n 2, 1) := by decide +kernel
theorem dX1_goDay_3 : decode cX1_goDay 3 = .ok (.aload_n 0, 1) := by decide +kernel
theorem dX1_goDay_4 : decode cX1_goDay 4 = .ok (.getfield 25, 3) := by decide +kernel
theorem dX1_goDay_7 : decode cX1_goDay 7 = .ok (.if_icmp .ge 27, 3) := by decide +kernel
theorem dX1_goDay_10 : decode cX1_goDay 10 = .ok (.aload_n 0, 1) := by decide +kernel
theorem dX1_goDay_11 : decode cX1_goDay 11 = .ok (.getfield 30, 3) := by decide +kernel
theorem dX1_goDay_14 : decode cX1_goDay 14 = .ok (.iload_n 2, 1) := by decide +kernel
theorem dX1_goDay_15 : decode cX1_goDay 15 = .ok (.aaload, 1) := by decide +kernel
theorem dX1_goDay_16 : decode cX1_goDay 16 = .ok (.aload_n 0, 1) := by decide +kernel
theorem dX1_goDay_17 : decode cX1_goDay 17 = .ok (.getfield 9, 3) := by decide +kernel
theorem dX1_goDay_20 : decode cX1_goDay 20 = .ok (.iload_n 1, 1) := by decide +kernel
theorem dX1_goDay_21 : decode cX1_goDay 21 = .ok (.aload_n 0, 1) := by decide +kernel
theorem dX1_goDay_22 : decode cX1_goDay 22 = .ok (.getfield 22, 3) := by decide +kernel
theorem dX1_goDay_25 : decode cX1_goDay 25 = .ok (.invokevirtual 83, 3) := by decide +kernel
theorem dX1_goDay_28 : decode cX1_goDay 28 = .ok (.iinc 2 1, 3) := by decide +kernel
theorem dX1_goDay_31 : decode cX1_goDay 31 = .ok (.goto (-29), 3) := by decide +kernel
theorem dX1_goDay_34 : decode cX1_goDay 34 = .ok (.aload_n 0, 1) := by decide +kernel
theorem dX1_goDay_35 : decode cX1_goDay 35 = .ok (.dup, 1) := by decide +kernel
theorem dX1_goDay_36 : decode cX1_goDay 36 = .ok (.getfield 9, 3) := by decide +kernel
theorem dX1_goDay_39 : decode cX1_goDay 39 = .ok (.iconst 1, 1) := by decide +kernel
theorem dX1_goDay_40 : decode cX1_goDay 40 = .ok (.iadd, 1) := by decide +kernel
theorem dX1_goDay_41 : decode cX1_goDay 41 = .ok (.putfield 9, 3) := by decide +kernel
theorem dX1_goDay_44 : decode cX1_goDay 44 = .ok (.return_, 1) := by decide +kernel
theorem dX1_gainIn_0 : decode cX1_gainIn 0 = .ok (.aload_n 0, 1) := by decide +kernel
theorem dX1_gainIn_1 : decode cX1_gainIn 1 = .ok (.invokevirtual 87, 3) := by decide +kernel
theorem dX1_gainIn_4 : decode cX1_gainIn 4 = .ok (.istore_n 2, 1) := by decide +kernel
theorem dX1_gainIn_5 : decode cX1_gainIn 5 = .ok (.iconst 0, 1) := by decide +kernel
theorem dX1_gainIn_6 : decode cX1_gainIn 6 = .ok (.istore_n 3, 1) := by decide +kernel
theorem dX1_gainIn_7 : decode cX1_gainIn 7 = .ok (.iload_n 3, 1) := by decide +kernel
theorem dX1_gainIn_8 : decode cX1_gainIn 8 = .ok (.iload_n 1, 1) := by decide +kernel
theorem dX1_gainIn_9 : decode cX1_gainIn 9 = .ok (.if_icmp .ge 21, 3) := by decide +kernel
theorem dX1_gainIn_12 : decode cX1_gainIn 12 = .ok (.aload_n 0, 1) := by decide +kernel
theorem dX1_gainIn_13 : decode cX1_gainIn 13 = .ok (.aload_n 0, 1) := by decide +kernel
theorem dX1_gainIn_14 : decode cX1_gainIn 14 = .ok (.aload_n 0, 1) := by decide +kernel
theorem dX1_gainIn_15 : decode cX1_gainIn 15 = .ok (.getfield 9, 3) := by decide +kernel
theorem dX1_gainIn_18 : decode cX1_gainIn 18 = .ok (.invokevirtual 71, 3) := by decide +kernel
theorem dX1_gainIn_21 : decode cX1_gainIn 21 = .ok (.invokevirtual 91, 3) := by decide +kernel
theorem dX1_gainIn_24 : decode cX1_gainIn 24 = .ok (.iinc 3 1, 3) := by decide +kernel
theorem dX1_gainIn_27 : decode cX1_gainIn 27 = .ok (.goto (-20), 3) := by decide +kernel
theorem dX1_gainIn_30 : decode cX1_gainIn 30 = .ok (.aload_n 0, 1) := by decide +kernel
theorem dX1_gainIn_31 : decode cX1_gainIn 31 = .ok (.invokevirtual 87, 3) := by decide +kernel
theorem dX1_gainIn_34 : decode cX1_gainIn 34 = .ok (.iload_n 2, 1) := by decide +kernel
theorem dX1_gainIn_35 : decode cX1_gainIn 35 = .ok (.isub, 1) := by decide +kernel
theorem dX1_gainIn_36 : decode cX1_gainIn 36 = .ok (.ireturn, 1) := by decide +kernel
theorem dX1_carry_0 : decode cX1_carry 0 = .ok (.aload_n 0, 1) := by decide +kernel
theorem dX1_carry_1 : decode cX1_carry 1 = .ok (.getfield 9, 3) := by decide +kernel
theorem dX1_carry_4 : decode cX1_carry 4 = .ok (.iload_n 2, 1) := by decide +kernel
theorem dX1_carry_5 : decode cX1_carry 5 = .ok (.iadd, 1) := by decide +kernel
theorem dX1_carry_6 : decode cX1_carry 6 = .ok (.istore_n 3, 1) := by decide +kernel
theorem dX1_carry_7 : decode cX1_carry 7 = .ok (.aload_n 1, 1) := by decide +kernel
theorem dX1_carry_8 : decode cX1_carry 8 = .ok (.iload_n 3, 1) := by decide +kernel
theorem dX1_carry_9 : decode cX1_carry 9 = .ok (.aload_n 0, 1) := by decide +kernel
theorem dX1_carry_10 : decode cX1_carry 10 = .ok (.iload_n 3, 1) := by decide +kernel
theorem dX1_carry_11 : decode cX1_carry 11 = .ok (.invokevirtual 71, 3) := by decide +kernel
theorem dX1_carry_14 : decode cX1_carry 14 = .ok (.aload_n 0, 1) := by decide +kernel
theorem dX1_carry_15 : decode cX1_carry 15 = .ok (.getfield 22, 3) := by decide +kernel
theorem dX1_carry_18 : decode cX1_carry 18 = .ok (.invokevirtual 83, 3) := by decide +kernel
theorem dX1_carry_21 : decode cX1_carry 21 = .ok (.return_, 1) := by decide +kernel
theorem dX2_init_0 : decode cX2_init 0 = .ok (.aload_n 0, 1) := by decide +kernel
theorem dX2_init_1 : decode cX2_init 1 = .ok (.invokespecial 3, 3) := by decide +kernel
theorem dX2_init_4 : decode cX2_init 4 = .ok (.aload_n 0, 1) := by decide +kernel
theorem dX2_init_5 : decode cX2_init 5 = .ok (.iconst 0, 1) := by decide +kernel
theorem dX2_init_6 : decode cX2_init 6 = .ok (.putfield 9, 3) := by decide +kernel
theorem dX2_init_9 : decode cX2_init 9 = .ok (.aload_n 0, 1) := by decide +kernel
theorem dX2_init_10 : decode cX2_init 10 = .ok (.iconst 0, 1) := by decide +kernel
theorem dX2_init_11 : decode cX2_init 11 = .ok (.putfield 15, 3) := by decide +kernel
theorem dX2_init_14 : decode cX2_init 14 = .ok (.aload_n 0, 1) := by decide +kernel
theorem dX2_init_15 : decode cX2_init 15 = .ok (.bipush 40, 2) := by decide +kernel
theorem dX2_init_17 : decode cX2_init 17 = .ok (.newarray .long, 2) := by decide +kernel
theorem dX2_init_19 : decode cX2_init 19 = .ok (.putfield 18, 3) := by decide +kernel
theorem dX2_init_22 : decode cX2_init 22 = .ok (.return_, 1) := by decide +kernel
theorem dX2_begin_0 : decode cX2_begin 0 = .ok (.aload_n 0, 1) := by decide +kernel
theorem dX2_begin_1 : decode cX2_begin 1 = .ok (.iload_n 1, 1) := by decide +kernel
theorem dX2_begin_2 : decode cX2_begin 2 = .ok (.putfield 9, 3) := by decide +kernel
theorem dX2_begin_5 : decode cX2_begin 5 = .ok (.aload_n 0, 1) := by decide +kernel
theorem dX2_begin_6 : decode cX2_begin 6 = .ok (.iload_n 2, 1) := by decide +kernel
theorem dX2_begin_7 : decode cX2_begin 7 = .ok (.putfield 15, 3) := by decide +kernel
theorem dX2_begin_10 : decode cX2_begin 10 = .ok (.iconst 0, 1) := by decide +kernel
theorem dX2_begin_11 : decode cX2_begin 11 = .ok (.istore_n 3, 1) := by decide +kernel
theorem dX2_begin_12 : decode cX2_begin 12 = .ok (.iload_n 3, 1) := by decide +kernel
theorem dX2_begin_13 : decode cX2_begin 13 = .ok (.bipush 40, 2) := by decide +kernel
theorem dX2_begin_15 : decode cX2_begin 15 = .ok (.if_icmp .ge 16, 3) := by decide +kernel
theorem dX2_begin_18 : decode cX2_begin 18 = .ok (.aload_n 0, 1) := by decide +kernel
theorem dX2_begin_19 : decode cX2_begin 19 = .ok (.getfield 18, 3) := by decide +kernel
theorem dX2_begin_22 : decode cX2_begin 22 = .ok (.iload_n 3, 1) := by decide +kernel
theorem dX2_begin_23 : decode cX2_begin 23 = .ok (.lconst 0, 1) := by decide +kernel
theorem dX2_begin_24 : decode cX2_begin 24 = .ok (.lastore, 1) := by decide +kernel
theorem dX2_begin_25 : decode cX2_begin 25 = .ok (.iinc 3 1, 3) := by decide +kernel
theorem dX2_begin_28 : decode cX2_begin 28 = .ok (.goto (-16), 3) := by decide +kernel
theorem dX2_begin_31 : decode cX2_begin 31 = .ok (.return_, 1) := by decide +kernel
theorem dX2_isMissing_0 : decode cX2_isMissing 0 = .ok (.aload_n 0, 1) := by decide +kernel
theorem dX2_isMissing_1 : decode cX2_isMissing 1 = .ok (.getfield 9, 3) := by decide +kernel
theorem dX2_isMissing_4 : decode cX2_isMissing 4 = .ok (.ifCond .ne 7, 3) := by decide +kernel
theorem dX2_isMissing_7 : decode cX2_isMissing 7 = .ok (.iconst 1, 1) := by decide +kernel
theorem dX2_isMissing_8 : decode cX2_isMissing 8 = .ok (.goto 4, 3) := by decide +kernel
theorem dX2_isMissing_11 : decode cX2_isMissing 11 = .ok (.iconst 0, 1) := by decide +kernel
theorem dX2_isMissing_12 : decode cX2_isMissing 12 = .ok (.ireturn, 1) := by decide +kernel
theorem dX2_spans_0 : decode cX2_spans 0 = .ok (.iload_n 1, 1) := by decide +kernel
theorem dX2_spans_1 : decode cX2_spans 1 = .ok (.ifCond .lt 29, 3) := by decide +kernel
theorem dX2_spans_4 : decode cX2_spans 4 = .ok (.iload_n 2, 1) := by decide +kernel
theorem dX2_spans_5 : decode cX2_spans 5 = .ok (.ifCond .lt 25, 3) := by decide +kernel
theorem dX2_spans_8 : decode cX2_spans 8 = .ok (.iload_n 2, 1) := by decide +kernel
theorem dX2_spans_9 : decode cX2_spans 9 = .ok (.aload_n 0, 1) := by decide +kernel
theorem dX2_spans_10 : decode cX2_spans 10 = .ok (.getfield 15, 3) := by decide +kernel
theorem dX2_spans_13 : decode cX2_spans 13 = .ok (.if_icmp .gt 17, 3) := by decide +kernel
theorem dX2_spans_16 : decode cX2_spans 16 = .ok (.iload_n 1, 1) := by decide +kernel
theorem dX2_spans_17 : decode cX2_spans 17 = .ok (.aload_n 0, 1) := by decide +kernel
theorem dX2_spans_18 : decode cX2_spans 18 = .ok (.getfield 15, 3) := by decide +kernel
theorem dX2_spans_21 : decode cX2_spans 21 = .ok (.iload_n 2, 1) := by decide +kernel
theorem dX2_spans_22 : decode cX2_spans 22 = .ok (.isub, 1) := by decide +kernel
theorem dX2_spans_23 : decode cX2_spans 23 = .ok (.if_icmp .gt 7, 3) := by decide +kernel
theorem dX2_spans_26 : decode cX2_spans 26 = .ok (.iconst 1, 1) := by decide +kernel
theorem dX2_spans_27 : decode cX2_spans 27 = .ok (.goto 4, 3) := by decide +kernel
theorem dX2_spans_30 : decode cX2_spans 30 = .ok (.iconst 0, 1) := by decide +kernel
theorem dX2_spans_31 : decode cX2_spans 31 = .ok (.ireturn, 1) := by decide +kernel
theorem dX2_put_0 : decode cX2_put 0 = .ok (.iload_n 1, 1) := by decide +kernel
theorem dX2_put_1 : decode cX2_put 1 = .ok (.ifCond .lt 22, 3) := by decide +kernel
theorem dX2_put_4 : decode cX2_put 4 = .ok (.iload_n 1, 1) := by decide +kernel
theorem dX2_put_5 : decode cX2_put 5 = .ok (.aload_n 0, 1) := by decide +kernel
theorem dX2_put_6 : decode cX2_put 6 = .ok (.getfield 15, 3) := by decide +kernel
theorem dX2_put_9 : decode cX2_put 9 = .ok (.if_icmp .ge 14, 3) := by decide +kernel
theorem dX2_put_12 : decode cX2_put 12 = .ok (.aload_n 0, 1) := by decide +kernel
theorem dX2_put_13 : decode cX2_put 13 = .ok (.getfield 18, 3) := by decide +kernel
theorem dX2_put_16 : decode cX2_put 16 = .ok (.iload_n 1, 1) := by decide +kernel
theorem dX2_put_17 : decode cX2_put 17 = .ok (.aload_n 0, 1) := by decide +kernel
theorem dX2_put_18 : decode cX2_put 18 = .ok (.lload_n 2, 1) := by decide +kernel
theorem dX2_put_19 : decode cX2_put 19 = .ok (.invokevirtual 22, 3) := by decide +kernel
theorem dX2_put_22 : decode cX2_put 22 = .ok (.lastore, 1) := by decide +kernel
theorem dX2_put_23 : decode cX2_put 23 = .ok (.return_, 1) := by decide +kernel
theorem dX2_lowest_0 : decode cX2_lowest 0 = .ok (.aload_n 0, 1) := by decide +kernel
theorem dX2_lowest_1 : decode cX2_lowest 1 = .ok (.getfield 9, 3) := by decide +kernel
theorem dX2_lowest_4 : decode cX2_lowest 4 = .ok (.bipush 8, 2) := by decide +kernel
theorem dX2_lowest_6 : decode cX2_lowest 6 = .ok (.if_icmp .ne 8, 3) := by decide +kernel
theorem dX2_lowest_9 : decode cX2_lowest 9 = .ok (.lload_n 1, 1) := by decide +kernel
theorem dX2_lowest_10 : decode cX2_lowest 10 = .ok (.l2i, 1) := by decide +kernel
theorem dX2_lowest_11 : decode cX2_lowest 11 = .ok (.i2b, 1) := by decide +kernel
theorem dX2_lowest_12 : decode cX2_lowest 12 = .ok (.i2l, 1) := by decide +kernel
theorem dX2_lowest_13 : decode cX2_lowest 13 = .ok (.lreturn, 1) := by decide +kernel
theorem dX2_lowest_14 : decode cX2_lowest 14 = .ok (.aload_n 0, 1) := by decide +kernel
theorem dX2_lowest_15 : decode cX2_lowest 15 = .ok (.getfield 9, 3) := by decide +kernel
theorem dX2_lowest_18 : decode cX2_lowest 18 = .ok (.bipush 16, 2) := by decide +kernel
theorem dX2_lowest_20 : decode cX2_lowest 20 = .ok (.if_icmp .ne 10, 3) := by decide +kernel
theorem dX2_lowest_23 : decode cX2_lowest 23 = .ok (.lload_n 1, 1) := by decide +kernel
theorem dX2_lowest_24 : decode cX2_lowest 24 = .ok (.l2i, 1) := by decide +kernel
theorem dX2_lowest_25 : decode cX2_lowest 25 = .ok (.i2s, 1) := by decide +kernel
theorem dX2_lowest_26 : decode cX2_lowest 26 = .ok (.i2l, 1) := by decide +kernel
theorem dX2_lowest_27 : decode cX2_lowest 27 = .ok (.goto 4, 3) := by decide +kernel
theorem dX2_lowest_30 : decode cX2_lowest 30 = .ok (.lload_n 1, 1) := by decide +kernel
theorem dX2_lowest_31 : decode cX2_lowest 31 = .ok (.lreturn, 1) := by decide +kernel
theorem dX3_init_0 : decode cX3_init 0 = .ok (.aload_n 0, 1) := by decide +kernel
theorem dX3_init_1 : decode cX3_init 1 = .ok (.invokespecial 3, 3) := by decide +kernel
theorem dX3_init_4 : decode cX3_init 4 = .ok (.aload_n 0, 1) := by decide +kernel
theorem dX3_init_5 : decode cX3_init 5 = .ok (.bipush 120, 2) := by decide +kernel
theorem dX3_init_7 : decode cX3_init 7 = .ok (.newarray .int, 2) := by decide +kernel
theorem dX3_init_9 : decode cX3_init 9 = .ok (.putfield 9, 3) := by decide +kernel
theorem dX3_init_12 : decode cX3_init 12 = .ok (.aload_n 0, 1) := by decide +kernel
theorem dX3_init_13 : decode cX3_init 13 = .ok (.iconst 0, 1) := by decide +kernel
theorem dX3_init_14 : decode cX3_init 14 = .ok (.putfield 15, 3) := by decide +kernel
theorem dX3_init_17 : decode cX3_init 17 = .ok (.return_, 1) := by decide +kernel
theorem dX3_put_0 : decode cX3_put 0 = .ok (.aload_n 0, 1) := by decide +kernel
theorem dX3_put_1 : decode cX3_put 1 = .ok (.getfield 15, 3) := by decide +kernel
theorem dX3_put_4 : decode cX3_put 4 = .ok (.bipush 120, 2) := by decide +kernel
theorem dX3_put_6 : decode cX3_put 6 = .ok (.if_icmp .ge 23, 3) := by decide +kernel
theorem dX3_put_9 : decode cX3_put 9 = .ok (.aload_n 0, 1) := by decide +kernel
theorem dX3_put_10 : decode cX3_put 10 = .ok (.getfield 9, 3) := by decide +kernel
theorem dX3_put_13 : decode cX3_put 13 = .ok (.aload_n 0, 1) := by decide +kernel
theorem dX3_put_14 : decode cX3_put 14 = .ok (.getfield 15, 3) := by decide +kernel
theorem dX3_put_17 : decode cX3_put 17 = .ok (.iload_n 1, 1) := by decide +kernel
theorem dX3_put_18 : decode cX3_put 18 = .ok (.iastore, 1) := by decide +kernel
theorem dX3_put_19 : decode cX3_put 19 = .ok (.aload_n 0, 1) := by decide +kernel
theorem dX3_put_20 : decode cX3_put 20 = .ok (.dup, 1) := by decide +kernel
theorem dX3_put_21 : decode cX3_put 21 = .ok (.getfield 15, 3) := by decide +kernel
theorem dX3_put_24 : decode cX3_put 24 = .ok (.iconst 1, 1) := by decide +kernel
theorem dX3_put_25 : decode cX3_put 25 = .ok (.iadd, 1) := by decide +kernel
theorem dX3_put_26 : decode cX3_put 26 = .ok (.putfield 15, 3) := by decide +kernel
theorem dX3_put_29 : decode cX3_put 29 = .ok (.return_, 1) := by decide +kernel
theorem dX3_begin_0 : decode cX3_begin 0 = .ok (.aload_n 0, 1) := by decide +kernel
theorem dX3_begin_1 : decode cX3_begin 1 = .ok (.iconst 0, 1) := by decide +kernel
theorem dX3_begin_2 : decode cX3_begin 2 = .ok (.putfield 19, 3) := by decide +kernel
theorem dX3_begin_5 : decode cX3_begin 5 = .ok (.aload_n 0, 1) := by decide +kernel
theorem dX3_begin_6 : decode cX3_begin 6 = .ok (.invokevirtual 22, 3) := by decide +kernel
theorem dX3_begin_9 : decode cX3_begin 9 = .ok (.return_, 1) := by decide +kernel
theorem dX3_nextToken_0 : decode cX3_nextToken 0 = .ok (.aload_n 0, 1) := by decide +kernel
theorem dX3_nextToken_1 : decode cX3_nextToken 1 = .ok (.aload_n 0, 1) := by decide +kernel
theorem dX3_nextToken_2 : decode cX3_nextToken 2 = .ok (.getfield 19, 3) := by decide +kernel
theorem dX3_nextToken_5 : decode cX3_nextToken 5 = .ok (.putfield 25, 3) := by decide +kernel
theorem dX3_nextToken_8 : decode cX3_nextToken 8 = .ok (.aload_n 0, 1) := by decide +kernel
theorem dX3_nextToken_9 : decode cX3_nextToken 9 = .ok (.getfield 25, 3) := by decide +kernel
theorem dX3_nextToken_12 : decode cX3_nextToken 12 = .ok (.aload_n 0, 1) := by decide +kernel
theorem dX3_nextToken_13 : decode cX3_nextToken 13 = .ok (.getfield 15, 3) := by decide +kernel
theorem dX3_nextToken_16 : decode cX3_nextToken 16 = .ok (.if_icmp .ge 30, 3) := by decide +kernel
theorem dX3_nextToken_19 : decode cX3_nextToken 19 = .ok (.aload_n 0, 1) := by decide +kernel
theorem dX3_nextToken_20 : decode cX3_nextToken 20 = .ok (.getfield 9, 3) := by decide +kernel
theorem dX3_nextToken_23 : decode cX3_nextToken 23 = .ok (.aload_n 0, 1) := by decide +kernel
theorem dX3_nextToken_24 : decode cX3_nextToken 24 = .ok (.getfield 25, 3) := by decide +kernel
theorem dX3_nextToken_27 : decode cX3_nextToken 27 = .ok (.iaload, 1) := by decide +kernel
theorem dX3_nextToken_28 : decode cX3_nextToken 28 = .ok (.bipush 32, 2) := by decide +kernel
theorem dX3_nextToken_30 : decode cX3_nextToken 30 = .ok (.if_icmp .ne 16, 3) := by decide +kernel
theorem dX3_nextToken_33 : decode cX3_nextToken 33 = .ok (.aload_n 0, 1) := by decide +kernel
theorem dX3_nextToken_34 : decode cX3_nextToken 34 = .ok (.dup, 1) := by decide +kernel
theorem dX3_nextToken_35 : decode cX3_nextToken 35 = .ok (.getfield 25, 3) := by decide +kernel
theorem dX3_nextToken_38 : decode cX3_nextToken 38 = .ok (.iconst 1, 1) := by decide +kernel
theorem dX3_nextToken_39 : decode cX3_nextToken 39 = .ok (.iadd, 1) := by decide +kernel
theorem dX3_nextToken_40 : decode cX3_nextToken 40 = .ok (.putfield 25, 3) := by decide +kernel
theorem dX3_nextToken_43 : decode cX3_nextToken 43 = .ok (.goto (-35), 3) := by decide +kernel
theorem dX3_nextToken_46 : decode cX3_nextToken 46 = .ok (.aload_n 0, 1) := by decide +kernel
theorem dX3_nextToken_47 : decode cX3_nextToken 47 = .ok (.aload_n 0, 1) := by decide +kernel
theorem dX3_nextToken_48 : decode cX3_nextToken 48 = .ok (.getfield 25, 3) := by decide +kernel
theorem dX3_nextToken_51 : decode cX3_nextToken 51 = .ok (.putfield 19, 3) := by decide +kernel
theorem dX3_nextToken_54 : decode cX3_nextToken 54 = .ok (.aload_n 0, 1) := by decide +kernel
theorem dX3_nextToken_55 : decode cX3_nextToken 55 = .ok (.iconst 0, 1) := by decide +kernel
theorem dX3_nextToken_56 : decode cX3_nextToken 56 = .ok (.putfield 28, 3) := by decide +kernel
theorem dX3_nextToken_59 : decode cX3_nextToken 59 = .ok (.aload_n 0, 1) := by decide +kernel
theorem dX3_nextToken_60 : decode cX3_nextToken 60 = .ok (.getfield 25, 3) := by decide +kernel
theorem dX3_nextToken_63 : decode cX3_nextToken 63 = .ok (.aload_n 0, 1) := by decide +kernel
theorem dX3_nextToken_64 : decode cX3_nextToken 64 = .ok (.getfield 15, 3) := by decide +kernel
theorem dX3_nextToken_67 : decode cX3_nextToken 67 = .ok (.if_icmp .ge 29, 3) := by decide +kernel
theorem dX3_nextToken_70 : decode cX3_nextToken 70 = .ok (.aload_n 0, 1) := by decide +kernel
theorem dX3_nextToken_71 : decode cX3_nextToken 71 = .ok (.aload_n 0, 1) := by decide +kernel
theorem dX3_nextToken_72 : decode cX3_nextToken 72 = .ok (.getfield 9, 3) := by decide +kernel
theorem dX3_nextToken_75 : decode cX3_nextToken 75 = .ok (.aload_n 0, 1) := by decide +kernel
theorem dX3_nextToken_76 : decode cX3_nextToken 76 = .ok (.getfield 25, 3) := by decide +kernel
theorem dX3_nextToken_79 : decode cX3_nextToken 79 = .ok (.iaload, 1) := by decide +kernel
theorem dX3_nextToken_80 : decode cX3_nextToken 80 = .ok (.invokestatic 31, 3) := by decide +kernel
theorem dX3_nextToken_83 : decode cX3_nextToken 83 = .ok (.putfield 28, 3) := by decide +kernel
theorem dX3_nextToken_86 : decode cX3_nextToken 86 = .ok (.aload_n 0, 1) := by decide +kernel
theorem dX3_nextToken_87 : decode cX3_nextToken 87 = .ok (.dup, 1) := by decide +kernel
theorem dX3_nextToken_88 : decode cX3_nextToken 88 = .ok (.getfield 19, 3) := by decide +kernel
theorem dX3_nextToken_91 : decode cX3_nextToken 91 = .ok (.iconst 1, 1) := by decide +kernel
theorem dX3_nextToken_92 : decode cX3_nextToken 92 = .ok (.iadd, 1) := by decide +kernel
theorem dX3_nextToken_93 : decode cX3_nextToken 93 = .ok (.putfield 19, 3) := by decide +kernel
theorem dX3_nextToken_96 : decode cX3_nextToken 96 = .ok (.aload_n 0, 1) := by decide +kernel
theorem dX3_nextToken_97 : decode cX3_nextToken 97 = .ok (.getfield 28, 3) := by decide +kernel
theorem dX3_nextToken_100 : decode cX3_nextToken 100 = .ok (.iconst 1, 1) := by decide +kernel
theorem dX3_nextToken_101 : decode cX3_nextToken 101 = .ok (.if_icmp .eq 11, 3) := by decide +kernel
theorem dX3_nextToken_104 : decode cX3_nextToken 104 = .ok (.aload_n 0, 1) := by decide +kernel
theorem dX3_nextToken_105 : decode cX3_nextToken 105 = .ok (.getfield 28, 3) := by decide +kernel
theorem dX3_nextToken_108 : decode cX3_nextToken 108 = .ok (.iconst 2, 1) := by decide +kernel
theorem dX3_nextToken_109 : decode cX3_nextToken 109 = .ok (.if_icmp .ne 46, 3) := by decide +kernel
theorem dX3_nextToken_112 : decode cX3_nextToken 112 = .ok (.aload_n 0, 1) := by decide +kernel
theorem dX3_nextToken_113 : decode cX3_nextToken 113 = .ok (.getfield 19, 3) := by decide +kernel
theorem dX3_nextToken_116 : decode cX3_nextToken 116 = .ok (.aload_n 0, 1) := by decide +kernel
theorem dX3_nextToken_117 : decode cX3_nextToken 117 = .ok (.getfield 15, 3) := by decide +kernel
theorem dX3_nextToken_120 : decode cX3_nextToken 120 = .ok (.if_icmp .ge 35, 3) := by decide +kernel
theorem dX3_nextToken_123 : decode cX3_nextToken 123 = .ok (.aload_n 0, 1) := by decide +kernel
theorem dX3_nextToken_124 : decode cX3_nextToken 124 = .ok (.getfield 9, 3) := by decide +kernel
theorem dX3_nextToken_127 : decode cX3_nextToken 127 = .ok (.aload_n 0, 1) := by decide +kernel
theorem dX3_nextToken_128 : decode cX3_nextToken 128 = .ok (.getfield 19, 3) := by decide +kernel
theorem dX3_nextToken_131 : decode cX3_nextToken 131 = .ok (.iaload, 1) := by decide +kernel
theorem dX3_nextToken_132 : decode cX3_nextToken 132 = .ok (.invokestatic 31, 3) := by decide +kernel
theorem dX3_nextToken_135 : decode cX3_nextToken 135 = .ok (.aload_n 0, 1) := by decide +kernel
theorem dX3_nextToken_136 : decode cX3_nextToken 136 = .ok (.getfield 28, 3) := by decide +kernel
theorem dX3_nextToken_139 : decode cX3_nextToken 139 = .ok (.if_icmp .ne 16, 3) := by decide +kernel
theorem dX3_nextToken_142 : decode cX3_nextToken 142 = .ok (.aload_n 0, 1) := by decide +kernel
theorem dX3_nextToken_143 : decode cX3_nextToken 143 = .ok (.dup, 1) := by decide +kernel
theorem dX3_nextToken_144 : decode cX3_nextToken 144 = .ok (.getfield 19, 3) := by decide +kernel
theorem dX3_nextToken_147 : decode cX3_nextToken 147 = .ok (.iconst 1, 1) := by decide +kernel
theorem dX3_nextToken_148 : decode cX3_nextToken 148 = .ok (.iadd, 1) := by decide +kernel
theorem dX3_nextToken_149 : decode cX3_nextToken 149 = .ok (.putfield 19, 3) := by decide +kernel
theorem dX3_nextToken_152 : decode cX3_nextToken 152 = .ok (.goto (-40), 3) := by decide +kernel
theorem dX3_nextToken_155 : decode cX3_nextToken 155 = .ok (.return_, 1) := by decide +kernel
theorem dX3_isWord_0 : decode cX3_isWord 0 = .ok (.aload_n 0, 1) := by decide +kernel
theorem dX3_isWord_1 : decode cX3_isWord 1 = .ok (.getfield 28, 3) := by decide +kernel
theorem dX3_isWord_4 : decode cX3_isWord 4 = .ok (.iconst 1, 1) := by decide +kernel
theorem dX3_isWord_5 : decode cX3_isWord 5 = .ok (.if_icmp .ne 19, 3) := by decide +kernel
theorem dX3_isWord_8 : decode cX3_isWord 8 = .ok (.aload_n 0, 1) := by decide +kernel
theorem dX3_isWord_9 : decode cX3_isWord 9 = .ok (.getfield 19, 3) := by decide +kernel
theorem dX3_isWord_12 : decode cX3_isWord 12 = .ok (.aload_n 0, 1) := by decide +kernel
theorem dX3_isWord_13 : decode cX3_isWord 13 = .ok (.getfield 25, 3) := by decide +kernel
theorem dX3_isWord_16 : decode cX3_isWord 16 = .ok (.isub, 1) := by decide +kernel
theorem dX3_isWord_17 : decode cX3_isWord 17 = .ok (.aload_n 1, 1) := by decide +kernel
theorem dX3_isWord_18 : decode cX3_isWord 18 = .ok (.invokevirtual 35, 3) := by decide +kernel
theorem dX3_isWord_21 : decode cX3_isWord 21 = .ok (.if_icmp .eq 5, 3) := by decide +kernel
theorem dX3_isWord_24 : decode cX3_isWord 24 = .ok (.iconst 0, 1) := by decide +kernel
theorem dX3_isWord_25 : decode cX3_isWord 25 = .ok (.ireturn, 1) := by decide +kernel
theorem dX3_isWord_26 : decode cX3_isWord 26 = .ok (.iconst 0, 1) := by decide +kernel
theorem dX3_isWord_27 : decode cX3_isWord 27 = .ok (.istore_n 2, 1) := by decide +kernel
theorem dX3_isWord_28 : decode cX3_isWord 28 = .ok (.iload_n 2, 1) := by decide +kernel
theorem dX3_isWord_29 : decode cX3_isWord 29 = .ok (.aload_n 1, 1) := by decide +kernel
theorem dX3_isWord_30 : decode cX3_isWord 30 = .ok (.invokevirtual 35, 3) := by decide +kernel
theorem dX3_isWord_33 : decode cX3_isWord 33 = .ok (.if_icmp .ge 30, 3) := by decide +kernel
theorem dX3_isWord_36 : decode cX3_isWord 36 = .ok (.aload_n 0, 1) := by decide +kernel
theorem dX3_isWord_37 : decode cX3_isWord 37 = .ok (.getfield 9, 3) := by decide +kernel
theorem dX3_isWord_40 : decode cX3_isWord 40 = .ok (.aload_n 0, 1) := by decide +kernel
theorem dX3_isWord_41 : decode cX3_isWord 41 = .ok (.getfield 25, 3) := by decide +kernel
theorem dX3_isWord_44 : decode cX3_isWord 44 = .ok (.iload_n 2, 1) := by decide +kernel
theorem dX3_isWord_45 : decode cX3_isWord 45 = .ok (.iadd, 1) := by decide +kernel
theorem dX3_isWord_46 : decode cX3_isWord 46 = .ok (.iaload, 1) := by decide +kernel
theorem dX3_isWord_47 : decode cX3_isWord 47 = .ok (.aload_n 1, 1) := by decide +kernel
theorem dX3_isWord_48 : decode cX3_isWord 48 = .ok (.iload_n 2, 1) := by decide +kernel
theorem dX3_isWord_49 : decode cX3_isWord 49 = .ok (.invokevirtual 40, 3) := by decide +kernel
theorem dX3_isWord_52 : decode cX3_isWord 52 = .ok (.if_icmp .eq 5, 3) := by decide +kernel
theorem dX3_isWord_55 : decode cX3_isWord 55 = .ok (.iconst 0, 1) := by decide +kernel
theorem dX3_isWord_56 : decode cX3_isWord 56 = .ok (.ireturn, 1) := by decide +kernel
theorem dX3_isWord_57 : decode cX3_isWord 57 = .ok (.iinc 2 1, 3) := by decide +kernel
theorem dX3_isWord_60 : decode cX3_isWord 60 = .ok (.goto (-32), 3) := by decide +kernel
theorem dX3_isWord_63 : decode cX3_isWord 63 = .ok (.iconst 1, 1) := by decide +kernel
theorem dX3_isWord_64 : decode cX3_isWord 64 = .ok (.ireturn, 1) := by decide +kernel
theorem dX3_number_0 : decode cX3_number 0 = .ok (.iconst 0, 1) := by decide +kernel
theorem dX3_number_1 : decode cX3_number 1 = .ok (.istore_n 1, 1) := by decide +kernel
theorem dX3_number_2 : decode cX3_number 2 = .ok (.aload_n 0, 1) := by decide +kernel
theorem dX3_number_3 : decode cX3_number 3 = .ok (.getfield 25, 3) := by decide +kernel
theorem dX3_number_6 : decode cX3_number 6 = .ok (.istore_n 2, 1) := by decide +kernel
theorem dX3_number_7 : decode cX3_number 7 = .ok (.iload_n 2, 1) := by decide +kernel
theorem dX3_number_8 : decode cX3_number 8 = .ok (.aload_n 0, 1) := by decide +kernel
theorem dX3_number_9 : decode cX3_number 9 = .ok (.getfield 19, 3) := by decide +kernel
theorem dX3_number_12 : decode cX3_number 12 = .ok (.if_icmp .ge 30, 3) := by decide +kernel
theorem dX3_number_15 : decode cX3_number 15 = .ok (.sipush 1000, 3) := by decide +kernel
theorem dX3_number_18 : decode cX3_number 18 = .ok (.iload_n 1, 1) := by decide +kernel
theorem dX3_number_19 : decode cX3_number 19 = .ok (.bipush 10, 2) := by decide +kernel
theorem dX3_number_21 : decode cX3_number 21 = .ok (.imul, 1) := by decide +kernel
theorem dX3_number_22 : decode cX3_number 22 = .ok (.aload_n 0, 1) := by decide +kernel
theorem dX3_number_23 : decode cX3_number 23 = .ok (.getfield 9, 3) := by decide +kernel
theorem dX3_number_26 : decode cX3_number 26 = .ok (.iload_n 2, 1) := by decide +kernel
theorem dX3_number_27 : decode cX3_number 27 = .ok (.iaload, 1) := by decide +kernel
theorem dX3_number_28 : decode cX3_number 28 = .ok (.iadd, 1) := by decide +kernel
theorem dX3_number_29 : decode cX3_number 29 = .ok (.bipush 48, 2) := by decide +kernel
theorem dX3_number_31 : decode cX3_number 31 = .ok (.isub, 1) := by decide +kernel
theorem dX3_number_32 : decode cX3_number 32 = .ok (.invokestatic 44, 3) := by decide +kernel
theorem dX3_number_35 : decode cX3_number 35 = .ok (.istore_n 1, 1) := by decide +kernel
theorem dX3_number_36 : decode cX3_number 36 = .ok (.iinc 2 1, 3) := by decide +kernel
theorem dX3_number_39 : decode cX3_number 39 = .ok (.goto (-32), 3) := by decide +kernel
theorem dX3_number_42 : decode cX3_number 42 = .ok (.iload_n 1, 1) := by decide +kernel
theorem dX3_number_43 : decode cX3_number 43 = .ok (.ireturn, 1) := by decide +kernel
theorem dX3_tokenOf_0 : decode cX3_tokenOf 0 = .ok (.iload_n 0, 1) := by decide +kernel
theorem dX3_tokenOf_1 : decode cX3_tokenOf 1 = .ok (.bipush 97, 2) := by decide +kernel
theorem dX3_tokenOf_3 : decode cX3_tokenOf 3 = .ok (.if_icmp .lt 11, 3) := by decide +kernel
theorem dX3_tokenOf_6 : decode cX3_tokenOf 6 = .ok (.iload_n 0, 1) := by decide +kernel
theorem dX3_tokenOf_7 : decode cX3_tokenOf 7 = .ok (.bipush 122, 2) := by decide +kernel
theorem dX3_tokenOf_9 : decode cX3_tokenOf 9 = .ok (.if_icmp .gt 5, 3) := by decide +kernel
theorem dX3_tokenOf_12 : decode cX3_tokenOf 12 = .ok (.iconst 1, 1) := by decide +kernel
theorem dX3_tokenOf_13 : decode cX3_tokenOf 13 = .ok (.ireturn, 1) := by decide +kernel
theorem dX3_tokenOf_14 : decode cX3_tokenOf 14 = .ok (.iload_n 0, 1) := by decide +kernel
theorem dX3_tokenOf_15 : decode cX3_tokenOf 15 = .ok (.bipush 48, 2) := by decide +kernel
theorem dX3_tokenOf_17 : decode cX3_tokenOf 17 = .ok (.if_icmp .lt 11, 3) := by decide +kernel
theorem dX3_tokenOf_20 : decode cX3_tokenOf 20 = .ok (.iload_n 0, 1) := by decide +kernel
theorem dX3_tokenOf_21 : decode cX3_tokenOf 21 = .ok (.bipush 57, 2) := by decide +kernel
theorem dX3_tokenOf_23 : decode cX3_tokenOf 23 = .ok (.if_icmp .gt 5, 3) := by decide +kernel
theorem dX3_tokenOf_26 : decode cX3_tokenOf 26 = .ok (.iconst 2, 1) := by decide +kernel
theorem dX3_tokenOf_27 : decode cX3_tokenOf 27 = .ok (.ireturn, 1) := by decide +kernel
theorem dX3_tokenOf_28 : decode cX3_tokenOf 28 = .ok (.iload_n 0, 1) := by decide +kernel
theorem dX3_tokenOf_29 : decode cX3_tokenOf 29 = .ok (.bipush 59, 2) := by decide +kernel
theorem dX3_tokenOf_31 : decode cX3_tokenOf 31 = .ok (.if_icmp .ne 7, 3) := by decide +kernel
theorem dX3_tokenOf_34 : decode cX3_tokenOf 34 = .ok (.iconst 3, 1) := by decide +kernel
theorem dX3_tokenOf_35 : decode cX3_tokenOf 35 = .ok (.goto 4, 3) := by decide +kernel
theorem dX3_tokenOf_38 : decode cX3_tokenOf 38 = .ok (.iconst 4, 1) := by decide +kernel
theorem dX3_tokenOf_39 : decode cX3_tokenOf 39 = .ok (.ireturn, 1) := by decide +kernel
theorem dX4_init_0 : decode cX4_init 0 = .ok (.aload_n 0, 1) := by decide +kernel
theorem dX4_init_1 : decode cX4_init 1 = .ok (.invokespecial 3, 3) := by decide +kernel
theorem dX4_init_4 : decode cX4_init 4 = .ok (.aload_n 0, 1) := by decide +kernel
theorem dX4_init_5 : decode cX4_init 5 = .ok (.aload_n 1, 1) := by decide +kernel
theorem dX4_init_6 : decode cX4_init 6 = .ok (.putfield 9, 3) := by decide +kernel
theorem dX4_init_9 : decode cX4_init 9 = .ok (.return_, 1) := by decide +kernel
theorem dX4_tell_0 : decode cX4_tell 0 = .ok (.aload_n 0, 1) := by decide +kernel
theorem dX4_tell_1 : decode cX4_tell 1 = .ok (.getfield 9, 3) := by decide +kernel
theorem dX4_tell_4 : decode cX4_tell 4 = .ok (.invokevirtual 15, 3) := by decide +kernel
theorem dX4_tell_7 : decode cX4_tell 7 = .ok (.iconst 1, 1) := by decide +kernel
theorem dX4_tell_8 : decode cX4_tell 8 = .ok (.istore_n 2, 1) := by decide +kernel
theorem dX4_tell_9 : decode cX4_tell 9 = .ok (.iload_n 2, 1) := by decide +kernel
theorem dX4_tell_10 : decode cX4_tell 10 = .ok (.bipush 120, 2) := by decide +kernel
theorem dX4_tell_12 : decode cX4_tell 12 = .ok (.if_icmp .gt 67, 3) := by decide +kernel
theorem dX4_tell_15 : decode cX4_tell 15 = .ok (.aload_n 0, 1) := by decide +kernel
theorem dX4_tell_16 : decode cX4_tell 16 = .ok (.aload_n 1, 1) := by decide +kernel
theorem dX4_tell_17 : decode cX4_tell 17 = .ok (.invokevirtual 20, 3) := by decide +kernel
theorem dX4_tell_20 : decode cX4_tell 20 = .ok (.ifCond .ne 13, 3) := by decide +kernel
theorem dX4_tell_23 : decode cX4_tell 23 = .ok (.iconst (-1), 1) := by decide +kernel
theorem dX4_tell_24 : decode cX4_tell 24 = .ok (.aload_n 0, 1) := by decide +kernel
theorem dX4_tell_25 : decode cX4_tell 25 = .ok (.getfield 9, 3) := by decide +kernel
theorem dX4_tell_28 : decode cX4_tell 28 = .ok (.getfield 24, 3) := by decide +kernel
theorem dX4_tell_31 : decode cX4_tell 31 = .ok (.isub, 1) := by decide +kernel
theorem dX4_tell_32 : decode cX4_tell 32 = .ok (.ireturn, 1) := by decide +kernel
theorem dX4_tell_33 : decode cX4_tell 33 = .ok (.aload_n 0, 1) := by decide +kernel
theorem dX4_tell_34 : decode cX4_tell 34 = .ok (.getfield 9, 3) := by decide +kernel
theorem dX4_tell_37 : decode cX4_tell 37 = .ok (.getfield 28, 3) := by decide +kernel
theorem dX4_tell_40 : decode cX4_tell 40 = .ok (.ifCond .ne 5, 3) := by decide +kernel
theorem dX4_tell_43 : decode cX4_tell 43 = .ok (.iload_n 2, 1) := by decide +kernel
theorem dX4_tell_44 : decode cX4_tell 44 = .ok (.ireturn, 1) := by decide +kernel
theorem dX4_tell_45 : decode cX4_tell 45 = .ok (.aload_n 0, 1) := by decide +kernel
theorem dX4_tell_46 : decode cX4_tell 46 = .ok (.getfield 9, 3) := by decide +kernel
theorem dX4_tell_49 : decode cX4_tell 49 = .ok (.getfield 28, 3) := by decide +kernel
theorem dX4_tell_52 : decode cX4_tell 52 = .ok (.iconst 3, 1) := by decide +kernel
theorem dX4_tell_53 : decode cX4_tell 53 = .ok (.if_icmp .eq 13, 3) := by decide +kernel
theorem dX4_tell_56 : decode cX4_tell 56 = .ok (.iconst (-1), 1) := by decide +kernel
theorem dX4_tell_57 : decode cX4_tell 57 = .ok (.aload_n 0, 1) := by decide +kernel
theorem dX4_tell_58 : decode cX4_tell 58 = .ok (.getfield 9, 3) := by decide +kernel
theorem dX4_tell_61 : decode cX4_tell 61 = .ok (.getfield 24, 3) := by decide +kernel
theorem dX4_tell_64 : decode cX4_tell 64 = .ok (.isub, 1) := by decide +kernel
theorem dX4_tell_65 : decode cX4_tell 65 = .ok (.ireturn, 1) := by decide +kernel
theorem dX4_tell_66 : decode cX4_tell 66 = .ok (.aload_n 0, 1) := by decide +kernel
theorem dX4_tell_67 : decode cX4_tell 67 = .ok (.getfield 9, 3) := by decide +kernel
theorem dX4_tell_70 : decode cX4_tell 70 = .ok (.invokevirtual 31, 3) := by decide +kernel
theorem dX4_tell_73 : decode cX4_tell 73 = .ok (.iinc 2 1, 3) := by decide +kernel
theorem dX4_tell_76 : decode cX4_tell 76 = .ok (.goto (-67), 3) := by decide +kernel
theorem dX4_tell_79 : decode cX4_tell 79 = .ok (.iconst (-1), 1) := by decide +kernel
theorem dX4_tell_80 : decode cX4_tell 80 = .ok (.aload_n 0, 1) := by decide +kernel
theorem dX4_tell_81 : decode cX4_tell 81 = .ok (.getfield 9, 3) := by decide +kernel
theorem dX4_tell_84 : decode cX4_tell 84 = .ok (.getfield 24, 3) := by decide +kernel
theorem dX4_tell_87 : decode cX4_tell 87 = .ok (.isub, 1) := by decide +kernel
theorem dX4_tell_88 : decode cX4_tell 88 = .ok (.ireturn, 1) := by decide +kernel
theorem dX4_tellItem_0 : decode cX4_tellItem 0 = .ok (.aload_n 0, 1) := by decide +kernel
theorem dX4_tellItem_1 : decode cX4_tellItem 1 = .ok (.invokevirtual 34, 3) := by decide +kernel
theorem dX4_tellItem_4 : decode cX4_tellItem 4 = .ok (.istore_n 2, 1) := by decide +kernel
theorem dX4_tellItem_5 : decode cX4_tellItem 5 = .ok (.iload_n 2, 1) := by decide +kernel
theorem dX4_tellItem_6 : decode cX4_tellItem 6 = .ok (.iconst (-1), 1) := by decide +kernel
theorem dX4_tellItem_7 : decode cX4_tellItem 7 = .ok (.if_icmp .eq 10, 3) := by decide +kernel
theorem dX4_tellItem_10 : decode cX4_tellItem 10 = .ok (.aload_n 0, 1) := by decide +kernel
theorem dX4_tellItem_11 : decode cX4_tellItem 11 = .ok (.aload_n 1, 1) := by decide +kernel
theorem dX4_tellItem_12 : decode cX4_tellItem 12 = .ok (.iload_n 2, 1) := by decide +kernel
theorem dX4_tellItem_13 : decode cX4_tellItem 13 = .ok (.invokevirtual 38, 3) := by decide +kernel
theorem dX4_tellItem_16 : decode cX4_tellItem 16 = .ok (.ireturn, 1) := by decide +kernel
theorem dX4_tellItem_17 : decode cX4_tellItem 17 = .ok (.aload_n 0, 1) := by decide +kernel
theorem dX4_tellItem_18 : decode cX4_tellItem 18 = .ok (.ldc 42, 2) := by decide +kernel
theorem dX4_tellItem_20 : decode cX4_tellItem 20 = .ok (.invokevirtual 44, 3) := by decide +kernel
theorem dX4_tellItem_23 : decode cX4_tellItem 23 = .ok (.ifCond .eq 9, 3) := by decide +kernel
theorem dX4_tellItem_26 : decode cX4_tellItem 26 = .ok (.aload_n 0, 1) := by decide +kernel
theorem dX4_tellItem_27 : decode cX4_tellItem 27 = .ok (.aload_n 1, 1) := by decide +kernel
theorem dX4_tellItem_28 : decode cX4_tellItem 28 = .ok (.invokevirtual 48, 3) := by decide +kernel
theorem dX4_tellItem_31 : decode cX4_tellItem 31 = .ok (.ireturn, 1) := by decide +kernel
theorem dX4_tellItem_32 : decode cX4_tellItem 32 = .ok (.aload_n 0, 1) := by decide +kernel
theorem dX4_tellItem_33 : decode cX4_tellItem 33 = .ok (.ldc 51, 2) := by decide +kernel
theorem dX4_tellItem_35 : decode cX4_tellItem 35 = .ok (.invokevirtual 44, 3) := by decide +kernel
theorem dX4_tellItem_38 : decode cX4_tellItem 38 = .ok (.ifCond .eq 10, 3) := by decide +kernel
theorem dX4_tellItem_41 : decode cX4_tellItem 41 = .ok (.aload_n 0, 1) := by decide +kernel
theorem dX4_tellItem_42 : decode cX4_tellItem 42 = .ok (.aload_n 1, 1) := by decide +kernel
theorem dX4_tellItem_43 : decode cX4_tellItem 43 = .ok (.iconst 1, 1) := by decide +kernel
theorem dX4_tellItem_44 : decode cX4_tellItem 44 = .ok (.invokevirtual 53, 3) := by decide +kernel
theorem dX4_tellItem_47 : decode cX4_tellItem 47 = .ok (.ireturn, 1) := by decide +kernel
theorem dX4_tellItem_48 : decode cX4_tellItem 48 = .ok (.aload_n 0, 1) := by decide +kernel
theorem dX4_tellItem_49 : decode cX4_tellItem 49 = .ok (.ldc 57, 2) := by decide +kernel
theorem dX4_tellItem_51 : decode cX4_tellItem 51 = .ok (.invokevirtual 44, 3) := by decide +kernel
theorem dX4_tellItem_54 : decode cX4_tellItem 54 = .ok (.ifCond .eq 10, 3) := by decide +kernel
theorem dX4_tellItem_57 : decode cX4_tellItem 57 = .ok (.aload_n 0, 1) := by decide +kernel
theorem dX4_tellItem_58 : decode cX4_tellItem 58 = .ok (.aload_n 1, 1) := by decide +kernel
theorem dX4_tellItem_59 : decode cX4_tellItem 59 = .ok (.iconst 0, 1) := by decide +kernel
theorem dX4_tellItem_60 : decode cX4_tellItem 60 = .ok (.invokevirtual 53, 3) := by decide +kernel
theorem dX4_tellItem_63 : decode cX4_tellItem 63 = .ok (.ireturn, 1) := by decide +kernel
theorem dX4_tellItem_64 : decode cX4_tellItem 64 = .ok (.aload_n 0, 1) := by decide +kernel
theorem dX4_tellItem_65 : decode cX4_tellItem 65 = .ok (.ldc 59, 2) := by decide +kernel
theorem dX4_tellItem_67 : decode cX4_tellItem 67 = .ok (.invokevirtual 44, 3) := by decide +kernel
theorem dX4_tellItem_70 : decode cX4_tellItem 70 = .ok (.ifCond .eq 15, 3) := by decide +kernel
theorem dX4_tellItem_73 : decode cX4_tellItem 73 = .ok (.aload_n 0, 1) := by decide +kernel
theorem dX4_tellItem_74 : decode cX4_tellItem 74 = .ok (.aload_n 1, 1) := by decide +kernel
theorem dX4_tellItem_75 : decode cX4_tellItem 75 = .ok (.invokevirtual 61, 3) := by decide +kernel
theorem dX4_tellItem_78 : decode cX4_tellItem 78 = .ok (.ifCond .eq 7, 3) := by decide +kernel
theorem dX4_tellItem_81 : decode cX4_tellItem 81 = .ok (.iconst 1, 1) := by decide +kernel
theorem dX4_tellItem_82 : decode cX4_tellItem 82 = .ok (.goto 4, 3) := by decide +kernel
theorem dX4_tellItem_85 : decode cX4_tellItem 85 = .ok (.iconst 0, 1) := by decide +kernel
theorem dX4_tellItem_86 : decode cX4_tellItem 86 = .ok (.ireturn, 1) := by decide +kernel
theorem dX4_tellThing_0 : decode cX4_tellThing 0 = .ok (.aload_n 1, 1) := by decide +kernel
theorem dX4_tellThing_1 : decode cX4_tellThing 1 = .ok (.invokevirtual 64, 3) := by decide +kernel
theorem dX4_tellThing_4 : decode cX4_tellThing 4 = .ok (.ifCond .eq 5, 3) := by decide +kernel
theorem dX4_tellThing_7 : decode cX4_tellThing 7 = .ok (.iconst 0, 1) := by decide +kernel
theorem dX4_tellThing_8 : decode cX4_tellThing 8 = .ok (.ireturn, 1) := by decide +kernel
theorem dX4_tellThing_9 : decode cX4_tellThing 9 = .ok (.aload_n 0, 1) := by decide +kernel
theorem dX4_tellThing_10 : decode cX4_tellThing 10 = .ok (.getfield 9, 3) := by decide +kernel
theorem dX4_tellThing_13 : decode cX4_tellThing 13 = .ok (.invokevirtual 31, 3) := by decide +kernel
theorem dX4_tellThing_16 : decode cX4_tellThing 16 = .ok (.aload_n 0, 1) := by decide +kernel
theorem dX4_tellThing_17 : decode cX4_tellThing 17 = .ok (.ldc 70, 2) := by decide +kernel
theorem dX4_tellThing_19 : decode cX4_tellThing 19 = .ok (.invokevirtual 44, 3) := by decide +kernel
theorem dX4_tellThing_22 : decode cX4_tellThing 22 = .ok (.ifCond .ne 5, 3) := by decide +kernel
theorem dX4_tellThing_25 : decode cX4_tellThing 25 = .ok (.iconst 0, 1) := by decide +kernel
theorem dX4_tellThing_26 : decode cX4_tellThing 26 = .ok (.ireturn, 1) := by decide +kernel
theorem dX4_tellThing_27 : decode cX4_tellThing 27 = .ok (.aload_n 0, 1) := by decide +kernel
theorem dX4_tellThing_28 : decode cX4_tellThing 28 = .ok (.bipush 35, 2) := by decide +kernel
theorem dX4_tellThing_30 : decode cX4_tellThing 30 = .ok (.invokevirtual 72, 3) := by decide +kernel
theorem dX4_tellThing_33 : decode cX4_tellThing 33 = .ok (.istore_n 3, 1) := by decide +kernel
theorem dX4_tellThing_34 : decode cX4_tellThing 34 = .ok (.iload_n 3, 1) := by decide +kernel
theorem dX4_tellThing_35 : decode cX4_tellThing 35 = .ok (.iconst (-1), 1) := by decide +kernel
theorem dX4_tellThing_36 : decode cX4_tellThing 36 = .ok (.if_icmp .ne 5, 3) := by decide +kernel
theorem dX4_tellThing_39 : decode cX4_tellThing 39 = .ok (.iconst 0, 1) := by decide +kernel
theorem dX4_tellThing_40 : decode cX4_tellThing 40 = .ok (.ireturn, 1) := by decide +kernel
theorem dX4_tellThing_41 : decode cX4_tellThing 41 = .ok (.iconst 0, 1) := by decide +kernel
theorem dX4_tellThing_42 : decode cX4_tellThing 42 = .ok (.istore 4, 2) := by decide +kernel
theorem dX4_tellThing_44 : decode cX4_tellThing 44 = .ok (.aload_n 0, 1) := by decide +kernel
theorem dX4_tellThing_45 : decode cX4_tellThing 45 = .ok (.ldc 76, 2) := by decide +kernel
theorem dX4_tellThing_47 : decode cX4_tellThing 47 = .ok (.invokevirtual 44, 3) := by decide +kernel
theorem dX4_tellThing_50 : decode cX4_tellThing 50 = .ok (.ifCond .eq 11, 3) := by decide +kernel
theorem dX4_tellThing_53 : decode cX4_tellThing 53 = .ok (.aload_n 0, 1) := by decide +kernel
theorem dX4_tellThing_54 : decode cX4_tellThing 54 = .ok (.bipush 7, 2) := by decide +kernel
theorem dX4_tellThing_56 : decode cX4_tellThing 56 = .ok (.invokevirtual 72, 3) := by decide +kernel
theorem dX4_tellThing_59 : decode cX4_tellThing 59 = .ok (.istore 4, 2) := by decide +kernel
theorem dX4_tellThing_61 : decode cX4_tellThing 61 = .ok (.iload 4, 2) := by decide +kernel
theorem dX4_tellThing_63 : decode cX4_tellThing 63 = .ok (.iconst (-1), 1) := by decide +kernel
theorem dX4_tellThing_64 : decode cX4_tellThing 64 = .ok (.if_icmp .ne 5, 3) := by decide +kernel
theorem dX4_tellThing_67 : decode cX4_tellThing 67 = .ok (.iconst 0, 1) := by decide +kernel
theorem dX4_tellThing_68 : decode cX4_tellThing 68 = .ok (.ireturn, 1) := by decide +kernel
theorem dX4_tellThing_69 : decode cX4_tellThing 69 = .ok (.aload_n 1, 1) := by decide +kernel
theorem dX4_tellThing_70 : decode cX4_tellThing 70 = .ok (.iload_n 2, 1) := by decide +kernel
theorem dX4_tellThing_71 : decode cX4_tellThing 71 = .ok (.iload_n 3, 1) := by decide +kernel
theorem dX4_tellThing_72 : decode cX4_tellThing 72 = .ok (.iload 4, 2) := by decide +kernel
theorem dX4_tellThing_74 : decode cX4_tellThing 74 = .ok (.invokevirtual 78, 3) := by decide +kernel
theorem dX4_tellThing_77 : decode cX4_tellThing 77 = .ok (.iconst 1, 1) := by decide +kernel
theorem dX4_tellThing_78 : decode cX4_tellThing 78 = .ok (.ireturn, 1) := by decide +kernel
theorem dX4_tellRota_0 : decode cX4_tellRota 0 = .ok (.iconst 0, 1) := by decide +kernel
theorem dX4_tellRota_1 : decode cX4_tellRota 1 = .ok (.istore_n 2, 1) := by decide +kernel
theorem dX4_tellRota_2 : decode cX4_tellRota 2 = .ok (.iload_n 2, 1) := by decide +kernel
theorem dX4_tellRota_3 : decode cX4_tellRota 3 = .ok (.bipush 7, 2) := by decide +kernel
theorem dX4_tellRota_5 : decode cX4_tellRota 5 = .ok (.if_icmp .ge 47, 3) := by decide +kernel
theorem dX4_tellRota_8 : decode cX4_tellRota 8 = .ok (.iload_n 2, 1) := by decide +kernel
theorem dX4_tellRota_9 : decode cX4_tellRota 9 = .ok (.ifCond .le 16, 3) := by decide +kernel
theorem dX4_tellRota_12 : decode cX4_tellRota 12 = .ok (.aload_n 0, 1) := by decide +kernel
theorem dX4_tellRota_13 : decode cX4_tellRota 13 = .ok (.getfield 9, 3) := by decide +kernel
theorem dX4_tellRota_16 : decode cX4_tellRota 16 = .ok (.getfield 28, 3) := by decide +kernel
theorem dX4_tellRota_19 : decode cX4_tellRota 19 = .ok (.iconst 2, 1) := by decide +kernel
theorem dX4_tellRota_20 : decode cX4_tellRota 20 = .ok (.if_icmp .eq 5, 3) := by decide +kernel
theorem dX4_tellRota_23 : decode cX4_tellRota 23 = .ok (.iconst 1, 1) := by decide +kernel
theorem dX4_tellRota_24 : decode cX4_tellRota 24 = .ok (.ireturn, 1) := by decide +kernel
theorem dX4_tellRota_25 : decode cX4_tellRota 25 = .ok (.aload_n 0, 1) := by decide +kernel
theorem dX4_tellRota_26 : decode cX4_tellRota 26 = .ok (.bipush 8, 2) := by decide +kernel
theorem dX4_tellRota_28 : decode cX4_tellRota 28 = .ok (.invokevirtual 72, 3) := by decide +kernel
theorem dX4_tellRota_31 : decode cX4_tellRota 31 = .ok (.istore_n 3, 1) := by decide +kernel
theorem dX4_tellRota_32 : decode cX4_tellRota 32 = .ok (.iload_n 3, 1) := by decide +kernel
theorem dX4_tellRota_33 : decode cX4_tellRota 33 = .ok (.iconst (-1), 1) := by decide +kernel
theorem dX4_tellRota_34 : decode cX4_tellRota 34 = .ok (.if_icmp .ne 5, 3) := by decide +kernel
theorem dX4_tellRota_37 : decode cX4_tellRota 37 = .ok (.iconst 0, 1) := by decide +kernel
theorem dX4_tellRota_38 : decode cX4_tellRota 38 = .ok (.ireturn, 1) := by decide +kernel
theorem dX4_tellRota_39 : decode cX4_tellRota 39 = .ok (.aload_n 1, 1) := by decide +kernel
theorem dX4_tellRota_40 : decode cX4_tellRota 40 = .ok (.getfield 82, 3) := by decide +kernel
theorem dX4_tellRota_43 : decode cX4_tellRota 43 = .ok (.iload_n 2, 1) := by decide +kernel
theorem dX4_tellRota_44 : decode cX4_tellRota 44 = .ok (.iload_n 3, 1) := by decide +kernel
theorem dX4_tellRota_45 : decode cX4_tellRota 45 = .ok (.iastore, 1) := by decide +kernel
theorem dX4_tellRota_46 : decode cX4_tellRota 46 = .ok (.iinc 2 1, 3) := by decide +kernel
theorem dX4_tellRota_49 : decode cX4_tellRota 49 = .ok (.goto (-47), 3) := by decide +kernel
theorem dX4_tellRota_52 : decode cX4_tellRota 52 = .ok (.iconst 1, 1) := by decide +kernel
theorem dX4_tellRota_53 : decode cX4_tellRota 53 = .ok (.ireturn, 1) := by decide +kernel
theorem dX4_tellHealth_0 : decode cX4_tellHealth 0 = .ok (.aload_n 0, 1) := by decide +kernel
theorem dX4_tellHealth_1 : decode cX4_tellHealth 1 = .ok (.bipush 7, 2) := by decide +kernel
theorem dX4_tellHealth_3 : decode cX4_tellHealth 3 = .ok (.invokevirtual 72, 3) := by decide +kernel
theorem dX4_tellHealth_6 : decode cX4_tellHealth 6 = .ok (.istore_n 3, 1) := by decide +kernel
theorem dX4_tellHealth_7 : decode cX4_tellHealth 7 = .ok (.iload_n 3, 1) := by decide +kernel
theorem dX4_tellHealth_8 : decode cX4_tellHealth 8 = .ok (.iconst (-1), 1) := by decide +kernel
theorem dX4_tellHealth_9 : decode cX4_tellHealth 9 = .ok (.if_icmp .ne 5, 3) := by decide +kernel
theorem dX4_tellHealth_12 : decode cX4_tellHealth 12 = .ok (.iconst 0, 1) := by decide +kernel
theorem dX4_tellHealth_13 : decode cX4_tellHealth 13 = .ok (.ireturn, 1) := by decide +kernel
theorem dX4_tellHealth_14 : decode cX4_tellHealth 14 = .ok (.aload_n 1, 1) := by decide +kernel
theorem dX4_tellHealth_15 : decode cX4_tellHealth 15 = .ok (.iload_n 3, 1) := by decide +kernel
theorem dX4_tellHealth_16 : decode cX4_tellHealth 16 = .ok (.iload_n 2, 1) := by decide +kernel
theorem dX4_tellHealth_17 : decode cX4_tellHealth 17 = .ok (.invokevirtual 85, 3) := by decide +kernel
theorem dX4_tellHealth_20 : decode cX4_tellHealth 20 = .ok (.iconst 1, 1) := by decide +kernel
theorem dX4_tellHealth_21 : decode cX4_tellHealth 21 = .ok (.ireturn, 1) := by decide +kernel
theorem dX4_tellForce_0 : decode cX4_tellForce 0 = .ok (.aload_n 0, 1) := by decide +kernel
theorem dX4_tellForce_1 : decode cX4_tellForce 1 = .ok (.bipush 9, 2) := by decide +kernel
theorem dX4_tellForce_3 : decode cX4_tellForce 3 = .ok (.invokevirtual 72, 3) := by decide +kernel
theorem dX4_tellForce_6 : decode cX4_tellForce 6 = .ok (.istore_n 2, 1) := by decide +kernel
theorem dX4_tellForce_7 : decode cX4_tellForce 7 = .ok (.iload_n 2, 1) := by decide +kernel
theorem dX4_tellForce_8 : decode cX4_tellForce 8 = .ok (.iconst (-1), 1) := by decide +kernel
theorem dX4_tellForce_9 : decode cX4_tellForce 9 = .ok (.if_icmp .ne 5, 3) := by decide +kernel
theorem dX4_tellForce_12 : decode cX4_tellForce 12 = .ok (.iconst 0, 1) := by decide +kernel
theorem dX4_tellForce_13 : decode cX4_tellForce 13 = .ok (.ireturn, 1) := by decide +kernel
theorem dX4_tellForce_14 : decode cX4_tellForce 14 = .ok (.aload_n 1, 1) := by decide +kernel
theorem dX4_tellForce_15 : decode cX4_tellForce 15 = .ok (.iload_n 2, 1) := by decide +kernel
theorem dX4_tellForce_16 : decode cX4_tellForce 16 = .ok (.putfield 89, 3) := by decide +kernel
theorem dX4_tellForce_19 : decode cX4_tellForce 19 = .ok (.iconst 1, 1) := by decide +kernel
theorem dX4_tellForce_20 : decode cX4_tellForce 20 = .ok (.ireturn, 1) := by decide +kernel
theorem dX4_kindNamed_0 : decode cX4_kindNamed 0 = .ok (.iconst 0, 1) := by decide +kernel
theorem dX4_kindNamed_1 : decode cX4_kindNamed 1 = .ok (.istore_n 1, 1) := by decide +kernel
theorem dX4_kindNamed_2 : decode cX4_kindNamed 2 = .ok (.iload_n 1, 1) := by decide +kernel
theorem dX4_kindNamed_3 : decode cX4_kindNamed 3 = .ok (.bipush 6, 2) := by decide +kernel
theorem dX4_kindNamed_5 : decode cX4_kindNamed 5 = .ok (.if_icmp .ge 25, 3) := by decide +kernel
theorem dX4_kindNamed_8 : decode cX4_kindNamed 8 = .ok (.aload_n 0, 1) := by decide +kernel
theorem dX4_kindNamed_9 : decode cX4_kindNamed 9 = .ok (.getfield 9, 3) := by decide +kernel
theorem dX4_kindNamed_12 : decode cX4_kindNamed 12 = .ok (.iload_n 1, 1) := by decide +kernel
theorem dX4_kindNamed_13 : decode cX4_kindNamed 13 = .ok (.invokestatic 91, 3) := by decide +kernel
theorem dX4_kindNamed_16 : decode cX4_kindNamed 16 = .ok (.invokevirtual 95, 3) := by decide +kernel
theorem dX4_kindNamed_19 : decode cX4_kindNamed 19 = .ok (.ifCond .eq 5, 3) := by decide +kernel
theorem dX4_kindNamed_22 : decode cX4_kindNamed 22 = .ok (.iload_n 1, 1) := by decide +kernel
theorem dX4_kindNamed_23 : decode cX4_kindNamed 23 = .ok (.ireturn, 1) := by decide +kernel
theorem dX4_kindNamed_24 : decode cX4_kindNamed 24 = .ok (.iinc 1 1, 3) := by decide +kernel
theorem dX4_kindNamed_27 : decode cX4_kindNamed 27 = .ok (.goto (-25), 3) := by decide +kernel
theorem dX4_kindNamed_30 : decode cX4_kindNamed 30 = .ok (.iconst (-1), 1) := by decide +kernel
theorem dX4_kindNamed_31 : decode cX4_kindNamed 31 = .ok (.ireturn, 1) := by decide +kernel
theorem dX4_nameOf_0 : decode cX4_nameOf 0 = .ok (.iload_n 0, 1) := by decide +kernel
theorem dX4_nameOf_1 : decode cX4_nameOf 1 = .ok (.tableswitch 50 1 5 #[35, 38, 41, 44, 47], 35) := by decide +kernel
theorem dX4_nameOf_36 : decode cX4_nameOf 36 = .ok (.ldc 98, 2) := by decide +kernel
theorem dX4_nameOf_38 : decode cX4_nameOf 38 = .ok (.areturn, 1) := by decide +kernel
theorem dX4_nameOf_39 : decode cX4_nameOf 39 = .ok (.ldc 100, 2) := by decide +kernel
theorem dX4_nameOf_41 : decode cX4_nameOf 41 = .ok (.areturn, 1) := by decide +kernel
theorem dX4_nameOf_42 : decode cX4_nameOf 42 = .ok (.ldc 102, 2) := by decide +kernel
theorem dX4_nameOf_44 : decode cX4_nameOf 44 = .ok (.areturn, 1) := by decide +kernel
theorem dX4_nameOf_45 : decode cX4_nameOf 45 = .ok (.ldc 104, 2) := by decide +kernel
theorem dX4_nameOf_47 : decode cX4_nameOf 47 = .ok (.areturn, 1) := by decide +kernel
theorem dX4_nameOf_48 : decode cX4_nameOf 48 = .ok (.ldc 106, 2) := by decide +kernel
theorem dX4_nameOf_50 : decode cX4_nameOf 50 = .ok (.areturn, 1) := by decide +kernel
theorem dX4_nameOf_51 : decode cX4_nameOf 51 = .ok (.ldc 108, 2) := by decide +kernel
theorem dX4_nameOf_53 : decode cX4_nameOf 53 = .ok (.areturn, 1) := by decide +kernel
theorem dX4_takesWord_0 : decode cX4_takesWord 0 = .ok (.aload_n 0, 1) := by decide +kernel
theorem dX4_takesWord_1 : decode cX4_takesWord 1 = .ok (.getfield 9, 3) := by decide +kernel
theorem dX4_takesWord_4 : decode cX4_takesWord 4 = .ok (.aload_n 1, 1) := by decide +kernel
theorem dX4_takesWord_5 : decode cX4_takesWord 5 = .ok (.invokevirtual 95, 3) := by decide +kernel
theorem dX4_takesWord_8 : decode cX4_takesWord 8 = .ok (.ifCond .ne 5, 3) := by decide +kernel
theorem dX4_takesWord_11 : decode cX4_takesWord 11 = .ok (.iconst 0, 1) := by decide +kernel
theorem dX4_takesWord_12 : decode cX4_takesWord 12 = .ok (.ireturn, 1) := by decide +kernel
theorem dX4_takesWord_13 : decode cX4_takesWord 13 = .ok (.aload_n 0, 1) := by decide +kernel
theorem dX4_takesWord_14 : decode cX4_takesWord 14 = .ok (.getfield 9, 3) := by decide +kernel
theorem dX4_takesWord_17 : decode cX4_takesWord 17 = .ok (.invokevirtual 31, 3) := by decide +kernel
theorem dX4_takesWord_20 : decode cX4_takesWord 20 = .ok (.iconst 1, 1) := by decide +kernel
theorem dX4_takesWord_21 : decode cX4_takesWord 21 = .ok (.ireturn, 1) := by decide +kernel
theorem dX4_takenNumber_0 : decode cX4_takenNumber 0 = .ok (.aload_n 0, 1) := by decide +kernel
theorem dX4_takenNumber_1 : decode cX4_takenNumber 1 = .ok (.getfield 9, 3) := by decide +kernel
theorem dX4_takenNumber_4 : decode cX4_takenNumber 4 = .ok (.getfield 28, 3) := by decide +kernel
theorem dX4_takenNumber_7 : decode cX4_takenNumber 7 = .ok (.iconst 2, 1) := by decide +kernel
theorem dX4_takenNumber_8 : decode cX4_takenNumber 8 = .ok (.if_icmp .ne 14, 3) := by decide +kernel
theorem dX4_takenNumber_11 : decode cX4_takenNumber 11 = .ok (.aload_n 0, 1) := by decide +kernel
theorem dX4_takenNumber_12 : decode cX4_takenNumber 12 = .ok (.getfield 9, 3) := by decide +kernel
theorem dX4_takenNumber_15 : decode cX4_takenNumber 15 = .ok (.invokevirtual 110, 3) := by decide +kernel
theorem dX4_takenNumber_18 : decode cX4_takenNumber 18 = .ok (.iload_n 1, 1) := by decide +kernel
theorem dX4_takenNumber_19 : decode cX4_takenNumber 19 = .ok (.if_icmp .le 5, 3) := by decide +kernel
theorem dX4_takenNumber_22 : decode cX4_takenNumber 22 = .ok (.iconst (-1), 1) := by decide +kernel
theorem dX4_takenNumber_23 : decode cX4_takenNumber 23 = .ok (.ireturn, 1) := by decide +kernel
theorem dX4_takenNumber_24 : decode cX4_takenNumber 24 = .ok (.aload_n 0, 1) := by decide +kernel
theorem dX4_takenNumber_25 : decode cX4_takenNumber 25 = .ok (.getfield 9, 3) := by decide +kernel
theorem dX4_takenNumber_28 : decode cX4_takenNumber 28 = .ok (.invokevirtual 110, 3) := by decide +kernel
theorem dX4_takenNumber_31 : decode cX4_takenNumber 31 = .ok (.istore_n 2, 1) := by decide +kernel
theorem dX4_takenNumber_32 : decode cX4_takenNumber 32 = .ok (.aload_n 0, 1) := by decide +kernel
theorem dX4_takenNumber_33 : decode cX4_takenNumber 33 = .ok (.getfield 9, 3) := by decide +kernel
theorem dX4_takenNumber_36 : decode cX4_takenNumber 36 = .ok (.invokevirtual 31, 3) := by decide +kernel
theorem dX4_takenNumber_39 : decode cX4_takenNumber 39 = .ok (.iload_n 2, 1) := by decide +kernel
theorem dX4_takenNumber_40 : decode cX4_takenNumber 40 = .ok (.ireturn, 1) := by decide +kernel
theorem dX5_init_0 : decode cX5_init 0 = .ok (.aload_n 0, 1) := by decide +kernel
theorem dX5_init_1 : decode cX5_init 1 = .ok (.invokespecial 3, 3) := by decide +kernel
theorem dX5_init_4 : decode cX5_init 4 = .ok (.return_, 1) := by decide +kernel
theorem dX5_become_0 : decode cX5_become 0 = .ok (.aload_n 0, 1) := by decide +kernel
theorem dX5_become_1 : decode cX5_become 1 = .ok (.aload_n 1, 1) := by decide +kernel
theorem dX5_become_2 : decode cX5_become 2 = .ok (.getfield 9, 3) := by decide +kernel
theorem dX5_become_5 : decode cX5_become 5 = .ok (.putfield 9, 3) := by decide +kernel
theorem dX5_become_8 : decode cX5_become 8 = .ok (.aload_n 0, 1) := by decide +kernel
theorem dX5_become_9 : decode cX5_become 9 = .ok (.aload_n 1, 1) := by decide +kernel
theorem dX5_become_10 : decode cX5_become 10 = .ok (.getfield 15, 3) := by decide +kernel
theorem dX5_become_13 : decode cX5_become 13 = .ok (.putfield 15, 3) := by decide +kernel
theorem dX5_become_16 : decode cX5_become 16 = .ok (.aload_n 0, 1) := by decide +kernel
theorem dX5_become_17 : decode cX5_become 17 = .ok (.aload_n 1, 1) := by decide +kernel
theorem dX5_become_18 : decode cX5_become 18 = .ok (.getfield 18, 3) := by decide +kernel
theorem dX5_become_21 : decode cX5_become 21 = .ok (.putfield 18, 3) := by decide +kernel
theorem dX5_become_24 : decode cX5_become 24 = .ok (.aload_n 0, 1) := by decide +kernel
theorem dX5_become_25 : decode cX5_become 25 = .ok (.aload_n 1, 1) := by decide +kernel
theorem dX5_become_26 : decode cX5_become 26 = .ok (.getfield 21, 3) := by decide +kernel
theorem dX5_become_29 : decode cX5_become 29 = .ok (.putfield 21, 3) := by decide +kernel
theorem dX5_become_32 : decode cX5_become 32 = .ok (.return_, 1) := by decide +kernel
theorem dX5_earnings_0 : decode cX5_earnings 0 = .ok (.iload_n 2, 1) := by decide +kernel
theorem dX5_earnings_1 : decode cX5_earnings 1 = .ok (.bipush 8, 2) := by decide +kernel
theorem dX5_earnings_3 : decode cX5_earnings 3 = .ok (.if_icmp .ne 7, 3) := by decide +kernel
theorem dX5_earnings_6 : decode cX5_earnings 6 = .ok (.iconst 0, 1) := by decide +kernel
theorem dX5_earnings_7 : decode cX5_earnings 7 = .ok (.goto 4, 3) := by decide +kernel
theorem dX5_earnings_10 : decode cX5_earnings 10 = .ok (.iload_n 3, 1) := by decide +kernel
theorem dX5_earnings_11 : decode cX5_earnings 11 = .ok (.istore 4, 2) := by decide +kernel
theorem dX5_earnings_13 : decode cX5_earnings 13 = .ok (.iconst 0, 1) := by decide +kernel
theorem dX5_earnings_14 : decode cX5_earnings 14 = .ok (.iload 4, 2) := by decide +kernel
theorem dX5_earnings_16 : decode cX5_earnings 16 = .ok (.aload_n 0, 1) := by decide +kernel
theorem dX5_earnings_17 : decode cX5_earnings 17 = .ok (.iload_n 2, 1) := by decide +kernel
theorem dX5_earnings_18 : decode cX5_earnings 18 = .ok (.invokevirtual 24, 3) := by decide +kernel
theorem dX5_earnings_21 : decode cX5_earnings 21 = .ok (.isub, 1) := by decide +kernel
theorem dX5_earnings_22 : decode cX5_earnings 22 = .ok (.invokestatic 28, 3) := by decide +kernel
theorem dX5_earnings_25 : decode cX5_earnings 25 = .ok (.istore 5, 2) := by decide +kernel
theorem dX5_earnings_27 : decode cX5_earnings 27 = .ok (.iload 4, 2) := by decide +kernel
theorem dX5_earnings_29 : decode cX5_earnings 29 = .ok (.iconst 1, 1) := by decide +kernel
theorem dX5_earnings_30 : decode cX5_earnings 30 = .ok (.if_icmp .lt 13, 3) := by decide +kernel
theorem dX5_earnings_33 : decode cX5_earnings 33 = .ok (.iload 4, 2) := by decide +kernel
theorem dX5_earnings_35 : decode cX5_earnings 35 = .ok (.iconst 5, 1) := by decide +kernel
theorem dX5_earnings_36 : decode cX5_earnings 36 = .ok (.if_icmp .gt 7, 3) := by decide +kernel
theorem dX5_earnings_39 : decode cX5_earnings 39 = .ok (.iconst 3, 1) := by decide +kernel
theorem dX5_earnings_40 : decode cX5_earnings 40 = .ok (.goto 4, 3) := by decide +kernel
theorem dX5_earnings_43 : decode cX5_earnings 43 = .ok (.iconst 0, 1) := by decide +kernel
theorem dX5_earnings_44 : decode cX5_earnings 44 = .ok (.istore 6, 2) := by decide +kernel
theorem dX5_earnings_46 : decode cX5_earnings 46 = .ok (.aload_n 0, 1) := by decide +kernel
theorem dX5_earnings_47 : decode cX5_earnings 47 = .ok (.getfield 9, 3) := by decide +kernel
theorem dX5_earnings_50 : decode cX5_earnings 50 = .ok (.tableswitch 98 1 5 #[34, 39, 42, 60, 78], 34) := by decide +kernel
theorem dX5_earnings_84 : decode cX5_earnings 84 = .ok (.iload 5, 2) := by decide +kernel
theorem dX5_earnings_86 : decode cX5_earnings 86 = .ok (.iconst 1, 1) := by decide +kernel
theorem dX5_earnings_87 : decode cX5_earnings 87 = .ok (.iadd, 1) := by decide +kernel
theorem dX5_earnings_88 : decode cX5_earnings 88 = .ok (.ireturn, 1) := by decide +kernel
theorem dX5_earnings_89 : decode cX5_earnings 89 = .ok (.iload 6, 2) := by decide +kernel
theorem dX5_earnings_91 : decode cX5_earnings 91 = .ok (.ireturn, 1) := by decide +kernel
theorem dX5_earnings_92 : decode cX5_earnings 92 = .ok (.aload_n 0, 1) := by decide +kernel
theorem dX5_earnings_93 : decode cX5_earnings 93 = .ok (.iload_n 2, 1) := by decide +kernel
theorem dX5_earnings_94 : decode cX5_earnings 94 = .ok (.invokevirtual 24, 3) := by decide +kernel
theorem dX5_earnings_97 : decode cX5_earnings 97 = .ok (.ifCond .ne 10, 3) := by decide +kernel
theorem dX5_earnings_100 : decode cX5_earnings 100 = .ok (.iconst 2, 1) := by decide +kernel
theorem dX5_earnings_101 : decode cX5_earnings 101 = .ok (.iload 5, 2) := by decide +kernel
theorem dX5_earnings_103 : decode cX5_earnings 103 = .ok (.imul, 1) := by decide +kernel
theorem dX5_earnings_104 : decode cX5_earnings 104 = .ok (.goto 5, 3) := by decide +kernel
theorem dX5_earnings_107 : decode cX5_earnings 107 = .ok (.iload 5, 2) := by decide +kernel
theorem dX5_earnings_109 : decode cX5_earnings 109 = .ok (.ireturn, 1) := by decide +kernel
theorem dX5_earnings_110 : decode cX5_earnings 110 = .ok (.aload_n 0, 1) := by decide +kernel
theorem dX5_earnings_111 : decode cX5_earnings 111 = .ok (.iload_n 2, 1) := by decide +kernel
theorem dX5_earnings_112 : decode cX5_earnings 112 = .ok (.iload_n 3, 1) := by decide +kernel
theorem dX5_earnings_113 : decode cX5_earnings 113 = .ok (.invokevirtual 34, 3) := by decide +kernel
theorem dX5_earnings_116 : decode cX5_earnings 116 = .ok (.ifCond .eq 10, 3) := by decide +kernel
theorem dX5_earnings_119 : decode cX5_earnings 119 = .ok (.iload 5, 2) := by decide +kernel
theorem dX5_earnings_121 : decode cX5_earnings 121 = .ok (.iconst 1, 1) := by decide +kernel
theorem dX5_earnings_122 : decode cX5_earnings 122 = .ok (.iadd, 1) := by decide +kernel
theorem dX5_earnings_123 : decode cX5_earnings 123 = .ok (.goto 4, 3) := by decide +kernel
theorem dX5_earnings_126 : decode cX5_earnings 126 = .ok (.iconst 0, 1) := by decide +kernel
theorem dX5_earnings_127 : decode cX5_earnings 127 = .ok (.ireturn, 1) := by decide +kernel
theorem dX5_earnings_128 : decode cX5_earnings 128 = .ok (.iload_n 1, 1) := by decide +kernel
theorem dX5_earnings_129 : decode cX5_earnings 129 = .ok (.bipush 7, 2) := by decide +kernel
theorem dX5_earnings_131 : decode cX5_earnings 131 = .ok (.invokestatic 38, 3) := by decide +kernel
theorem dX5_earnings_134 : decode cX5_earnings 134 = .ok (.iconst 1, 1) := by decide +kernel
theorem dX5_earnings_135 : decode cX5_earnings 135 = .ok (.if_icmp .ne 10, 3) := by decide +kernel
theorem dX5_earnings_138 : decode cX5_earnings 138 = .ok (.iload 6, 2) := by decide +kernel
theorem dX5_earnings_140 : decode cX5_earnings 140 = .ok (.iconst 5, 1) := by decide +kernel
theorem dX5_earnings_141 : decode cX5_earnings 141 = .ok (.iadd, 1) := by decide +kernel
theorem dX5_earnings_142 : decode cX5_earnings 142 = .ok (.goto 5, 3) := by decide +kernel
theorem dX5_earnings_145 : decode cX5_earnings 145 = .ok (.iload 6, 2) := by decide +kernel
theorem dX5_earnings_147 : decode cX5_earnings 147 = .ok (.ireturn, 1) := by decide +kernel
theorem dX5_earnings_148 : decode cX5_earnings 148 = .ok (.iload 5, 2) := by decide +kernel
theorem dX5_earnings_150 : decode cX5_earnings 150 = .ok (.ireturn, 1) := by decide +kernel
theorem dX5_isGoing_0 : decode cX5_isGoing 0 = .ok (.iload_n 1, 1) := by decide +kernel
theorem dX5_isGoing_1 : decode cX5_isGoing 1 = .ok (.bipush 8, 2) := by decide +kernel
theorem dX5_isGoing_3 : decode cX5_isGoing 3 = .ok (.if_icmp .ne 5, 3) := by decide +kernel
theorem dX5_isGoing_6 : decode cX5_isGoing 6 = .ok (.iconst 0, 1) := by decide +kernel
theorem dX5_isGoing_7 : decode cX5_isGoing 7 = .ok (.ireturn, 1) := by decide +kernel
theorem dX5_isGoing_8 : decode cX5_isGoing 8 = .ok (.aload_n 0, 1) := by decide +kernel
theorem dX5_isGoing_9 : decode cX5_isGoing 9 = .ok (.getfield 9, 3) := by decide +kernel
theorem dX5_isGoing_12 : decode cX5_isGoing 12 = .ok (.tableswitch 79 1 5 #[36, 67, 79, 47, 67], 36) := by decide +kernel
theorem dX5_isGoing_48 : decode cX5_isGoing 48 = .ok (.iload_n 2, 1) := by decide +kernel
theorem dX5_isGoing_49 : decode cX5_isGoing 49 = .ok (.iconst 2, 1) := by decide +kernel
theorem dX5_isGoing_50 : decode cX5_isGoing 50 = .ok (.if_icmp .lt 7, 3) := by decide +kernel
theorem dX5_isGoing_53 : decode cX5_isGoing 53 = .ok (.iconst 1, 1) := by decide +kernel
theorem dX5_isGoing_54 : decode cX5_isGoing 54 = .ok (.goto 4, 3) := by decide +kernel
theorem dX5_isGoing_57 : decode cX5_isGoing 57 = .ok (.iconst 0, 1) := by decide +kernel
theorem dX5_isGoing_58 : decode cX5_isGoing 58 = .ok (.ireturn, 1) := by decide +kernel
theorem dX5_isGoing_59 : decode cX5_isGoing 59 = .ok (.iload_n 2, 1) := by decide +kernel
theorem dX5_isGoing_60 : decode cX5_isGoing 60 = .ok (.iconst 2, 1) := by decide +kernel
theorem dX5_isGoing_61 : decode cX5_isGoing 61 = .ok (.if_icmp .lt 16, 3) := by decide +kernel
theorem dX5_isGoing_64 : decode cX5_isGoing 64 = .ok (.aload_n 0, 1) := by decide +kernel
theorem dX5_isGoing_65 : decode cX5_isGoing 65 = .ok (.iload_n 1, 1) := by decide +kernel
theorem dX5_isGoing_66 : decode cX5_isGoing 66 = .ok (.invokevirtual 24, 3) := by decide +kernel
theorem dX5_isGoing_69 : decode cX5_isGoing 69 = .ok (.iconst 1, 1) := by decide +kernel
theorem dX5_isGoing_70 : decode cX5_isGoing 70 = .ok (.if_icmp .gt 7, 3) := by decide +kernel
theorem dX5_isGoing_73 : decode cX5_isGoing 73 = .ok (.iconst 1, 1) := by decide +kernel
theorem dX5_isGoing_74 : decode cX5_isGoing 74 = .ok (.goto 4, 3) := by decide +kernel
theorem dX5_isGoing_77 : decode cX5_isGoing 77 = .ok (.iconst 0, 1) := by decide +kernel
theorem dX5_isGoing_78 : decode cX5_isGoing 78 = .ok (.ireturn, 1) := by decide +kernel
theorem dX5_isGoing_79 : decode cX5_isGoing 79 = .ok (.iload_n 2, 1) := by decide +kernel
theorem dX5_isGoing_80 : decode cX5_isGoing 80 = .ok (.bipush 9, 2) := by decide +kernel
theorem dX5_isGoing_82 : decode cX5_isGoing 82 = .ok (.if_icmp .ne 7, 3) := by decide +kernel
theorem dX5_isGoing_85 : decode cX5_isGoing 85 = .ok (.iconst 1, 1) := by decide +kernel
theorem dX5_isGoing_86 : decode cX5_isGoing 86 = .ok (.goto 4, 3) := by decide +kernel
theorem dX5_isGoing_89 : decode cX5_isGoing 89 = .ok (.iconst 0, 1) := by decide +kernel
theorem dX5_isGoing_90 : decode cX5_isGoing 90 = .ok (.ireturn, 1) := by decide +kernel
theorem dX5_isGoing_91 : decode cX5_isGoing 91 = .ok (.iconst 0, 1) := by decide +kernel
theorem dX5_isGoing_92 : decode cX5_isGoing 92 = .ok (.ireturn, 1) := by decide +kernel
theorem dX5_cellAfter_0 : decode cX5_cellAfter 0 = .ok (.aload_n 0, 1) := by decide +kernel
theorem dX5_cellAfter_1 : decode cX5_cellAfter 1 = .ok (.iload_n 2, 1) := by decide +kernel
theorem dX5_cellAfter_2 : decode cX5_cellAfter 2 = .ok (.iload_n 3, 1) := by decide +kernel
theorem dX5_cellAfter_3 : decode cX5_cellAfter 3 = .ok (.invokevirtual 34, 3) := by decide +kernel
theorem dX5_cellAfter_6 : decode cX5_cellAfter 6 = .ok (.ifCond .ne 5, 3) := by decide +kernel
theorem dX5_cellAfter_9 : decode cX5_cellAfter 9 = .ok (.iload_n 1, 1) := by decide +kernel
theorem dX5_cellAfter_10 : decode cX5_cellAfter 10 = .ok (.ireturn, 1) := by decide +kernel
theorem dX5_cellAfter_11 : decode cX5_cellAfter 11 = .ok (.iload_n 1, 1) := by decide +kernel
theorem dX5_cellAfter_12 : decode cX5_cellAfter 12 = .ok (.iload_n 2, 1) := by decide +kernel
theorem dX5_cellAfter_13 : decode cX5_cellAfter 13 = .ok (.invokestatic 41, 3) := by decide +kernel
theorem dX5_cellAfter_16 : decode cX5_cellAfter 16 = .ok (.istore 4, 2) := by decide +kernel
theorem dX5_cellAfter_18 : decode cX5_cellAfter 18 = .ok (.iload 4, 2) := by decide +kernel
theorem dX5_cellAfter_20 : decode cX5_cellAfter 20 = .ok (.iconst (-1), 1) := by decide +kernel
theorem dX5_cellAfter_21 : decode cX5_cellAfter 21 = .ok (.if_icmp .ne 7, 3) := by decide +kernel
theorem dX5_cellAfter_24 : decode cX5_cellAfter 24 = .ok (.iload_n 1, 1) := by decide +kernel
theorem dX5_cellAfter_25 : decode cX5_cellAfter 25 = .ok (.goto 5, 3) := by decide +kernel
theorem dX5_cellAfter_28 : decode cX5_cellAfter 28 = .ok (.iload 4, 2) := by decide +kernel
theorem dX5_cellAfter_30 : decode cX5_cellAfter 30 = .ok (.ireturn, 1) := by decide +kernel
theorem dX5_goDay_0 : decode cX5_goDay 0 = .ok (.aload_n 0, 1) := by decide +kernel
theorem dX5_goDay_1 : decode cX5_goDay 1 = .ok (.ldc 44, 2) := by decide +kernel
theorem dX5_goDay_3 : decode cX5_goDay 3 = .ok (.aload_n 0, 1) := by decide +kernel
theorem dX5_goDay_4 : decode cX5_goDay 4 = .ok (.getfield 21, 3) := by decide +kernel
theorem dX5_goDay_7 : decode cX5_goDay 7 = .ok (.aload_n 0, 1) := by decide +kernel
theorem dX5_goDay_8 : decode cX5_goDay 8 = .ok (.iload_n 1, 1) := by decide +kernel
theorem dX5_goDay_9 : decode cX5_goDay 9 = .ok (.iload_n 2, 1) := by decide +kernel
theorem dX5_goDay_10 : decode cX5_goDay 10 = .ok (.iload_n 3, 1) := by decide +kernel
theorem dX5_goDay_11 : decode cX5_goDay 11 = .ok (.invokevirtual 45, 3) := by decide +kernel
theorem dX5_goDay_14 : decode cX5_goDay 14 = .ok (.iadd, 1) := by decide +kernel
theorem dX5_goDay_15 : decode cX5_goDay 15 = .ok (.invokestatic 49, 3) := by decide +kernel
theorem dX5_goDay_18 : decode cX5_goDay 18 = .ok (.putfield 21, 3) := by decide +kernel
theorem dX5_goDay_21 : decode cX5_goDay 21 = .ok (.aload_n 0, 1) := by decide +kernel
theorem dX5_goDay_22 : decode cX5_goDay 22 = .ok (.aload_n 0, 1) := by decide +kernel
theorem dX5_goDay_23 : decode cX5_goDay 23 = .ok (.aload_n 0, 1) := by decide +kernel
theorem dX5_goDay_24 : decode cX5_goDay 24 = .ok (.getfield 15, 3) := by decide +kernel
theorem dX5_goDay_27 : decode cX5_goDay 27 = .ok (.iload_n 2, 1) := by decide +kernel
theorem dX5_goDay_28 : decode cX5_goDay 28 = .ok (.iload_n 3, 1) := by decide +kernel
theorem dX5_goDay_29 : decode cX5_goDay 29 = .ok (.invokevirtual 52, 3) := by decide +kernel
theorem dX5_goDay_32 : decode cX5_goDay 32 = .ok (.putfield 15, 3) := by decide +kernel
theorem dX5_goDay_35 : decode cX5_goDay 35 = .ok (.return_, 1) := by decide +kernel
theorem dX5_off_0 : decode cX5_off 0 = .ok (.iload_n 1, 1) := by decide +kernel
theorem dX5_off_1 : decode cX5_off 1 = .ok (.bipush 8, 2) := by decide +kernel
theorem dX5_off_3 : decode cX5_off 3 = .ok (.if_icmp .ne 7, 3) := by decide +kernel
theorem dX5_off_6 : decode cX5_off 6 = .ok (.iconst 4, 1) := by decide +kernel
theorem dX5_off_7 : decode cX5_off 7 = .ok (.goto 16, 3) := by decide +kernel
theorem dX5_off_10 : decode cX5_off 10 = .ok (.getstatic 55, 3) := by decide +kernel
theorem dX5_off_13 : decode cX5_off 13 = .ok (.iload_n 1, 1) := by decide +kernel
theorem dX5_off_14 : decode cX5_off 14 = .ok (.aload_n 0, 1) := by decide +kernel
theorem dX5_off_15 : decode cX5_off 15 = .ok (.getfield 18, 3) := by decide +kernel
theorem dX5_off_18 : decode cX5_off 18 = .ok (.isub, 1) := by decide +kernel
theorem dX5_off_19 : decode cX5_off 19 = .ok (.bipush 7, 2) := by decide +kernel
theorem dX5_off_21 : decode cX5_off 21 = .ok (.iand, 1) := by decide +kernel
theorem dX5_off_22 : decode cX5_off 22 = .ok (.iaload, 1) := by decide +kernel
theorem dX5_off_23 : decode cX5_off 23 = .ok (.ireturn, 1) := by decide +kernel
theorem dX6_init_0 : decode cX6_init 0 = .ok (.aload_n 0, 1) := by decide +kernel
theorem dX6_init_1 : decode cX6_init 1 = .ok (.invokespecial 3, 3) := by decide +kernel
theorem dX6_init_4 : decode cX6_init 4 = .ok (.aload_n 0, 1) := by decide +kernel
theorem dX6_init_5 : decode cX6_init 5 = .ok (.bipush 36, 2) := by decide +kernel
theorem dX6_init_7 : decode cX6_init 7 = .ok (.newarray .int, 2) := by decide +kernel
theorem dX6_init_9 : decode cX6_init 9 = .ok (.putfield 9, 3) := by decide +kernel
theorem dX6_init_12 : decode cX6_init 12 = .ok (.aload_n 0, 1) := by decide +kernel
theorem dX6_init_13 : decode cX6_init 13 = .ok (.bipush 36, 2) := by decide +kernel
theorem dX6_init_15 : decode cX6_init 15 = .ok (.newarray .int, 2) := by decide +kernel
theorem dX6_init_17 : decode cX6_init 17 = .ok (.putfield 15, 3) := by decide +kernel
theorem dX6_init_20 : decode cX6_init 20 = .ok (.return_, 1) := by decide +kernel
theorem dX6_begin_0 : decode cX6_begin 0 = .ok (.iconst 0, 1) := by decide +kernel
theorem dX6_begin_1 : decode cX6_begin 1 = .ok (.istore_n 2, 1) := by decide +kernel
theorem dX6_begin_2 : decode cX6_begin 2 = .ok (.iload_n 2, 1) := by decide +kernel
theorem dX6_begin_3 : decode cX6_begin 3 = .ok (.bipush 36, 2) := by decide +kernel
theorem dX6_begin_5 : decode cX6_begin 5 = .ok (.if_icmp .ge 27, 3) := by decide +kernel
theorem dX6_begin_8 : decode cX6_begin 8 = .ok (.aload_n 0, 1) := by decide +kernel
theorem dX6_begin_9 : decode cX6_begin 9 = .ok (.getfield 9, 3) := by decide +kernel
theorem dX6_begin_12 : decode cX6_begin 12 = .ok (.iload_n 2, 1) := by decide +kernel
theorem dX6_begin_13 : decode cX6_begin 13 = .ok (.iload_n 2, 1) := by decide +kernel
theorem dX6_begin_14 : decode cX6_begin 14 = .ok (.iload_n 1, 1) := by decide +kernel
theorem dX6_begin_15 : decode cX6_begin 15 = .ok (.if_icmp .ne 7, 3) := by decide +kernel
theorem dX6_begin_18 : decode cX6_begin 18 = .ok (.iconst 0, 1) := by decide +kernel
theorem dX6_begin_19 : decode cX6_begin 19 = .ok (.goto 6, 3) := by decide +kernel
theorem dX6_begin_22 : decode cX6_begin 22 = .ok (.sipush 1000, 3) := by decide +kernel
theorem dX6_begin_25 : decode cX6_begin 25 = .ok (.iastore, 1) := by decide +kernel
theorem dX6_begin_26 : decode cX6_begin 26 = .ok (.iinc 2 1, 3) := by decide +kernel
theorem dX6_begin_29 : decode cX6_begin 29 = .ok (.goto (-27), 3) := by decide +kernel
theorem dX6_begin_32 : decode cX6_begin 32 = .ok (.return_, 1) := by decide +kernel
theorem dX6_goDay_0 : decode cX6_goDay 0 = .ok (.iconst 0, 1) := by decide +kernel
theorem dX6_goDay_1 : decode cX6_goDay 1 = .ok (.istore 4, 2) := by decide +kernel
theorem dX6_goDay_3 : decode cX6_goDay 3 = .ok (.iload 4, 2) := by decide +kernel
theorem dX6_goDay_5 : decode cX6_goDay 5 = .ok (.bipush 36, 2) := by decide +kernel
theorem dX6_goDay_7 : decode cX6_goDay 7 = .ok (.if_icmp .ge 19, 3) := by decide +kernel
theorem dX6_goDay_10 : decode cX6_goDay 10 = .ok (.aload_n 0, 1) := by decide +kernel
theorem dX6_goDay_11 : decode cX6_goDay 11 = .ok (.getfield 15, 3) := by decide +kernel
theorem dX6_goDay_14 : decode cX6_goDay 14 = .ok (.iload 4, 2) := by decide +kernel
theorem dX6_goDay_16 : decode cX6_goDay 16 = .ok (.sipush 1000, 3) := by decide +kernel
theorem dX6_goDay_19 : decode cX6_goDay 19 = .ok (.iastore, 1) := by decide +kernel
theorem dX6_goDay_20 : decode cX6_goDay 20 = .ok (.iinc 4 1, 3) := by decide +kernel
theorem dX6_goDay_23 : decode cX6_goDay 23 = .ok (.goto (-20), 3) := by decide +kernel
theorem dX6_goDay_26 : decode cX6_goDay 26 = .ok (.iconst 0, 1) := by decide +kernel
theorem dX6_goDay_27 : decode cX6_goDay 27 = .ok (.istore 4, 2) := by decide +kernel
theorem dX6_goDay_29 : decode cX6_goDay 29 = .ok (.iload 4, 2) := by decide +kernel
theorem dX6_goDay_31 : decode cX6_goDay 31 = .ok (.bipush 36, 2) := by decide +kernel
theorem dX6_goDay_33 : decode cX6_goDay 33 = .ok (.if_icmp .ge 79, 3) := by decide +kernel
theorem dX6_goDay_36 : decode cX6_goDay 36 = .ok (.aload_n 0, 1) := by decide +kernel
theorem dX6_goDay_37 : decode cX6_goDay 37 = .ok (.getfield 9, 3) := by decide +kernel
theorem dX6_goDay_40 : decode cX6_goDay 40 = .ok (.iload 4, 2) := by decide +kernel
theorem dX6_goDay_42 : decode cX6_goDay 42 = .ok (.iaload, 1) := by decide +kernel
theorem dX6_goDay_43 : decode cX6_goDay 43 = .ok (.sipush 1000, 3) := by decide +kernel
theorem dX6_goDay_46 : decode cX6_goDay 46 = .ok (.if_icmp .ge 60, 3) := by decide +kernel
theorem dX6_goDay_49 : decode cX6_goDay 49 = .ok (.aload_n 0, 1) := by decide +kernel
theorem dX6_goDay_50 : decode cX6_goDay 50 = .ok (.aload_n 1, 1) := by decide +kernel
theorem dX6_goDay_51 : decode cX6_goDay 51 = .ok (.iload 4, 2) := by decide +kernel
theorem dX6_goDay_53 : decode cX6_goDay 53 = .ok (.iload_n 2, 1) := by decide +kernel
theorem dX6_goDay_54 : decode cX6_goDay 54 = .ok (.iload_n 3, 1) := by decide +kernel
theorem dX6_goDay_55 : decode cX6_goDay 55 = .ok (.invokevirtual 18, 3) := by decide +kernel
theorem dX6_goDay_58 : decode cX6_goDay 58 = .ok (.aload_n 0, 1) := by decide +kernel
theorem dX6_goDay_59 : decode cX6_goDay 59 = .ok (.getfield 9, 3) := by decide +kernel
theorem dX6_goDay_62 : decode cX6_goDay 62 = .ok (.iload 4, 2) := by decide +kernel
theorem dX6_goDay_64 : decode cX6_goDay 64 = .ok (.iaload, 1) := by decide +kernel
theorem dX6_goDay_65 : decode cX6_goDay 65 = .ok (.invokevirtual 24, 3) := by decide +kernel
theorem dX6_goDay_68 : decode cX6_goDay 68 = .ok (.iconst 0, 1) := by decide +kernel
theorem dX6_goDay_69 : decode cX6_goDay 69 = .ok (.istore 5, 2) := by decide +kernel
theorem dX6_goDay_71 : decode cX6_goDay 71 = .ok (.iload 5, 2) := by decide +kernel
theorem dX6_goDay_73 : decode cX6_goDay 73 = .ok (.bipush 8, 2) := by decide +kernel
theorem dX6_goDay_75 : decode cX6_goDay 75 = .ok (.if_icmp .ge 31, 3) := by decide +kernel
theorem dX6_goDay_78 : decode cX6_goDay 78 = .ok (.aload_n 0, 1) := by decide +kernel
theorem dX6_goDay_79 : decode cX6_goDay 79 = .ok (.aload_n 1, 1) := by decide +kernel
theorem dX6_goDay_80 : decode cX6_goDay 80 = .ok (.iload 4, 2) := by decide +kernel
theorem dX6_goDay_82 : decode cX6_goDay 82 = .ok (.iload 5, 2) := by decide +kernel
theorem dX6_goDay_84 : decode cX6_goDay 84 = .ok (.iload_n 3, 1) := by decide +kernel
theorem dX6_goDay_85 : decode cX6_goDay 85 = .ok (.invokevirtual 18, 3) := by decide +kernel
