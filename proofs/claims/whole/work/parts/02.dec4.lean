theorem dX8_bestAt_66 : decode cX8_bestAt 66 = .ok (.iinc 6 1, 3) := by decide +kernel
theorem dX8_bestAt_69 : decode cX8_bestAt 69 = .ok (.goto (-56), 3) := by decide +kernel
theorem dX8_bestAt_72 : decode cX8_bestAt 72 = .ok (.iload 4, 2) := by decide +kernel
theorem dX8_bestAt_74 : decode cX8_bestAt 74 = .ok (.ireturn, 1) := by decide +kernel
theorem dX8_kind_0 : decode cX8_kind 0 = .ok (.aload_n 0, 1) := by decide +kernel
theorem dX8_kind_1 : decode cX8_kind 1 = .ok (.iload_n 1, 1) := by decide +kernel
theorem dX8_kind_2 : decode cX8_kind 2 = .ok (.invokevirtual 97, 3) := by decide +kernel
theorem dX8_kind_5 : decode cX8_kind 5 = .ok (.ifCond .eq 30, 3) := by decide +kernel
theorem dX8_kind_8 : decode cX8_kind 8 = .ok (.iload_n 2, 1) := by decide +kernel
theorem dX8_kind_9 : decode cX8_kind 9 = .ok (.i2l, 1) := by decide +kernel
theorem dX8_kind_10 : decode cX8_kind 10 = .ok (.iconst 1, 1) := by decide +kernel
theorem dX8_kind_11 : decode cX8_kind 11 = .ok (.bipush 30, 2) := by decide +kernel
theorem dX8_kind_13 : decode cX8_kind 13 = .ok (.invokestatic 47, 3) := by decide +kernel
theorem dX8_kind_16 : decode cX8_kind 16 = .ok (.ifCond .eq 19, 3) := by decide +kernel
theorem dX8_kind_19 : decode cX8_kind 19 = .ok (.aload_n 0, 1) := by decide +kernel
theorem dX8_kind_20 : decode cX8_kind 20 = .ok (.bipush 11, 2) := by decide +kernel
theorem dX8_kind_22 : decode cX8_kind 22 = .ok (.iconst 4, 1) := by decide +kernel
theorem dX8_kind_23 : decode cX8_kind 23 = .ok (.iload_n 1, 1) := by decide +kernel
theorem dX8_kind_24 : decode cX8_kind 24 = .ok (.imul, 1) := by decide +kernel
theorem dX8_kind_25 : decode cX8_kind 25 = .ok (.iadd, 1) := by decide +kernel
theorem dX8_kind_26 : decode cX8_kind 26 = .ok (.bipush 6, 2) := by decide +kernel
theorem dX8_kind_28 : decode cX8_kind 28 = .ok (.iload_n 2, 1) := by decide +kernel
theorem dX8_kind_29 : decode cX8_kind 29 = .ok (.invokevirtual 142, 3) := by decide +kernel
theorem dX8_kind_32 : decode cX8_kind 32 = .ok (.goto 9, 3) := by decide +kernel
theorem dX8_kind_35 : decode cX8_kind 35 = .ok (.aload_n 0, 1) := by decide +kernel
theorem dX8_kind_36 : decode cX8_kind 36 = .ok (.ldc 41, 2) := by decide +kernel
theorem dX8_kind_38 : decode cX8_kind 38 = .ok (.invokevirtual 43, 3) := by decide +kernel
theorem dX8_kind_41 : decode cX8_kind 41 = .ok (.ireturn, 1) := by decide +kernel
theorem dX8_facing_0 : decode cX8_facing 0 = .ok (.aload_n 0, 1) := by decide +kernel
theorem dX8_facing_1 : decode cX8_facing 1 = .ok (.iload_n 1, 1) := by decide +kernel
theorem dX8_facing_2 : decode cX8_facing 2 = .ok (.invokevirtual 97, 3) := by decide +kernel
theorem dX8_facing_5 : decode cX8_facing 5 = .ok (.ifCond .eq 32, 3) := by decide +kernel
theorem dX8_facing_8 : decode cX8_facing 8 = .ok (.iload_n 2, 1) := by decide +kernel
theorem dX8_facing_9 : decode cX8_facing 9 = .ok (.i2l, 1) := by decide +kernel
theorem dX8_facing_10 : decode cX8_facing 10 = .ok (.iconst 1, 1) := by decide +kernel
theorem dX8_facing_11 : decode cX8_facing 11 = .ok (.bipush 30, 2) := by decide +kernel
theorem dX8_facing_13 : decode cX8_facing 13 = .ok (.invokestatic 47, 3) := by decide +kernel
theorem dX8_facing_16 : decode cX8_facing 16 = .ok (.ifCond .eq 21, 3) := by decide +kernel
theorem dX8_facing_19 : decode cX8_facing 19 = .ok (.aload_n 0, 1) := by decide +kernel
theorem dX8_facing_20 : decode cX8_facing 20 = .ok (.bipush 11, 2) := by decide +kernel
theorem dX8_facing_22 : decode cX8_facing 22 = .ok (.iconst 4, 1) := by decide +kernel
theorem dX8_facing_23 : decode cX8_facing 23 = .ok (.iload_n 1, 1) := by decide +kernel
theorem dX8_facing_24 : decode cX8_facing 24 = .ok (.imul, 1) := by decide +kernel
theorem dX8_facing_25 : decode cX8_facing 25 = .ok (.iadd, 1) := by decide +kernel
theorem dX8_facing_26 : decode cX8_facing 26 = .ok (.iconst 2, 1) := by decide +kernel
theorem dX8_facing_27 : decode cX8_facing 27 = .ok (.iadd, 1) := by decide +kernel
theorem dX8_facing_28 : decode cX8_facing 28 = .ok (.bipush 8, 2) := by decide +kernel
theorem dX8_facing_30 : decode cX8_facing 30 = .ok (.iload_n 2, 1) := by decide +kernel
theorem dX8_facing_31 : decode cX8_facing 31 = .ok (.invokevirtual 142, 3) := by decide +kernel
theorem dX8_facing_34 : decode cX8_facing 34 = .ok (.goto 9, 3) := by decide +kernel
theorem dX8_facing_37 : decode cX8_facing 37 = .ok (.aload_n 0, 1) := by decide +kernel
theorem dX8_facing_38 : decode cX8_facing 38 = .ok (.ldc 41, 2) := by decide +kernel
theorem dX8_facing_40 : decode cX8_facing 40 = .ok (.invokevirtual 43, 3) := by decide +kernel
theorem dX8_facing_43 : decode cX8_facing 43 = .ok (.ireturn, 1) := by decide +kernel
theorem dX8_best_0 : decode cX8_best 0 = .ok (.iload_n 1, 1) := by decide +kernel
theorem dX8_best_1 : decode cX8_best 1 = .ok (.i2l, 1) := by decide +kernel
theorem dX8_best_2 : decode cX8_best 2 = .ok (.iconst 0, 1) := by decide +kernel
theorem dX8_best_3 : decode cX8_best 3 = .ok (.bipush 6, 2) := by decide +kernel
theorem dX8_best_5 : decode cX8_best 5 = .ok (.invokestatic 47, 3) := by decide +kernel
theorem dX8_best_8 : decode cX8_best 8 = .ok (.ifCond .eq 27, 3) := by decide +kernel
theorem dX8_best_11 : decode cX8_best 11 = .ok (.iload_n 2, 1) := by decide +kernel
theorem dX8_best_12 : decode cX8_best 12 = .ok (.i2l, 1) := by decide +kernel
theorem dX8_best_13 : decode cX8_best 13 = .ok (.iconst 1, 1) := by decide +kernel
theorem dX8_best_14 : decode cX8_best 14 = .ok (.bipush 30, 2) := by decide +kernel
theorem dX8_best_16 : decode cX8_best 16 = .ok (.invokestatic 47, 3) := by decide +kernel
theorem dX8_best_19 : decode cX8_best 19 = .ok (.ifCond .eq 16, 3) := by decide +kernel
theorem dX8_best_22 : decode cX8_best 22 = .ok (.aload_n 0, 1) := by decide +kernel
theorem dX8_best_23 : decode cX8_best 23 = .ok (.iconst 4, 1) := by decide +kernel
theorem dX8_best_24 : decode cX8_best 24 = .ok (.iload_n 1, 1) := by decide +kernel
theorem dX8_best_25 : decode cX8_best 25 = .ok (.iadd, 1) := by decide +kernel
theorem dX8_best_26 : decode cX8_best 26 = .ok (.bipush 9, 2) := by decide +kernel
theorem dX8_best_28 : decode cX8_best 28 = .ok (.iload_n 2, 1) := by decide +kernel
theorem dX8_best_29 : decode cX8_best 29 = .ok (.invokevirtual 142, 3) := by decide +kernel
theorem dX8_best_32 : decode cX8_best 32 = .ok (.goto 9, 3) := by decide +kernel
theorem dX8_best_35 : decode cX8_best 35 = .ok (.aload_n 0, 1) := by decide +kernel
theorem dX8_best_36 : decode cX8_best 36 = .ok (.ldc 41, 2) := by decide +kernel
theorem dX8_best_38 : decode cX8_best 38 = .ok (.invokevirtual 43, 3) := by decide +kernel
theorem dX8_best_41 : decode cX8_best 41 = .ok (.ireturn, 1) := by decide +kernel
theorem dX8_feed_0 : decode cX8_feed 0 = .ok (.iload_n 2, 1) := by decide +kernel
theorem dX8_feed_1 : decode cX8_feed 1 = .ok (.i2l, 1) := by decide +kernel
theorem dX8_feed_2 : decode cX8_feed 2 = .ok (.iconst 1, 1) := by decide +kernel
theorem dX8_feed_3 : decode cX8_feed 3 = .ok (.iconst 4, 1) := by decide +kernel
theorem dX8_feed_4 : decode cX8_feed 4 = .ok (.invokestatic 47, 3) := by decide +kernel
theorem dX8_feed_7 : decode cX8_feed 7 = .ok (.ifCond .ne 10, 3) := by decide +kernel
theorem dX8_feed_10 : decode cX8_feed 10 = .ok (.aload_n 0, 1) := by decide +kernel
theorem dX8_feed_11 : decode cX8_feed 11 = .ok (.ldc 41, 2) := by decide +kernel
theorem dX8_feed_13 : decode cX8_feed 13 = .ok (.invokevirtual 43, 3) := by decide +kernel
theorem dX8_feed_16 : decode cX8_feed 16 = .ok (.ireturn, 1) := by decide +kernel
theorem dX8_feed_17 : decode cX8_feed 17 = .ok (.aload_n 0, 1) := by decide +kernel
theorem dX8_feed_18 : decode cX8_feed 18 = .ok (.getfield 145, 3) := by decide +kernel
theorem dX8_feed_21 : decode cX8_feed 21 = .ok (.iload_n 2, 1) := by decide +kernel
theorem dX8_feed_22 : decode cX8_feed 22 = .ok (.iadd, 1) := by decide +kernel
theorem dX8_feed_23 : decode cX8_feed 23 = .ok (.bipush 120, 2) := by decide +kernel
theorem dX8_feed_25 : decode cX8_feed 25 = .ok (.if_icmp .le 10, 3) := by decide +kernel
theorem dX8_feed_28 : decode cX8_feed 28 = .ok (.aload_n 0, 1) := by decide +kernel
theorem dX8_feed_29 : decode cX8_feed 29 = .ok (.ldc 93, 2) := by decide +kernel
theorem dX8_feed_31 : decode cX8_feed 31 = .ok (.invokevirtual 43, 3) := by decide +kernel
theorem dX8_feed_34 : decode cX8_feed 34 = .ok (.ireturn, 1) := by decide +kernel
theorem dX8_feed_35 : decode cX8_feed 35 = .ok (.iload_n 2, 1) := by decide +kernel
theorem dX8_feed_36 : decode cX8_feed 36 = .ok (.iconst 1, 1) := by decide +kernel
theorem dX8_feed_37 : decode cX8_feed 37 = .ok (.isub, 1) := by decide +kernel
theorem dX8_feed_38 : decode cX8_feed 38 = .ok (.istore_n 3, 1) := by decide +kernel
theorem dX8_feed_39 : decode cX8_feed 39 = .ok (.iload_n 3, 1) := by decide +kernel
theorem dX8_feed_40 : decode cX8_feed 40 = .ok (.ifCond .lt 38, 3) := by decide +kernel
theorem dX8_feed_43 : decode cX8_feed 43 = .ok (.aload_n 0, 1) := by decide +kernel
theorem dX8_feed_44 : decode cX8_feed 44 = .ok (.getfield 28, 3) := by decide +kernel
theorem dX8_feed_47 : decode cX8_feed 47 = .ok (.aload_n 0, 1) := by decide +kernel
theorem dX8_feed_48 : decode cX8_feed 48 = .ok (.getfield 145, 3) := by decide +kernel
theorem dX8_feed_51 : decode cX8_feed 51 = .ok (.iload_n 1, 1) := by decide +kernel
theorem dX8_feed_52 : decode cX8_feed 52 = .ok (.bipush 8, 2) := by decide +kernel
theorem dX8_feed_54 : decode cX8_feed 54 = .ok (.iload_n 3, 1) := by decide +kernel
theorem dX8_feed_55 : decode cX8_feed 55 = .ok (.imul, 1) := by decide +kernel
theorem dX8_feed_56 : decode cX8_feed 56 = .ok (.ishr, 1) := by decide +kernel
theorem dX8_feed_57 : decode cX8_feed 57 = .ok (.sipush 255, 3) := by decide +kernel
theorem dX8_feed_60 : decode cX8_feed 60 = .ok (.iand, 1) := by decide +kernel
theorem dX8_feed_61 : decode cX8_feed 61 = .ok (.iastore, 1) := by decide +kernel
theorem dX8_feed_62 : decode cX8_feed 62 = .ok (.aload_n 0, 1) := by decide +kernel
theorem dX8_feed_63 : decode cX8_feed 63 = .ok (.dup, 1) := by decide +kernel
theorem dX8_feed_64 : decode cX8_feed 64 = .ok (.getfield 145, 3) := by decide +kernel
theorem dX8_feed_67 : decode cX8_feed 67 = .ok (.iconst 1, 1) := by decide +kernel
theorem dX8_feed_68 : decode cX8_feed 68 = .ok (.iadd, 1) := by decide +kernel
theorem dX8_feed_69 : decode cX8_feed 69 = .ok (.putfield 145, 3) := by decide +kernel
theorem dX8_feed_72 : decode cX8_feed 72 = .ok (.iinc 3 (-1), 3) := by decide +kernel
theorem dX8_feed_75 : decode cX8_feed 75 = .ok (.goto (-36), 3) := by decide +kernel
theorem dX8_feed_78 : decode cX8_feed 78 = .ok (.aload_n 0, 1) := by decide +kernel
theorem dX8_feed_79 : decode cX8_feed 79 = .ok (.getfield 145, 3) := by decide +kernel
theorem dX8_feed_82 : decode cX8_feed 82 = .ok (.ireturn, 1) := by decide +kernel
theorem dX8_wipe_0 : decode cX8_wipe 0 = .ok (.aload_n 0, 1) := by decide +kernel
theorem dX8_wipe_1 : decode cX8_wipe 1 = .ok (.getfield 145, 3) := by decide +kernel
theorem dX8_wipe_4 : decode cX8_wipe 4 = .ok (.istore_n 1, 1) := by decide +kernel
theorem dX8_wipe_5 : decode cX8_wipe 5 = .ok (.aload_n 0, 1) := by decide +kernel
theorem dX8_wipe_6 : decode cX8_wipe 6 = .ok (.iconst 0, 1) := by decide +kernel
theorem dX8_wipe_7 : decode cX8_wipe 7 = .ok (.putfield 145, 3) := by decide +kernel
theorem dX8_wipe_10 : decode cX8_wipe 10 = .ok (.iload_n 1, 1) := by decide +kernel
theorem dX8_wipe_11 : decode cX8_wipe 11 = .ok (.ireturn, 1) := by decide +kernel
theorem dX8_isByte_0 : decode cX8_isByte 0 = .ok (.iload_n 1, 1) := by decide +kernel
theorem dX8_isByte_1 : decode cX8_isByte 1 = .ok (.aload_n 0, 1) := by decide +kernel
theorem dX8_isByte_2 : decode cX8_isByte 2 = .ok (.getfield 145, 3) := by decide +kernel
theorem dX8_isByte_5 : decode cX8_isByte 5 = .ok (.if_icmp .ge 22, 3) := by decide +kernel
theorem dX8_isByte_8 : decode cX8_isByte 8 = .ok (.aload_n 0, 1) := by decide +kernel
theorem dX8_isByte_9 : decode cX8_isByte 9 = .ok (.getfield 28, 3) := by decide +kernel
theorem dX8_isByte_12 : decode cX8_isByte 12 = .ok (.iload_n 1, 1) := by decide +kernel
theorem dX8_isByte_13 : decode cX8_isByte 13 = .ok (.iaload, 1) := by decide +kernel
theorem dX8_isByte_14 : decode cX8_isByte 14 = .ok (.i2l, 1) := by decide +kernel
theorem dX8_isByte_15 : decode cX8_isByte 15 = .ok (.iload_n 2, 1) := by decide +kernel
theorem dX8_isByte_16 : decode cX8_isByte 16 = .ok (.iload_n 3, 1) := by decide +kernel
theorem dX8_isByte_17 : decode cX8_isByte 17 = .ok (.invokestatic 47, 3) := by decide +kernel
theorem dX8_isByte_20 : decode cX8_isByte 20 = .ok (.ifCond .eq 7, 3) := by decide +kernel
theorem dX8_isByte_23 : decode cX8_isByte 23 = .ok (.iconst 1, 1) := by decide +kernel
theorem dX8_isByte_24 : decode cX8_isByte 24 = .ok (.goto 4, 3) := by decide +kernel
theorem dX8_isByte_27 : decode cX8_isByte 27 = .ok (.iconst 0, 1) := by decide +kernel
theorem dX8_isByte_28 : decode cX8_isByte 28 = .ok (.ireturn, 1) := by decide +kernel
theorem dX8_isName_0 : decode cX8_isName 0 = .ok (.iload_n 2, 1) := by decide +kernel
theorem dX8_isName_1 : decode cX8_isName 1 = .ok (.bipush 7, 2) := by decide +kernel
theorem dX8_isName_3 : decode cX8_isName 3 = .ok (.if_icmp .gt 26, 3) := by decide +kernel
theorem dX8_isName_6 : decode cX8_isName 6 = .ok (.iload_n 2, 1) := by decide +kernel
theorem dX8_isName_7 : decode cX8_isName 7 = .ok (.bipush 7, 2) := by decide +kernel
theorem dX8_isName_9 : decode cX8_isName 9 = .ok (.if_icmp .eq 16, 3) := by decide +kernel
theorem dX8_isName_12 : decode cX8_isName 12 = .ok (.getstatic 149, 3) := by decide +kernel
theorem dX8_isName_15 : decode cX8_isName 15 = .ok (.bipush 7, 2) := by decide +kernel
theorem dX8_isName_17 : decode cX8_isName 17 = .ok (.iload_n 1, 1) := by decide +kernel
theorem dX8_isName_18 : decode cX8_isName 18 = .ok (.imul, 1) := by decide +kernel
theorem dX8_isName_19 : decode cX8_isName 19 = .ok (.iload_n 2, 1) := by decide +kernel
theorem dX8_isName_20 : decode cX8_isName 20 = .ok (.iadd, 1) := by decide +kernel
theorem dX8_isName_21 : decode cX8_isName 21 = .ok (.iaload, 1) := by decide +kernel
theorem dX8_isName_22 : decode cX8_isName 22 = .ok (.ifCond .ne 7, 3) := by decide +kernel
theorem dX8_isName_25 : decode cX8_isName 25 = .ok (.iconst 1, 1) := by decide +kernel
theorem dX8_isName_26 : decode cX8_isName 26 = .ok (.goto 4, 3) := by decide +kernel
theorem dX8_isName_29 : decode cX8_isName 29 = .ok (.iconst 0, 1) := by decide +kernel
theorem dX8_isName_30 : decode cX8_isName 30 = .ok (.istore_n 3, 1) := by decide +kernel
theorem dX8_isName_31 : decode cX8_isName 31 = .ok (.iconst 0, 1) := by decide +kernel
theorem dX8_isName_32 : decode cX8_isName 32 = .ok (.istore 4, 2) := by decide +kernel
theorem dX8_isName_34 : decode cX8_isName 34 = .ok (.iload 4, 2) := by decide +kernel
theorem dX8_isName_36 : decode cX8_isName 36 = .ok (.iload_n 2, 1) := by decide +kernel
theorem dX8_isName_37 : decode cX8_isName 37 = .ok (.if_icmp .ge 45, 3) := by decide +kernel
theorem dX8_isName_40 : decode cX8_isName 40 = .ok (.iload_n 3, 1) := by decide +kernel
theorem dX8_isName_41 : decode cX8_isName 41 = .ok (.ifCond .eq 41, 3) := by decide +kernel
theorem dX8_isName_44 : decode cX8_isName 44 = .ok (.getstatic 149, 3) := by decide +kernel
theorem dX8_isName_47 : decode cX8_isName 47 = .ok (.bipush 7, 2) := by decide +kernel
theorem dX8_isName_49 : decode cX8_isName 49 = .ok (.iload_n 1, 1) := by decide +kernel
theorem dX8_isName_50 : decode cX8_isName 50 = .ok (.imul, 1) := by decide +kernel
theorem dX8_isName_51 : decode cX8_isName 51 = .ok (.iload 4, 2) := by decide +kernel
theorem dX8_isName_53 : decode cX8_isName 53 = .ok (.iadd, 1) := by decide +kernel
theorem dX8_isName_54 : decode cX8_isName 54 = .ok (.iaload, 1) := by decide +kernel
theorem dX8_isName_55 : decode cX8_isName 55 = .ok (.aload_n 0, 1) := by decide +kernel
theorem dX8_isName_56 : decode cX8_isName 56 = .ok (.getfield 28, 3) := by decide +kernel
theorem dX8_isName_59 : decode cX8_isName 59 = .ok (.aload_n 0, 1) := by decide +kernel
theorem dX8_isName_60 : decode cX8_isName 60 = .ok (.getfield 152, 3) := by decide +kernel
theorem dX8_isName_63 : decode cX8_isName 63 = .ok (.iload 4, 2) := by decide +kernel
theorem dX8_isName_65 : decode cX8_isName 65 = .ok (.iadd, 1) := by decide +kernel
theorem dX8_isName_66 : decode cX8_isName 66 = .ok (.iaload, 1) := by decide +kernel
theorem dX8_isName_67 : decode cX8_isName 67 = .ok (.if_icmp .ne 7, 3) := by decide +kernel
theorem dX8_isName_70 : decode cX8_isName 70 = .ok (.iconst 1, 1) := by decide +kernel
theorem dX8_isName_71 : decode cX8_isName 71 = .ok (.goto 4, 3) := by decide +kernel
theorem dX8_isName_74 : decode cX8_isName 74 = .ok (.iconst 0, 1) := by decide +kernel
theorem dX8_isName_75 : decode cX8_isName 75 = .ok (.istore_n 3, 1) := by decide +kernel
theorem dX8_isName_76 : decode cX8_isName 76 = .ok (.iinc 4 1, 3) := by decide +kernel
theorem dX8_isName_79 : decode cX8_isName 79 = .ok (.goto (-45), 3) := by decide +kernel
theorem dX8_isName_82 : decode cX8_isName 82 = .ok (.iload_n 3, 1) := by decide +kernel
theorem dX8_isName_83 : decode cX8_isName 83 = .ok (.ireturn, 1) := by decide +kernel
theorem dX8_wordHere_0 : decode cX8_wordHere 0 = .ok (.iconst 0, 1) := by decide +kernel
theorem dX8_wordHere_1 : decode cX8_wordHere 1 = .ok (.istore_n 1, 1) := by decide +kernel
theorem dX8_wordHere_2 : decode cX8_wordHere 2 = .ok (.iload_n 1, 1) := by decide +kernel
theorem dX8_wordHere_3 : decode cX8_wordHere 3 = .ok (.bipush 12, 2) := by decide +kernel
theorem dX8_wordHere_5 : decode cX8_wordHere 5 = .ok (.if_icmp .ge 26, 3) := by decide +kernel
theorem dX8_wordHere_8 : decode cX8_wordHere 8 = .ok (.aload_n 0, 1) := by decide +kernel
theorem dX8_wordHere_9 : decode cX8_wordHere 9 = .ok (.iload_n 1, 1) := by decide +kernel
theorem dX8_wordHere_10 : decode cX8_wordHere 10 = .ok (.aload_n 0, 1) := by decide +kernel
theorem dX8_wordHere_11 : decode cX8_wordHere 11 = .ok (.getfield 155, 3) := by decide +kernel
theorem dX8_wordHere_14 : decode cX8_wordHere 14 = .ok (.aload_n 0, 1) := by decide +kernel
theorem dX8_wordHere_15 : decode cX8_wordHere 15 = .ok (.getfield 152, 3) := by decide +kernel
theorem dX8_wordHere_18 : decode cX8_wordHere 18 = .ok (.isub, 1) := by decide +kernel
theorem dX8_wordHere_19 : decode cX8_wordHere 19 = .ok (.invokevirtual 158, 3) := by decide +kernel
theorem dX8_wordHere_22 : decode cX8_wordHere 22 = .ok (.ifCond .ne 9, 3) := by decide +kernel
theorem dX8_wordHere_25 : decode cX8_wordHere 25 = .ok (.iinc 1 1, 3) := by decide +kernel
theorem dX8_wordHere_28 : decode cX8_wordHere 28 = .ok (.goto (-26), 3) := by decide +kernel
theorem dX8_wordHere_31 : decode cX8_wordHere 31 = .ok (.iload_n 1, 1) := by decide +kernel
theorem dX8_wordHere_32 : decode cX8_wordHere 32 = .ok (.bipush 12, 2) := by decide +kernel
theorem dX8_wordHere_34 : decode cX8_wordHere 34 = .ok (.if_icmp .ge 7, 3) := by decide +kernel
theorem dX8_wordHere_37 : decode cX8_wordHere 37 = .ok (.iload_n 1, 1) := by decide +kernel
theorem dX8_wordHere_38 : decode cX8_wordHere 38 = .ok (.goto 5, 3) := by decide +kernel
theorem dX8_wordHere_41 : decode cX8_wordHere 41 = .ok (.bipush 23, 2) := by decide +kernel
theorem dX8_wordHere_43 : decode cX8_wordHere 43 = .ok (.ireturn, 1) := by decide +kernel
theorem dX8_reads_0 : decode cX8_reads 0 = .ok (.aload_n 0, 1) := by decide +kernel
theorem dX8_reads_1 : decode cX8_reads 1 = .ok (.aload_n 0, 1) := by decide +kernel
theorem dX8_reads_2 : decode cX8_reads 2 = .ok (.getfield 155, 3) := by decide +kernel
theorem dX8_reads_5 : decode cX8_reads 5 = .ok (.bipush 32, 2) := by decide +kernel
theorem dX8_reads_7 : decode cX8_reads 7 = .ok (.bipush 32, 2) := by decide +kernel
theorem dX8_reads_9 : decode cX8_reads 9 = .ok (.invokevirtual 161, 3) := by decide +kernel
theorem dX8_reads_12 : decode cX8_reads 12 = .ok (.ifCond .eq 16, 3) := by decide +kernel
theorem dX8_reads_15 : decode cX8_reads 15 = .ok (.aload_n 0, 1) := by decide +kernel
theorem dX8_reads_16 : decode cX8_reads 16 = .ok (.dup, 1) := by decide +kernel
theorem dX8_reads_17 : decode cX8_reads 17 = .ok (.getfield 155, 3) := by decide +kernel
theorem dX8_reads_20 : decode cX8_reads 20 = .ok (.iconst 1, 1) := by decide +kernel
theorem dX8_reads_21 : decode cX8_reads 21 = .ok (.iadd, 1) := by decide +kernel
theorem dX8_reads_22 : decode cX8_reads 22 = .ok (.putfield 155, 3) := by decide +kernel
theorem dX8_reads_25 : decode cX8_reads 25 = .ok (.goto (-25), 3) := by decide +kernel
theorem dX8_reads_28 : decode cX8_reads 28 = .ok (.aload_n 0, 1) := by decide +kernel
theorem dX8_reads_29 : decode cX8_reads 29 = .ok (.aload_n 0, 1) := by decide +kernel
theorem dX8_reads_30 : decode cX8_reads 30 = .ok (.getfield 155, 3) := by decide +kernel
theorem dX8_reads_33 : decode cX8_reads 33 = .ok (.putfield 152, 3) := by decide +kernel
theorem dX8_reads_36 : decode cX8_reads 36 = .ok (.aload_n 0, 1) := by decide +kernel
theorem dX8_reads_37 : decode cX8_reads 37 = .ok (.iconst 0, 1) := by decide +kernel
theorem dX8_reads_38 : decode cX8_reads 38 = .ok (.putfield 165, 3) := by decide +kernel
theorem dX8_reads_41 : decode cX8_reads 41 = .ok (.aload_n 0, 1) := by decide +kernel
theorem dX8_reads_42 : decode cX8_reads 42 = .ok (.getfield 155, 3) := by decide +kernel
theorem dX8_reads_45 : decode cX8_reads 45 = .ok (.aload_n 0, 1) := by decide +kernel
theorem dX8_reads_46 : decode cX8_reads 46 = .ok (.getfield 145, 3) := by decide +kernel
theorem dX8_reads_49 : decode cX8_reads 49 = .ok (.if_icmp .ne 12, 3) := by decide +kernel
theorem dX8_reads_52 : decode cX8_reads 52 = .ok (.aload_n 0, 1) := by decide +kernel
theorem dX8_reads_53 : decode cX8_reads 53 = .ok (.bipush 22, 2) := by decide +kernel
theorem dX8_reads_55 : decode cX8_reads 55 = .ok (.putfield 168, 3) := by decide +kernel
theorem dX8_reads_58 : decode cX8_reads 58 = .ok (.goto 186, 3) := by decide +kernel
theorem dX8_reads_61 : decode cX8_reads 61 = .ok (.aload_n 0, 1) := by decide +kernel
theorem dX8_reads_62 : decode cX8_reads 62 = .ok (.aload_n 0, 1) := by decide +kernel
theorem dX8_reads_63 : decode cX8_reads 63 = .ok (.getfield 155, 3) := by decide +kernel
theorem dX8_reads_66 : decode cX8_reads 66 = .ok (.bipush 97, 2) := by decide +kernel
theorem dX8_reads_68 : decode cX8_reads 68 = .ok (.bipush 122, 2) := by decide +kernel
theorem dX8_reads_70 : decode cX8_reads 70 = .ok (.invokevirtual 161, 3) := by decide +kernel
theorem dX8_reads_73 : decode cX8_reads 73 = .ok (.ifCond .eq 42, 3) := by decide +kernel
theorem dX8_reads_76 : decode cX8_reads 76 = .ok (.aload_n 0, 1) := by decide +kernel
theorem dX8_reads_77 : decode cX8_reads 77 = .ok (.aload_n 0, 1) := by decide +kernel
theorem dX8_reads_78 : decode cX8_reads 78 = .ok (.getfield 155, 3) := by decide +kernel
theorem dX8_reads_81 : decode cX8_reads 81 = .ok (.bipush 97, 2) := by decide +kernel
theorem dX8_reads_83 : decode cX8_reads 83 = .ok (.bipush 122, 2) := by decide +kernel
theorem dX8_reads_85 : decode cX8_reads 85 = .ok (.invokevirtual 161, 3) := by decide +kernel
theorem dX8_reads_88 : decode cX8_reads 88 = .ok (.ifCond .eq 16, 3) := by decide +kernel
theorem dX8_reads_91 : decode cX8_reads 91 = .ok (.aload_n 0, 1) := by decide +kernel
theorem dX8_reads_92 : decode cX8_reads 92 = .ok (.dup, 1) := by decide +kernel
theorem dX8_reads_93 : decode cX8_reads 93 = .ok (.getfield 155, 3) := by decide +kernel
theorem dX8_reads_96 : decode cX8_reads 96 = .ok (.iconst 1, 1) := by decide +kernel
theorem dX8_reads_97 : decode cX8_reads 97 = .ok (.iadd, 1) := by decide +kernel
theorem dX8_reads_98 : decode cX8_reads 98 = .ok (.putfield 155, 3) := by decide +kernel
theorem dX8_reads_101 : decode cX8_reads 101 = .ok (.goto (-25), 3) := by decide +kernel
theorem dX8_reads_104 : decode cX8_reads 104 = .ok (.aload_n 0, 1) := by decide +kernel
theorem dX8_reads_105 : decode cX8_reads 105 = .ok (.aload_n 0, 1) := by decide +kernel
theorem dX8_reads_106 : decode cX8_reads 106 = .ok (.invokevirtual 171, 3) := by decide +kernel
theorem dX8_reads_109 : decode cX8_reads 109 = .ok (.putfield 168, 3) := by decide +kernel
theorem dX8_reads_112 : decode cX8_reads 112 = .ok (.goto 132, 3) := by decide +kernel
theorem dX8_reads_115 : decode cX8_reads 115 = .ok (.aload_n 0, 1) := by decide +kernel
theorem dX8_reads_116 : decode cX8_reads 116 = .ok (.aload_n 0, 1) := by decide +kernel
theorem dX8_reads_117 : decode cX8_reads 117 = .ok (.getfield 155, 3) := by decide +kernel
theorem dX8_reads_120 : decode cX8_reads 120 = .ok (.bipush 48, 2) := by decide +kernel
theorem dX8_reads_122 : decode cX8_reads 122 = .ok (.bipush 57, 2) := by decide +kernel
theorem dX8_reads_124 : decode cX8_reads 124 = .ok (.invokevirtual 161, 3) := by decide +kernel
theorem dX8_reads_127 : decode cX8_reads 127 = .ok (.ifCond .eq 81, 3) := by decide +kernel
theorem dX8_reads_130 : decode cX8_reads 130 = .ok (.aload_n 0, 1) := by decide +kernel
theorem dX8_reads_131 : decode cX8_reads 131 = .ok (.aload_n 0, 1) := by decide +kernel
theorem dX8_reads_132 : decode cX8_reads 132 = .ok (.getfield 155, 3) := by decide +kernel
theorem dX8_reads_135 : decode cX8_reads 135 = .ok (.bipush 48, 2) := by decide +kernel
theorem dX8_reads_137 : decode cX8_reads 137 = .ok (.bipush 57, 2) := by decide +kernel
theorem dX8_reads_139 : decode cX8_reads 139 = .ok (.invokevirtual 161, 3) := by decide +kernel
theorem dX8_reads_142 : decode cX8_reads 142 = .ok (.ifCond .eq 57, 3) := by decide +kernel
theorem dX8_reads_145 : decode cX8_reads 145 = .ok (.aload_n 0, 1) := by decide +kernel
theorem dX8_reads_146 : decode cX8_reads 146 = .ok (.aload_n 0, 1) := by decide +kernel
theorem dX8_reads_147 : decode cX8_reads 147 = .ok (.getfield 165, 3) := by decide +kernel
theorem dX8_reads_150 : decode cX8_reads 150 = .ok (.sipush 999, 3) := by decide +kernel
theorem dX8_reads_153 : decode cX8_reads 153 = .ok (.if_icmp .le 10, 3) := by decide +kernel
theorem dX8_reads_156 : decode cX8_reads 156 = .ok (.aload_n 0, 1) := by decide +kernel
theorem dX8_reads_157 : decode cX8_reads 157 = .ok (.getfield 165, 3) := by decide +kernel
theorem dX8_reads_160 : decode cX8_reads 160 = .ok (.goto 23, 3) := by decide +kernel
theorem dX8_reads_163 : decode cX8_reads 163 = .ok (.bipush 10, 2) := by decide +kernel
theorem dX8_reads_165 : decode cX8_reads 165 = .ok (.aload_n 0, 1) := by decide +kernel
theorem dX8_reads_166 : decode cX8_reads 166 = .ok (.getfield 165, 3) := by decide +kernel
theorem dX8_reads_169 : decode cX8_reads 169 = .ok (.imul, 1) := by decide +kernel
theorem dX8_reads_170 : decode cX8_reads 170 = .ok (.aload_n 0, 1) := by decide +kernel
theorem dX8_reads_171 : decode cX8_reads 171 = .ok (.getfield 28, 3) := by decide +kernel
theorem dX8_reads_174 : decode cX8_reads 174 = .ok (.aload_n 0, 1) := by decide +kernel
theorem dX8_reads_175 : decode cX8_reads 175 = .ok (.getfield 155, 3) := by decide +kernel
theorem dX8_reads_178 : decode cX8_reads 178 = .ok (.iaload, 1) := by decide +kernel
theorem dX8_reads_179 : decode cX8_reads 179 = .ok (.iadd, 1) := by decide +kernel
theorem dX8_reads_180 : decode cX8_reads 180 = .ok (.bipush 48, 2) := by decide +kernel
theorem dX8_reads_182 : decode cX8_reads 182 = .ok (.isub, 1) := by decide +kernel
theorem dX8_reads_183 : decode cX8_reads 183 = .ok (.putfield 165, 3) := by decide +kernel
theorem dX8_reads_186 : decode cX8_reads 186 = .ok (.aload_n 0, 1) := by decide +kernel
theorem dX8_reads_187 : decode cX8_reads 187 = .ok (.dup, 1) := by decide +kernel
theorem dX8_reads_188 : decode cX8_reads 188 = .ok (.getfield 155, 3) := by decide +kernel
theorem dX8_reads_191 : decode cX8_reads 191 = .ok (.iconst 1, 1) := by decide +kernel
theorem dX8_reads_192 : decode cX8_reads 192 = .ok (.iadd, 1) := by decide +kernel
theorem dX8_reads_193 : decode cX8_reads 193 = .ok (.putfield 155, 3) := by decide +kernel
theorem dX8_reads_196 : decode cX8_reads 196 = .ok (.goto (-66), 3) := by decide +kernel
theorem dX8_reads_199 : decode cX8_reads 199 = .ok (.aload_n 0, 1) := by decide +kernel
theorem dX8_reads_200 : decode cX8_reads 200 = .ok (.bipush 20, 2) := by decide +kernel
theorem dX8_reads_202 : decode cX8_reads 202 = .ok (.putfield 168, 3) := by decide +kernel
theorem dX8_reads_205 : decode cX8_reads 205 = .ok (.goto 39, 3) := by decide +kernel
theorem dX8_reads_208 : decode cX8_reads 208 = .ok (.aload_n 0, 1) := by decide +kernel
theorem dX8_reads_209 : decode cX8_reads 209 = .ok (.aload_n 0, 1) := by decide +kernel
theorem dX8_reads_210 : decode cX8_reads 210 = .ok (.aload_n 0, 1) := by decide +kernel
theorem dX8_reads_211 : decode cX8_reads 211 = .ok (.getfield 155, 3) := by decide +kernel
theorem dX8_reads_214 : decode cX8_reads 214 = .ok (.bipush 59, 2) := by decide +kernel
theorem dX8_reads_216 : decode cX8_reads 216 = .ok (.bipush 59, 2) := by decide +kernel
theorem dX8_reads_218 : decode cX8_reads 218 = .ok (.invokevirtual 161, 3) := by decide +kernel
theorem dX8_reads_221 : decode cX8_reads 221 = .ok (.ifCond .eq 8, 3) := by decide +kernel
theorem dX8_reads_224 : decode cX8_reads 224 = .ok (.bipush 21, 2) := by decide +kernel
theorem dX8_reads_226 : decode cX8_reads 226 = .ok (.goto 5, 3) := by decide +kernel
theorem dX8_reads_229 : decode cX8_reads 229 = .ok (.bipush 23, 2) := by decide +kernel
theorem dX8_reads_231 : decode cX8_reads 231 = .ok (.putfield 168, 3) := by decide +kernel
theorem dX8_reads_234 : decode cX8_reads 234 = .ok (.aload_n 0, 1) := by decide +kernel
theorem dX8_reads_235 : decode cX8_reads 235 = .ok (.dup, 1) := by decide +kernel
theorem dX8_reads_236 : decode cX8_reads 236 = .ok (.getfield 155, 3) := by decide +kernel
theorem dX8_reads_239 : decode cX8_reads 239 = .ok (.iconst 1, 1) := by decide +kernel
theorem dX8_reads_240 : decode cX8_reads 240 = .ok (.iadd, 1) := by decide +kernel
theorem dX8_reads_241 : decode cX8_reads 241 = .ok (.putfield 155, 3) := by decide +kernel
theorem dX8_reads_244 : decode cX8_reads 244 = .ok (.return_, 1) := by decide +kernel
theorem dX8_passes_0 : decode cX8_passes 0 = .ok (.aload_n 0, 1) := by decide +kernel
theorem dX8_passes_1 : decode cX8_passes 1 = .ok (.getfield 174, 3) := by decide +kernel
theorem dX8_passes_4 : decode cX8_passes 4 = .ok (.ifCond .ne 11, 3) := by decide +kernel
theorem dX8_passes_7 : decode cX8_passes 7 = .ok (.aload_n 0, 1) := by decide +kernel
theorem dX8_passes_8 : decode cX8_passes 8 = .ok (.getfield 168, 3) := by decide +kernel
theorem dX8_passes_11 : decode cX8_passes 11 = .ok (.iload_n 1, 1) := by decide +kernel
theorem dX8_passes_12 : decode cX8_passes 12 = .ok (.if_icmp .eq 5, 3) := by decide +kernel
theorem dX8_passes_15 : decode cX8_passes 15 = .ok (.iconst 0, 1) := by decide +kernel
theorem dX8_passes_16 : decode cX8_passes 16 = .ok (.ireturn, 1) := by decide +kernel
theorem dX8_passes_17 : decode cX8_passes 17 = .ok (.aload_n 0, 1) := by decide +kernel
theorem dX8_passes_18 : decode cX8_passes 18 = .ok (.invokevirtual 178, 3) := by decide +kernel
theorem dX8_passes_21 : decode cX8_passes 21 = .ok (.iconst 1, 1) := by decide +kernel
theorem dX8_passes_22 : decode cX8_passes 22 = .ok (.ireturn, 1) := by decide +kernel
theorem dX8_number_0 : decode cX8_number 0 = .ok (.aload_n 0, 1) := by decide +kernel
theorem dX8_number_1 : decode cX8_number 1 = .ok (.getfield 165, 3) := by decide +kernel
theorem dX8_number_4 : decode cX8_number 4 = .ok (.istore_n 3, 1) := by decide +kernel
theorem dX8_number_5 : decode cX8_number 5 = .ok (.aload_n 0, 1) := by decide +kernel
theorem dX8_number_6 : decode cX8_number 6 = .ok (.aload_n 0, 1) := by decide +kernel
theorem dX8_number_7 : decode cX8_number 7 = .ok (.getfield 174, 3) := by decide +kernel
theorem dX8_number_10 : decode cX8_number 10 = .ok (.ifCond .ne 22, 3) := by decide +kernel
theorem dX8_number_13 : decode cX8_number 13 = .ok (.aload_n 0, 1) := by decide +kernel
theorem dX8_number_14 : decode cX8_number 14 = .ok (.getfield 168, 3) := by decide +kernel
theorem dX8_number_17 : decode cX8_number 17 = .ok (.bipush 20, 2) := by decide +kernel
theorem dX8_number_19 : decode cX8_number 19 = .ok (.if_icmp .ne 13, 3) := by decide +kernel
theorem dX8_number_22 : decode cX8_number 22 = .ok (.iload_n 3, 1) := by decide +kernel
theorem dX8_number_23 : decode cX8_number 23 = .ok (.i2l, 1) := by decide +kernel
theorem dX8_number_24 : decode cX8_number 24 = .ok (.iload_n 1, 1) := by decide +kernel
theorem dX8_number_25 : decode cX8_number 25 = .ok (.iload_n 2, 1) := by decide +kernel
theorem dX8_number_26 : decode cX8_number 26 = .ok (.invokestatic 47, 3) := by decide +kernel
theorem dX8_number_29 : decode cX8_number 29 = .ok (.ifCond .ne 7, 3) := by decide +kernel
theorem dX8_number_32 : decode cX8_number 32 = .ok (.iconst 1, 1) := by decide +kernel
theorem dX8_number_33 : decode cX8_number 33 = .ok (.goto 4, 3) := by decide +kernel
theorem dX8_number_36 : decode cX8_number 36 = .ok (.iconst 0, 1) := by decide +kernel
theorem dX8_number_37 : decode cX8_number 37 = .ok (.putfield 174, 3) := by decide +kernel
theorem dX8_number_40 : decode cX8_number 40 = .ok (.aload_n 0, 1) := by decide +kernel
theorem dX8_number_41 : decode cX8_number 41 = .ok (.getfield 174, 3) := by decide +kernel
theorem dX8_number_44 : decode cX8_number 44 = .ok (.ifCond .ne 7, 3) := by decide +kernel
theorem dX8_number_47 : decode cX8_number 47 = .ok (.aload_n 0, 1) := by decide +kernel
theorem dX8_number_48 : decode cX8_number 48 = .ok (.invokevirtual 178, 3) := by decide +kernel
theorem dX8_number_51 : decode cX8_number 51 = .ok (.iload_n 3, 1) := by decide +kernel
theorem dX8_number_52 : decode cX8_number 52 = .ok (.ireturn, 1) := by decide +kernel
theorem dX8_perhaps_0 : decode cX8_perhaps 0 = .ok (.aload_n 0, 1) := by decide +kernel
theorem dX8_perhaps_1 : decode cX8_perhaps 1 = .ok (.iload_n 1, 1) := by decide +kernel
theorem dX8_perhaps_2 : decode cX8_perhaps 2 = .ok (.invokevirtual 181, 3) := by decide +kernel
theorem dX8_perhaps_5 : decode cX8_perhaps 5 = .ok (.ifCond .eq 12, 3) := by decide +kernel
theorem dX8_perhaps_8 : decode cX8_perhaps 8 = .ok (.aload_n 0, 1) := by decide +kernel
theorem dX8_perhaps_9 : decode cX8_perhaps 9 = .ok (.iload_n 2, 1) := by decide +kernel
theorem dX8_perhaps_10 : decode cX8_perhaps 10 = .ok (.iload_n 3, 1) := by decide +kernel
theorem dX8_perhaps_11 : decode cX8_perhaps 11 = .ok (.invokevirtual 184, 3) := by decide +kernel
theorem dX8_perhaps_14 : decode cX8_perhaps 14 = .ok (.goto 5, 3) := by decide +kernel
theorem dX8_perhaps_17 : decode cX8_perhaps 17 = .ok (.iload 4, 2) := by decide +kernel
theorem dX8_perhaps_19 : decode cX8_perhaps 19 = .ok (.ireturn, 1) := by decide +kernel
theorem dX8_thingItem_0 : decode cX8_thingItem 0 = .ok (.aload_n 0, 1) := by decide +kernel
theorem dX8_thingItem_1 : decode cX8_thingItem 1 = .ok (.getfield 168, 3) := by decide +kernel
theorem dX8_thingItem_4 : decode cX8_thingItem 4 = .ok (.istore_n 1, 1) := by decide +kernel
theorem dX8_thingItem_5 : decode cX8_thingItem 5 = .ok (.aload_n 0, 1) := by decide +kernel
theorem dX8_thingItem_6 : decode cX8_thingItem 6 = .ok (.aload_n 0, 1) := by decide +kernel
theorem dX8_thingItem_7 : decode cX8_thingItem 7 = .ok (.getfield 9, 3) := by decide +kernel
theorem dX8_thingItem_10 : decode cX8_thingItem 10 = .ok (.iconst 3, 1) := by decide +kernel
theorem dX8_thingItem_11 : decode cX8_thingItem 11 = .ok (.iaload, 1) := by decide +kernel
theorem dX8_thingItem_12 : decode cX8_thingItem 12 = .ok (.bipush 8, 2) := by decide +kernel
theorem dX8_thingItem_14 : decode cX8_thingItem 14 = .ok (.if_icmp .ne 7, 3) := by decide +kernel
theorem dX8_thingItem_17 : decode cX8_thingItem 17 = .ok (.iconst 1, 1) := by decide +kernel
theorem dX8_thingItem_18 : decode cX8_thingItem 18 = .ok (.goto 4, 3) := by decide +kernel
theorem dX8_thingItem_21 : decode cX8_thingItem 21 = .ok (.iconst 0, 1) := by decide +kernel
theorem dX8_thingItem_22 : decode cX8_thingItem 22 = .ok (.putfield 174, 3) := by decide +kernel
theorem dX8_thingItem_25 : decode cX8_thingItem 25 = .ok (.aload_n 0, 1) := by decide +kernel
theorem dX8_thingItem_26 : decode cX8_thingItem 26 = .ok (.getfield 174, 3) := by decide +kernel
theorem dX8_thingItem_29 : decode cX8_thingItem 29 = .ok (.ifCond .eq 4, 3) := by decide +kernel
theorem dX8_thingItem_32 : decode cX8_thingItem 32 = .ok (.return_, 1) := by decide +kernel
theorem dX8_thingItem_33 : decode cX8_thingItem 33 = .ok (.aload_n 0, 1) := by decide +kernel
theorem dX8_thingItem_34 : decode cX8_thingItem 34 = .ok (.invokevirtual 178, 3) := by decide +kernel
theorem dX8_thingItem_37 : decode cX8_thingItem 37 = .ok (.aload_n 0, 1) := by decide +kernel
theorem dX8_thingItem_38 : decode cX8_thingItem 38 = .ok (.aload_n 0, 1) := by decide +kernel
theorem dX8_thingItem_39 : decode cX8_thingItem 39 = .ok (.bipush 6, 2) := by decide +kernel
theorem dX8_thingItem_41 : decode cX8_thingItem 41 = .ok (.invokevirtual 181, 3) := by decide +kernel
theorem dX8_thingItem_44 : decode cX8_thingItem 44 = .ok (.ifCond .ne 7, 3) := by decide +kernel
theorem dX8_thingItem_47 : decode cX8_thingItem 47 = .ok (.iconst 1, 1) := by decide +kernel
theorem dX8_thingItem_48 : decode cX8_thingItem 48 = .ok (.goto 4, 3) := by decide +kernel
theorem dX8_thingItem_51 : decode cX8_thingItem 51 = .ok (.iconst 0, 1) := by decide +kernel
theorem dX8_thingItem_52 : decode cX8_thingItem 52 = .ok (.putfield 174, 3) := by decide +kernel
theorem dX8_thingItem_55 : decode cX8_thingItem 55 = .ok (.aload_n 0, 1) := by decide +kernel
theorem dX8_thingItem_56 : decode cX8_thingItem 56 = .ok (.iconst 0, 1) := by decide +kernel
theorem dX8_thingItem_57 : decode cX8_thingItem 57 = .ok (.bipush 35, 2) := by decide +kernel
theorem dX8_thingItem_59 : decode cX8_thingItem 59 = .ok (.invokevirtual 184, 3) := by decide +kernel
theorem dX8_thingItem_62 : decode cX8_thingItem 62 = .ok (.istore_n 2, 1) := by decide +kernel
theorem dX8_thingItem_63 : decode cX8_thingItem 63 = .ok (.aload_n 0, 1) := by decide +kernel
theorem dX8_thingItem_64 : decode cX8_thingItem 64 = .ok (.bipush 7, 2) := by decide +kernel
theorem dX8_thingItem_66 : decode cX8_thingItem 66 = .ok (.iconst 0, 1) := by decide +kernel
theorem dX8_thingItem_67 : decode cX8_thingItem 67 = .ok (.bipush 7, 2) := by decide +kernel
theorem dX8_thingItem_69 : decode cX8_thingItem 69 = .ok (.iconst 0, 1) := by decide +kernel
theorem dX8_thingItem_70 : decode cX8_thingItem 70 = .ok (.invokevirtual 187, 3) := by decide +kernel
theorem dX8_thingItem_73 : decode cX8_thingItem 73 = .ok (.istore_n 3, 1) := by decide +kernel
theorem dX8_thingItem_74 : decode cX8_thingItem 74 = .ok (.aload_n 0, 1) := by decide +kernel
theorem dX8_thingItem_75 : decode cX8_thingItem 75 = .ok (.getfield 174, 3) := by decide +kernel
theorem dX8_thingItem_78 : decode cX8_thingItem 78 = .ok (.ifCond .ne 11, 3) := by decide +kernel
theorem dX8_thingItem_81 : decode cX8_thingItem 81 = .ok (.aload_n 0, 1) := by decide +kernel
theorem dX8_thingItem_82 : decode cX8_thingItem 82 = .ok (.iload_n 1, 1) := by decide +kernel
theorem dX8_thingItem_83 : decode cX8_thingItem 83 = .ok (.iload_n 2, 1) := by decide +kernel
theorem dX8_thingItem_84 : decode cX8_thingItem 84 = .ok (.iload_n 3, 1) := by decide +kernel
theorem dX8_thingItem_85 : decode cX8_thingItem 85 = .ok (.invokevirtual 94, 3) := by decide +kernel
theorem dX8_thingItem_88 : decode cX8_thingItem 88 = .ok (.pop, 1) := by decide +kernel
theorem dX8_thingItem_89 : decode cX8_thingItem 89 = .ok (.return_, 1) := by decide +kernel
theorem dX8_rotaItem_0 : decode cX8_rotaItem 0 = .ok (.iconst 0, 1) := by decide +kernel
theorem dX8_rotaItem_1 : decode cX8_rotaItem 1 = .ok (.istore_n 1, 1) := by decide +kernel
theorem dX8_rotaItem_2 : decode cX8_rotaItem 2 = .ok (.aload_n 0, 1) := by decide +kernel
theorem dX8_rotaItem_3 : decode cX8_rotaItem 3 = .ok (.getfield 174, 3) := by decide +kernel
theorem dX8_rotaItem_6 : decode cX8_rotaItem 6 = .ok (.ifCond .ne 45, 3) := by decide +kernel
theorem dX8_rotaItem_9 : decode cX8_rotaItem 9 = .ok (.iload_n 1, 1) := by decide +kernel
theorem dX8_rotaItem_10 : decode cX8_rotaItem 10 = .ok (.bipush 7, 2) := by decide +kernel
theorem dX8_rotaItem_12 : decode cX8_rotaItem 12 = .ok (.if_icmp .ge 39, 3) := by decide +kernel
theorem dX8_rotaItem_15 : decode cX8_rotaItem 15 = .ok (.iload_n 1, 1) := by decide +kernel
theorem dX8_rotaItem_16 : decode cX8_rotaItem 16 = .ok (.ifCond .eq 12, 3) := by decide +kernel
theorem dX8_rotaItem_19 : decode cX8_rotaItem 19 = .ok (.aload_n 0, 1) := by decide +kernel
theorem dX8_rotaItem_20 : decode cX8_rotaItem 20 = .ok (.getfield 168, 3) := by decide +kernel
theorem dX8_rotaItem_23 : decode cX8_rotaItem 23 = .ok (.bipush 20, 2) := by decide +kernel
theorem dX8_rotaItem_25 : decode cX8_rotaItem 25 = .ok (.if_icmp .ne 26, 3) := by decide +kernel
theorem dX8_rotaItem_28 : decode cX8_rotaItem 28 = .ok (.aload_n 0, 1) := by decide +kernel
theorem dX8_rotaItem_29 : decode cX8_rotaItem 29 = .ok (.iconst 0, 1) := by decide +kernel
theorem dX8_rotaItem_30 : decode cX8_rotaItem 30 = .ok (.bipush 8, 2) := by decide +kernel
theorem dX8_rotaItem_32 : decode cX8_rotaItem 32 = .ok (.invokevirtual 184, 3) := by decide +kernel
theorem dX8_rotaItem_35 : decode cX8_rotaItem 35 = .ok (.istore_n 2, 1) := by decide +kernel
theorem dX8_rotaItem_36 : decode cX8_rotaItem 36 = .ok (.aload_n 0, 1) := by decide +kernel
theorem dX8_rotaItem_37 : decode cX8_rotaItem 37 = .ok (.getfield 9, 3) := by decide +kernel
theorem dX8_rotaItem_40 : decode cX8_rotaItem 40 = .ok (.iconst 4, 1) := by decide +kernel
theorem dX8_rotaItem_41 : decode cX8_rotaItem 41 = .ok (.iload_n 1, 1) := by decide +kernel
theorem dX8_rotaItem_42 : decode cX8_rotaItem 42 = .ok (.iadd, 1) := by decide +kernel
theorem dX8_rotaItem_43 : decode cX8_rotaItem 43 = .ok (.iload_n 2, 1) := by decide +kernel
theorem dX8_rotaItem_44 : decode cX8_rotaItem 44 = .ok (.iastore, 1) := by decide +kernel
theorem dX8_rotaItem_45 : decode cX8_rotaItem 45 = .ok (.iinc 1 1, 3) := by decide +kernel
theorem dX8_rotaItem_48 : decode cX8_rotaItem 48 = .ok (.goto (-46), 3) := by decide +kernel
theorem dX8_rotaItem_51 : decode cX8_rotaItem 51 = .ok (.return_, 1) := by decide +kernel
theorem dX8_item_0 : decode cX8_item 0 = .ok (.aload_n 0, 1) := by decide +kernel
theorem dX8_item_1 : decode cX8_item 1 = .ok (.getfield 168, 3) := by decide +kernel
theorem dX8_item_4 : decode cX8_item 4 = .ok (.iconst 5, 1) := by decide +kernel
theorem dX8_item_5 : decode cX8_item 5 = .ok (.if_icmp .gt 10, 3) := by decide +kernel
theorem dX8_item_8 : decode cX8_item 8 = .ok (.aload_n 0, 1) := by decide +kernel
theorem dX8_item_9 : decode cX8_item 9 = .ok (.invokevirtual 191, 3) := by decide +kernel
theorem dX8_item_12 : decode cX8_item 12 = .ok (.goto 110, 3) := by decide +kernel
theorem dX8_item_15 : decode cX8_item 15 = .ok (.aload_n 0, 1) := by decide +kernel
theorem dX8_item_16 : decode cX8_item 16 = .ok (.bipush 8, 2) := by decide +kernel
theorem dX8_item_18 : decode cX8_item 18 = .ok (.invokevirtual 181, 3) := by decide +kernel
theorem dX8_item_21 : decode cX8_item 21 = .ok (.ifCond .eq 10, 3) := by decide +kernel
theorem dX8_item_24 : decode cX8_item 24 = .ok (.aload_n 0, 1) := by decide +kernel
theorem dX8_item_25 : decode cX8_item 25 = .ok (.invokevirtual 194, 3) := by decide +kernel
theorem dX8_item_28 : decode cX8_item 28 = .ok (.goto 94, 3) := by decide +kernel
theorem dX8_item_31 : decode cX8_item 31 = .ok (.aload_n 0, 1) := by decide +kernel
theorem dX8_item_32 : decode cX8_item 32 = .ok (.getfield 168, 3) := by decide +kernel
theorem dX8_item_35 : decode cX8_item 35 = .ok (.bipush 9, 2) := by decide +kernel
theorem dX8_item_37 : decode cX8_item 37 = .ok (.if_icmp .eq 12, 3) := by decide +kernel
theorem dX8_item_40 : decode cX8_item 40 = .ok (.aload_n 0, 1) := by decide +kernel
theorem dX8_item_41 : decode cX8_item 41 = .ok (.getfield 168, 3) := by decide +kernel
theorem dX8_item_44 : decode cX8_item 44 = .ok (.bipush 10, 2) := by decide +kernel
theorem dX8_item_46 : decode cX8_item 46 = .ok (.if_icmp .ne 46, 3) := by decide +kernel
theorem dX8_item_49 : decode cX8_item 49 = .ok (.aload_n 0, 1) := by decide +kernel
theorem dX8_item_50 : decode cX8_item 50 = .ok (.getfield 168, 3) := by decide +kernel
theorem dX8_item_53 : decode cX8_item 53 = .ok (.bipush 9, 2) := by decide +kernel
theorem dX8_item_55 : decode cX8_item 55 = .ok (.if_icmp .ne 7, 3) := by decide +kernel
theorem dX8_item_58 : decode cX8_item 58 = .ok (.iconst 1, 1) := by decide +kernel
theorem dX8_item_59 : decode cX8_item 59 = .ok (.goto 4, 3) := by decide +kernel
theorem dX8_item_62 : decode cX8_item 62 = .ok (.iconst 0, 1) := by decide +kernel
theorem dX8_item_63 : decode cX8_item 63 = .ok (.istore_n 1, 1) := by decide +kernel
theorem dX8_item_64 : decode cX8_item 64 = .ok (.aload_n 0, 1) := by decide +kernel
theorem dX8_item_65 : decode cX8_item 65 = .ok (.invokevirtual 178, 3) := by decide +kernel
theorem dX8_item_68 : decode cX8_item 68 = .ok (.aload_n 0, 1) := by decide +kernel
theorem dX8_item_69 : decode cX8_item 69 = .ok (.iconst 0, 1) := by decide +kernel
theorem dX8_item_70 : decode cX8_item 70 = .ok (.bipush 7, 2) := by decide +kernel
theorem dX8_item_72 : decode cX8_item 72 = .ok (.invokevirtual 184, 3) := by decide +kernel
theorem dX8_item_75 : decode cX8_item 75 = .ok (.istore_n 2, 1) := by decide +kernel
theorem dX8_item_76 : decode cX8_item 76 = .ok (.aload_n 0, 1) := by decide +kernel
theorem dX8_item_77 : decode cX8_item 77 = .ok (.getfield 174, 3) := by decide +kernel
theorem dX8_item_80 : decode cX8_item 80 = .ok (.ifCond .ne 9, 3) := by decide +kernel
theorem dX8_item_83 : decode cX8_item 83 = .ok (.aload_n 0, 1) := by decide +kernel
theorem dX8_item_84 : decode cX8_item 84 = .ok (.iload_n 2, 1) := by decide +kernel
theorem dX8_item_85 : decode cX8_item 85 = .ok (.iload_n 1, 1) := by decide +kernel
theorem dX8_item_86 : decode cX8_item 86 = .ok (.invokevirtual 59, 3) := by decide +kernel
theorem dX8_item_89 : decode cX8_item 89 = .ok (.goto 33, 3) := by decide +kernel
theorem dX8_item_92 : decode cX8_item 92 = .ok (.aload_n 0, 1) := by decide +kernel
theorem dX8_item_93 : decode cX8_item 93 = .ok (.bipush 11, 2) := by decide +kernel
theorem dX8_item_95 : decode cX8_item 95 = .ok (.invokevirtual 181, 3) := by decide +kernel
theorem dX8_item_98 : decode cX8_item 98 = .ok (.ifCond .eq 19, 3) := by decide +kernel
theorem dX8_item_101 : decode cX8_item 101 = .ok (.aload_n 0, 1) := by decide +kernel
theorem dX8_item_102 : decode cX8_item 102 = .ok (.getfield 9, 3) := by decide +kernel
theorem dX8_item_105 : decode cX8_item 105 = .ok (.iconst 1, 1) := by decide +kernel
theorem dX8_item_106 : decode cX8_item 106 = .ok (.aload_n 0, 1) := by decide +kernel
theorem dX8_item_107 : decode cX8_item 107 = .ok (.iconst 0, 1) := by decide +kernel
theorem dX8_item_108 : decode cX8_item 108 = .ok (.bipush 9, 2) := by decide +kernel
theorem dX8_item_110 : decode cX8_item 110 = .ok (.invokevirtual 184, 3) := by decide +kernel
theorem dX8_item_113 : decode cX8_item 113 = .ok (.iastore, 1) := by decide +kernel
theorem dX8_item_114 : decode cX8_item 114 = .ok (.goto 8, 3) := by decide +kernel
theorem dX8_item_117 : decode cX8_item 117 = .ok (.aload_n 0, 1) := by decide +kernel
theorem dX8_item_118 : decode cX8_item 118 = .ok (.iconst 1, 1) := by decide +kernel
theorem dX8_item_119 : decode cX8_item 119 = .ok (.putfield 174, 3) := by decide +kernel
theorem dX8_item_122 : decode cX8_item 122 = .ok (.return_, 1) := by decide +kernel
theorem dX8_sea_0 : decode cX8_sea 0 = .ok (.aload_n 0, 1) := by decide +kernel
theorem dX8_sea_1 : decode cX8_sea 1 = .ok (.invokevirtual 124, 3) := by decide +kernel
theorem dX8_sea_4 : decode cX8_sea 4 = .ok (.aload_n 0, 1) := by decide +kernel
theorem dX8_sea_5 : decode cX8_sea 5 = .ok (.iconst 0, 1) := by decide +kernel
theorem dX8_sea_6 : decode cX8_sea 6 = .ok (.putfield 155, 3) := by decide +kernel
theorem dX8_sea_9 : decode cX8_sea 9 = .ok (.aload_n 0, 1) := by decide +kernel
theorem dX8_sea_10 : decode cX8_sea 10 = .ok (.iconst 0, 1) := by decide +kernel
theorem dX8_sea_11 : decode cX8_sea 11 = .ok (.putfield 174, 3) := by decide +kernel
theorem dX8_sea_14 : decode cX8_sea 14 = .ok (.aload_n 0, 1) := by decide +kernel
theorem dX8_sea_15 : decode cX8_sea 15 = .ok (.invokevirtual 178, 3) := by decide +kernel
theorem dX8_sea_18 : decode cX8_sea 18 = .ok (.aload_n 0, 1) := by decide +kernel
theorem dX8_sea_19 : decode cX8_sea 19 = .ok (.invokevirtual 197, 3) := by decide +kernel
theorem dX8_sea_22 : decode cX8_sea 22 = .ok (.iconst 1, 1) := by decide +kernel
theorem dX8_sea_23 : decode cX8_sea 23 = .ok (.istore_n 1, 1) := by decide +kernel
theorem dX8_sea_24 : decode cX8_sea 24 = .ok (.aload_n 0, 1) := by decide +kernel
theorem dX8_sea_25 : decode cX8_sea 25 = .ok (.bipush 21, 2) := by decide +kernel
theorem dX8_sea_27 : decode cX8_sea 27 = .ok (.invokevirtual 181, 3) := by decide +kernel
theorem dX8_sea_30 : decode cX8_sea 30 = .ok (.ifCond .eq 13, 3) := by decide +kernel
theorem dX8_sea_33 : decode cX8_sea 33 = .ok (.aload_n 0, 1) := by decide +kernel
theorem dX8_sea_34 : decode cX8_sea 34 = .ok (.invokevirtual 197, 3) := by decide +kernel
theorem dX8_sea_37 : decode cX8_sea 37 = .ok (.iinc 1 1, 3) := by decide +kernel
theorem dX8_sea_40 : decode cX8_sea 40 = .ok (.goto (-16), 3) := by decide +kernel
theorem dX8_sea_43 : decode cX8_sea 43 = .ok (.aload_n 0, 1) := by decide +kernel
theorem dX8_sea_44 : decode cX8_sea 44 = .ok (.aload_n 0, 1) := by decide +kernel
theorem dX8_sea_45 : decode cX8_sea 45 = .ok (.getfield 174, 3) := by decide +kernel
theorem dX8_sea_48 : decode cX8_sea 48 = .ok (.ifCond .ne 12, 3) := by decide +kernel
theorem dX8_sea_51 : decode cX8_sea 51 = .ok (.aload_n 0, 1) := by decide +kernel
theorem dX8_sea_52 : decode cX8_sea 52 = .ok (.getfield 168, 3) := by decide +kernel
theorem dX8_sea_55 : decode cX8_sea 55 = .ok (.bipush 22, 2) := by decide +kernel
theorem dX8_sea_57 : decode cX8_sea 57 = .ok (.if_icmp .eq 7, 3) := by decide +kernel
theorem dX8_sea_60 : decode cX8_sea 60 = .ok (.iconst 1, 1) := by decide +kernel
theorem dX8_sea_61 : decode cX8_sea 61 = .ok (.goto 4, 3) := by decide +kernel
theorem dX8_sea_64 : decode cX8_sea 64 = .ok (.iconst 0, 1) := by decide +kernel
theorem dX8_sea_65 : decode cX8_sea 65 = .ok (.putfield 174, 3) := by decide +kernel
theorem dX8_sea_68 : decode cX8_sea 68 = .ok (.aload_n 0, 1) := by decide +kernel
theorem dX8_sea_69 : decode cX8_sea 69 = .ok (.iconst 0, 1) := by decide +kernel
theorem dX8_sea_70 : decode cX8_sea 70 = .ok (.putfield 145, 3) := by decide +kernel
theorem dX8_sea_73 : decode cX8_sea 73 = .ok (.aload_n 0, 1) := by decide +kernel
theorem dX8_sea_74 : decode cX8_sea 74 = .ok (.getfield 174, 3) := by decide +kernel
theorem dX8_sea_77 : decode cX8_sea 77 = .ok (.ifCond .ne 5, 3) := by decide +kernel
theorem dX8_sea_80 : decode cX8_sea 80 = .ok (.iload_n 1, 1) := by decide +kernel
theorem dX8_sea_81 : decode cX8_sea 81 = .ok (.ireturn, 1) := by decide +kernel
theorem dX8_sea_82 : decode cX8_sea 82 = .ok (.aload_n 0, 1) := by decide +kernel
theorem dX8_sea_83 : decode cX8_sea 83 = .ok (.invokevirtual 127, 3) := by decide +kernel
theorem dX8_sea_86 : decode cX8_sea 86 = .ok (.iconst (-1), 1) := by decide +kernel
theorem dX8_sea_87 : decode cX8_sea 87 = .ok (.aload_n 0, 1) := by decide +kernel
theorem dX8_sea_88 : decode cX8_sea 88 = .ok (.getfield 152, 3) := by decide +kernel
theorem dX8_sea_91 : decode cX8_sea 91 = .ok (.isub, 1) := by decide +kernel
theorem dX8_sea_92 : decode cX8_sea 92 = .ok (.ireturn, 1) := by decide +kernel
theorem dX8_isSheet_0 : decode cX8_isSheet 0 = .ok (.iload_n 0, 1) := by decide +kernel
theorem dX8_isSheet_1 : decode cX8_isSheet 1 = .ok (.i2l, 1) := by decide +kernel
theorem dX8_isSheet_2 : decode cX8_isSheet 2 = .ok (.iconst 0, 1) := by decide +kernel
theorem dX8_isSheet_3 : decode cX8_isSheet 3 = .ok (.iconst 3, 1) := by decide +kernel
theorem dX8_isSheet_4 : decode cX8_isSheet 4 = .ok (.invokestatic 47, 3) := by decide +kernel
theorem dX8_isSheet_7 : decode cX8_isSheet 7 = .ok (.ireturn, 1) := by decide +kernel
theorem dX8_sheet_0 : decode cX8_sheet 0 = .ok (.iload_n 1, 1) := by decide +kernel
theorem dX8_sheet_1 : decode cX8_sheet 1 = .ok (.invokestatic 200, 3) := by decide +kernel
theorem dX8_sheet_4 : decode cX8_sheet 4 = .ok (.ifCond .eq 25, 3) := by decide +kernel
theorem dX8_sheet_7 : decode cX8_sheet 7 = .ok (.iload_n 2, 1) := by decide +kernel
theorem dX8_sheet_8 : decode cX8_sheet 8 = .ok (.ifCond .eq 28, 3) := by decide +kernel
theorem dX8_sheet_11 : decode cX8_sheet 11 = .ok (.iload_n 2, 1) := by decide +kernel
theorem dX8_sheet_12 : decode cX8_sheet 12 = .ok (.bipush 8, 2) := by decide +kernel
theorem dX8_sheet_14 : decode cX8_sheet 14 = .ok (.if_icmp .eq 22, 3) := by decide +kernel
theorem dX8_sheet_17 : decode cX8_sheet 17 = .ok (.iload_n 2, 1) := by decide +kernel
theorem dX8_sheet_18 : decode cX8_sheet 18 = .ok (.bipush 16, 2) := by decide +kernel
theorem dX8_sheet_20 : decode cX8_sheet 20 = .ok (.if_icmp .eq 16, 3) := by decide +kernel
theorem dX8_sheet_23 : decode cX8_sheet 23 = .ok (.iload_n 2, 1) := by decide +kernel
theorem dX8_sheet_24 : decode cX8_sheet 24 = .ok (.bipush 64, 2) := by decide +kernel
theorem dX8_sheet_26 : decode cX8_sheet 26 = .ok (.if_icmp .eq 10, 3) := by decide +kernel
theorem dX8_sheet_29 : decode cX8_sheet 29 = .ok (.aload_n 0, 1) := by decide +kernel
theorem dX8_sheet_30 : decode cX8_sheet 30 = .ok (.ldc 41, 2) := by decide +kernel
theorem dX8_sheet_32 : decode cX8_sheet 32 = .ok (.invokevirtual 43, 3) := by decide +kernel
theorem dX8_sheet_35 : decode cX8_sheet 35 = .ok (.ireturn, 1) := by decide +kernel
theorem dX8_sheet_36 : decode cX8_sheet 36 = .ok (.iload_n 3, 1) := by decide +kernel
theorem dX8_sheet_37 : decode cX8_sheet 37 = .ok (.ifCond .ge 10, 3) := by decide +kernel
theorem dX8_sheet_40 : decode cX8_sheet 40 = .ok (.aload_n 0, 1) := by decide +kernel
theorem dX8_sheet_41 : decode cX8_sheet 41 = .ok (.ldc 203, 2) := by decide +kernel
theorem dX8_sheet_43 : decode cX8_sheet 43 = .ok (.invokevirtual 43, 3) := by decide +kernel
theorem dX8_sheet_46 : decode cX8_sheet 46 = .ok (.ireturn, 1) := by decide +kernel
theorem dX8_sheet_47 : decode cX8_sheet 47 = .ok (.iload_n 3, 1) := by decide +kernel
theorem dX8_sheet_48 : decode cX8_sheet 48 = .ok (.bipush 40, 2) := by decide +kernel
theorem dX8_sheet_50 : decode cX8_sheet 50 = .ok (.if_icmp .le 10, 3) := by decide +kernel
theorem dX8_sheet_53 : decode cX8_sheet 53 = .ok (.aload_n 0, 1) := by decide +kernel
theorem dX8_sheet_54 : decode cX8_sheet 54 = .ok (.ldc 41, 2) := by decide +kernel
theorem dX8_sheet_56 : decode cX8_sheet 56 = .ok (.invokevirtual 43, 3) := by decide +kernel
theorem dX8_sheet_59 : decode cX8_sheet 59 = .ok (.ireturn, 1) := by decide +kernel
theorem dX8_sheet_60 : decode cX8_sheet 60 = .ok (.aload_n 0, 1) := by decide +kernel
theorem dX8_sheet_61 : decode cX8_sheet 61 = .ok (.getfield 31, 3) := by decide +kernel
theorem dX8_sheet_64 : decode cX8_sheet 64 = .ok (.iload_n 1, 1) := by decide +kernel
theorem dX8_sheet_65 : decode cX8_sheet 65 = .ok (.iload_n 2, 1) := by decide +kernel
theorem dX8_sheet_66 : decode cX8_sheet 66 = .ok (.iastore, 1) := by decide +kernel
theorem dX8_sheet_67 : decode cX8_sheet 67 = .ok (.aload_n 0, 1) := by decide +kernel
theorem dX8_sheet_68 : decode cX8_sheet 68 = .ok (.getfield 34, 3) := by decide +kernel
theorem dX8_sheet_71 : decode cX8_sheet 71 = .ok (.iload_n 1, 1) := by decide +kernel
theorem dX8_sheet_72 : decode cX8_sheet 72 = .ok (.iload_n 2, 1) := by decide +kernel
theorem dX8_sheet_73 : decode cX8_sheet 73 = .ok (.ifCond .ne 7, 3) := by decide +kernel
theorem dX8_sheet_76 : decode cX8_sheet 76 = .ok (.iconst 0, 1) := by decide +kernel
theorem dX8_sheet_77 : decode cX8_sheet 77 = .ok (.goto 4, 3) := by decide +kernel
theorem dX8_sheet_80 : decode cX8_sheet 80 = .ok (.iload_n 3, 1) := by decide +kernel
theorem dX8_sheet_81 : decode cX8_sheet 81 = .ok (.iastore, 1) := by decide +kernel
theorem dX8_sheet_82 : decode cX8_sheet 82 = .ok (.iconst 0, 1) := by decide +kernel
theorem dX8_sheet_83 : decode cX8_sheet 83 = .ok (.istore 4, 2) := by decide +kernel
theorem dX8_sheet_85 : decode cX8_sheet 85 = .ok (.iload 4, 2) := by decide +kernel
theorem dX8_sheet_87 : decode cX8_sheet 87 = .ok (.bipush 40, 2) := by decide +kernel
theorem dX8_sheet_89 : decode cX8_sheet 89 = .ok (.if_icmp .ge 22, 3) := by decide +kernel
theorem dX8_sheet_92 : decode cX8_sheet 92 = .ok (.aload_n 0, 1) := by decide +kernel
theorem dX8_sheet_93 : decode cX8_sheet 93 = .ok (.getfield 37, 3) := by decide +kernel
theorem dX8_sheet_96 : decode cX8_sheet 96 = .ok (.bipush 40, 2) := by decide +kernel
theorem dX8_sheet_98 : decode cX8_sheet 98 = .ok (.iload_n 1, 1) := by decide +kernel
theorem dX8_sheet_99 : decode cX8_sheet 99 = .ok (.imul, 1) := by decide +kernel
theorem dX8_sheet_100 : decode cX8_sheet 100 = .ok (.iload 4, 2) := by decide +kernel
theorem dX8_sheet_102 : decode cX8_sheet 102 = .ok (.iadd, 1) := by decide +kernel
theorem dX8_sheet_103 : decode cX8_sheet 103 = .ok (.lconst 0, 1) := by decide +kernel
theorem dX8_sheet_104 : decode cX8_sheet 104 = .ok (.lastore, 1) := by decide +kernel
theorem dX8_sheet_105 : decode cX8_sheet 105 = .ok (.iinc 4 1, 3) := by decide +kernel
theorem dX8_sheet_108 : decode cX8_sheet 108 = .ok (.goto (-23), 3) := by decide +kernel
theorem dX8_sheet_111 : decode cX8_sheet 111 = .ok (.aload_n 0, 1) := by decide +kernel
theorem dX8_sheet_112 : decode cX8_sheet 112 = .ok (.getfield 34, 3) := by decide +kernel
theorem dX8_sheet_115 : decode cX8_sheet 115 = .ok (.iload_n 1, 1) := by decide +kernel
theorem dX8_sheet_116 : decode cX8_sheet 116 = .ok (.iaload, 1) := by decide +kernel
theorem dX8_sheet_117 : decode cX8_sheet 117 = .ok (.ireturn, 1) := by decide +kernel
theorem dX8_notThere_0 : decode cX8_notThere 0 = .ok (.iload_n 1, 1) := by decide +kernel
theorem dX8_notThere_1 : decode cX8_notThere 1 = .ok (.invokestatic 200, 3) := by decide +kernel
theorem dX8_notThere_4 : decode cX8_notThere 4 = .ok (.ifCond .ne 8, 3) := by decide +kernel
theorem dX8_notThere_7 : decode cX8_notThere 7 = .ok (.ldc 41, 2) := by decide +kernel
theorem dX8_notThere_9 : decode cX8_notThere 9 = .ok (.goto 18, 3) := by decide +kernel
theorem dX8_notThere_12 : decode cX8_notThere 12 = .ok (.aload_n 0, 1) := by decide +kernel
theorem dX8_notThere_13 : decode cX8_notThere 13 = .ok (.getfield 31, 3) := by decide +kernel
theorem dX8_notThere_16 : decode cX8_notThere 16 = .ok (.iload_n 1, 1) := by decide +kernel
theorem dX8_notThere_17 : decode cX8_notThere 17 = .ok (.iaload, 1) := by decide +kernel
theorem dX8_notThere_18 : decode cX8_notThere 18 = .ok (.ifCond .ne 8, 3) := by decide +kernel
theorem dX8_notThere_21 : decode cX8_notThere 21 = .ok (.ldc 204, 2) := by decide +kernel
theorem dX8_notThere_23 : decode cX8_notThere 23 = .ok (.goto 4, 3) := by decide +kernel
theorem dX8_notThere_26 : decode cX8_notThere 26 = .ok (.iconst 0, 1) := by decide +kernel
theorem dX8_notThere_27 : decode cX8_notThere 27 = .ok (.ireturn, 1) := by decide +kernel
theorem dX8_cutTo_0 : decode cX8_cutTo 0 = .ok (.iload_n 0, 1) := by decide +kernel
theorem dX8_cutTo_1 : decode cX8_cutTo 1 = .ok (.bipush 8, 2) := by decide +kernel
theorem dX8_cutTo_3 : decode cX8_cutTo 3 = .ok (.if_icmp .ne 10, 3) := by decide +kernel
theorem dX8_cutTo_6 : decode cX8_cutTo 6 = .ok (.lload_n 1, 1) := by decide +kernel
theorem dX8_cutTo_7 : decode cX8_cutTo 7 = .ok (.l2i, 1) := by decide +kernel
theorem dX8_cutTo_8 : decode cX8_cutTo 8 = .ok (.i2b, 1) := by decide +kernel
theorem dX8_cutTo_9 : decode cX8_cutTo 9 = .ok (.i2l, 1) := by decide +kernel
theorem dX8_cutTo_10 : decode cX8_cutTo 10 = .ok (.goto 17, 3) := by decide +kernel
theorem dX8_cutTo_13 : decode cX8_cutTo 13 = .ok (.iload_n 0, 1) := by decide +kernel
theorem dX8_cutTo_14 : decode cX8_cutTo 14 = .ok (.bipush 16, 2) := by decide +kernel
theorem dX8_cutTo_16 : decode cX8_cutTo 16 = .ok (.if_icmp .ne 10, 3) := by decide +kernel
theorem dX8_cutTo_19 : decode cX8_cutTo 19 = .ok (.lload_n 1, 1) := by decide +kernel
theorem dX8_cutTo_20 : decode cX8_cutTo 20 = .ok (.l2i, 1) := by decide +kernel
theorem dX8_cutTo_21 : decode cX8_cutTo 21 = .ok (.i2s, 1) := by decide +kernel
theorem dX8_cutTo_22 : decode cX8_cutTo 22 = .ok (.i2l, 1) := by decide +kernel
theorem dX8_cutTo_23 : decode cX8_cutTo 23 = .ok (.goto 4, 3) := by decide +kernel
theorem dX8_cutTo_26 : decode cX8_cutTo 26 = .ok (.lload_n 1, 1) := by decide +kernel
theorem dX8_cutTo_27 : decode cX8_cutTo 27 = .ok (.lreturn, 1) := by decide +kernel
theorem dX8_write_0 : decode cX8_write 0 = .ok (.aload_n 0, 1) := by decide +kernel
theorem dX8_write_1 : decode cX8_write 1 = .ok (.iload_n 1, 1) := by decide +kernel
theorem dX8_write_2 : decode cX8_write 2 = .ok (.invokevirtual 205, 3) := by decide +kernel
theorem dX8_write_5 : decode cX8_write 5 = .ok (.istore 5, 2) := by decide +kernel
theorem dX8_write_7 : decode cX8_write 7 = .ok (.iload 5, 2) := by decide +kernel
theorem dX8_write_9 : decode cX8_write 9 = .ok (.ifCond .ne 24, 3) := by decide +kernel
theorem dX8_write_12 : decode cX8_write 12 = .ok (.iload_n 2, 1) := by decide +kernel
theorem dX8_write_13 : decode cX8_write 13 = .ok (.i2l, 1) := by decide +kernel
theorem dX8_write_14 : decode cX8_write 14 = .ok (.iconst 0, 1) := by decide +kernel
theorem dX8_write_15 : decode cX8_write 15 = .ok (.aload_n 0, 1) := by decide +kernel
theorem dX8_write_16 : decode cX8_write 16 = .ok (.getfield 34, 3) := by decide +kernel
theorem dX8_write_19 : decode cX8_write 19 = .ok (.iload_n 1, 1) := by decide +kernel
theorem dX8_write_20 : decode cX8_write 20 = .ok (.iaload, 1) := by decide +kernel
theorem dX8_write_21 : decode cX8_write 21 = .ok (.iconst 1, 1) := by decide +kernel
theorem dX8_write_22 : decode cX8_write 22 = .ok (.isub, 1) := by decide +kernel
theorem dX8_write_23 : decode cX8_write 23 = .ok (.invokestatic 47, 3) := by decide +kernel
theorem dX8_write_26 : decode cX8_write 26 = .ok (.ifCond .ne 7, 3) := by decide +kernel
theorem dX8_write_29 : decode cX8_write 29 = .ok (.ldc 41, 2) := by decide +kernel
theorem dX8_write_31 : decode cX8_write 31 = .ok (.istore 5, 2) := by decide +kernel
theorem dX8_write_33 : decode cX8_write 33 = .ok (.iload 5, 2) := by decide +kernel
theorem dX8_write_35 : decode cX8_write 35 = .ok (.ifCond .eq 11, 3) := by decide +kernel
theorem dX8_write_38 : decode cX8_write 38 = .ok (.aload_n 0, 1) := by decide +kernel
theorem dX8_write_39 : decode cX8_write 39 = .ok (.iload 5, 2) := by decide +kernel
theorem dX8_write_41 : decode cX8_write 41 = .ok (.invokevirtual 43, 3) := by decide +kernel
theorem dX8_write_44 : decode cX8_write 44 = .ok (.i2l, 1) := by decide +kernel
theorem dX8_write_45 : decode cX8_write 45 = .ok (.lreturn, 1) := by decide +kernel
theorem dX8_write_46 : decode cX8_write 46 = .ok (.aload_n 0, 1) := by decide +kernel
theorem dX8_write_47 : decode cX8_write 47 = .ok (.getfield 37, 3) := by decide +kernel
theorem dX8_write_50 : decode cX8_write 50 = .ok (.bipush 40, 2) := by decide +kernel
theorem dX8_write_52 : decode cX8_write 52 = .ok (.iload_n 1, 1) := by decide +kernel
theorem dX8_write_53 : decode cX8_write 53 = .ok (.imul, 1) := by decide +kernel
theorem dX8_write_54 : decode cX8_write 54 = .ok (.iload_n 2, 1) := by decide +kernel
theorem dX8_write_55 : decode cX8_write 55 = .ok (.iadd, 1) := by decide +kernel
theorem dX8_write_56 : decode cX8_write 56 = .ok (.laload, 1) := by decide +kernel
theorem dX8_write_57 : decode cX8_write 57 = .ok (.lstore 6, 2) := by decide +kernel
theorem dX8_write_59 : decode cX8_write 59 = .ok (.aload_n 0, 1) := by decide +kernel
theorem dX8_write_60 : decode cX8_write 60 = .ok (.getfield 37, 3) := by decide +kernel
theorem dX8_write_63 : decode cX8_write 63 = .ok (.bipush 40, 2) := by decide +kernel
theorem dX8_write_65 : decode cX8_write 65 = .ok (.iload_n 1, 1) := by decide +kernel
theorem dX8_write_66 : decode cX8_write 66 = .ok (.imul, 1) := by decide +kernel
theorem dX8_write_67 : decode cX8_write 67 = .ok (.iload_n 2, 1) := by decide +kernel
theorem dX8_write_68 : decode cX8_write 68 = .ok (.iadd, 1) := by decide +kernel
theorem dX8_write_69 : decode cX8_write 69 = .ok (.aload_n 0, 1) := by decide +kernel
theorem dX8_write_70 : decode cX8_write 70 = .ok (.getfield 31, 3) := by decide +kernel
theorem dX8_write_73 : decode cX8_write 73 = .ok (.iload_n 1, 1) := by decide +kernel
theorem dX8_write_74 : decode cX8_write 74 = .ok (.iaload, 1) := by decide +kernel
theorem dX8_write_75 : decode cX8_write 75 = .ok (.lload_n 3, 1) := by decide +kernel
theorem dX8_write_76 : decode cX8_write 76 = .ok (.invokestatic 208, 3) := by decide +kernel
theorem dX8_write_79 : decode cX8_write 79 = .ok (.lastore, 1) := by decide +kernel
theorem dX8_write_80 : decode cX8_write 80 = .ok (.lload 6, 2) := by decide +kernel
theorem dX8_write_82 : decode cX8_write 82 = .ok (.lreturn, 1) := by decide +kernel
theorem dX8_notCopied_0 : decode cX8_notCopied 0 = .ok (.iload_n 1, 1) := by decide +kernel
theorem dX8_notCopied_1 : decode cX8_notCopied 1 = .ok (.invokestatic 200, 3) := by decide +kernel
theorem dX8_notCopied_4 : decode cX8_notCopied 4 = .ok (.ifCond .eq 10, 3) := by decide +kernel
theorem dX8_notCopied_7 : decode cX8_notCopied 7 = .ok (.iload_n 3, 1) := by decide +kernel
theorem dX8_notCopied_8 : decode cX8_notCopied 8 = .ok (.invokestatic 200, 3) := by decide +kernel
theorem dX8_notCopied_11 : decode cX8_notCopied 11 = .ok (.ifCond .ne 6, 3) := by decide +kernel
theorem dX8_notCopied_14 : decode cX8_notCopied 14 = .ok (.ldc 41, 2) := by decide +kernel
theorem dX8_notCopied_16 : decode cX8_notCopied 16 = .ok (.ireturn, 1) := by decide +kernel
theorem dX8_notCopied_17 : decode cX8_notCopied 17 = .ok (.aload_n 0, 1) := by decide +kernel
theorem dX8_notCopied_18 : decode cX8_notCopied 18 = .ok (.getfield 31, 3) := by decide +kernel
theorem dX8_notCopied_21 : decode cX8_notCopied 21 = .ok (.iload_n 1, 1) := by decide +kernel
theorem dX8_notCopied_22 : decode cX8_notCopied 22 = .ok (.iaload, 1) := by decide +kernel
theorem dX8_notCopied_23 : decode cX8_notCopied 23 = .ok (.ifCond .eq 12, 3) := by decide +kernel
theorem dX8_notCopied_26 : decode cX8_notCopied 26 = .ok (.aload_n 0, 1) := by decide +kernel
theorem dX8_notCopied_27 : decode cX8_notCopied 27 = .ok (.getfield 31, 3) := by decide +kernel
theorem dX8_notCopied_30 : decode cX8_notCopied 30 = .ok (.iload_n 3, 1) := by decide +kernel
theorem dX8_notCopied_31 : decode cX8_notCopied 31 = .ok (.iaload, 1) := by decide +kernel
theorem dX8_notCopied_32 : decode cX8_notCopied 32 = .ok (.ifCond .ne 6, 3) := by decide +kernel
theorem dX8_notCopied_35 : decode cX8_notCopied 35 = .ok (.ldc 204, 2) := by decide +kernel
theorem dX8_notCopied_37 : decode cX8_notCopied 37 = .ok (.ireturn, 1) := by decide +kernel
theorem dX8_notCopied_38 : decode cX8_notCopied 38 = .ok (.aload_n 0, 1) := by decide +kernel
theorem dX8_notCopied_39 : decode cX8_notCopied 39 = .ok (.getfield 31, 3) := by decide +kernel
theorem dX8_notCopied_42 : decode cX8_notCopied 42 = .ok (.iload_n 1, 1) := by decide +kernel
theorem dX8_notCopied_43 : decode cX8_notCopied 43 = .ok (.iaload, 1) := by decide +kernel
theorem dX8_notCopied_44 : decode cX8_notCopied 44 = .ok (.aload_n 0, 1) := by decide +kernel
theorem dX8_notCopied_45 : decode cX8_notCopied 45 = .ok (.getfield 31, 3) := by decide +kernel
theorem dX8_notCopied_48 : decode cX8_notCopied 48 = .ok (.iload_n 3, 1) := by decide +kernel
theorem dX8_notCopied_49 : decode cX8_notCopied 49 = .ok (.iaload, 1) := by decide +kernel
theorem dX8_notCopied_50 : decode cX8_notCopied 50 = .ok (.if_icmp .eq 6, 3) := by decide +kernel
theorem dX8_notCopied_53 : decode cX8_notCopied 53 = .ok (.ldc 104, 2) := by decide +kernel
theorem dX8_notCopied_55 : decode cX8_notCopied 55 = .ok (.ireturn, 1) := by decide +kernel
theorem dX8_notCopied_56 : decode cX8_notCopied 56 = .ok (.iload 5, 2) := by decide +kernel
theorem dX8_notCopied_58 : decode cX8_notCopied 58 = .ok (.ifCond .lt 43, 3) := by decide +kernel
theorem dX8_notCopied_61 : decode cX8_notCopied 61 = .ok (.iload_n 2, 1) := by decide +kernel
theorem dX8_notCopied_62 : decode cX8_notCopied 62 = .ok (.ifCond .lt 39, 3) := by decide +kernel
theorem dX8_notCopied_65 : decode cX8_notCopied 65 = .ok (.iload 4, 2) := by decide +kernel
theorem dX8_notCopied_67 : decode cX8_notCopied 67 = .ok (.ifCond .lt 34, 3) := by decide +kernel
theorem dX8_notCopied_70 : decode cX8_notCopied 70 = .ok (.iload 5, 2) := by decide +kernel
theorem dX8_notCopied_72 : decode cX8_notCopied 72 = .ok (.aload_n 0, 1) := by decide +kernel
theorem dX8_notCopied_73 : decode cX8_notCopied 73 = .ok (.getfield 34, 3) := by decide +kernel
theorem dX8_notCopied_76 : decode cX8_notCopied 76 = .ok (.iload_n 1, 1) := by decide +kernel
theorem dX8_notCopied_77 : decode cX8_notCopied 77 = .ok (.iaload, 1) := by decide +kernel
theorem dX8_notCopied_78 : decode cX8_notCopied 78 = .ok (.iload_n 2, 1) := by decide +kernel
theorem dX8_notCopied_79 : decode cX8_notCopied 79 = .ok (.isub, 1) := by decide +kernel
theorem dX8_notCopied_80 : decode cX8_notCopied 80 = .ok (.if_icmp .gt 21, 3) := by decide +kernel
theorem dX8_notCopied_83 : decode cX8_notCopied 83 = .ok (.iload 5, 2) := by decide +kernel
theorem dX8_notCopied_85 : decode cX8_notCopied 85 = .ok (.aload_n 0, 1) := by decide +kernel
theorem dX8_notCopied_86 : decode cX8_notCopied 86 = .ok (.getfield 34, 3) := by decide +kernel
theorem dX8_notCopied_89 : decode cX8_notCopied 89 = .ok (.iload_n 3, 1) := by decide +kernel
theorem dX8_notCopied_90 : decode cX8_notCopied 90 = .ok (.iaload, 1) := by decide +kernel
theorem dX8_notCopied_91 : decode cX8_notCopied 91 = .ok (.iload 4, 2) := by decide +kernel
theorem dX8_notCopied_93 : decode cX8_notCopied 93 = .ok (.isub, 1) := by decide +kernel
theorem dX8_notCopied_94 : decode cX8_notCopied 94 = .ok (.if_icmp .gt 7, 3) := by decide +kernel
theorem dX8_notCopied_97 : decode cX8_notCopied 97 = .ok (.iconst 1, 1) := by decide +kernel
theorem dX8_notCopied_98 : decode cX8_notCopied 98 = .ok (.goto 4, 3) := by decide +kernel
theorem dX8_notCopied_101 : decode cX8_notCopied 101 = .ok (.iconst 0, 1) := by decide +kernel
theorem dX8_notCopied_102 : decode cX8_notCopied 102 = .ok (.istore 6, 2) := by decide +kernel
theorem dX8_notCopied_104 : decode cX8_notCopied 104 = .ok (.iload 6, 2) := by decide +kernel
theorem dX8_notCopied_106 : decode cX8_notCopied 106 = .ok (.ifCond .eq 7, 3) := by decide +kernel
theorem dX8_notCopied_109 : decode cX8_notCopied 109 = .ok (.iconst 0, 1) := by decide +kernel
theorem dX8_notCopied_110 : decode cX8_notCopied 110 = .ok (.goto 5, 3) := by decide +kernel
theorem dX8_notCopied_113 : decode cX8_notCopied 113 = .ok (.ldc 41, 2) := by decide +kernel
theorem dX8_notCopied_115 : decode cX8_notCopied 115 = .ok (.ireturn, 1) := by decide +kernel
theorem dX8_copy_0 : decode cX8_copy 0 = .ok (.aload_n 0, 1) := by decide +kernel
theorem dX8_copy_1 : decode cX8_copy 1 = .ok (.iload_n 1, 1) := by decide +kernel
theorem dX8_copy_2 : decode cX8_copy 2 = .ok (.iload_n 2, 1) := by decide +kernel
theorem dX8_copy_3 : decode cX8_copy 3 = .ok (.iload_n 3, 1) := by decide +kernel
theorem dX8_copy_4 : decode cX8_copy 4 = .ok (.iload 4, 2) := by decide +kernel
theorem dX8_copy_6 : decode cX8_copy 6 = .ok (.iload 5, 2) := by decide +kernel
theorem dX8_copy_8 : decode cX8_copy 8 = .ok (.invokevirtual 212, 3) := by decide +kernel
theorem dX8_copy_11 : decode cX8_copy 11 = .ok (.istore 6, 2) := by decide +kernel
theorem dX8_copy_13 : decode cX8_copy 13 = .ok (.iload 6, 2) := by decide +kernel
theorem dX8_copy_15 : decode cX8_copy 15 = .ok (.ifCond .eq 10, 3) := by decide +kernel
theorem dX8_copy_18 : decode cX8_copy 18 = .ok (.aload_n 0, 1) := by decide +kernel
theorem dX8_copy_19 : decode cX8_copy 19 = .ok (.iload 6, 2) := by decide +kernel
theorem dX8_copy_21 : decode cX8_copy 21 = .ok (.invokevirtual 43, 3) := by decide +kernel
theorem dX8_copy_24 : decode cX8_copy 24 = .ok (.ireturn, 1) := by decide +kernel
theorem dX8_copy_25 : decode cX8_copy 25 = .ok (.iconst 0, 1) := by decide +kernel
theorem dX8_copy_26 : decode cX8_copy 26 = .ok (.istore 7, 2) := by decide +kernel
theorem dX8_copy_28 : decode cX8_copy 28 = .ok (.iload 7, 2) := by decide +kernel
theorem dX8_copy_30 : decode cX8_copy 30 = .ok (.iload 5, 2) := by decide +kernel
theorem dX8_copy_32 : decode cX8_copy 32 = .ok (.if_icmp .ge 58, 3) := by decide +kernel
theorem dX8_copy_35 : decode cX8_copy 35 = .ok (.iload_n 2, 1) := by decide +kernel
theorem dX8_copy_36 : decode cX8_copy 36 = .ok (.iload 4, 2) := by decide +kernel
theorem dX8_copy_38 : decode cX8_copy 38 = .ok (.if_icmp .ge 13, 3) := by decide +kernel
theorem dX8_copy_41 : decode cX8_copy 41 = .ok (.iload 5, 2) := by decide +kernel
theorem dX8_copy_43 : decode cX8_copy 43 = .ok (.iconst 1, 1) := by decide +kernel
theorem dX8_copy_44 : decode cX8_copy 44 = .ok (.isub, 1) := by decide +kernel
theorem dX8_copy_45 : decode cX8_copy 45 = .ok (.iload 7, 2) := by decide +kernel
theorem dX8_copy_47 : decode cX8_copy 47 = .ok (.isub, 1) := by decide +kernel
theorem dX8_copy_48 : decode cX8_copy 48 = .ok (.goto 5, 3) := by decide +kernel
theorem dX8_copy_51 : decode cX8_copy 51 = .ok (.iload 7, 2) := by decide +kernel
theorem dX8_copy_53 : decode cX8_copy 53 = .ok (.istore 8, 2) := by decide +kernel
theorem dX8_copy_55 : decode cX8_copy 55 = .ok (.aload_n 0, 1) := by decide +kernel
theorem dX8_copy_56 : decode cX8_copy 56 = .ok (.getfield 37, 3) := by decide +kernel
theorem dX8_copy_59 : decode cX8_copy 59 = .ok (.bipush 40, 2) := by decide +kernel
theorem dX8_copy_61 : decode cX8_copy 61 = .ok (.iload_n 3, 1) := by decide +kernel
theorem dX8_copy_62 : decode cX8_copy 62 = .ok (.imul, 1) := by decide +kernel
theorem dX8_copy_63 : decode cX8_copy 63 = .ok (.iload 4, 2) := by decide +kernel
theorem dX8_copy_65 : decode cX8_copy 65 = .ok (.iadd, 1) := by decide +kernel
theorem dX8_copy_66 : decode cX8_copy 66 = .ok (.iload 8, 2) := by decide +kernel
theorem dX8_copy_68 : decode cX8_copy 68 = .ok (.iadd, 1) := by decide +kernel
theorem dX8_copy_69 : decode cX8_copy 69 = .ok (.aload_n 0, 1) := by decide +kernel
theorem dX8_copy_70 : decode cX8_copy 70 = .ok (.getfield 37, 3) := by decide +kernel
theorem dX8_copy_73 : decode cX8_copy 73 = .ok (.bipush 40, 2) := by decide +kernel
theorem dX8_copy_75 : decode cX8_copy 75 = .ok (.iload_n 1, 1) := by decide +kernel
theorem dX8_copy_76 : decode cX8_copy 76 = .ok (.imul, 1) := by decide +kernel
theorem dX8_copy_77 : decode cX8_copy 77 = .ok (.iload_n 2, 1) := by decide +kernel
theorem dX8_copy_78 : decode cX8_copy 78 = .ok (.iadd, 1) := by decide +kernel
theorem dX8_copy_79 : decode cX8_copy 79 = .ok (.iload 8, 2) := by decide +kernel
theorem dX8_copy_81 : decode cX8_copy 81 = .ok (.iadd, 1) := by decide +kernel
theorem dX8_copy_82 : decode cX8_copy 82 = .ok (.laload, 1) := by decide +kernel
theorem dX8_copy_83 : decode cX8_copy 83 = .ok (.lastore, 1) := by decide +kernel
theorem dX8_copy_84 : decode cX8_copy 84 = .ok (.iinc 7 1, 3) := by decide +kernel
theorem dX8_copy_87 : decode cX8_copy 87 = .ok (.goto (-59), 3) := by decide +kernel
theorem dX8_copy_90 : decode cX8_copy 90 = .ok (.iload 5, 2) := by decide +kernel
theorem dX8_copy_92 : decode cX8_copy 92 = .ok (.ireturn, 1) := by decide +kernel
theorem dX8_lays_0 : decode cX8_lays 0 = .ok (.aload_n 0, 1) := by decide +kernel
theorem dX8_lays_1 : decode cX8_lays 1 = .ok (.iload_n 1, 1) := by decide +kernel
theorem dX8_lays_2 : decode cX8_lays 2 = .ok (.invokevirtual 205, 3) := by decide +kernel
theorem dX8_lays_5 : decode cX8_lays 5 = .ok (.istore_n 2, 1) := by decide +kernel
theorem dX8_lays_6 : decode cX8_lays 6 = .ok (.iload_n 2, 1) := by decide +kernel
theorem dX8_lays_7 : decode cX8_lays 7 = .ok (.ifCond .eq 9, 3) := by decide +kernel
theorem dX8_lays_10 : decode cX8_lays 10 = .ok (.aload_n 0, 1) := by decide +kernel
theorem dX8_lays_11 : decode cX8_lays 11 = .ok (.iload_n 2, 1) := by decide +kernel
theorem dX8_lays_12 : decode cX8_lays 12 = .ok (.invokevirtual 43, 3) := by decide +kernel
theorem dX8_lays_15 : decode cX8_lays 15 = .ok (.ireturn, 1) := by decide +kernel
theorem dX8_lays_16 : decode cX8_lays 16 = .ok (.iconst 0, 1) := by decide +kernel
theorem dX8_lays_17 : decode cX8_lays 17 = .ok (.istore_n 3, 1) := by decide +kernel
theorem dX8_lays_18 : decode cX8_lays 18 = .ok (.iconst 0, 1) := by decide +kernel
theorem dX8_lays_19 : decode cX8_lays 19 = .ok (.istore 4, 2) := by decide +kernel
theorem dX8_lays_21 : decode cX8_lays 21 = .ok (.iload 4, 2) := by decide +kernel
theorem dX8_lays_23 : decode cX8_lays 23 = .ok (.aload_n 0, 1) := by decide +kernel
theorem dX8_lays_24 : decode cX8_lays 24 = .ok (.getfield 34, 3) := by decide +kernel
theorem dX8_lays_27 : decode cX8_lays 27 = .ok (.iload_n 1, 1) := by decide +kernel
theorem dX8_lays_28 : decode cX8_lays 28 = .ok (.iaload, 1) := by decide +kernel
theorem dX8_lays_29 : decode cX8_lays 29 = .ok (.if_icmp .ge 62, 3) := by decide +kernel
theorem dX8_lays_32 : decode cX8_lays 32 = .ok (.iload 4, 2) := by decide +kernel
theorem dX8_lays_34 : decode cX8_lays 34 = .ok (.bipush 7, 2) := by decide +kernel
theorem dX8_lays_36 : decode cX8_lays 36 = .ok (.if_icmp .ge 55, 3) := by decide +kernel
theorem dX8_lays_39 : decode cX8_lays 39 = .ok (.aload_n 0, 1) := by decide +kernel
theorem dX8_lays_40 : decode cX8_lays 40 = .ok (.getfield 37, 3) := by decide +kernel
theorem dX8_lays_43 : decode cX8_lays 43 = .ok (.bipush 40, 2) := by decide +kernel
theorem dX8_lays_45 : decode cX8_lays 45 = .ok (.iload_n 1, 1) := by decide +kernel
theorem dX8_lays_46 : decode cX8_lays 46 = .ok (.imul, 1) := by decide +kernel
theorem dX8_lays_47 : decode cX8_lays 47 = .ok (.iload 4, 2) := by decide +kernel
theorem dX8_lays_49 : decode cX8_lays 49 = .ok (.iadd, 1) := by decide +kernel
theorem dX8_lays_50 : decode cX8_lays 50 = .ok (.laload, 1) := by decide +kernel
theorem dX8_lays_51 : decode cX8_lays 51 = .ok (.iconst 0, 1) := by decide +kernel
theorem dX8_lays_52 : decode cX8_lays 52 = .ok (.bipush 8, 2) := by decide +kernel
theorem dX8_lays_54 : decode cX8_lays 54 = .ok (.invokestatic 47, 3) := by decide +kernel
theorem dX8_lays_57 : decode cX8_lays 57 = .ok (.ifCond .eq 28, 3) := by decide +kernel
theorem dX8_lays_60 : decode cX8_lays 60 = .ok (.aload_n 0, 1) := by decide +kernel
theorem dX8_lays_61 : decode cX8_lays 61 = .ok (.getfield 9, 3) := by decide +kernel
theorem dX8_lays_64 : decode cX8_lays 64 = .ok (.iconst 4, 1) := by decide +kernel
theorem dX8_lays_65 : decode cX8_lays 65 = .ok (.iload 4, 2) := by decide +kernel
theorem dX8_lays_67 : decode cX8_lays 67 = .ok (.iadd, 1) := by decide +kernel
theorem dX8_lays_68 : decode cX8_lays 68 = .ok (.aload_n 0, 1) := by decide +kernel
theorem dX8_lays_69 : decode cX8_lays 69 = .ok (.getfield 37, 3) := by decide +kernel
theorem dX8_lays_72 : decode cX8_lays 72 = .ok (.bipush 40, 2) := by decide +kernel
theorem dX8_lays_74 : decode cX8_lays 74 = .ok (.iload_n 1, 1) := by decide +kernel
theorem dX8_lays_75 : decode cX8_lays 75 = .ok (.imul, 1) := by decide +kernel
theorem dX8_lays_76 : decode cX8_lays 76 = .ok (.iload 4, 2) := by decide +kernel
theorem dX8_lays_78 : decode cX8_lays 78 = .ok (.iadd, 1) := by decide +kernel
theorem dX8_lays_79 : decode cX8_lays 79 = .ok (.laload, 1) := by decide +kernel
theorem dX8_lays_80 : decode cX8_lays 80 = .ok (.l2i, 1) := by decide +kernel
theorem dX8_lays_81 : decode cX8_lays 81 = .ok (.iastore, 1) := by decide +kernel
theorem dX8_lays_82 : decode cX8_lays 82 = .ok (.iinc 3 1, 3) := by decide +kernel
theorem dX8_lays_85 : decode cX8_lays 85 = .ok (.iinc 4 1, 3) := by decide +kernel
theorem dX8_lays_88 : decode cX8_lays 88 = .ok (.goto (-67), 3) := by decide +kernel
theorem dX8_lays_91 : decode cX8_lays 91 = .ok (.iload_n 3, 1) := by decide +kernel
theorem dX8_lays_92 : decode cX8_lays 92 = .ok (.ireturn, 1) := by decide +kernel
theorem dX8_notAsked_0 : decode cX8_notAsked 0 = .ok (.aload_n 0, 1) := by decide +kernel
theorem dX8_notAsked_1 : decode cX8_notAsked 1 = .ok (.iload_n 1, 1) := by decide +kernel
theorem dX8_notAsked_2 : decode cX8_notAsked 2 = .ok (.invokevirtual 205, 3) := by decide +kernel
theorem dX8_notAsked_5 : decode cX8_notAsked 5 = .ok (.istore_n 3, 1) := by decide +kernel
theorem dX8_notAsked_6 : decode cX8_notAsked 6 = .ok (.iload_n 3, 1) := by decide +kernel
theorem dX8_notAsked_7 : decode cX8_notAsked 7 = .ok (.ifCond .ne 16, 3) := by decide +kernel
theorem dX8_notAsked_10 : decode cX8_notAsked 10 = .ok (.aload_n 0, 1) := by decide +kernel
theorem dX8_notAsked_11 : decode cX8_notAsked 11 = .ok (.iload_n 2, 1) := by decide +kernel
theorem dX8_notAsked_12 : decode cX8_notAsked 12 = .ok (.invokevirtual 97, 3) := by decide +kernel
theorem dX8_notAsked_15 : decode cX8_notAsked 15 = .ok (.ifCond .ne 8, 3) := by decide +kernel
theorem dX8_notAsked_18 : decode cX8_notAsked 18 = .ok (.ldc 41, 2) := by decide +kernel
theorem dX8_notAsked_20 : decode cX8_notAsked 20 = .ok (.goto 4, 3) := by decide +kernel
theorem dX8_notAsked_23 : decode cX8_notAsked 23 = .ok (.iload_n 3, 1) := by decide +kernel
theorem dX8_notAsked_24 : decode cX8_notAsked 24 = .ok (.ireturn, 1) := by decide +kernel
theorem dX8_book_0 : decode cX8_book 0 = .ok (.aload_n 0, 1) := by decide +kernel
theorem dX8_book_1 : decode cX8_book 1 = .ok (.iload_n 1, 1) := by decide +kernel
theorem dX8_book_2 : decode cX8_book 2 = .ok (.iload_n 2, 1) := by decide +kernel
theorem dX8_book_3 : decode cX8_book 3 = .ok (.invokevirtual 216, 3) := by decide +kernel
theorem dX8_book_6 : decode cX8_book 6 = .ok (.istore_n 3, 1) := by decide +kernel
theorem dX8_book_7 : decode cX8_book 7 = .ok (.iload_n 3, 1) := by decide +kernel
theorem dX8_book_8 : decode cX8_book 8 = .ok (.ifCond .eq 9, 3) := by decide +kernel
theorem dX8_book_11 : decode cX8_book 11 = .ok (.aload_n 0, 1) := by decide +kernel
theorem dX8_book_12 : decode cX8_book 12 = .ok (.iload_n 3, 1) := by decide +kernel
theorem dX8_book_13 : decode cX8_book 13 = .ok (.invokevirtual 43, 3) := by decide +kernel
theorem dX8_book_16 : decode cX8_book 16 = .ok (.ireturn, 1) := by decide +kernel
theorem dX8_book_17 : decode cX8_book 17 = .ok (.aload_n 0, 1) := by decide +kernel
theorem dX8_book_18 : decode cX8_book 18 = .ok (.invokevirtual 124, 3) := by decide +kernel
theorem dX8_book_21 : decode cX8_book 21 = .ok (.iconst 0, 1) := by decide +kernel
theorem dX8_book_22 : decode cX8_book 22 = .ok (.istore 4, 2) := by decide +kernel
theorem dX8_book_24 : decode cX8_book 24 = .ok (.iload 4, 2) := by decide +kernel
theorem dX8_book_26 : decode cX8_book 26 = .ok (.aload_n 0, 1) := by decide +kernel
theorem dX8_book_27 : decode cX8_book 27 = .ok (.getfield 34, 3) := by decide +kernel
theorem dX8_book_30 : decode cX8_book 30 = .ok (.iload_n 1, 1) := by decide +kernel
theorem dX8_book_31 : decode cX8_book 31 = .ok (.iaload, 1) := by decide +kernel
theorem dX8_book_32 : decode cX8_book 32 = .ok (.if_icmp .ge 41, 3) := by decide +kernel
theorem dX8_book_35 : decode cX8_book 35 = .ok (.aload_n 0, 1) := by decide +kernel
theorem dX8_book_36 : decode cX8_book 36 = .ok (.getfield 37, 3) := by decide +kernel
theorem dX8_book_39 : decode cX8_book 39 = .ok (.bipush 40, 2) := by decide +kernel
theorem dX8_book_41 : decode cX8_book 41 = .ok (.iload_n 1, 1) := by decide +kernel
theorem dX8_book_42 : decode cX8_book 42 = .ok (.imul, 1) := by decide +kernel
theorem dX8_book_43 : decode cX8_book 43 = .ok (.iload 4, 2) := by decide +kernel
theorem dX8_book_45 : decode cX8_book 45 = .ok (.iadd, 1) := by decide +kernel
theorem dX8_book_46 : decode cX8_book 46 = .ok (.aload_n 0, 1) := by decide +kernel
theorem dX8_book_47 : decode cX8_book 47 = .ok (.getfield 31, 3) := by decide +kernel
theorem dX8_book_50 : decode cX8_book 50 = .ok (.iload_n 1, 1) := by decide +kernel
theorem dX8_book_51 : decode cX8_book 51 = .ok (.iaload, 1) := by decide +kernel
theorem dX8_book_52 : decode cX8_book 52 = .ok (.aload_n 0, 1) := by decide +kernel
theorem dX8_book_53 : decode cX8_book 53 = .ok (.iload_n 2, 1) := by decide +kernel
theorem dX8_book_54 : decode cX8_book 54 = .ok (.iconst 3, 1) := by decide +kernel
theorem dX8_book_55 : decode cX8_book 55 = .ok (.invokevirtual 75, 3) := by decide +kernel
theorem dX8_book_58 : decode cX8_book 58 = .ok (.i2l, 1) := by decide +kernel
theorem dX8_book_59 : decode cX8_book 59 = .ok (.invokestatic 208, 3) := by decide +kernel
theorem dX8_book_62 : decode cX8_book 62 = .ok (.lastore, 1) := by decide +kernel
theorem dX8_book_63 : decode cX8_book 63 = .ok (.aload_n 0, 1) := by decide +kernel
theorem dX8_book_64 : decode cX8_book 64 = .ok (.invokevirtual 113, 3) := by decide +kernel
theorem dX8_book_67 : decode cX8_book 67 = .ok (.iinc 4 1, 3) := by decide +kernel
theorem dX8_book_70 : decode cX8_book 70 = .ok (.goto (-46), 3) := by decide +kernel
theorem dX8_book_73 : decode cX8_book 73 = .ok (.aload_n 0, 1) := by decide +kernel
theorem dX8_book_74 : decode cX8_book 74 = .ok (.invokevirtual 127, 3) := by decide +kernel
theorem dX8_book_77 : decode cX8_book 77 = .ok (.aload_n 0, 1) := by decide +kernel
theorem dX8_book_78 : decode cX8_book 78 = .ok (.getfield 34, 3) := by decide +kernel
theorem dX8_book_81 : decode cX8_book 81 = .ok (.iload_n 1, 1) := by decide +kernel
theorem dX8_book_82 : decode cX8_book 82 = .ok (.iaload, 1) := by decide +kernel
theorem dX8_book_83 : decode cX8_book 83 = .ok (.ireturn, 1) := by decide +kernel
theorem dX8_isBook_0 : decode cX8_isBook 0 = .ok (.iconst 1, 1) := by decide +kernel
theorem dX8_isBook_1 : decode cX8_isBook 1 = .ok (.istore_n 3, 1) := by decide +kernel
theorem dX8_isBook_2 : decode cX8_isBook 2 = .ok (.iconst 0, 1) := by decide +kernel
theorem dX8_isBook_3 : decode cX8_isBook 3 = .ok (.istore 4, 2) := by decide +kernel
theorem dX8_isBook_5 : decode cX8_isBook 5 = .ok (.iload 4, 2) := by decide +kernel
theorem dX8_isBook_7 : decode cX8_isBook 7 = .ok (.aload_n 0, 1) := by decide +kernel
theorem dX8_isBook_8 : decode cX8_isBook 8 = .ok (.getfield 34, 3) := by decide +kernel
theorem dX8_isBook_11 : decode cX8_isBook 11 = .ok (.iload_n 1, 1) := by decide +kernel
theorem dX8_isBook_12 : decode cX8_isBook 12 = .ok (.iaload, 1) := by decide +kernel
theorem dX8_isBook_13 : decode cX8_isBook 13 = .ok (.if_icmp .ge 46, 3) := by decide +kernel
theorem dX8_isBook_16 : decode cX8_isBook 16 = .ok (.iload_n 3, 1) := by decide +kernel
theorem dX8_isBook_17 : decode cX8_isBook 17 = .ok (.ifCond .eq 42, 3) := by decide +kernel
theorem dX8_isBook_20 : decode cX8_isBook 20 = .ok (.aload_n 0, 1) := by decide +kernel
theorem dX8_isBook_21 : decode cX8_isBook 21 = .ok (.getfield 37, 3) := by decide +kernel
theorem dX8_isBook_24 : decode cX8_isBook 24 = .ok (.bipush 40, 2) := by decide +kernel
theorem dX8_isBook_26 : decode cX8_isBook 26 = .ok (.iload_n 1, 1) := by decide +kernel
theorem dX8_isBook_27 : decode cX8_isBook 27 = .ok (.imul, 1) := by decide +kernel
theorem dX8_isBook_28 : decode cX8_isBook 28 = .ok (.iload 4, 2) := by decide +kernel
theorem dX8_isBook_30 : decode cX8_isBook 30 = .ok (.iadd, 1) := by decide +kernel
theorem dX8_isBook_31 : decode cX8_isBook 31 = .ok (.laload, 1) := by decide +kernel
theorem dX8_isBook_32 : decode cX8_isBook 32 = .ok (.aload_n 0, 1) := by decide +kernel
theorem dX8_isBook_33 : decode cX8_isBook 33 = .ok (.iload_n 2, 1) := by decide +kernel
theorem dX8_isBook_34 : decode cX8_isBook 34 = .ok (.iconst 3, 1) := by decide +kernel
theorem dX8_isBook_35 : decode cX8_isBook 35 = .ok (.invokevirtual 75, 3) := by decide +kernel
theorem dX8_isBook_38 : decode cX8_isBook 38 = .ok (.i2l, 1) := by decide +kernel
theorem dX8_isBook_39 : decode cX8_isBook 39 = .ok (.lcmp, 1) := by decide +kernel
theorem dX8_isBook_40 : decode cX8_isBook 40 = .ok (.ifCond .ne 7, 3) := by decide +kernel
theorem dX8_isBook_43 : decode cX8_isBook 43 = .ok (.iconst 1, 1) := by decide +kernel
theorem dX8_isBook_44 : decode cX8_isBook 44 = .ok (.goto 4, 3) := by decide +kernel
theorem dX8_isBook_47 : decode cX8_isBook 47 = .ok (.iconst 0, 1) := by decide +kernel
theorem dX8_isBook_48 : decode cX8_isBook 48 = .ok (.istore_n 3, 1) := by decide +kernel
theorem dX8_isBook_49 : decode cX8_isBook 49 = .ok (.aload_n 0, 1) := by decide +kernel
theorem dX8_isBook_50 : decode cX8_isBook 50 = .ok (.invokevirtual 113, 3) := by decide +kernel
theorem dX8_isBook_53 : decode cX8_isBook 53 = .ok (.iinc 4 1, 3) := by decide +kernel
theorem dX8_isBook_56 : decode cX8_isBook 56 = .ok (.goto (-51), 3) := by decide +kernel
theorem dX8_isBook_59 : decode cX8_isBook 59 = .ok (.aload_n 0, 1) := by decide +kernel
theorem dX8_isBook_60 : decode cX8_isBook 60 = .ok (.invokevirtual 127, 3) := by decide +kernel
theorem dX8_isBook_63 : decode cX8_isBook 63 = .ok (.iload_n 3, 1) := by decide +kernel
theorem dX8_isBook_64 : decode cX8_isBook 64 = .ok (.ireturn, 1) := by decide +kernel
theorem dX8_read_0 : decode cX8_read 0 = .ok (.aload_n 0, 1) := by decide +kernel
theorem dX8_read_1 : decode cX8_read 1 = .ok (.iload_n 1, 1) := by decide +kernel
theorem dX8_read_2 : decode cX8_read 2 = .ok (.iload_n 2, 1) := by decide +kernel
theorem dX8_read_3 : decode cX8_read 3 = .ok (.invokevirtual 216, 3) := by decide +kernel
theorem dX8_read_6 : decode cX8_read 6 = .ok (.istore_n 3, 1) := by decide +kernel
theorem dX8_read_7 : decode cX8_read 7 = .ok (.iload_n 3, 1) := by decide +kernel
theorem dX8_read_8 : decode cX8_read 8 = .ok (.ifCond .eq 9, 3) := by decide +kernel
theorem dX8_read_11 : decode cX8_read 11 = .ok (.aload_n 0, 1) := by decide +kernel
theorem dX8_read_12 : decode cX8_read 12 = .ok (.iload_n 3, 1) := by decide +kernel
theorem dX8_read_13 : decode cX8_read 13 = .ok (.invokevirtual 43, 3) := by decide +kernel
theorem dX8_read_16 : decode cX8_read 16 = .ok (.ireturn, 1) := by decide +kernel
theorem dX8_read_17 : decode cX8_read 17 = .ok (.aload_n 0, 1) := by decide +kernel
theorem dX8_read_18 : decode cX8_read 18 = .ok (.invokevirtual 124, 3) := by decide +kernel
theorem dX8_read_21 : decode cX8_read 21 = .ok (.iconst 0, 1) := by decide +kernel
theorem dX8_read_22 : decode cX8_read 22 = .ok (.istore 4, 2) := by decide +kernel
theorem dX8_read_24 : decode cX8_read 24 = .ok (.iconst 0, 1) := by decide +kernel
theorem dX8_read_25 : decode cX8_read 25 = .ok (.istore 5, 2) := by decide +kernel
theorem dX8_read_27 : decode cX8_read 27 = .ok (.iload 5, 2) := by decide +kernel
theorem dX8_read_29 : decode cX8_read 29 = .ok (.bipush 48, 2) := by decide +kernel
theorem dX8_read_31 : decode cX8_read 31 = .ok (.if_icmp .ge 50, 3) := by decide +kernel
theorem dX8_read_34 : decode cX8_read 34 = .ok (.aload_n 0, 1) := by decide +kernel
theorem dX8_read_35 : decode cX8_read 35 = .ok (.iload_n 2, 1) := by decide +kernel
theorem dX8_read_36 : decode cX8_read 36 = .ok (.iconst 0, 1) := by decide +kernel
theorem dX8_read_37 : decode cX8_read 37 = .ok (.iload 5, 2) := by decide +kernel
theorem dX8_read_39 : decode cX8_read 39 = .ok (.bipush 8, 2) := by decide +kernel
theorem dX8_read_41 : decode cX8_read 41 = .ok (.idiv, 1) := by decide +kernel
theorem dX8_read_42 : decode cX8_read 42 = .ok (.invokevirtual 89, 3) := by decide +kernel
theorem dX8_read_45 : decode cX8_read 45 = .ok (.aload_n 0, 1) := by decide +kernel
theorem dX8_read_46 : decode cX8_read 46 = .ok (.iload_n 2, 1) := by decide +kernel
theorem dX8_read_47 : decode cX8_read 47 = .ok (.iconst 2, 1) := by decide +kernel
theorem dX8_read_48 : decode cX8_read 48 = .ok (.iload 5, 2) := by decide +kernel
theorem dX8_read_50 : decode cX8_read 50 = .ok (.bipush 8, 2) := by decide +kernel
theorem dX8_read_52 : decode cX8_read 52 = .ok (.irem, 1) := by decide +kernel
theorem dX8_read_53 : decode cX8_read 53 = .ok (.invokevirtual 89, 3) := by decide +kernel
theorem dX8_read_56 : decode cX8_read 56 = .ok (.iload 4, 2) := by decide +kernel
theorem dX8_read_58 : decode cX8_read 58 = .ok (.aload_n 0, 1) := by decide +kernel
theorem dX8_read_59 : decode cX8_read 59 = .ok (.iload_n 1, 1) := by decide +kernel
theorem dX8_read_60 : decode cX8_read 60 = .ok (.iload_n 2, 1) := by decide +kernel
theorem dX8_read_61 : decode cX8_read 61 = .ok (.invokevirtual 219, 3) := by decide +kernel
theorem dX8_read_64 : decode cX8_read 64 = .ok (.ifCond .eq 7, 3) := by decide +kernel
theorem dX8_read_67 : decode cX8_read 67 = .ok (.iconst 1, 1) := by decide +kernel
theorem dX8_read_68 : decode cX8_read 68 = .ok (.goto 4, 3) := by decide +kernel
theorem dX8_read_71 : decode cX8_read 71 = .ok (.iconst 0, 1) := by decide +kernel
theorem dX8_read_72 : decode cX8_read 72 = .ok (.iadd, 1) := by decide +kernel
theorem dX8_read_73 : decode cX8_read 73 = .ok (.istore 4, 2) := by decide +kernel
theorem dX8_read_75 : decode cX8_read 75 = .ok (.iinc 5 1, 3) := by decide +kernel
theorem dX8_read_78 : decode cX8_read 78 = .ok (.goto (-51), 3) := by decide +kernel
theorem dX8_read_81 : decode cX8_read 81 = .ok (.iload 4, 2) := by decide +kernel
theorem dX8_read_83 : decode cX8_read 83 = .ok (.ireturn, 1) := by decide +kernel
theorem dX8_image_0 : decode cX8_image 0 = .ok (.aload_n 0, 1) := by decide +kernel
theorem dX8_image_1 : decode cX8_image 1 = .ok (.getfield 9, 3) := by decide +kernel
theorem dX8_image_4 : decode cX8_image 4 = .ok (.aload_n 0, 1) := by decide +kernel
theorem dX8_image_5 : decode cX8_image 5 = .ok (.getfield 13, 3) := by decide +kernel
theorem dX8_image_8 : decode cX8_image 8 = .ok (.invokestatic 120, 3) := by decide +kernel
theorem dX8_image_11 : decode cX8_image 11 = .ok (.aload_n 0, 1) := by decide +kernel
theorem dX8_image_12 : decode cX8_image 12 = .ok (.iconst 1, 1) := by decide +kernel
theorem dX8_image_13 : decode cX8_image 13 = .ok (.putfield 222, 3) := by decide +kernel
theorem dX8_image_16 : decode cX8_image 16 = .ok (.iconst 1, 1) := by decide +kernel
theorem dX8_image_17 : decode cX8_image 17 = .ok (.ireturn, 1) := by decide +kernel
theorem dX8_undo_0 : decode cX8_undo 0 = .ok (.aload_n 0, 1) := by decide +kernel
theorem dX8_undo_1 : decode cX8_undo 1 = .ok (.getfield 222, 3) := by decide +kernel
theorem dX8_undo_4 : decode cX8_undo 4 = .ok (.ifCond .ne 10, 3) := by decide +kernel
theorem dX8_undo_7 : decode cX8_undo 7 = .ok (.aload_n 0, 1) := by decide +kernel
theorem dX8_undo_8 : decode cX8_undo 8 = .ok (.ldc 42, 2) := by decide +kernel
theorem dX8_undo_10 : decode cX8_undo 10 = .ok (.invokevirtual 43, 3) := by decide +kernel
theorem dX8_undo_13 : decode cX8_undo 13 = .ok (.ireturn, 1) := by decide +kernel
theorem dX8_undo_14 : decode cX8_undo 14 = .ok (.aload_n 0, 1) := by decide +kernel
theorem dX8_undo_15 : decode cX8_undo 15 = .ok (.getfield 13, 3) := by decide +kernel
theorem dX8_undo_18 : decode cX8_undo 18 = .ok (.aload_n 0, 1) := by decide +kernel
theorem dX8_undo_19 : decode cX8_undo 19 = .ok (.getfield 9, 3) := by decide +kernel
theorem dX8_undo_22 : decode cX8_undo 22 = .ok (.invokestatic 120, 3) := by decide +kernel
theorem dX8_undo_25 : decode cX8_undo 25 = .ok (.aload_n 0, 1) := by decide +kernel
theorem dX8_undo_26 : decode cX8_undo 26 = .ok (.getfield 9, 3) := by decide +kernel
theorem dX8_undo_29 : decode cX8_undo 29 = .ok (.iconst 3, 1) := by decide +kernel
theorem dX8_undo_30 : decode cX8_undo 30 = .ok (.iaload, 1) := by decide +kernel
theorem dX8_undo_31 : decode cX8_undo 31 = .ok (.ireturn, 1) := by decide +kernel
theorem dX8_tear_0 : decode cX8_tear 0 = .ok (.aload_n 0, 1) := by decide +kernel
theorem dX8_tear_1 : decode cX8_tear 1 = .ok (.getfield 222, 3) := by decide +kernel
theorem dX8_tear_4 : decode cX8_tear 4 = .ok (.ifCond .eq 7, 3) := by decide +kernel
theorem dX8_tear_7 : decode cX8_tear 7 = .ok (.iconst 1, 1) := by decide +kernel
theorem dX8_tear_8 : decode cX8_tear 8 = .ok (.goto 4, 3) := by decide +kernel
theorem dX8_tear_11 : decode cX8_tear 11 = .ok (.iconst 0, 1) := by decide +kernel
theorem dX8_tear_12 : decode cX8_tear 12 = .ok (.istore_n 1, 1) := by decide +kernel
theorem dX8_tear_13 : decode cX8_tear 13 = .ok (.aload_n 0, 1) := by decide +kernel
theorem dX8_tear_14 : decode cX8_tear 14 = .ok (.iconst 0, 1) := by decide +kernel
theorem dX8_tear_15 : decode cX8_tear 15 = .ok (.putfield 222, 3) := by decide +kernel
theorem dX8_tear_18 : decode cX8_tear 18 = .ok (.iload_n 1, 1) := by decide +kernel
theorem dX8_tear_19 : decode cX8_tear 19 = .ok (.ireturn, 1) := by decide +kernel
theorem dX8_sickOnes_0 : decode cX8_sickOnes 0 = .ok (.iconst 0, 1) := by decide +kernel
theorem dX8_sickOnes_1 : decode cX8_sickOnes 1 = .ok (.istore_n 1, 1) := by decide +kernel
theorem dX8_sickOnes_2 : decode cX8_sickOnes 2 = .ok (.iconst 0, 1) := by decide +kernel
theorem dX8_sickOnes_3 : decode cX8_sickOnes 3 = .ok (.istore_n 2, 1) := by decide +kernel
theorem dX8_sickOnes_4 : decode cX8_sickOnes 4 = .ok (.iload_n 2, 1) := by decide +kernel
theorem dX8_sickOnes_5 : decode cX8_sickOnes 5 = .ok (.bipush 8, 2) := by decide +kernel
theorem dX8_sickOnes_7 : decode cX8_sickOnes 7 = .ok (.if_icmp .ge 22, 3) := by decide +kernel
theorem dX8_sickOnes_10 : decode cX8_sickOnes 10 = .ok (.iload_n 1, 1) := by decide +kernel
theorem dX8_sickOnes_11 : decode cX8_sickOnes 11 = .ok (.aload_n 0, 1) := by decide +kernel
theorem dX8_sickOnes_12 : decode cX8_sickOnes 12 = .ok (.getfield 9, 3) := by decide +kernel
theorem dX8_sickOnes_15 : decode cX8_sickOnes 15 = .ok (.iconst 2, 1) := by decide +kernel
theorem dX8_sickOnes_16 : decode cX8_sickOnes 16 = .ok (.iaload, 1) := by decide +kernel
theorem dX8_sickOnes_17 : decode cX8_sickOnes 17 = .ok (.iload_n 2, 1) := by decide +kernel
theorem dX8_sickOnes_18 : decode cX8_sickOnes 18 = .ok (.ishr, 1) := by decide +kernel
theorem dX8_sickOnes_19 : decode cX8_sickOnes 19 = .ok (.iconst 1, 1) := by decide +kernel
theorem dX8_sickOnes_20 : decode cX8_sickOnes 20 = .ok (.iand, 1) := by decide +kernel
theorem dX8_sickOnes_21 : decode cX8_sickOnes 21 = .ok (.iadd, 1) := by decide +kernel
theorem dX8_sickOnes_22 : decode cX8_sickOnes 22 = .ok (.istore_n 1, 1) := by decide +kernel
theorem dX8_sickOnes_23 : decode cX8_sickOnes 23 = .ok (.iinc 2 1, 3) := by decide +kernel
theorem dX8_sickOnes_26 : decode cX8_sickOnes 26 = .ok (.goto (-22), 3) := by decide +kernel
theorem dX8_sickOnes_29 : decode cX8_sickOnes 29 = .ok (.iload_n 1, 1) := by decide +kernel
theorem dX8_sickOnes_30 : decode cX8_sickOnes 30 = .ok (.ireturn, 1) := by decide +kernel
theorem dX8_calms_0 : decode cX8_calms 0 = .ok (.iconst 0, 1) := by decide +kernel
theorem dX8_calms_1 : decode cX8_calms 1 = .ok (.istore_n 1, 1) := by decide +kernel
theorem dX8_calms_2 : decode cX8_calms 2 = .ok (.iconst 0, 1) := by decide +kernel
theorem dX8_calms_3 : decode cX8_calms 3 = .ok (.istore_n 2, 1) := by decide +kernel
theorem dX8_calms_4 : decode cX8_calms 4 = .ok (.iload_n 2, 1) := by decide +kernel
theorem dX8_calms_5 : decode cX8_calms 5 = .ok (.bipush 7, 2) := by decide +kernel
theorem dX8_calms_7 : decode cX8_calms 7 = .ok (.if_icmp .ge 30, 3) := by decide +kernel
theorem dX8_calms_10 : decode cX8_calms 10 = .ok (.iload_n 1, 1) := by decide +kernel
theorem dX8_calms_11 : decode cX8_calms 11 = .ok (.aload_n 0, 1) := by decide +kernel
theorem dX8_calms_12 : decode cX8_calms 12 = .ok (.getfield 9, 3) := by decide +kernel
theorem dX8_calms_15 : decode cX8_calms 15 = .ok (.iconst 4, 1) := by decide +kernel
theorem dX8_calms_16 : decode cX8_calms 16 = .ok (.iload_n 2, 1) := by decide +kernel
theorem dX8_calms_17 : decode cX8_calms 17 = .ok (.iadd, 1) := by decide +kernel
theorem dX8_calms_18 : decode cX8_calms 18 = .ok (.iaload, 1) := by decide +kernel
theorem dX8_calms_19 : decode cX8_calms 19 = .ok (.bipush 8, 2) := by decide +kernel
theorem dX8_calms_21 : decode cX8_calms 21 = .ok (.if_icmp .ne 7, 3) := by decide +kernel
theorem dX8_calms_24 : decode cX8_calms 24 = .ok (.iconst 1, 1) := by decide +kernel
theorem dX8_calms_25 : decode cX8_calms 25 = .ok (.goto 4, 3) := by decide +kernel
theorem dX8_calms_28 : decode cX8_calms 28 = .ok (.iconst 0, 1) := by decide +kernel
theorem dX8_calms_29 : decode cX8_calms 29 = .ok (.iadd, 1) := by decide +kernel
theorem dX8_calms_30 : decode cX8_calms 30 = .ok (.istore_n 1, 1) := by decide +kernel
theorem dX8_calms_31 : decode cX8_calms 31 = .ok (.iinc 2 1, 3) := by decide +kernel
theorem dX8_calms_34 : decode cX8_calms 34 = .ok (.goto (-30), 3) := by decide +kernel
theorem dX8_calms_37 : decode cX8_calms 37 = .ok (.iload_n 1, 1) := by decide +kernel
theorem dX8_calms_38 : decode cX8_calms 38 = .ok (.ireturn, 1) := by decide +kernel
theorem dX8_count_0 : decode cX8_count 0 = .ok (.iload_n 1, 1) := by decide +kernel
theorem dX8_count_1 : decode cX8_count 1 = .ok (.tableswitch 53 0 3 #[31, 38, 43, 48], 31) := by decide +kernel
theorem dX8_count_32 : decode cX8_count 32 = .ok (.aload_n 0, 1) := by decide +kernel
theorem dX8_count_33 : decode cX8_count 33 = .ok (.getfield 9, 3) := by decide +kernel
theorem dX8_count_36 : decode cX8_count 36 = .ok (.iconst 3, 1) := by decide +kernel
theorem dX8_count_37 : decode cX8_count 37 = .ok (.iaload, 1) := by decide +kernel
theorem dX8_count_38 : decode cX8_count 38 = .ok (.ireturn, 1) := by decide +kernel
theorem dX8_count_39 : decode cX8_count 39 = .ok (.aload_n 0, 1) := by decide +kernel
theorem dX8_count_40 : decode cX8_count 40 = .ok (.getfield 145, 3) := by decide +kernel
theorem dX8_count_43 : decode cX8_count 43 = .ok (.ireturn, 1) := by decide +kernel
theorem dX8_count_44 : decode cX8_count 44 = .ok (.aload_n 0, 1) := by decide +kernel
theorem dX8_count_45 : decode cX8_count 45 = .ok (.invokevirtual 225, 3) := by decide +kernel
theorem dX8_count_48 : decode cX8_count 48 = .ok (.ireturn, 1) := by decide +kernel
theorem dX8_count_49 : decode cX8_count 49 = .ok (.aload_n 0, 1) := by decide +kernel
theorem dX8_count_50 : decode cX8_count 50 = .ok (.invokevirtual 228, 3) := by decide +kernel
theorem dX8_count_53 : decode cX8_count 53 = .ok (.ireturn, 1) := by decide +kernel
theorem dX8_count_54 : decode cX8_count 54 = .ok (.aload_n 0, 1) := by decide +kernel
theorem dX8_count_55 : decode cX8_count 55 = .ok (.ldc 41, 2) := by decide +kernel
theorem dX8_count_57 : decode cX8_count 57 = .ok (.invokevirtual 43, 3) := by decide +kernel
theorem dX8_count_60 : decode cX8_count 60 = .ok (.ireturn, 1) := by decide +kernel
theorem dX8_status_0 : decode cX8_status 0 = .ok (.iload_n 1, 1) := by decide +kernel
theorem dX8_status_1 : decode cX8_status 1 = .ok (.i2l, 1) := by decide +kernel
theorem dX8_status_2 : decode cX8_status 2 = .ok (.iconst (-1), 1) := by decide +kernel
theorem dX8_status_3 : decode cX8_status 3 = .ok (.bipush 6, 2) := by decide +kernel
theorem dX8_status_5 : decode cX8_status 5 = .ok (.invokestatic 47, 3) := by decide +kernel
theorem dX8_status_8 : decode cX8_status 8 = .ok (.ifCond .ne 10, 3) := by decide +kernel
theorem dX8_status_11 : decode cX8_status 11 = .ok (.aload_n 0, 1) := by decide +kernel
theorem dX8_status_12 : decode cX8_status 12 = .ok (.ldc 41, 2) := by decide +kernel
theorem dX8_status_14 : decode cX8_status 14 = .ok (.invokevirtual 43, 3) := by decide +kernel
theorem dX8_status_17 : decode cX8_status 17 = .ok (.ireturn, 1) := by decide +kernel
theorem dX8_status_18 : decode cX8_status 18 = .ok (.iconst 0, 1) := by decide +kernel
theorem dX8_status_19 : decode cX8_status 19 = .ok (.istore_n 2, 1) := by decide +kernel
theorem dX8_status_20 : decode cX8_status 20 = .ok (.iconst 0, 1) := by decide +kernel
theorem dX8_status_21 : decode cX8_status 21 = .ok (.istore_n 3, 1) := by decide +kernel
theorem dX8_status_22 : decode cX8_status 22 = .ok (.iload_n 3, 1) := by decide +kernel
theorem dX8_status_23 : decode cX8_status 23 = .ok (.bipush 7, 2) := by decide +kernel
theorem dX8_status_25 : decode cX8_status 25 = .ok (.if_icmp .ge 31, 3) := by decide +kernel
theorem dX8_status_28 : decode cX8_status 28 = .ok (.iload_n 2, 1) := by decide +kernel
theorem dX8_status_29 : decode cX8_status 29 = .ok (.iload_n 1, 1) := by decide +kernel
theorem dX8_status_30 : decode cX8_status 30 = .ok (.ifCond .lt 8, 3) := by decide +kernel
theorem dX8_status_33 : decode cX8_status 33 = .ok (.iload_n 1, 1) := by decide +kernel
theorem dX8_status_34 : decode cX8_status 34 = .ok (.iload_n 3, 1) := by decide +kernel
theorem dX8_status_35 : decode cX8_status 35 = .ok (.if_icmp .ne 12, 3) := by decide +kernel
theorem dX8_status_38 : decode cX8_status 38 = .ok (.aload_n 0, 1) := by decide +kernel
theorem dX8_status_39 : decode cX8_status 39 = .ok (.getfield 19, 3) := by decide +kernel
theorem dX8_status_42 : decode cX8_status 42 = .ok (.iload_n 3, 1) := by decide +kernel
theorem dX8_status_43 : decode cX8_status 43 = .ok (.iaload, 1) := by decide +kernel
theorem dX8_status_44 : decode cX8_status 44 = .ok (.goto 4, 3) := by decide +kernel
