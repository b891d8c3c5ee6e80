theorem dX7_best_37 : decode cX7_best 37 = .ok (.bipush 8, 2) := by decide +kernel
theorem dX7_best_39 : decode cX7_best 39 = .ok (.if_icmp .gt 46, 3) := by decide +kernel
theorem dX7_best_42 : decode cX7_best 42 = .ok (.aload_n 0, 1) := by decide +kernel
theorem dX7_best_43 : decode cX7_best 43 = .ok (.getfield 16, 3) := by decide +kernel
theorem dX7_best_46 : decode cX7_best 46 = .ok (.aload_n 0, 1) := by decide +kernel
theorem dX7_best_47 : decode cX7_best 47 = .ok (.getfield 10, 3) := by decide +kernel
theorem dX7_best_50 : decode cX7_best 50 = .ok (.invokevirtual 207, 3) := by decide +kernel
theorem dX7_best_53 : decode cX7_best 53 = .ok (.aload_n 0, 1) := by decide +kernel
theorem dX7_best_54 : decode cX7_best 54 = .ok (.getfield 16, 3) := by decide +kernel
theorem dX7_best_57 : decode cX7_best 57 = .ok (.getfield 86, 3) := by decide +kernel
theorem dX7_best_60 : decode cX7_best 60 = .ok (.iload_n 1, 1) := by decide +kernel
theorem dX7_best_61 : decode cX7_best 61 = .ok (.iload_n 3, 1) := by decide +kernel
theorem dX7_best_62 : decode cX7_best 62 = .ok (.iastore, 1) := by decide +kernel
theorem dX7_best_63 : decode cX7_best 63 = .ok (.aload_n 0, 1) := by decide +kernel
theorem dX7_best_64 : decode cX7_best 64 = .ok (.getfield 46, 3) := by decide +kernel
theorem dX7_best_67 : decode cX7_best 67 = .ok (.iload_n 3, 1) := by decide +kernel
theorem dX7_best_68 : decode cX7_best 68 = .ok (.aload_n 0, 1) := by decide +kernel
theorem dX7_best_69 : decode cX7_best 69 = .ok (.getfield 16, 3) := by decide +kernel
theorem dX7_best_72 : decode cX7_best 72 = .ok (.iload_n 2, 1) := by decide +kernel
theorem dX7_best_73 : decode cX7_best 73 = .ok (.invokevirtual 161, 3) := by decide +kernel
theorem dX7_best_76 : decode cX7_best 76 = .ok (.invokevirtual 211, 3) := by decide +kernel
theorem dX7_best_79 : decode cX7_best 79 = .ok (.iinc 3 1, 3) := by decide +kernel
theorem dX7_best_82 : decode cX7_best 82 = .ok (.goto (-46), 3) := by decide +kernel
theorem dX7_best_85 : decode cX7_best 85 = .ok (.aload_n 0, 1) := by decide +kernel
theorem dX7_best_86 : decode cX7_best 86 = .ok (.getfield 46, 3) := by decide +kernel
theorem dX7_best_89 : decode cX7_best 89 = .ok (.getfield 215, 3) := by decide +kernel
theorem dX7_best_92 : decode cX7_best 92 = .ok (.ireturn, 1) := by decide +kernel
theorem dX7_feed_0 : decode cX7_feed 0 = .ok (.iload_n 2, 1) := by decide +kernel
theorem dX7_feed_1 : decode cX7_feed 1 = .ok (.iconst 4, 1) := by decide +kernel
theorem dX7_feed_2 : decode cX7_feed 2 = .ok (.invokestatic 157, 3) := by decide +kernel
theorem dX7_feed_5 : decode cX7_feed 5 = .ok (.ifCond .ne 10, 3) := by decide +kernel
theorem dX7_feed_8 : decode cX7_feed 8 = .ok (.aload_n 0, 1) := by decide +kernel
theorem dX7_feed_9 : decode cX7_feed 9 = .ok (.ldc 81, 2) := by decide +kernel
theorem dX7_feed_11 : decode cX7_feed 11 = .ok (.invokevirtual 82, 3) := by decide +kernel
theorem dX7_feed_14 : decode cX7_feed 14 = .ok (.ireturn, 1) := by decide +kernel
theorem dX7_feed_15 : decode cX7_feed 15 = .ok (.aload_n 0, 1) := by decide +kernel
theorem dX7_feed_16 : decode cX7_feed 16 = .ok (.getfield 53, 3) := by decide +kernel
theorem dX7_feed_19 : decode cX7_feed 19 = .ok (.getfield 220, 3) := by decide +kernel
theorem dX7_feed_22 : decode cX7_feed 22 = .ok (.iload_n 2, 1) := by decide +kernel
theorem dX7_feed_23 : decode cX7_feed 23 = .ok (.iadd, 1) := by decide +kernel
theorem dX7_feed_24 : decode cX7_feed 24 = .ok (.bipush 120, 2) := by decide +kernel
theorem dX7_feed_26 : decode cX7_feed 26 = .ok (.if_icmp .le 10, 3) := by decide +kernel
theorem dX7_feed_29 : decode cX7_feed 29 = .ok (.aload_n 0, 1) := by decide +kernel
theorem dX7_feed_30 : decode cX7_feed 30 = .ok (.ldc 113, 2) := by decide +kernel
theorem dX7_feed_32 : decode cX7_feed 32 = .ok (.invokevirtual 82, 3) := by decide +kernel
theorem dX7_feed_35 : decode cX7_feed 35 = .ok (.ireturn, 1) := by decide +kernel
theorem dX7_feed_36 : decode cX7_feed 36 = .ok (.iload_n 2, 1) := by decide +kernel
theorem dX7_feed_37 : decode cX7_feed 37 = .ok (.iconst 1, 1) := by decide +kernel
theorem dX7_feed_38 : decode cX7_feed 38 = .ok (.isub, 1) := by decide +kernel
theorem dX7_feed_39 : decode cX7_feed 39 = .ok (.istore_n 3, 1) := by decide +kernel
theorem dX7_feed_40 : decode cX7_feed 40 = .ok (.iload_n 3, 1) := by decide +kernel
theorem dX7_feed_41 : decode cX7_feed 41 = .ok (.ifCond .lt 26, 3) := by decide +kernel
theorem dX7_feed_44 : decode cX7_feed 44 = .ok (.aload_n 0, 1) := by decide +kernel
theorem dX7_feed_45 : decode cX7_feed 45 = .ok (.getfield 53, 3) := by decide +kernel
theorem dX7_feed_48 : decode cX7_feed 48 = .ok (.iload_n 1, 1) := by decide +kernel
theorem dX7_feed_49 : decode cX7_feed 49 = .ok (.bipush 8, 2) := by decide +kernel
theorem dX7_feed_51 : decode cX7_feed 51 = .ok (.iload_n 3, 1) := by decide +kernel
theorem dX7_feed_52 : decode cX7_feed 52 = .ok (.imul, 1) := by decide +kernel
theorem dX7_feed_53 : decode cX7_feed 53 = .ok (.ishr, 1) := by decide +kernel
theorem dX7_feed_54 : decode cX7_feed 54 = .ok (.sipush 255, 3) := by decide +kernel
theorem dX7_feed_57 : decode cX7_feed 57 = .ok (.iand, 1) := by decide +kernel
theorem dX7_feed_58 : decode cX7_feed 58 = .ok (.invokevirtual 223, 3) := by decide +kernel
theorem dX7_feed_61 : decode cX7_feed 61 = .ok (.iinc 3 (-1), 3) := by decide +kernel
theorem dX7_feed_64 : decode cX7_feed 64 = .ok (.goto (-24), 3) := by decide +kernel
theorem dX7_feed_67 : decode cX7_feed 67 = .ok (.aload_n 0, 1) := by decide +kernel
theorem dX7_feed_68 : decode cX7_feed 68 = .ok (.getfield 53, 3) := by decide +kernel
theorem dX7_feed_71 : decode cX7_feed 71 = .ok (.getfield 220, 3) := by decide +kernel
theorem dX7_feed_74 : decode cX7_feed 74 = .ok (.ireturn, 1) := by decide +kernel
theorem dX7_wipe_0 : decode cX7_wipe 0 = .ok (.aload_n 0, 1) := by decide +kernel
theorem dX7_wipe_1 : decode cX7_wipe 1 = .ok (.getfield 53, 3) := by decide +kernel
theorem dX7_wipe_4 : decode cX7_wipe 4 = .ok (.getfield 220, 3) := by decide +kernel
theorem dX7_wipe_7 : decode cX7_wipe 7 = .ok (.istore_n 1, 1) := by decide +kernel
theorem dX7_wipe_8 : decode cX7_wipe 8 = .ok (.aload_n 0, 1) := by decide +kernel
theorem dX7_wipe_9 : decode cX7_wipe 9 = .ok (.getfield 53, 3) := by decide +kernel
theorem dX7_wipe_12 : decode cX7_wipe 12 = .ok (.iconst 0, 1) := by decide +kernel
theorem dX7_wipe_13 : decode cX7_wipe 13 = .ok (.putfield 220, 3) := by decide +kernel
theorem dX7_wipe_16 : decode cX7_wipe 16 = .ok (.iload_n 1, 1) := by decide +kernel
theorem dX7_wipe_17 : decode cX7_wipe 17 = .ok (.ireturn, 1) := by decide +kernel
theorem dX7_sea_0 : decode cX7_sea 0 = .ok (.aload_n 0, 1) := by decide +kernel
theorem dX7_sea_1 : decode cX7_sea 1 = .ok (.getfield 16, 3) := by decide +kernel
theorem dX7_sea_4 : decode cX7_sea 4 = .ok (.aload_n 0, 1) := by decide +kernel
theorem dX7_sea_5 : decode cX7_sea 5 = .ok (.getfield 10, 3) := by decide +kernel
theorem dX7_sea_8 : decode cX7_sea 8 = .ok (.invokevirtual 207, 3) := by decide +kernel
theorem dX7_sea_11 : decode cX7_sea 11 = .ok (.aload_n 0, 1) := by decide +kernel
theorem dX7_sea_12 : decode cX7_sea 12 = .ok (.getfield 62, 3) := by decide +kernel
theorem dX7_sea_15 : decode cX7_sea 15 = .ok (.aload_n 0, 1) := by decide +kernel
theorem dX7_sea_16 : decode cX7_sea 16 = .ok (.getfield 16, 3) := by decide +kernel
theorem dX7_sea_19 : decode cX7_sea 19 = .ok (.invokevirtual 226, 3) := by decide +kernel
theorem dX7_sea_22 : decode cX7_sea 22 = .ok (.istore_n 1, 1) := by decide +kernel
theorem dX7_sea_23 : decode cX7_sea 23 = .ok (.iload_n 1, 1) := by decide +kernel
theorem dX7_sea_24 : decode cX7_sea 24 = .ok (.ifCond .lt 14, 3) := by decide +kernel
theorem dX7_sea_27 : decode cX7_sea 27 = .ok (.aload_n 0, 1) := by decide +kernel
theorem dX7_sea_28 : decode cX7_sea 28 = .ok (.getfield 10, 3) := by decide +kernel
theorem dX7_sea_31 : decode cX7_sea 31 = .ok (.aload_n 0, 1) := by decide +kernel
theorem dX7_sea_32 : decode cX7_sea 32 = .ok (.getfield 16, 3) := by decide +kernel
theorem dX7_sea_35 : decode cX7_sea 35 = .ok (.invokevirtual 207, 3) := by decide +kernel
theorem dX7_sea_38 : decode cX7_sea 38 = .ok (.aload_n 0, 1) := by decide +kernel
theorem dX7_sea_39 : decode cX7_sea 39 = .ok (.getfield 53, 3) := by decide +kernel
theorem dX7_sea_42 : decode cX7_sea 42 = .ok (.iconst 0, 1) := by decide +kernel
theorem dX7_sea_43 : decode cX7_sea 43 = .ok (.putfield 220, 3) := by decide +kernel
theorem dX7_sea_46 : decode cX7_sea 46 = .ok (.iload_n 1, 1) := by decide +kernel
theorem dX7_sea_47 : decode cX7_sea 47 = .ok (.ireturn, 1) := by decide +kernel
theorem dX7_sheet_0 : decode cX7_sheet 0 = .ok (.iload_n 1, 1) := by decide +kernel
theorem dX7_sheet_1 : decode cX7_sheet 1 = .ok (.iconst 3, 1) := by decide +kernel
theorem dX7_sheet_2 : decode cX7_sheet 2 = .ok (.invokestatic 77, 3) := by decide +kernel
theorem dX7_sheet_5 : decode cX7_sheet 5 = .ok (.ifCond .eq 25, 3) := by decide +kernel
theorem dX7_sheet_8 : decode cX7_sheet 8 = .ok (.iload_n 2, 1) := by decide +kernel
theorem dX7_sheet_9 : decode cX7_sheet 9 = .ok (.ifCond .eq 28, 3) := by decide +kernel
theorem dX7_sheet_12 : decode cX7_sheet 12 = .ok (.iload_n 2, 1) := by decide +kernel
theorem dX7_sheet_13 : decode cX7_sheet 13 = .ok (.bipush 8, 2) := by decide +kernel
theorem dX7_sheet_15 : decode cX7_sheet 15 = .ok (.if_icmp .eq 22, 3) := by decide +kernel
theorem dX7_sheet_18 : decode cX7_sheet 18 = .ok (.iload_n 2, 1) := by decide +kernel
theorem dX7_sheet_19 : decode cX7_sheet 19 = .ok (.bipush 16, 2) := by decide +kernel
theorem dX7_sheet_21 : decode cX7_sheet 21 = .ok (.if_icmp .eq 16, 3) := by decide +kernel
theorem dX7_sheet_24 : decode cX7_sheet 24 = .ok (.iload_n 2, 1) := by decide +kernel
theorem dX7_sheet_25 : decode cX7_sheet 25 = .ok (.bipush 64, 2) := by decide +kernel
theorem dX7_sheet_27 : decode cX7_sheet 27 = .ok (.if_icmp .eq 10, 3) := by decide +kernel
theorem dX7_sheet_30 : decode cX7_sheet 30 = .ok (.aload_n 0, 1) := by decide +kernel
theorem dX7_sheet_31 : decode cX7_sheet 31 = .ok (.ldc 81, 2) := by decide +kernel
theorem dX7_sheet_33 : decode cX7_sheet 33 = .ok (.invokevirtual 82, 3) := by decide +kernel
theorem dX7_sheet_36 : decode cX7_sheet 36 = .ok (.ireturn, 1) := by decide +kernel
theorem dX7_sheet_37 : decode cX7_sheet 37 = .ok (.iload_n 3, 1) := by decide +kernel
theorem dX7_sheet_38 : decode cX7_sheet 38 = .ok (.ifCond .ge 10, 3) := by decide +kernel
theorem dX7_sheet_41 : decode cX7_sheet 41 = .ok (.aload_n 0, 1) := by decide +kernel
theorem dX7_sheet_42 : decode cX7_sheet 42 = .ok (.ldc 230, 2) := by decide +kernel
theorem dX7_sheet_44 : decode cX7_sheet 44 = .ok (.invokevirtual 82, 3) := by decide +kernel
theorem dX7_sheet_47 : decode cX7_sheet 47 = .ok (.ireturn, 1) := by decide +kernel
theorem dX7_sheet_48 : decode cX7_sheet 48 = .ok (.iload_n 3, 1) := by decide +kernel
theorem dX7_sheet_49 : decode cX7_sheet 49 = .ok (.bipush 40, 2) := by decide +kernel
theorem dX7_sheet_51 : decode cX7_sheet 51 = .ok (.if_icmp .le 10, 3) := by decide +kernel
theorem dX7_sheet_54 : decode cX7_sheet 54 = .ok (.aload_n 0, 1) := by decide +kernel
theorem dX7_sheet_55 : decode cX7_sheet 55 = .ok (.ldc 81, 2) := by decide +kernel
theorem dX7_sheet_57 : decode cX7_sheet 57 = .ok (.invokevirtual 82, 3) := by decide +kernel
theorem dX7_sheet_60 : decode cX7_sheet 60 = .ok (.ireturn, 1) := by decide +kernel
theorem dX7_sheet_61 : decode cX7_sheet 61 = .ok (.aload_n 0, 1) := by decide +kernel
theorem dX7_sheet_62 : decode cX7_sheet 62 = .ok (.getfield 68, 3) := by decide +kernel
theorem dX7_sheet_65 : decode cX7_sheet 65 = .ok (.iload_n 1, 1) := by decide +kernel
theorem dX7_sheet_66 : decode cX7_sheet 66 = .ok (.aaload, 1) := by decide +kernel
theorem dX7_sheet_67 : decode cX7_sheet 67 = .ok (.iload_n 2, 1) := by decide +kernel
theorem dX7_sheet_68 : decode cX7_sheet 68 = .ok (.iload_n 2, 1) := by decide +kernel
theorem dX7_sheet_69 : decode cX7_sheet 69 = .ok (.ifCond .ne 7, 3) := by decide +kernel
theorem dX7_sheet_72 : decode cX7_sheet 72 = .ok (.iconst 0, 1) := by decide +kernel
theorem dX7_sheet_73 : decode cX7_sheet 73 = .ok (.goto 4, 3) := by decide +kernel
theorem dX7_sheet_76 : decode cX7_sheet 76 = .ok (.iload_n 3, 1) := by decide +kernel
theorem dX7_sheet_77 : decode cX7_sheet 77 = .ok (.invokevirtual 231, 3) := by decide +kernel
theorem dX7_sheet_80 : decode cX7_sheet 80 = .ok (.aload_n 0, 1) := by decide +kernel
theorem dX7_sheet_81 : decode cX7_sheet 81 = .ok (.getfield 68, 3) := by decide +kernel
theorem dX7_sheet_84 : decode cX7_sheet 84 = .ok (.iload_n 1, 1) := by decide +kernel
theorem dX7_sheet_85 : decode cX7_sheet 85 = .ok (.aaload, 1) := by decide +kernel
theorem dX7_sheet_86 : decode cX7_sheet 86 = .ok (.getfield 233, 3) := by decide +kernel
theorem dX7_sheet_89 : decode cX7_sheet 89 = .ok (.ireturn, 1) := by decide +kernel
theorem dX7_write_0 : decode cX7_write 0 = .ok (.iload_n 1, 1) := by decide +kernel
theorem dX7_write_1 : decode cX7_write 1 = .ok (.iconst 3, 1) := by decide +kernel
theorem dX7_write_2 : decode cX7_write 2 = .ok (.invokestatic 77, 3) := by decide +kernel
theorem dX7_write_5 : decode cX7_write 5 = .ok (.ifCond .ne 11, 3) := by decide +kernel
theorem dX7_write_8 : decode cX7_write 8 = .ok (.aload_n 0, 1) := by decide +kernel
theorem dX7_write_9 : decode cX7_write 9 = .ok (.ldc 81, 2) := by decide +kernel
theorem dX7_write_11 : decode cX7_write 11 = .ok (.invokevirtual 82, 3) := by decide +kernel
theorem dX7_write_14 : decode cX7_write 14 = .ok (.i2l, 1) := by decide +kernel
theorem dX7_write_15 : decode cX7_write 15 = .ok (.lreturn, 1) := by decide +kernel
theorem dX7_write_16 : decode cX7_write 16 = .ok (.aload_n 0, 1) := by decide +kernel
theorem dX7_write_17 : decode cX7_write 17 = .ok (.getfield 68, 3) := by decide +kernel
theorem dX7_write_20 : decode cX7_write 20 = .ok (.iload_n 1, 1) := by decide +kernel
theorem dX7_write_21 : decode cX7_write 21 = .ok (.aaload, 1) := by decide +kernel
theorem dX7_write_22 : decode cX7_write 22 = .ok (.astore 5, 2) := by decide +kernel
theorem dX7_write_24 : decode cX7_write 24 = .ok (.aload 5, 2) := by decide +kernel
theorem dX7_write_26 : decode cX7_write 26 = .ok (.invokevirtual 236, 3) := by decide +kernel
theorem dX7_write_29 : decode cX7_write 29 = .ok (.ifCond .eq 11, 3) := by decide +kernel
theorem dX7_write_32 : decode cX7_write 32 = .ok (.aload_n 0, 1) := by decide +kernel
theorem dX7_write_33 : decode cX7_write 33 = .ok (.ldc 239, 2) := by decide +kernel
theorem dX7_write_35 : decode cX7_write 35 = .ok (.invokevirtual 82, 3) := by decide +kernel
theorem dX7_write_38 : decode cX7_write 38 = .ok (.i2l, 1) := by decide +kernel
theorem dX7_write_39 : decode cX7_write 39 = .ok (.lreturn, 1) := by decide +kernel
theorem dX7_write_40 : decode cX7_write 40 = .ok (.iload_n 2, 1) := by decide +kernel
theorem dX7_write_41 : decode cX7_write 41 = .ok (.aload 5, 2) := by decide +kernel
theorem dX7_write_43 : decode cX7_write 43 = .ok (.getfield 233, 3) := by decide +kernel
theorem dX7_write_46 : decode cX7_write 46 = .ok (.iconst 1, 1) := by decide +kernel
theorem dX7_write_47 : decode cX7_write 47 = .ok (.isub, 1) := by decide +kernel
theorem dX7_write_48 : decode cX7_write 48 = .ok (.invokestatic 77, 3) := by decide +kernel
theorem dX7_write_51 : decode cX7_write 51 = .ok (.ifCond .ne 11, 3) := by decide +kernel
theorem dX7_write_54 : decode cX7_write 54 = .ok (.aload_n 0, 1) := by decide +kernel
theorem dX7_write_55 : decode cX7_write 55 = .ok (.ldc 81, 2) := by decide +kernel
theorem dX7_write_57 : decode cX7_write 57 = .ok (.invokevirtual 82, 3) := by decide +kernel
theorem dX7_write_60 : decode cX7_write 60 = .ok (.i2l, 1) := by decide +kernel
theorem dX7_write_61 : decode cX7_write 61 = .ok (.lreturn, 1) := by decide +kernel
theorem dX7_write_62 : decode cX7_write 62 = .ok (.aload 5, 2) := by decide +kernel
theorem dX7_write_64 : decode cX7_write 64 = .ok (.getfield 240, 3) := by decide +kernel
theorem dX7_write_67 : decode cX7_write 67 = .ok (.iload_n 2, 1) := by decide +kernel
theorem dX7_write_68 : decode cX7_write 68 = .ok (.laload, 1) := by decide +kernel
theorem dX7_write_69 : decode cX7_write 69 = .ok (.lstore 6, 2) := by decide +kernel
theorem dX7_write_71 : decode cX7_write 71 = .ok (.aload 5, 2) := by decide +kernel
theorem dX7_write_73 : decode cX7_write 73 = .ok (.iload_n 2, 1) := by decide +kernel
theorem dX7_write_74 : decode cX7_write 74 = .ok (.lload_n 3, 1) := by decide +kernel
theorem dX7_write_75 : decode cX7_write 75 = .ok (.invokevirtual 244, 3) := by decide +kernel
theorem dX7_write_78 : decode cX7_write 78 = .ok (.lload 6, 2) := by decide +kernel
theorem dX7_write_80 : decode cX7_write 80 = .ok (.lreturn, 1) := by decide +kernel
theorem dX7_copy_0 : decode cX7_copy 0 = .ok (.iload_n 1, 1) := by decide +kernel
theorem dX7_copy_1 : decode cX7_copy 1 = .ok (.iconst 3, 1) := by decide +kernel
theorem dX7_copy_2 : decode cX7_copy 2 = .ok (.invokestatic 77, 3) := by decide +kernel
theorem dX7_copy_5 : decode cX7_copy 5 = .ok (.ifCond .eq 11, 3) := by decide +kernel
theorem dX7_copy_8 : decode cX7_copy 8 = .ok (.iload_n 3, 1) := by decide +kernel
theorem dX7_copy_9 : decode cX7_copy 9 = .ok (.iconst 3, 1) := by decide +kernel
theorem dX7_copy_10 : decode cX7_copy 10 = .ok (.invokestatic 77, 3) := by decide +kernel
theorem dX7_copy_13 : decode cX7_copy 13 = .ok (.ifCond .ne 10, 3) := by decide +kernel
theorem dX7_copy_16 : decode cX7_copy 16 = .ok (.aload_n 0, 1) := by decide +kernel
theorem dX7_copy_17 : decode cX7_copy 17 = .ok (.ldc 81, 2) := by decide +kernel
theorem dX7_copy_19 : decode cX7_copy 19 = .ok (.invokevirtual 82, 3) := by decide +kernel
theorem dX7_copy_22 : decode cX7_copy 22 = .ok (.ireturn, 1) := by decide +kernel
theorem dX7_copy_23 : decode cX7_copy 23 = .ok (.aload_n 0, 1) := by decide +kernel
theorem dX7_copy_24 : decode cX7_copy 24 = .ok (.getfield 68, 3) := by decide +kernel
theorem dX7_copy_27 : decode cX7_copy 27 = .ok (.iload_n 1, 1) := by decide +kernel
theorem dX7_copy_28 : decode cX7_copy 28 = .ok (.aaload, 1) := by decide +kernel
theorem dX7_copy_29 : decode cX7_copy 29 = .ok (.astore 6, 2) := by decide +kernel
theorem dX7_copy_31 : decode cX7_copy 31 = .ok (.aload_n 0, 1) := by decide +kernel
theorem dX7_copy_32 : decode cX7_copy 32 = .ok (.getfield 68, 3) := by decide +kernel
theorem dX7_copy_35 : decode cX7_copy 35 = .ok (.iload_n 3, 1) := by decide +kernel
theorem dX7_copy_36 : decode cX7_copy 36 = .ok (.aaload, 1) := by decide +kernel
theorem dX7_copy_37 : decode cX7_copy 37 = .ok (.astore 7, 2) := by decide +kernel
theorem dX7_copy_39 : decode cX7_copy 39 = .ok (.aload 6, 2) := by decide +kernel
theorem dX7_copy_41 : decode cX7_copy 41 = .ok (.invokevirtual 236, 3) := by decide +kernel
theorem dX7_copy_44 : decode cX7_copy 44 = .ok (.ifCond .ne 11, 3) := by decide +kernel
theorem dX7_copy_47 : decode cX7_copy 47 = .ok (.aload 7, 2) := by decide +kernel
theorem dX7_copy_49 : decode cX7_copy 49 = .ok (.invokevirtual 236, 3) := by decide +kernel
theorem dX7_copy_52 : decode cX7_copy 52 = .ok (.ifCond .eq 10, 3) := by decide +kernel
theorem dX7_copy_55 : decode cX7_copy 55 = .ok (.aload_n 0, 1) := by decide +kernel
theorem dX7_copy_56 : decode cX7_copy 56 = .ok (.ldc 239, 2) := by decide +kernel
theorem dX7_copy_58 : decode cX7_copy 58 = .ok (.invokevirtual 82, 3) := by decide +kernel
theorem dX7_copy_61 : decode cX7_copy 61 = .ok (.ireturn, 1) := by decide +kernel
theorem dX7_copy_62 : decode cX7_copy 62 = .ok (.aload 6, 2) := by decide +kernel
theorem dX7_copy_64 : decode cX7_copy 64 = .ok (.getfield 247, 3) := by decide +kernel
theorem dX7_copy_67 : decode cX7_copy 67 = .ok (.aload 7, 2) := by decide +kernel
theorem dX7_copy_69 : decode cX7_copy 69 = .ok (.getfield 247, 3) := by decide +kernel
theorem dX7_copy_72 : decode cX7_copy 72 = .ok (.if_icmp .eq 10, 3) := by decide +kernel
theorem dX7_copy_75 : decode cX7_copy 75 = .ok (.aload_n 0, 1) := by decide +kernel
theorem dX7_copy_76 : decode cX7_copy 76 = .ok (.ldc 156, 2) := by decide +kernel
theorem dX7_copy_78 : decode cX7_copy 78 = .ok (.invokevirtual 82, 3) := by decide +kernel
theorem dX7_copy_81 : decode cX7_copy 81 = .ok (.ireturn, 1) := by decide +kernel
theorem dX7_copy_82 : decode cX7_copy 82 = .ok (.aload 6, 2) := by decide +kernel
theorem dX7_copy_84 : decode cX7_copy 84 = .ok (.iload_n 2, 1) := by decide +kernel
theorem dX7_copy_85 : decode cX7_copy 85 = .ok (.iload 5, 2) := by decide +kernel
theorem dX7_copy_87 : decode cX7_copy 87 = .ok (.invokevirtual 250, 3) := by decide +kernel
theorem dX7_copy_90 : decode cX7_copy 90 = .ok (.ifCond .eq 15, 3) := by decide +kernel
theorem dX7_copy_93 : decode cX7_copy 93 = .ok (.aload 7, 2) := by decide +kernel
theorem dX7_copy_95 : decode cX7_copy 95 = .ok (.iload 4, 2) := by decide +kernel
theorem dX7_copy_97 : decode cX7_copy 97 = .ok (.iload 5, 2) := by decide +kernel
theorem dX7_copy_99 : decode cX7_copy 99 = .ok (.invokevirtual 250, 3) := by decide +kernel
theorem dX7_copy_102 : decode cX7_copy 102 = .ok (.ifCond .ne 10, 3) := by decide +kernel
theorem dX7_copy_105 : decode cX7_copy 105 = .ok (.aload_n 0, 1) := by decide +kernel
theorem dX7_copy_106 : decode cX7_copy 106 = .ok (.ldc 81, 2) := by decide +kernel
theorem dX7_copy_108 : decode cX7_copy 108 = .ok (.invokevirtual 82, 3) := by decide +kernel
theorem dX7_copy_111 : decode cX7_copy 111 = .ok (.ireturn, 1) := by decide +kernel
theorem dX7_copy_112 : decode cX7_copy 112 = .ok (.aload 6, 2) := by decide +kernel
theorem dX7_copy_114 : decode cX7_copy 114 = .ok (.getfield 240, 3) := by decide +kernel
theorem dX7_copy_117 : decode cX7_copy 117 = .ok (.iload_n 2, 1) := by decide +kernel
theorem dX7_copy_118 : decode cX7_copy 118 = .ok (.aload 7, 2) := by decide +kernel
theorem dX7_copy_120 : decode cX7_copy 120 = .ok (.getfield 240, 3) := by decide +kernel
theorem dX7_copy_123 : decode cX7_copy 123 = .ok (.iload 4, 2) := by decide +kernel
theorem dX7_copy_125 : decode cX7_copy 125 = .ok (.iload 5, 2) := by decide +kernel
theorem dX7_copy_127 : decode cX7_copy 127 = .ok (.invokestatic 253, 3) := by decide +kernel
theorem dX7_copy_130 : decode cX7_copy 130 = .ok (.iload 5, 2) := by decide +kernel
theorem dX7_copy_132 : decode cX7_copy 132 = .ok (.ireturn, 1) := by decide +kernel
theorem dX7_lays_0 : decode cX7_lays 0 = .ok (.iload_n 1, 1) := by decide +kernel
theorem dX7_lays_1 : decode cX7_lays 1 = .ok (.iconst 3, 1) := by decide +kernel
theorem dX7_lays_2 : decode cX7_lays 2 = .ok (.invokestatic 77, 3) := by decide +kernel
theorem dX7_lays_5 : decode cX7_lays 5 = .ok (.ifCond .ne 10, 3) := by decide +kernel
theorem dX7_lays_8 : decode cX7_lays 8 = .ok (.aload_n 0, 1) := by decide +kernel
theorem dX7_lays_9 : decode cX7_lays 9 = .ok (.ldc 81, 2) := by decide +kernel
theorem dX7_lays_11 : decode cX7_lays 11 = .ok (.invokevirtual 82, 3) := by decide +kernel
theorem dX7_lays_14 : decode cX7_lays 14 = .ok (.ireturn, 1) := by decide +kernel
theorem dX7_lays_15 : decode cX7_lays 15 = .ok (.aload_n 0, 1) := by decide +kernel
theorem dX7_lays_16 : decode cX7_lays 16 = .ok (.getfield 68, 3) := by decide +kernel
theorem dX7_lays_19 : decode cX7_lays 19 = .ok (.iload_n 1, 1) := by decide +kernel
theorem dX7_lays_20 : decode cX7_lays 20 = .ok (.aaload, 1) := by decide +kernel
theorem dX7_lays_21 : decode cX7_lays 21 = .ok (.astore_n 2, 1) := by decide +kernel
theorem dX7_lays_22 : decode cX7_lays 22 = .ok (.aload_n 2, 1) := by decide +kernel
theorem dX7_lays_23 : decode cX7_lays 23 = .ok (.invokevirtual 236, 3) := by decide +kernel
theorem dX7_lays_26 : decode cX7_lays 26 = .ok (.ifCond .eq 10, 3) := by decide +kernel
theorem dX7_lays_29 : decode cX7_lays 29 = .ok (.aload_n 0, 1) := by decide +kernel
theorem dX7_lays_30 : decode cX7_lays 30 = .ok (.ldc 239, 2) := by decide +kernel
theorem dX7_lays_32 : decode cX7_lays 32 = .ok (.invokevirtual 82, 3) := by decide +kernel
theorem dX7_lays_35 : decode cX7_lays 35 = .ok (.ireturn, 1) := by decide +kernel
theorem dX7_lays_36 : decode cX7_lays 36 = .ok (.iconst 0, 1) := by decide +kernel
theorem dX7_lays_37 : decode cX7_lays 37 = .ok (.istore_n 3, 1) := by decide +kernel
theorem dX7_lays_38 : decode cX7_lays 38 = .ok (.iconst 0, 1) := by decide +kernel
theorem dX7_lays_39 : decode cX7_lays 39 = .ok (.istore 4, 2) := by decide +kernel
theorem dX7_lays_41 : decode cX7_lays 41 = .ok (.iload 4, 2) := by decide +kernel
theorem dX7_lays_43 : decode cX7_lays 43 = .ok (.bipush 7, 2) := by decide +kernel
theorem dX7_lays_45 : decode cX7_lays 45 = .ok (.if_icmp .ge 59, 3) := by decide +kernel
theorem dX7_lays_48 : decode cX7_lays 48 = .ok (.iload 4, 2) := by decide +kernel
theorem dX7_lays_50 : decode cX7_lays 50 = .ok (.aload_n 2, 1) := by decide +kernel
theorem dX7_lays_51 : decode cX7_lays 51 = .ok (.getfield 233, 3) := by decide +kernel
theorem dX7_lays_54 : decode cX7_lays 54 = .ok (.if_icmp .ge 50, 3) := by decide +kernel
theorem dX7_lays_57 : decode cX7_lays 57 = .ok (.aload_n 2, 1) := by decide +kernel
theorem dX7_lays_58 : decode cX7_lays 58 = .ok (.getfield 240, 3) := by decide +kernel
theorem dX7_lays_61 : decode cX7_lays 61 = .ok (.iload 4, 2) := by decide +kernel
theorem dX7_lays_63 : decode cX7_lays 63 = .ok (.laload, 1) := by decide +kernel
theorem dX7_lays_64 : decode cX7_lays 64 = .ok (.lstore 5, 2) := by decide +kernel
theorem dX7_lays_66 : decode cX7_lays 66 = .ok (.lload 5, 2) := by decide +kernel
theorem dX7_lays_68 : decode cX7_lays 68 = .ok (.lconst 0, 1) := by decide +kernel
theorem dX7_lays_69 : decode cX7_lays 69 = .ok (.lcmp, 1) := by decide +kernel
theorem dX7_lays_70 : decode cX7_lays 70 = .ok (.ifCond .lt 28, 3) := by decide +kernel
theorem dX7_lays_73 : decode cX7_lays 73 = .ok (.lload 5, 2) := by decide +kernel
theorem dX7_lays_75 : decode cX7_lays 75 = .ok (.ldc2_w 259, 3) := by decide +kernel
theorem dX7_lays_78 : decode cX7_lays 78 = .ok (.lcmp, 1) := by decide +kernel
theorem dX7_lays_79 : decode cX7_lays 79 = .ok (.ifCond .gt 19, 3) := by decide +kernel
theorem dX7_lays_82 : decode cX7_lays 82 = .ok (.aload_n 0, 1) := by decide +kernel
theorem dX7_lays_83 : decode cX7_lays 83 = .ok (.getfield 10, 3) := by decide +kernel
theorem dX7_lays_86 : decode cX7_lays 86 = .ok (.getfield 86, 3) := by decide +kernel
theorem dX7_lays_89 : decode cX7_lays 89 = .ok (.iload 4, 2) := by decide +kernel
theorem dX7_lays_91 : decode cX7_lays 91 = .ok (.lload 5, 2) := by decide +kernel
theorem dX7_lays_93 : decode cX7_lays 93 = .ok (.l2i, 1) := by decide +kernel
theorem dX7_lays_94 : decode cX7_lays 94 = .ok (.iastore, 1) := by decide +kernel
theorem dX7_lays_95 : decode cX7_lays 95 = .ok (.iinc 3 1, 3) := by decide +kernel
theorem dX7_lays_98 : decode cX7_lays 98 = .ok (.iinc 4 1, 3) := by decide +kernel
theorem dX7_lays_101 : decode cX7_lays 101 = .ok (.goto (-60), 3) := by decide +kernel
theorem dX7_lays_104 : decode cX7_lays 104 = .ok (.iload_n 3, 1) := by decide +kernel
theorem dX7_lays_105 : decode cX7_lays 105 = .ok (.ireturn, 1) := by decide +kernel
theorem dX7_book_0 : decode cX7_book 0 = .ok (.aload_n 0, 1) := by decide +kernel
theorem dX7_book_1 : decode cX7_book 1 = .ok (.iload_n 1, 1) := by decide +kernel
theorem dX7_book_2 : decode cX7_book 2 = .ok (.iload_n 2, 1) := by decide +kernel
theorem dX7_book_3 : decode cX7_book 3 = .ok (.invokevirtual 261, 3) := by decide +kernel
theorem dX7_book_6 : decode cX7_book 6 = .ok (.istore_n 3, 1) := by decide +kernel
theorem dX7_book_7 : decode cX7_book 7 = .ok (.iload_n 3, 1) := by decide +kernel
theorem dX7_book_8 : decode cX7_book 8 = .ok (.ifCond .eq 9, 3) := by decide +kernel
theorem dX7_book_11 : decode cX7_book 11 = .ok (.aload_n 0, 1) := by decide +kernel
theorem dX7_book_12 : decode cX7_book 12 = .ok (.iload_n 3, 1) := by decide +kernel
theorem dX7_book_13 : decode cX7_book 13 = .ok (.invokevirtual 82, 3) := by decide +kernel
theorem dX7_book_16 : decode cX7_book 16 = .ok (.ireturn, 1) := by decide +kernel
theorem dX7_book_17 : decode cX7_book 17 = .ok (.aload_n 0, 1) := by decide +kernel
theorem dX7_book_18 : decode cX7_book 18 = .ok (.getfield 68, 3) := by decide +kernel
theorem dX7_book_21 : decode cX7_book 21 = .ok (.iload_n 1, 1) := by decide +kernel
theorem dX7_book_22 : decode cX7_book 22 = .ok (.aaload, 1) := by decide +kernel
theorem dX7_book_23 : decode cX7_book 23 = .ok (.astore 4, 2) := by decide +kernel
theorem dX7_book_25 : decode cX7_book 25 = .ok (.aload_n 0, 1) := by decide +kernel
theorem dX7_book_26 : decode cX7_book 26 = .ok (.getfield 29, 3) := by decide +kernel
theorem dX7_book_29 : decode cX7_book 29 = .ok (.aload_n 0, 1) := by decide +kernel
theorem dX7_book_30 : decode cX7_book 30 = .ok (.getfield 10, 3) := by decide +kernel
theorem dX7_book_33 : decode cX7_book 33 = .ok (.getfield 124, 3) := by decide +kernel
theorem dX7_book_36 : decode cX7_book 36 = .ok (.iload_n 2, 1) := by decide +kernel
theorem dX7_book_37 : decode cX7_book 37 = .ok (.aaload, 1) := by decide +kernel
theorem dX7_book_38 : decode cX7_book 38 = .ok (.invokevirtual 181, 3) := by decide +kernel
theorem dX7_book_41 : decode cX7_book 41 = .ok (.iconst 0, 1) := by decide +kernel
theorem dX7_book_42 : decode cX7_book 42 = .ok (.istore 5, 2) := by decide +kernel
theorem dX7_book_44 : decode cX7_book 44 = .ok (.iload 5, 2) := by decide +kernel
theorem dX7_book_46 : decode cX7_book 46 = .ok (.aload 4, 2) := by decide +kernel
theorem dX7_book_48 : decode cX7_book 48 = .ok (.getfield 233, 3) := by decide +kernel
theorem dX7_book_51 : decode cX7_book 51 = .ok (.if_icmp .ge 37, 3) := by decide +kernel
theorem dX7_book_54 : decode cX7_book 54 = .ok (.aload 4, 2) := by decide +kernel
theorem dX7_book_56 : decode cX7_book 56 = .ok (.iload 5, 2) := by decide +kernel
theorem dX7_book_58 : decode cX7_book 58 = .ok (.aload_n 0, 1) := by decide +kernel
theorem dX7_book_59 : decode cX7_book 59 = .ok (.getfield 29, 3) := by decide +kernel
theorem dX7_book_62 : decode cX7_book 62 = .ok (.getfield 140, 3) := by decide +kernel
theorem dX7_book_65 : decode cX7_book 65 = .ok (.i2l, 1) := by decide +kernel
theorem dX7_book_66 : decode cX7_book 66 = .ok (.invokevirtual 244, 3) := by decide +kernel
theorem dX7_book_69 : decode cX7_book 69 = .ok (.aload_n 0, 1) := by decide +kernel
theorem dX7_book_70 : decode cX7_book 70 = .ok (.getfield 10, 3) := by decide +kernel
theorem dX7_book_73 : decode cX7_book 73 = .ok (.aload_n 0, 1) := by decide +kernel
theorem dX7_book_74 : decode cX7_book 74 = .ok (.getfield 29, 3) := by decide +kernel
theorem dX7_book_77 : decode cX7_book 77 = .ok (.iload 5, 2) := by decide +kernel
theorem dX7_book_79 : decode cX7_book 79 = .ok (.invokevirtual 185, 3) := by decide +kernel
theorem dX7_book_82 : decode cX7_book 82 = .ok (.iinc 5 1, 3) := by decide +kernel
theorem dX7_book_85 : decode cX7_book 85 = .ok (.goto (-41), 3) := by decide +kernel
theorem dX7_book_88 : decode cX7_book 88 = .ok (.aload 4, 2) := by decide +kernel
theorem dX7_book_90 : decode cX7_book 90 = .ok (.getfield 233, 3) := by decide +kernel
theorem dX7_book_93 : decode cX7_book 93 = .ok (.ireturn, 1) := by decide +kernel
theorem dX7_read_0 : decode cX7_read 0 = .ok (.aload_n 0, 1) := by decide +kernel
theorem dX7_read_1 : decode cX7_read 1 = .ok (.iload_n 1, 1) := by decide +kernel
theorem dX7_read_2 : decode cX7_read 2 = .ok (.iload_n 2, 1) := by decide +kernel
theorem dX7_read_3 : decode cX7_read 3 = .ok (.invokevirtual 261, 3) := by decide +kernel
theorem dX7_read_6 : decode cX7_read 6 = .ok (.istore_n 3, 1) := by decide +kernel
theorem dX7_read_7 : decode cX7_read 7 = .ok (.iload_n 3, 1) := by decide +kernel
theorem dX7_read_8 : decode cX7_read 8 = .ok (.ifCond .eq 9, 3) := by decide +kernel
theorem dX7_read_11 : decode cX7_read 11 = .ok (.aload_n 0, 1) := by decide +kernel
theorem dX7_read_12 : decode cX7_read 12 = .ok (.iload_n 3, 1) := by decide +kernel
theorem dX7_read_13 : decode cX7_read 13 = .ok (.invokevirtual 82, 3) := by decide +kernel
theorem dX7_read_16 : decode cX7_read 16 = .ok (.ireturn, 1) := by decide +kernel
theorem dX7_read_17 : decode cX7_read 17 = .ok (.iconst 0, 1) := by decide +kernel
theorem dX7_read_18 : decode cX7_read 18 = .ok (.istore 4, 2) := by decide +kernel
theorem dX7_read_20 : decode cX7_read 20 = .ok (.iconst 0, 1) := by decide +kernel
theorem dX7_read_21 : decode cX7_read 21 = .ok (.istore 5, 2) := by decide +kernel
theorem dX7_read_23 : decode cX7_read 23 = .ok (.iload 5, 2) := by decide +kernel
theorem dX7_read_25 : decode cX7_read 25 = .ok (.bipush 6, 2) := by decide +kernel
theorem dX7_read_27 : decode cX7_read 27 = .ok (.if_icmp .ge 75, 3) := by decide +kernel
theorem dX7_read_30 : decode cX7_read 30 = .ok (.iconst 0, 1) := by decide +kernel
theorem dX7_read_31 : decode cX7_read 31 = .ok (.istore 6, 2) := by decide +kernel
theorem dX7_read_33 : decode cX7_read 33 = .ok (.iload 6, 2) := by decide +kernel
theorem dX7_read_35 : decode cX7_read 35 = .ok (.bipush 8, 2) := by decide +kernel
theorem dX7_read_37 : decode cX7_read 37 = .ok (.if_icmp .ge 59, 3) := by decide +kernel
theorem dX7_read_40 : decode cX7_read 40 = .ok (.aload_n 0, 1) := by decide +kernel
theorem dX7_read_41 : decode cX7_read 41 = .ok (.getfield 29, 3) := by decide +kernel
theorem dX7_read_44 : decode cX7_read 44 = .ok (.aload_n 0, 1) := by decide +kernel
theorem dX7_read_45 : decode cX7_read 45 = .ok (.getfield 10, 3) := by decide +kernel
theorem dX7_read_48 : decode cX7_read 48 = .ok (.getfield 124, 3) := by decide +kernel
theorem dX7_read_51 : decode cX7_read 51 = .ok (.iload_n 2, 1) := by decide +kernel
theorem dX7_read_52 : decode cX7_read 52 = .ok (.aaload, 1) := by decide +kernel
theorem dX7_read_53 : decode cX7_read 53 = .ok (.invokevirtual 181, 3) := by decide +kernel
theorem dX7_read_56 : decode cX7_read 56 = .ok (.aload_n 0, 1) := by decide +kernel
theorem dX7_read_57 : decode cX7_read 57 = .ok (.getfield 29, 3) := by decide +kernel
theorem dX7_read_60 : decode cX7_read 60 = .ok (.iload 5, 2) := by decide +kernel
theorem dX7_read_62 : decode cX7_read 62 = .ok (.putfield 131, 3) := by decide +kernel
theorem dX7_read_65 : decode cX7_read 65 = .ok (.aload_n 0, 1) := by decide +kernel
theorem dX7_read_66 : decode cX7_read 66 = .ok (.getfield 29, 3) := by decide +kernel
theorem dX7_read_69 : decode cX7_read 69 = .ok (.iload 6, 2) := by decide +kernel
theorem dX7_read_71 : decode cX7_read 71 = .ok (.putfield 137, 3) := by decide +kernel
theorem dX7_read_74 : decode cX7_read 74 = .ok (.aload_n 0, 1) := by decide +kernel
theorem dX7_read_75 : decode cX7_read 75 = .ok (.aload_n 0, 1) := by decide +kernel
theorem dX7_read_76 : decode cX7_read 76 = .ok (.getfield 68, 3) := by decide +kernel
theorem dX7_read_79 : decode cX7_read 79 = .ok (.iload_n 1, 1) := by decide +kernel
theorem dX7_read_80 : decode cX7_read 80 = .ok (.aaload, 1) := by decide +kernel
theorem dX7_read_81 : decode cX7_read 81 = .ok (.invokevirtual 264, 3) := by decide +kernel
theorem dX7_read_84 : decode cX7_read 84 = .ok (.ifCond .eq 6, 3) := by decide +kernel
theorem dX7_read_87 : decode cX7_read 87 = .ok (.iinc 4 1, 3) := by decide +kernel
theorem dX7_read_90 : decode cX7_read 90 = .ok (.iinc 6 1, 3) := by decide +kernel
theorem dX7_read_93 : decode cX7_read 93 = .ok (.goto (-60), 3) := by decide +kernel
theorem dX7_read_96 : decode cX7_read 96 = .ok (.iinc 5 1, 3) := by decide +kernel
theorem dX7_read_99 : decode cX7_read 99 = .ok (.goto (-76), 3) := by decide +kernel
theorem dX7_read_102 : decode cX7_read 102 = .ok (.iload 4, 2) := by decide +kernel
theorem dX7_read_104 : decode cX7_read 104 = .ok (.ireturn, 1) := by decide +kernel
theorem dX7_image_0 : decode cX7_image 0 = .ok (.aload_n 0, 1) := by decide +kernel
theorem dX7_image_1 : decode cX7_image 1 = .ok (.getfield 19, 3) := by decide +kernel
theorem dX7_image_4 : decode cX7_image 4 = .ok (.aload_n 0, 1) := by decide +kernel
theorem dX7_image_5 : decode cX7_image 5 = .ok (.getfield 10, 3) := by decide +kernel
theorem dX7_image_8 : decode cX7_image 8 = .ok (.invokevirtual 207, 3) := by decide +kernel
theorem dX7_image_11 : decode cX7_image 11 = .ok (.aload_n 0, 1) := by decide +kernel
theorem dX7_image_12 : decode cX7_image 12 = .ok (.iconst 1, 1) := by decide +kernel
theorem dX7_image_13 : decode cX7_image 13 = .ok (.putfield 22, 3) := by decide +kernel
theorem dX7_image_16 : decode cX7_image 16 = .ok (.iconst 1, 1) := by decide +kernel
theorem dX7_image_17 : decode cX7_image 17 = .ok (.ireturn, 1) := by decide +kernel
theorem dX7_undo_0 : decode cX7_undo 0 = .ok (.aload_n 0, 1) := by decide +kernel
theorem dX7_undo_1 : decode cX7_undo 1 = .ok (.getfield 22, 3) := by decide +kernel
theorem dX7_undo_4 : decode cX7_undo 4 = .ok (.ifCond .ne 10, 3) := by decide +kernel
theorem dX7_undo_7 : decode cX7_undo 7 = .ok (.aload_n 0, 1) := by decide +kernel
theorem dX7_undo_8 : decode cX7_undo 8 = .ok (.ldc 108, 2) := by decide +kernel
theorem dX7_undo_10 : decode cX7_undo 10 = .ok (.invokevirtual 82, 3) := by decide +kernel
theorem dX7_undo_13 : decode cX7_undo 13 = .ok (.ireturn, 1) := by decide +kernel
theorem dX7_undo_14 : decode cX7_undo 14 = .ok (.aload_n 0, 1) := by decide +kernel
theorem dX7_undo_15 : decode cX7_undo 15 = .ok (.getfield 10, 3) := by decide +kernel
theorem dX7_undo_18 : decode cX7_undo 18 = .ok (.aload_n 0, 1) := by decide +kernel
theorem dX7_undo_19 : decode cX7_undo 19 = .ok (.getfield 19, 3) := by decide +kernel
theorem dX7_undo_22 : decode cX7_undo 22 = .ok (.invokevirtual 207, 3) := by decide +kernel
theorem dX7_undo_25 : decode cX7_undo 25 = .ok (.aload_n 0, 1) := by decide +kernel
theorem dX7_undo_26 : decode cX7_undo 26 = .ok (.getfield 10, 3) := by decide +kernel
theorem dX7_undo_29 : decode cX7_undo 29 = .ok (.getfield 118, 3) := by decide +kernel
theorem dX7_undo_32 : decode cX7_undo 32 = .ok (.ireturn, 1) := by decide +kernel
theorem dX7_tear_0 : decode cX7_tear 0 = .ok (.aload_n 0, 1) := by decide +kernel
theorem dX7_tear_1 : decode cX7_tear 1 = .ok (.getfield 22, 3) := by decide +kernel
theorem dX7_tear_4 : decode cX7_tear 4 = .ok (.ifCond .eq 7, 3) := by decide +kernel
theorem dX7_tear_7 : decode cX7_tear 7 = .ok (.iconst 1, 1) := by decide +kernel
theorem dX7_tear_8 : decode cX7_tear 8 = .ok (.goto 4, 3) := by decide +kernel
theorem dX7_tear_11 : decode cX7_tear 11 = .ok (.iconst 0, 1) := by decide +kernel
theorem dX7_tear_12 : decode cX7_tear 12 = .ok (.istore_n 1, 1) := by decide +kernel
theorem dX7_tear_13 : decode cX7_tear 13 = .ok (.aload_n 0, 1) := by decide +kernel
theorem dX7_tear_14 : decode cX7_tear 14 = .ok (.iconst 0, 1) := by decide +kernel
theorem dX7_tear_15 : decode cX7_tear 15 = .ok (.putfield 22, 3) := by decide +kernel
theorem dX7_tear_18 : decode cX7_tear 18 = .ok (.iload_n 1, 1) := by decide +kernel
theorem dX7_tear_19 : decode cX7_tear 19 = .ok (.ireturn, 1) := by decide +kernel
theorem dX7_count_0 : decode cX7_count 0 = .ok (.iload_n 1, 1) := by decide +kernel
theorem dX7_count_1 : decode cX7_count 1 = .ok (.tableswitch 66 0 3 #[31, 39, 47, 58], 31) := by decide +kernel
theorem dX7_count_32 : decode cX7_count 32 = .ok (.aload_n 0, 1) := by decide +kernel
theorem dX7_count_33 : decode cX7_count 33 = .ok (.getfield 10, 3) := by decide +kernel
theorem dX7_count_36 : decode cX7_count 36 = .ok (.getfield 118, 3) := by decide +kernel
theorem dX7_count_39 : decode cX7_count 39 = .ok (.ireturn, 1) := by decide +kernel
theorem dX7_count_40 : decode cX7_count 40 = .ok (.aload_n 0, 1) := by decide +kernel
theorem dX7_count_41 : decode cX7_count 41 = .ok (.getfield 53, 3) := by decide +kernel
theorem dX7_count_44 : decode cX7_count 44 = .ok (.getfield 220, 3) := by decide +kernel
theorem dX7_count_47 : decode cX7_count 47 = .ok (.ireturn, 1) := by decide +kernel
theorem dX7_count_48 : decode cX7_count 48 = .ok (.aload_n 0, 1) := by decide +kernel
theorem dX7_count_49 : decode cX7_count 49 = .ok (.getfield 10, 3) := by decide +kernel
theorem dX7_count_52 : decode cX7_count 52 = .ok (.getfield 172, 3) := by decide +kernel
theorem dX7_count_55 : decode cX7_count 55 = .ok (.invokestatic 268, 3) := by decide +kernel
theorem dX7_count_58 : decode cX7_count 58 = .ok (.ireturn, 1) := by decide +kernel
theorem dX7_count_59 : decode cX7_count 59 = .ok (.aload_n 0, 1) := by decide +kernel
theorem dX7_count_60 : decode cX7_count 60 = .ok (.getfield 10, 3) := by decide +kernel
theorem dX7_count_63 : decode cX7_count 63 = .ok (.invokevirtual 273, 3) := by decide +kernel
theorem dX7_count_66 : decode cX7_count 66 = .ok (.ireturn, 1) := by decide +kernel
theorem dX7_count_67 : decode cX7_count 67 = .ok (.aload_n 0, 1) := by decide +kernel
theorem dX7_count_68 : decode cX7_count 68 = .ok (.ldc 81, 2) := by decide +kernel
theorem dX7_count_70 : decode cX7_count 70 = .ok (.invokevirtual 82, 3) := by decide +kernel
theorem dX7_count_73 : decode cX7_count 73 = .ok (.ireturn, 1) := by decide +kernel
theorem dX7_status_0 : decode cX7_status 0 = .ok (.iload_n 1, 1) := by decide +kernel
theorem dX7_status_1 : decode cX7_status 1 = .ok (.iconst (-1), 1) := by decide +kernel
theorem dX7_status_2 : decode cX7_status 2 = .ok (.if_icmp .lt 9, 3) := by decide +kernel
theorem dX7_status_5 : decode cX7_status 5 = .ok (.iload_n 1, 1) := by decide +kernel
theorem dX7_status_6 : decode cX7_status 6 = .ok (.bipush 7, 2) := by decide +kernel
theorem dX7_status_8 : decode cX7_status 8 = .ok (.if_icmp .lt 10, 3) := by decide +kernel
theorem dX7_status_11 : decode cX7_status 11 = .ok (.aload_n 0, 1) := by decide +kernel
theorem dX7_status_12 : decode cX7_status 12 = .ok (.ldc 81, 2) := by decide +kernel
theorem dX7_status_14 : decode cX7_status 14 = .ok (.invokevirtual 82, 3) := by decide +kernel
theorem dX7_status_17 : decode cX7_status 17 = .ok (.ireturn, 1) := by decide +kernel
theorem dX7_status_18 : decode cX7_status 18 = .ok (.iload_n 1, 1) := by decide +kernel
theorem dX7_status_19 : decode cX7_status 19 = .ok (.ifCond .lt 10, 3) := by decide +kernel
theorem dX7_status_22 : decode cX7_status 22 = .ok (.aload_n 0, 1) := by decide +kernel
theorem dX7_status_23 : decode cX7_status 23 = .ok (.getfield 73, 3) := by decide +kernel
theorem dX7_status_26 : decode cX7_status 26 = .ok (.iload_n 1, 1) := by decide +kernel
theorem dX7_status_27 : decode cX7_status 27 = .ok (.iaload, 1) := by decide +kernel
theorem dX7_status_28 : decode cX7_status 28 = .ok (.ireturn, 1) := by decide +kernel
theorem dX7_status_29 : decode cX7_status 29 = .ok (.iconst 0, 1) := by decide +kernel
theorem dX7_status_30 : decode cX7_status 30 = .ok (.istore_n 2, 1) := by decide +kernel
theorem dX7_status_31 : decode cX7_status 31 = .ok (.iconst 0, 1) := by decide +kernel
theorem dX7_status_32 : decode cX7_status 32 = .ok (.istore_n 3, 1) := by decide +kernel
theorem dX7_status_33 : decode cX7_status 33 = .ok (.iload_n 3, 1) := by decide +kernel
theorem dX7_status_34 : decode cX7_status 34 = .ok (.bipush 7, 2) := by decide +kernel
theorem dX7_status_36 : decode cX7_status 36 = .ok (.if_icmp .ge 18, 3) := by decide +kernel
theorem dX7_status_39 : decode cX7_status 39 = .ok (.iload_n 2, 1) := by decide +kernel
theorem dX7_status_40 : decode cX7_status 40 = .ok (.aload_n 0, 1) := by decide +kernel
theorem dX7_status_41 : decode cX7_status 41 = .ok (.getfield 73, 3) := by decide +kernel
theorem dX7_status_44 : decode cX7_status 44 = .ok (.iload_n 3, 1) := by decide +kernel
theorem dX7_status_45 : decode cX7_status 45 = .ok (.iaload, 1) := by decide +kernel
theorem dX7_status_46 : decode cX7_status 46 = .ok (.iadd, 1) := by decide +kernel
theorem dX7_status_47 : decode cX7_status 47 = .ok (.istore_n 2, 1) := by decide +kernel
theorem dX7_status_48 : decode cX7_status 48 = .ok (.iinc 3 1, 3) := by decide +kernel
theorem dX7_status_51 : decode cX7_status 51 = .ok (.goto (-18), 3) := by decide +kernel
theorem dX7_status_54 : decode cX7_status 54 = .ok (.iload_n 2, 1) := by decide +kernel
theorem dX7_status_55 : decode cX7_status 55 = .ok (.ireturn, 1) := by decide +kernel
theorem dX7_finding_0 : decode cX7_finding 0 = .ok (.ldc 81, 2) := by decide +kernel
theorem dX7_finding_2 : decode cX7_finding 2 = .ok (.iload_n 1, 1) := by decide +kernel
theorem dX7_finding_3 : decode cX7_finding 3 = .ok (.isub, 1) := by decide +kernel
theorem dX7_finding_4 : decode cX7_finding 4 = .ok (.istore_n 2, 1) := by decide +kernel
theorem dX7_finding_5 : decode cX7_finding 5 = .ok (.iload_n 2, 1) := by decide +kernel
theorem dX7_finding_6 : decode cX7_finding 6 = .ok (.bipush 6, 2) := by decide +kernel
theorem dX7_finding_8 : decode cX7_finding 8 = .ok (.invokestatic 77, 3) := by decide +kernel
theorem dX7_finding_11 : decode cX7_finding 11 = .ok (.ifCond .eq 13, 3) := by decide +kernel
theorem dX7_finding_14 : decode cX7_finding 14 = .ok (.aload_n 0, 1) := by decide +kernel
theorem dX7_finding_15 : decode cX7_finding 15 = .ok (.getfield 73, 3) := by decide +kernel
theorem dX7_finding_18 : decode cX7_finding 18 = .ok (.iload_n 2, 1) := by decide +kernel
theorem dX7_finding_19 : decode cX7_finding 19 = .ok (.dup2, 1) := by decide +kernel
theorem dX7_finding_20 : decode cX7_finding 20 = .ok (.iaload, 1) := by decide +kernel
theorem dX7_finding_21 : decode cX7_finding 21 = .ok (.iconst 1, 1) := by decide +kernel
theorem dX7_finding_22 : decode cX7_finding 22 = .ok (.iadd, 1) := by decide +kernel
theorem dX7_finding_23 : decode cX7_finding 23 = .ok (.iastore, 1) := by decide +kernel
theorem dX7_finding_24 : decode cX7_finding 24 = .ok (.iload_n 1, 1) := by decide +kernel
theorem dX7_finding_25 : decode cX7_finding 25 = .ok (.ireturn, 1) := by decide +kernel
theorem dX7_sheetFinding_0 : decode cX7_sheetFinding 0 = .ok (.iload_n 1, 1) := by decide +kernel
theorem dX7_sheetFinding_1 : decode cX7_sheetFinding 1 = .ok (.iconst 3, 1) := by decide +kernel
theorem dX7_sheetFinding_2 : decode cX7_sheetFinding 2 = .ok (.invokestatic 77, 3) := by decide +kernel
theorem dX7_sheetFinding_5 : decode cX7_sheetFinding 5 = .ok (.ifCond .ne 6, 3) := by decide +kernel
theorem dX7_sheetFinding_8 : decode cX7_sheetFinding 8 = .ok (.ldc 81, 2) := by decide +kernel
theorem dX7_sheetFinding_10 : decode cX7_sheetFinding 10 = .ok (.ireturn, 1) := by decide +kernel
theorem dX7_sheetFinding_11 : decode cX7_sheetFinding 11 = .ok (.aload_n 0, 1) := by decide +kernel
theorem dX7_sheetFinding_12 : decode cX7_sheetFinding 12 = .ok (.getfield 68, 3) := by decide +kernel
theorem dX7_sheetFinding_15 : decode cX7_sheetFinding 15 = .ok (.iload_n 1, 1) := by decide +kernel
theorem dX7_sheetFinding_16 : decode cX7_sheetFinding 16 = .ok (.aaload, 1) := by decide +kernel
theorem dX7_sheetFinding_17 : decode cX7_sheetFinding 17 = .ok (.invokevirtual 236, 3) := by decide +kernel
theorem dX7_sheetFinding_20 : decode cX7_sheetFinding 20 = .ok (.ifCond .eq 6, 3) := by decide +kernel
theorem dX7_sheetFinding_23 : decode cX7_sheetFinding 23 = .ok (.ldc 239, 2) := by decide +kernel
theorem dX7_sheetFinding_25 : decode cX7_sheetFinding 25 = .ok (.ireturn, 1) := by decide +kernel
theorem dX7_sheetFinding_26 : decode cX7_sheetFinding 26 = .ok (.aload_n 0, 1) := by decide +kernel
theorem dX7_sheetFinding_27 : decode cX7_sheetFinding 27 = .ok (.getfield 10, 3) := by decide +kernel
theorem dX7_sheetFinding_30 : decode cX7_sheetFinding 30 = .ok (.iload_n 2, 1) := by decide +kernel
theorem dX7_sheetFinding_31 : decode cX7_sheetFinding 31 = .ok (.invokevirtual 121, 3) := by decide +kernel
theorem dX7_sheetFinding_34 : decode cX7_sheetFinding 34 = .ok (.ifCond .eq 7, 3) := by decide +kernel
theorem dX7_sheetFinding_37 : decode cX7_sheetFinding 37 = .ok (.iconst 0, 1) := by decide +kernel
theorem dX7_sheetFinding_38 : decode cX7_sheetFinding 38 = .ok (.goto 5, 3) := by decide +kernel
theorem dX7_sheetFinding_41 : decode cX7_sheetFinding 41 = .ok (.ldc 81, 2) := by decide +kernel
theorem dX7_sheetFinding_43 : decode cX7_sheetFinding 43 = .ok (.ireturn, 1) := by decide +kernel
theorem dX7_walkerMakes_0 : decode cX7_walkerMakes 0 = .ok (.iconst 0, 1) := by decide +kernel
theorem dX7_walkerMakes_1 : decode cX7_walkerMakes 1 = .ok (.istore_n 2, 1) := by decide +kernel
theorem dX7_walkerMakes_2 : decode cX7_walkerMakes 2 = .ok (.iload_n 2, 1) := by decide +kernel
theorem dX7_walkerMakes_3 : decode cX7_walkerMakes 3 = .ok (.aload_n 1, 1) := by decide +kernel
theorem dX7_walkerMakes_4 : decode cX7_walkerMakes 4 = .ok (.getfield 233, 3) := by decide +kernel
theorem dX7_walkerMakes_7 : decode cX7_walkerMakes 7 = .ok (.if_icmp .ge 41, 3) := by decide +kernel
theorem dX7_walkerMakes_10 : decode cX7_walkerMakes 10 = .ok (.aload_n 1, 1) := by decide +kernel
theorem dX7_walkerMakes_11 : decode cX7_walkerMakes 11 = .ok (.getfield 240, 3) := by decide +kernel
theorem dX7_walkerMakes_14 : decode cX7_walkerMakes 14 = .ok (.iload_n 2, 1) := by decide +kernel
theorem dX7_walkerMakes_15 : decode cX7_walkerMakes 15 = .ok (.laload, 1) := by decide +kernel
theorem dX7_walkerMakes_16 : decode cX7_walkerMakes 16 = .ok (.aload_n 0, 1) := by decide +kernel
theorem dX7_walkerMakes_17 : decode cX7_walkerMakes 17 = .ok (.getfield 29, 3) := by decide +kernel
theorem dX7_walkerMakes_20 : decode cX7_walkerMakes 20 = .ok (.getfield 140, 3) := by decide +kernel
theorem dX7_walkerMakes_23 : decode cX7_walkerMakes 23 = .ok (.i2l, 1) := by decide +kernel
theorem dX7_walkerMakes_24 : decode cX7_walkerMakes 24 = .ok (.lcmp, 1) := by decide +kernel
theorem dX7_walkerMakes_25 : decode cX7_walkerMakes 25 = .ok (.ifCond .eq 5, 3) := by decide +kernel
theorem dX7_walkerMakes_28 : decode cX7_walkerMakes 28 = .ok (.iconst 0, 1) := by decide +kernel
theorem dX7_walkerMakes_29 : decode cX7_walkerMakes 29 = .ok (.ireturn, 1) := by decide +kernel
theorem dX7_walkerMakes_30 : decode cX7_walkerMakes 30 = .ok (.aload_n 0, 1) := by decide +kernel
theorem dX7_walkerMakes_31 : decode cX7_walkerMakes 31 = .ok (.getfield 10, 3) := by decide +kernel
theorem dX7_walkerMakes_34 : decode cX7_walkerMakes 34 = .ok (.aload_n 0, 1) := by decide +kernel
theorem dX7_walkerMakes_35 : decode cX7_walkerMakes 35 = .ok (.getfield 29, 3) := by decide +kernel
theorem dX7_walkerMakes_38 : decode cX7_walkerMakes 38 = .ok (.iload_n 2, 1) := by decide +kernel
theorem dX7_walkerMakes_39 : decode cX7_walkerMakes 39 = .ok (.invokevirtual 185, 3) := by decide +kernel
theorem dX7_walkerMakes_42 : decode cX7_walkerMakes 42 = .ok (.iinc 2 1, 3) := by decide +kernel
theorem dX7_walkerMakes_45 : decode cX7_walkerMakes 45 = .ok (.goto (-43), 3) := by decide +kernel
theorem dX7_walkerMakes_48 : decode cX7_walkerMakes 48 = .ok (.iconst 1, 1) := by decide +kernel
theorem dX7_walkerMakes_49 : decode cX7_walkerMakes 49 = .ok (.ireturn, 1) := by decide +kernel
theorem dX7_within_0 : decode cX7_within 0 = .ok (.iload_n 0, 1) := by decide +kernel
theorem dX7_within_1 : decode cX7_within 1 = .ok (.ifCond .lt 12, 3) := by decide +kernel
theorem dX7_within_4 : decode cX7_within 4 = .ok (.iload_n 0, 1) := by decide +kernel
theorem dX7_within_5 : decode cX7_within 5 = .ok (.iload_n 1, 1) := by decide +kernel
theorem dX7_within_6 : decode cX7_within 6 = .ok (.if_icmp .gt 7, 3) := by decide +kernel
theorem dX7_within_9 : decode cX7_within 9 = .ok (.iconst 1, 1) := by decide +kernel
theorem dX7_within_10 : decode cX7_within 10 = .ok (.goto 4, 3) := by decide +kernel
theorem dX7_within_13 : decode cX7_within 13 = .ok (.iconst 0, 1) := by decide +kernel
theorem dX7_within_14 : decode cX7_within 14 = .ok (.ireturn, 1) := by decide +kernel
theorem dX7_isSpan_0 : decode cX7_isSpan 0 = .ok (.iload_n 0, 1) := by decide +kernel
theorem dX7_isSpan_1 : decode cX7_isSpan 1 = .ok (.iconst 1, 1) := by decide +kernel
theorem dX7_isSpan_2 : decode cX7_isSpan 2 = .ok (.if_icmp .lt 12, 3) := by decide +kernel
theorem dX7_isSpan_5 : decode cX7_isSpan 5 = .ok (.iload_n 0, 1) := by decide +kernel
theorem dX7_isSpan_6 : decode cX7_isSpan 6 = .ok (.iload_n 1, 1) := by decide +kernel
theorem dX7_isSpan_7 : decode cX7_isSpan 7 = .ok (.if_icmp .gt 7, 3) := by decide +kernel
theorem dX7_isSpan_10 : decode cX7_isSpan 10 = .ok (.iconst 1, 1) := by decide +kernel
theorem dX7_isSpan_11 : decode cX7_isSpan 11 = .ok (.goto 4, 3) := by decide +kernel
theorem dX7_isSpan_14 : decode cX7_isSpan 14 = .ok (.iconst 0, 1) := by decide +kernel
theorem dX7_isSpan_15 : decode cX7_isSpan 15 = .ok (.ireturn, 1) := by decide +kernel
theorem dX7_mostOf_0 : decode cX7_mostOf 0 = .ok (.iload_n 0, 1) := by decide +kernel
theorem dX7_mostOf_1 : decode cX7_mostOf 1 = .ok (.iconst 1, 1) := by decide +kernel
theorem dX7_mostOf_2 : decode cX7_mostOf 2 = .ok (.if_icmp .ne 6, 3) := by decide +kernel
theorem dX7_mostOf_5 : decode cX7_mostOf 5 = .ok (.bipush 35, 2) := by decide +kernel
theorem dX7_mostOf_7 : decode cX7_mostOf 7 = .ok (.ireturn, 1) := by decide +kernel
theorem dX7_mostOf_8 : decode cX7_mostOf 8 = .ok (.iload_n 0, 1) := by decide +kernel
theorem dX7_mostOf_9 : decode cX7_mostOf 9 = .ok (.iconst 2, 1) := by decide +kernel
theorem dX7_mostOf_10 : decode cX7_mostOf 10 = .ok (.if_icmp .ne 8, 3) := by decide +kernel
theorem dX7_mostOf_13 : decode cX7_mostOf 13 = .ok (.bipush 7, 2) := by decide +kernel
theorem dX7_mostOf_15 : decode cX7_mostOf 15 = .ok (.goto 5, 3) := by decide +kernel
theorem dX7_mostOf_18 : decode cX7_mostOf 18 = .ok (.ldc 219, 2) := by decide +kernel
theorem dX7_mostOf_20 : decode cX7_mostOf 20 = .ok (.ireturn, 1) := by decide +kernel
theorem dX7_kindAbove_0 : decode cX7_kindAbove 0 = .ok (.iload_n 0, 1) := by decide +kernel
theorem dX7_kindAbove_1 : decode cX7_kindAbove 1 = .ok (.iconst 4, 1) := by decide +kernel
theorem dX7_kindAbove_2 : decode cX7_kindAbove 2 = .ok (.if_icmp .ne 5, 3) := by decide +kernel
theorem dX7_kindAbove_5 : decode cX7_kindAbove 5 = .ok (.iconst 1, 1) := by decide +kernel
theorem dX7_kindAbove_6 : decode cX7_kindAbove 6 = .ok (.ireturn, 1) := by decide +kernel
theorem dX7_kindAbove_7 : decode cX7_kindAbove 7 = .ok (.iload_n 0, 1) := by decide +kernel
theorem dX7_kindAbove_8 : decode cX7_kindAbove 8 = .ok (.iconst 5, 1) := by decide +kernel
theorem dX7_kindAbove_9 : decode cX7_kindAbove 9 = .ok (.if_icmp .ne 7, 3) := by decide +kernel
theorem dX7_kindAbove_12 : decode cX7_kindAbove 12 = .ok (.iconst 2, 1) := by decide +kernel
theorem dX7_kindAbove_13 : decode cX7_kindAbove 13 = .ok (.goto 4, 3) := by decide +kernel
theorem dX7_kindAbove_16 : decode cX7_kindAbove 16 = .ok (.iconst 0, 1) := by decide +kernel
theorem dX7_kindAbove_17 : decode cX7_kindAbove 17 = .ok (.ireturn, 1) := by decide +kernel
theorem dX7_isUnder_0 : decode cX7_isUnder 0 = .ok (.iload_n 0, 1) := by decide +kernel
theorem dX7_isUnder_1 : decode cX7_isUnder 1 = .ok (.iload_n 1, 1) := by decide +kernel
theorem dX7_isUnder_2 : decode cX7_isUnder 2 = .ok (.if_icmp .eq 22, 3) := by decide +kernel
theorem dX7_isUnder_5 : decode cX7_isUnder 5 = .ok (.iload_n 0, 1) := by decide +kernel
theorem dX7_isUnder_6 : decode cX7_isUnder 6 = .ok (.invokestatic 276, 3) := by decide +kernel
theorem dX7_isUnder_9 : decode cX7_isUnder 9 = .ok (.iload_n 1, 1) := by decide +kernel
theorem dX7_isUnder_10 : decode cX7_isUnder 10 = .ok (.if_icmp .eq 14, 3) := by decide +kernel
theorem dX7_isUnder_13 : decode cX7_isUnder 13 = .ok (.iload_n 0, 1) := by decide +kernel
theorem dX7_isUnder_14 : decode cX7_isUnder 14 = .ok (.invokestatic 276, 3) := by decide +kernel
theorem dX7_isUnder_17 : decode cX7_isUnder 17 = .ok (.invokestatic 276, 3) := by decide +kernel
theorem dX7_isUnder_20 : decode cX7_isUnder 20 = .ok (.iload_n 1, 1) := by decide +kernel
theorem dX7_isUnder_21 : decode cX7_isUnder 21 = .ok (.if_icmp .ne 7, 3) := by decide +kernel
theorem dX7_isUnder_24 : decode cX7_isUnder 24 = .ok (.iconst 1, 1) := by decide +kernel
theorem dX7_isUnder_25 : decode cX7_isUnder 25 = .ok (.goto 4, 3) := by decide +kernel
theorem dX7_isUnder_28 : decode cX7_isUnder 28 = .ok (.iconst 0, 1) := by decide +kernel
theorem dX7_isUnder_29 : decode cX7_isUnder 29 = .ok (.ireturn, 1) := by decide +kernel
theorem dX7_cellBehind_0 : decode cX7_cellBehind 0 = .ok (.iload_n 1, 1) := by decide +kernel
theorem dX7_cellBehind_1 : decode cX7_cellBehind 1 = .ok (.ifCond .lt 9, 3) := by decide +kernel
theorem dX7_cellBehind_4 : decode cX7_cellBehind 4 = .ok (.iload_n 1, 1) := by decide +kernel
theorem dX7_cellBehind_5 : decode cX7_cellBehind 5 = .ok (.bipush 8, 2) := by decide +kernel
theorem dX7_cellBehind_7 : decode cX7_cellBehind 7 = .ok (.if_icmp .lt 5, 3) := by decide +kernel
theorem dX7_cellBehind_10 : decode cX7_cellBehind 10 = .ok (.iconst (-1), 1) := by decide +kernel
theorem dX7_cellBehind_11 : decode cX7_cellBehind 11 = .ok (.ireturn, 1) := by decide +kernel
theorem dX7_cellBehind_12 : decode cX7_cellBehind 12 = .ok (.iload_n 0, 1) := by decide +kernel
theorem dX7_cellBehind_13 : decode cX7_cellBehind 13 = .ok (.bipush 6, 2) := by decide +kernel
theorem dX7_cellBehind_15 : decode cX7_cellBehind 15 = .ok (.idiv, 1) := by decide +kernel
theorem dX7_cellBehind_16 : decode cX7_cellBehind 16 = .ok (.getstatic 279, 3) := by decide +kernel
theorem dX7_cellBehind_19 : decode cX7_cellBehind 19 = .ok (.iload_n 1, 1) := by decide +kernel
theorem dX7_cellBehind_20 : decode cX7_cellBehind 20 = .ok (.iaload, 1) := by decide +kernel
theorem dX7_cellBehind_21 : decode cX7_cellBehind 21 = .ok (.iadd, 1) := by decide +kernel
theorem dX7_cellBehind_22 : decode cX7_cellBehind 22 = .ok (.istore_n 2, 1) := by decide +kernel
theorem dX7_cellBehind_23 : decode cX7_cellBehind 23 = .ok (.iload_n 0, 1) := by decide +kernel
theorem dX7_cellBehind_24 : decode cX7_cellBehind 24 = .ok (.bipush 6, 2) := by decide +kernel
theorem dX7_cellBehind_26 : decode cX7_cellBehind 26 = .ok (.irem, 1) := by decide +kernel
theorem dX7_cellBehind_27 : decode cX7_cellBehind 27 = .ok (.getstatic 282, 3) := by decide +kernel
theorem dX7_cellBehind_30 : decode cX7_cellBehind 30 = .ok (.iload_n 1, 1) := by decide +kernel
theorem dX7_cellBehind_31 : decode cX7_cellBehind 31 = .ok (.iaload, 1) := by decide +kernel
theorem dX7_cellBehind_32 : decode cX7_cellBehind 32 = .ok (.iadd, 1) := by decide +kernel
theorem dX7_cellBehind_33 : decode cX7_cellBehind 33 = .ok (.istore_n 3, 1) := by decide +kernel
theorem dX7_cellBehind_34 : decode cX7_cellBehind 34 = .ok (.iload_n 2, 1) := by decide +kernel
theorem dX7_cellBehind_35 : decode cX7_cellBehind 35 = .ok (.iconst 5, 1) := by decide +kernel
theorem dX7_cellBehind_36 : decode cX7_cellBehind 36 = .ok (.invokestatic 77, 3) := by decide +kernel
theorem dX7_cellBehind_39 : decode cX7_cellBehind 39 = .ok (.ifCond .eq 11, 3) := by decide +kernel
theorem dX7_cellBehind_42 : decode cX7_cellBehind 42 = .ok (.iload_n 3, 1) := by decide +kernel
theorem dX7_cellBehind_43 : decode cX7_cellBehind 43 = .ok (.iconst 5, 1) := by decide +kernel
theorem dX7_cellBehind_44 : decode cX7_cellBehind 44 = .ok (.invokestatic 77, 3) := by decide +kernel
theorem dX7_cellBehind_47 : decode cX7_cellBehind 47 = .ok (.ifCond .ne 5, 3) := by decide +kernel
theorem dX7_cellBehind_50 : decode cX7_cellBehind 50 = .ok (.iconst (-1), 1) := by decide +kernel
theorem dX7_cellBehind_51 : decode cX7_cellBehind 51 = .ok (.ireturn, 1) := by decide +kernel
theorem dX7_cellBehind_52 : decode cX7_cellBehind 52 = .ok (.iload_n 2, 1) := by decide +kernel
theorem dX7_cellBehind_53 : decode cX7_cellBehind 53 = .ok (.bipush 6, 2) := by decide +kernel
theorem dX7_cellBehind_55 : decode cX7_cellBehind 55 = .ok (.imul, 1) := by decide +kernel
theorem dX7_cellBehind_56 : decode cX7_cellBehind 56 = .ok (.iload_n 3, 1) := by decide +kernel
theorem dX7_cellBehind_57 : decode cX7_cellBehind 57 = .ok (.iadd, 1) := by decide +kernel
theorem dX7_cellBehind_58 : decode cX7_cellBehind 58 = .ok (.ireturn, 1) := by decide +kernel
theorem dX8_init_0 : decode cX8_init 0 = .ok (.aload_n 0, 1) := by decide +kernel
theorem dX8_init_1 : decode cX8_init 1 = .ok (.invokespecial 3, 3) := by decide +kernel
theorem dX8_init_4 : decode cX8_init 4 = .ok (.aload_n 0, 1) := by decide +kernel
theorem dX8_init_5 : decode cX8_init 5 = .ok (.bipush 43, 2) := by decide +kernel
theorem dX8_init_7 : decode cX8_init 7 = .ok (.newarray .int, 2) := by decide +kernel
theorem dX8_init_9 : decode cX8_init 9 = .ok (.putfield 9, 3) := by decide +kernel
theorem dX8_init_12 : decode cX8_init 12 = .ok (.aload_n 0, 1) := by decide +kernel
theorem dX8_init_13 : decode cX8_init 13 = .ok (.bipush 43, 2) := by decide +kernel
theorem dX8_init_15 : decode cX8_init 15 = .ok (.newarray .int, 2) := by decide +kernel
theorem dX8_init_17 : decode cX8_init 17 = .ok (.putfield 13, 3) := by decide +kernel
theorem dX8_init_20 : decode cX8_init 20 = .ok (.aload_n 0, 1) := by decide +kernel
theorem dX8_init_21 : decode cX8_init 21 = .ok (.bipush 43, 2) := by decide +kernel
theorem dX8_init_23 : decode cX8_init 23 = .ok (.newarray .int, 2) := by decide +kernel
theorem dX8_init_25 : decode cX8_init 25 = .ok (.putfield 16, 3) := by decide +kernel
theorem dX8_init_28 : decode cX8_init 28 = .ok (.aload_n 0, 1) := by decide +kernel
theorem dX8_init_29 : decode cX8_init 29 = .ok (.bipush 7, 2) := by decide +kernel
theorem dX8_init_31 : decode cX8_init 31 = .ok (.newarray .int, 2) := by decide +kernel
theorem dX8_init_33 : decode cX8_init 33 = .ok (.putfield 19, 3) := by decide +kernel
theorem dX8_init_36 : decode cX8_init 36 = .ok (.aload_n 0, 1) := by decide +kernel
theorem dX8_init_37 : decode cX8_init 37 = .ok (.bipush 36, 2) := by decide +kernel
theorem dX8_init_39 : decode cX8_init 39 = .ok (.newarray .int, 2) := by decide +kernel
theorem dX8_init_41 : decode cX8_init 41 = .ok (.putfield 22, 3) := by decide +kernel
theorem dX8_init_44 : decode cX8_init 44 = .ok (.aload_n 0, 1) := by decide +kernel
theorem dX8_init_45 : decode cX8_init 45 = .ok (.bipush 36, 2) := by decide +kernel
theorem dX8_init_47 : decode cX8_init 47 = .ok (.newarray .int, 2) := by decide +kernel
theorem dX8_init_49 : decode cX8_init 49 = .ok (.putfield 25, 3) := by decide +kernel
theorem dX8_init_52 : decode cX8_init 52 = .ok (.aload_n 0, 1) := by decide +kernel
theorem dX8_init_53 : decode cX8_init 53 = .ok (.bipush 120, 2) := by decide +kernel
theorem dX8_init_55 : decode cX8_init 55 = .ok (.newarray .int, 2) := by decide +kernel
theorem dX8_init_57 : decode cX8_init 57 = .ok (.putfield 28, 3) := by decide +kernel
theorem dX8_init_60 : decode cX8_init 60 = .ok (.aload_n 0, 1) := by decide +kernel
theorem dX8_init_61 : decode cX8_init 61 = .ok (.iconst 4, 1) := by decide +kernel
theorem dX8_init_62 : decode cX8_init 62 = .ok (.newarray .int, 2) := by decide +kernel
theorem dX8_init_64 : decode cX8_init 64 = .ok (.putfield 31, 3) := by decide +kernel
theorem dX8_init_67 : decode cX8_init 67 = .ok (.aload_n 0, 1) := by decide +kernel
theorem dX8_init_68 : decode cX8_init 68 = .ok (.iconst 4, 1) := by decide +kernel
theorem dX8_init_69 : decode cX8_init 69 = .ok (.newarray .int, 2) := by decide +kernel
theorem dX8_init_71 : decode cX8_init 71 = .ok (.putfield 34, 3) := by decide +kernel
theorem dX8_init_74 : decode cX8_init 74 = .ok (.aload_n 0, 1) := by decide +kernel
theorem dX8_init_75 : decode cX8_init 75 = .ok (.sipush 160, 3) := by decide +kernel
theorem dX8_init_78 : decode cX8_init 78 = .ok (.newarray .long, 2) := by decide +kernel
theorem dX8_init_80 : decode cX8_init 80 = .ok (.putfield 37, 3) := by decide +kernel
theorem dX8_init_83 : decode cX8_init 83 = .ok (.aload_n 0, 1) := by decide +kernel
theorem dX8_init_84 : decode cX8_init 84 = .ok (.getfield 9, 3) := by decide +kernel
theorem dX8_init_87 : decode cX8_init 87 = .ok (.iconst 1, 1) := by decide +kernel
theorem dX8_init_88 : decode cX8_init 88 = .ok (.iconst 4, 1) := by decide +kernel
theorem dX8_init_89 : decode cX8_init 89 = .ok (.iastore, 1) := by decide +kernel
theorem dX8_init_90 : decode cX8_init 90 = .ok (.iconst 0, 1) := by decide +kernel
theorem dX8_init_91 : decode cX8_init 91 = .ok (.istore_n 1, 1) := by decide +kernel
theorem dX8_init_92 : decode cX8_init 92 = .ok (.iload_n 1, 1) := by decide +kernel
theorem dX8_init_93 : decode cX8_init 93 = .ok (.bipush 7, 2) := by decide +kernel
theorem dX8_init_95 : decode cX8_init 95 = .ok (.if_icmp .ge 29, 3) := by decide +kernel
theorem dX8_init_98 : decode cX8_init 98 = .ok (.aload_n 0, 1) := by decide +kernel
theorem dX8_init_99 : decode cX8_init 99 = .ok (.getfield 9, 3) := by decide +kernel
theorem dX8_init_102 : decode cX8_init 102 = .ok (.iconst 4, 1) := by decide +kernel
theorem dX8_init_103 : decode cX8_init 103 = .ok (.iload_n 1, 1) := by decide +kernel
theorem dX8_init_104 : decode cX8_init 104 = .ok (.iadd, 1) := by decide +kernel
theorem dX8_init_105 : decode cX8_init 105 = .ok (.iload_n 1, 1) := by decide +kernel
theorem dX8_init_106 : decode cX8_init 106 = .ok (.bipush 6, 2) := by decide +kernel
theorem dX8_init_108 : decode cX8_init 108 = .ok (.if_icmp .ne 8, 3) := by decide +kernel
theorem dX8_init_111 : decode cX8_init 111 = .ok (.bipush 8, 2) := by decide +kernel
theorem dX8_init_113 : decode cX8_init 113 = .ok (.goto 4, 3) := by decide +kernel
theorem dX8_init_116 : decode cX8_init 116 = .ok (.iload_n 1, 1) := by decide +kernel
theorem dX8_init_117 : decode cX8_init 117 = .ok (.iastore, 1) := by decide +kernel
theorem dX8_init_118 : decode cX8_init 118 = .ok (.iinc 1 1, 3) := by decide +kernel
theorem dX8_init_121 : decode cX8_init 121 = .ok (.goto (-29), 3) := by decide +kernel
theorem dX8_init_124 : decode cX8_init 124 = .ok (.return_, 1) := by decide +kernel
theorem dX8_finds_0 : decode cX8_finds 0 = .ok (.aload_n 0, 1) := by decide +kernel
theorem dX8_finds_1 : decode cX8_finds 1 = .ok (.getfield 19, 3) := by decide +kernel
theorem dX8_finds_4 : decode cX8_finds 4 = .ok (.ldc 41, 2) := by decide +kernel
theorem dX8_finds_6 : decode cX8_finds 6 = .ok (.iload_n 1, 1) := by decide +kernel
theorem dX8_finds_7 : decode cX8_finds 7 = .ok (.isub, 1) := by decide +kernel
theorem dX8_finds_8 : decode cX8_finds 8 = .ok (.dup2, 1) := by decide +kernel
theorem dX8_finds_9 : decode cX8_finds 9 = .ok (.iaload, 1) := by decide +kernel
theorem dX8_finds_10 : decode cX8_finds 10 = .ok (.iconst 1, 1) := by decide +kernel
theorem dX8_finds_11 : decode cX8_finds 11 = .ok (.iadd, 1) := by decide +kernel
theorem dX8_finds_12 : decode cX8_finds 12 = .ok (.iastore, 1) := by decide +kernel
theorem dX8_finds_13 : decode cX8_finds 13 = .ok (.iload_n 1, 1) := by decide +kernel
theorem dX8_finds_14 : decode cX8_finds 14 = .ok (.ireturn, 1) := by decide +kernel
theorem dX8_orNone_0 : decode cX8_orNone 0 = .ok (.iload_n 1, 1) := by decide +kernel
theorem dX8_orNone_1 : decode cX8_orNone 1 = .ok (.ifCond .ge 12, 3) := by decide +kernel
theorem dX8_orNone_4 : decode cX8_orNone 4 = .ok (.aload_n 0, 1) := by decide +kernel
theorem dX8_orNone_5 : decode cX8_orNone 5 = .ok (.ldc 42, 2) := by decide +kernel
theorem dX8_orNone_7 : decode cX8_orNone 7 = .ok (.invokevirtual 43, 3) := by decide +kernel
theorem dX8_orNone_10 : decode cX8_orNone 10 = .ok (.goto 4, 3) := by decide +kernel
theorem dX8_orNone_13 : decode cX8_orNone 13 = .ok (.iload_n 1, 1) := by decide +kernel
theorem dX8_orNone_14 : decode cX8_orNone 14 = .ok (.ireturn, 1) := by decide +kernel
theorem dX8_in_0 : decode cX8_in 0 = .ok (.lload_n 0, 1) := by decide +kernel
theorem dX8_in_1 : decode cX8_in 1 = .ok (.iload_n 2, 1) := by decide +kernel
theorem dX8_in_2 : decode cX8_in 2 = .ok (.i2l, 1) := by decide +kernel
theorem dX8_in_3 : decode cX8_in 3 = .ok (.lcmp, 1) := by decide +kernel
theorem dX8_in_4 : decode cX8_in 4 = .ok (.ifCond .lt 14, 3) := by decide +kernel
theorem dX8_in_7 : decode cX8_in 7 = .ok (.lload_n 0, 1) := by decide +kernel
theorem dX8_in_8 : decode cX8_in 8 = .ok (.iload_n 3, 1) := by decide +kernel
theorem dX8_in_9 : decode cX8_in 9 = .ok (.i2l, 1) := by decide +kernel
theorem dX8_in_10 : decode cX8_in 10 = .ok (.lcmp, 1) := by decide +kernel
theorem dX8_in_11 : decode cX8_in 11 = .ok (.ifCond .gt 7, 3) := by decide +kernel
theorem dX8_in_14 : decode cX8_in 14 = .ok (.iconst 1, 1) := by decide +kernel
theorem dX8_in_15 : decode cX8_in 15 = .ok (.goto 4, 3) := by decide +kernel
theorem dX8_in_18 : decode cX8_in 18 = .ok (.iconst 0, 1) := by decide +kernel
theorem dX8_in_19 : decode cX8_in 19 = .ok (.ireturn, 1) := by decide +kernel
theorem dX8_held_0 : decode cX8_held 0 = .ok (.iload_n 0, 1) := by decide +kernel
theorem dX8_held_1 : decode cX8_held 1 = .ok (.iload_n 1, 1) := by decide +kernel
theorem dX8_held_2 : decode cX8_held 2 = .ok (.if_icmp .ge 7, 3) := by decide +kernel
theorem dX8_held_5 : decode cX8_held 5 = .ok (.iload_n 1, 1) := by decide +kernel
theorem dX8_held_6 : decode cX8_held 6 = .ok (.goto 13, 3) := by decide +kernel
theorem dX8_held_9 : decode cX8_held 9 = .ok (.iload_n 0, 1) := by decide +kernel
theorem dX8_held_10 : decode cX8_held 10 = .ok (.iload_n 2, 1) := by decide +kernel
theorem dX8_held_11 : decode cX8_held 11 = .ok (.if_icmp .le 7, 3) := by decide +kernel
theorem dX8_held_14 : decode cX8_held 14 = .ok (.iload_n 2, 1) := by decide +kernel
theorem dX8_held_15 : decode cX8_held 15 = .ok (.goto 4, 3) := by decide +kernel
theorem dX8_held_18 : decode cX8_held 18 = .ok (.iload_n 0, 1) := by decide +kernel
theorem dX8_held_19 : decode cX8_held 19 = .ok (.ireturn, 1) := by decide +kernel
theorem dX8_copyAll_0 : decode cX8_copyAll 0 = .ok (.iconst 0, 1) := by decide +kernel
theorem dX8_copyAll_1 : decode cX8_copyAll 1 = .ok (.istore_n 2, 1) := by decide +kernel
theorem dX8_copyAll_2 : decode cX8_copyAll 2 = .ok (.iload_n 2, 1) := by decide +kernel
theorem dX8_copyAll_3 : decode cX8_copyAll 3 = .ok (.bipush 43, 2) := by decide +kernel
theorem dX8_copyAll_5 : decode cX8_copyAll 5 = .ok (.if_icmp .ge 15, 3) := by decide +kernel
theorem dX8_copyAll_8 : decode cX8_copyAll 8 = .ok (.aload_n 1, 1) := by decide +kernel
theorem dX8_copyAll_9 : decode cX8_copyAll 9 = .ok (.iload_n 2, 1) := by decide +kernel
theorem dX8_copyAll_10 : decode cX8_copyAll 10 = .ok (.aload_n 0, 1) := by decide +kernel
theorem dX8_copyAll_11 : decode cX8_copyAll 11 = .ok (.iload_n 2, 1) := by decide +kernel
theorem dX8_copyAll_12 : decode cX8_copyAll 12 = .ok (.iaload, 1) := by decide +kernel
theorem dX8_copyAll_13 : decode cX8_copyAll 13 = .ok (.iastore, 1) := by decide +kernel
theorem dX8_copyAll_14 : decode cX8_copyAll 14 = .ok (.iinc 2 1, 3) := by decide +kernel
theorem dX8_copyAll_17 : decode cX8_copyAll 17 = .ok (.goto (-15), 3) := by decide +kernel
theorem dX8_copyAll_20 : decode cX8_copyAll 20 = .ok (.return_, 1) := by decide +kernel
theorem dX8_becomes_0 : decode cX8_becomes 0 = .ok (.aload_n 0, 1) := by decide +kernel
theorem dX8_becomes_1 : decode cX8_becomes 1 = .ok (.getfield 9, 3) := by decide +kernel
theorem dX8_becomes_4 : decode cX8_becomes 4 = .ok (.iload_n 1, 1) := by decide +kernel
theorem dX8_becomes_5 : decode cX8_becomes 5 = .ok (.iaload, 1) := by decide +kernel
theorem dX8_becomes_6 : decode cX8_becomes 6 = .ok (.istore_n 3, 1) := by decide +kernel
theorem dX8_becomes_7 : decode cX8_becomes 7 = .ok (.aload_n 0, 1) := by decide +kernel
theorem dX8_becomes_8 : decode cX8_becomes 8 = .ok (.getfield 9, 3) := by decide +kernel
theorem dX8_becomes_11 : decode cX8_becomes 11 = .ok (.iload_n 1, 1) := by decide +kernel
theorem dX8_becomes_12 : decode cX8_becomes 12 = .ok (.iload_n 2, 1) := by decide +kernel
theorem dX8_becomes_13 : decode cX8_becomes 13 = .ok (.iastore, 1) := by decide +kernel
theorem dX8_becomes_14 : decode cX8_becomes 14 = .ok (.iload_n 3, 1) := by decide +kernel
theorem dX8_becomes_15 : decode cX8_becomes 15 = .ok (.ireturn, 1) := by decide +kernel
theorem dX8_isThing_0 : decode cX8_isThing 0 = .ok (.iload_n 1, 1) := by decide +kernel
theorem dX8_isThing_1 : decode cX8_isThing 1 = .ok (.i2l, 1) := by decide +kernel
theorem dX8_isThing_2 : decode cX8_isThing 2 = .ok (.iconst 0, 1) := by decide +kernel
theorem dX8_isThing_3 : decode cX8_isThing 3 = .ok (.aload_n 0, 1) := by decide +kernel
theorem dX8_isThing_4 : decode cX8_isThing 4 = .ok (.getfield 9, 3) := by decide +kernel
theorem dX8_isThing_7 : decode cX8_isThing 7 = .ok (.iconst 3, 1) := by decide +kernel
theorem dX8_isThing_8 : decode cX8_isThing 8 = .ok (.iaload, 1) := by decide +kernel
theorem dX8_isThing_9 : decode cX8_isThing 9 = .ok (.iconst 1, 1) := by decide +kernel
theorem dX8_isThing_10 : decode cX8_isThing 10 = .ok (.isub, 1) := by decide +kernel
theorem dX8_isThing_11 : decode cX8_isThing 11 = .ok (.invokestatic 47, 3) := by decide +kernel
theorem dX8_isThing_14 : decode cX8_isThing 14 = .ok (.ireturn, 1) := by decide +kernel
theorem dX8_isCell_0 : decode cX8_isCell 0 = .ok (.iload_n 0, 1) := by decide +kernel
theorem dX8_isCell_1 : decode cX8_isCell 1 = .ok (.i2l, 1) := by decide +kernel
theorem dX8_isCell_2 : decode cX8_isCell 2 = .ok (.iconst 0, 1) := by decide +kernel
theorem dX8_isCell_3 : decode cX8_isCell 3 = .ok (.bipush 35, 2) := by decide +kernel
theorem dX8_isCell_5 : decode cX8_isCell 5 = .ok (.invokestatic 47, 3) := by decide +kernel
theorem dX8_isCell_8 : decode cX8_isCell 8 = .ok (.ireturn, 1) := by decide +kernel
theorem dX8_isWind_0 : decode cX8_isWind 0 = .ok (.iload_n 0, 1) := by decide +kernel
theorem dX8_isWind_1 : decode cX8_isWind 1 = .ok (.i2l, 1) := by decide +kernel
theorem dX8_isWind_2 : decode cX8_isWind 2 = .ok (.iconst 0, 1) := by decide +kernel
theorem dX8_isWind_3 : decode cX8_isWind 3 = .ok (.bipush 7, 2) := by decide +kernel
theorem dX8_isWind_5 : decode cX8_isWind 5 = .ok (.invokestatic 47, 3) := by decide +kernel
theorem dX8_isWind_8 : decode cX8_isWind 8 = .ok (.ireturn, 1) := by decide +kernel
theorem dX8_it_0 : decode cX8_it 0 = .ok (.aload_n 0, 1) := by decide +kernel
theorem dX8_it_1 : decode cX8_it 1 = .ok (.getfield 9, 3) := by decide +kernel
theorem dX8_it_4 : decode cX8_it 4 = .ok (.bipush 11, 2) := by decide +kernel
theorem dX8_it_6 : decode cX8_it 6 = .ok (.iconst 4, 1) := by decide +kernel
theorem dX8_it_7 : decode cX8_it 7 = .ok (.iload_n 1, 1) := by decide +kernel
theorem dX8_it_8 : decode cX8_it 8 = .ok (.imul, 1) := by decide +kernel
theorem dX8_it_9 : decode cX8_it 9 = .ok (.iadd, 1) := by decide +kernel
theorem dX8_it_10 : decode cX8_it 10 = .ok (.iload_n 2, 1) := by decide +kernel
theorem dX8_it_11 : decode cX8_it 11 = .ok (.iadd, 1) := by decide +kernel
theorem dX8_it_12 : decode cX8_it 12 = .ok (.iaload, 1) := by decide +kernel
theorem dX8_it_13 : decode cX8_it 13 = .ok (.ireturn, 1) := by decide +kernel
theorem dX8_put_0 : decode cX8_put 0 = .ok (.aload_n 0, 1) := by decide +kernel
theorem dX8_put_1 : decode cX8_put 1 = .ok (.getfield 9, 3) := by decide +kernel
theorem dX8_put_4 : decode cX8_put 4 = .ok (.bipush 11, 2) := by decide +kernel
theorem dX8_put_6 : decode cX8_put 6 = .ok (.iconst 4, 1) := by decide +kernel
theorem dX8_put_7 : decode cX8_put 7 = .ok (.iload_n 1, 1) := by decide +kernel
theorem dX8_put_8 : decode cX8_put 8 = .ok (.imul, 1) := by decide +kernel
theorem dX8_put_9 : decode cX8_put 9 = .ok (.iadd, 1) := by decide +kernel
theorem dX8_put_10 : decode cX8_put 10 = .ok (.iload_n 2, 1) := by decide +kernel
theorem dX8_put_11 : decode cX8_put 11 = .ok (.iadd, 1) := by decide +kernel
theorem dX8_put_12 : decode cX8_put 12 = .ok (.iload_n 3, 1) := by decide +kernel
theorem dX8_put_13 : decode cX8_put 13 = .ok (.iastore, 1) := by decide +kernel
theorem dX8_put_14 : decode cX8_put 14 = .ok (.return_, 1) := by decide +kernel
theorem dX8_blowing_0 : decode cX8_blowing 0 = .ok (.aload_n 0, 1) := by decide +kernel
theorem dX8_blowing_1 : decode cX8_blowing 1 = .ok (.getfield 9, 3) := by decide +kernel
theorem dX8_blowing_4 : decode cX8_blowing 4 = .ok (.iconst 4, 1) := by decide +kernel
theorem dX8_blowing_5 : decode cX8_blowing 5 = .ok (.iload_n 1, 1) := by decide +kernel
theorem dX8_blowing_6 : decode cX8_blowing 6 = .ok (.bipush 7, 2) := by decide +kernel
theorem dX8_blowing_8 : decode cX8_blowing 8 = .ok (.irem, 1) := by decide +kernel
theorem dX8_blowing_9 : decode cX8_blowing 9 = .ok (.iadd, 1) := by decide +kernel
theorem dX8_blowing_10 : decode cX8_blowing 10 = .ok (.iaload, 1) := by decide +kernel
theorem dX8_blowing_11 : decode cX8_blowing 11 = .ok (.istore_n 2, 1) := by decide +kernel
theorem dX8_blowing_12 : decode cX8_blowing 12 = .ok (.iconst 0, 1) := by decide +kernel
theorem dX8_blowing_13 : decode cX8_blowing 13 = .ok (.istore_n 3, 1) := by decide +kernel
theorem dX8_blowing_14 : decode cX8_blowing 14 = .ok (.iload_n 3, 1) := by decide +kernel
theorem dX8_blowing_15 : decode cX8_blowing 15 = .ok (.bipush 8, 2) := by decide +kernel
theorem dX8_blowing_17 : decode cX8_blowing 17 = .ok (.if_icmp .ge 37, 3) := by decide +kernel
theorem dX8_blowing_20 : decode cX8_blowing 20 = .ok (.iload_n 2, 1) := by decide +kernel
theorem dX8_blowing_21 : decode cX8_blowing 21 = .ok (.bipush 8, 2) := by decide +kernel
theorem dX8_blowing_23 : decode cX8_blowing 23 = .ok (.if_icmp .ge 31, 3) := by decide +kernel
theorem dX8_blowing_26 : decode cX8_blowing 26 = .ok (.aload_n 0, 1) := by decide +kernel
theorem dX8_blowing_27 : decode cX8_blowing 27 = .ok (.getfield 9, 3) := by decide +kernel
theorem dX8_blowing_30 : decode cX8_blowing 30 = .ok (.iconst 2, 1) := by decide +kernel
theorem dX8_blowing_31 : decode cX8_blowing 31 = .ok (.iaload, 1) := by decide +kernel
theorem dX8_blowing_32 : decode cX8_blowing 32 = .ok (.iload_n 2, 1) := by decide +kernel
theorem dX8_blowing_33 : decode cX8_blowing 33 = .ok (.ishr, 1) := by decide +kernel
theorem dX8_blowing_34 : decode cX8_blowing 34 = .ok (.iconst 1, 1) := by decide +kernel
theorem dX8_blowing_35 : decode cX8_blowing 35 = .ok (.iand, 1) := by decide +kernel
theorem dX8_blowing_36 : decode cX8_blowing 36 = .ok (.ifCond .ne 5, 3) := by decide +kernel
theorem dX8_blowing_39 : decode cX8_blowing 39 = .ok (.iload_n 2, 1) := by decide +kernel
theorem dX8_blowing_40 : decode cX8_blowing 40 = .ok (.ireturn, 1) := by decide +kernel
theorem dX8_blowing_41 : decode cX8_blowing 41 = .ok (.iload_n 2, 1) := by decide +kernel
theorem dX8_blowing_42 : decode cX8_blowing 42 = .ok (.iconst 1, 1) := by decide +kernel
theorem dX8_blowing_43 : decode cX8_blowing 43 = .ok (.iadd, 1) := by decide +kernel
theorem dX8_blowing_44 : decode cX8_blowing 44 = .ok (.bipush 8, 2) := by decide +kernel
theorem dX8_blowing_46 : decode cX8_blowing 46 = .ok (.irem, 1) := by decide +kernel
theorem dX8_blowing_47 : decode cX8_blowing 47 = .ok (.istore_n 2, 1) := by decide +kernel
theorem dX8_blowing_48 : decode cX8_blowing 48 = .ok (.iinc 3 1, 3) := by decide +kernel
theorem dX8_blowing_51 : decode cX8_blowing 51 = .ok (.goto (-37), 3) := by decide +kernel
theorem dX8_blowing_54 : decode cX8_blowing 54 = .ok (.bipush 8, 2) := by decide +kernel
theorem dX8_blowing_56 : decode cX8_blowing 56 = .ok (.ireturn, 1) := by decide +kernel
theorem dX8_blownTo_0 : decode cX8_blownTo 0 = .ok (.iload_n 1, 1) := by decide +kernel
theorem dX8_blownTo_1 : decode cX8_blownTo 1 = .ok (.bipush 7, 2) := by decide +kernel
theorem dX8_blownTo_3 : decode cX8_blownTo 3 = .ok (.if_icmp .eq 8, 3) := by decide +kernel
theorem dX8_blownTo_6 : decode cX8_blownTo 6 = .ok (.iload_n 1, 1) := by decide +kernel
theorem dX8_blownTo_7 : decode cX8_blownTo 7 = .ok (.iconst 2, 1) := by decide +kernel
theorem dX8_blownTo_8 : decode cX8_blownTo 8 = .ok (.if_icmp .ge 7, 3) := by decide +kernel
theorem dX8_blownTo_11 : decode cX8_blownTo 11 = .ok (.iconst (-1), 1) := by decide +kernel
theorem dX8_blownTo_12 : decode cX8_blownTo 12 = .ok (.goto 19, 3) := by decide +kernel
theorem dX8_blownTo_15 : decode cX8_blownTo 15 = .ok (.iload_n 1, 1) := by decide +kernel
theorem dX8_blownTo_16 : decode cX8_blownTo 16 = .ok (.iconst 2, 1) := by decide +kernel
theorem dX8_blownTo_17 : decode cX8_blownTo 17 = .ok (.if_icmp .le 13, 3) := by decide +kernel
theorem dX8_blownTo_20 : decode cX8_blownTo 20 = .ok (.iload_n 1, 1) := by decide +kernel
theorem dX8_blownTo_21 : decode cX8_blownTo 21 = .ok (.bipush 6, 2) := by decide +kernel
theorem dX8_blownTo_23 : decode cX8_blownTo 23 = .ok (.if_icmp .ge 7, 3) := by decide +kernel
theorem dX8_blownTo_26 : decode cX8_blownTo 26 = .ok (.iconst 1, 1) := by decide +kernel
theorem dX8_blownTo_27 : decode cX8_blownTo 27 = .ok (.goto 4, 3) := by decide +kernel
theorem dX8_blownTo_30 : decode cX8_blownTo 30 = .ok (.iconst 0, 1) := by decide +kernel
theorem dX8_blownTo_31 : decode cX8_blownTo 31 = .ok (.istore_n 2, 1) := by decide +kernel
theorem dX8_blownTo_32 : decode cX8_blownTo 32 = .ok (.iload_n 1, 1) := by decide +kernel
theorem dX8_blownTo_33 : decode cX8_blownTo 33 = .ok (.ifCond .le 12, 3) := by decide +kernel
theorem dX8_blownTo_36 : decode cX8_blownTo 36 = .ok (.iload_n 1, 1) := by decide +kernel
theorem dX8_blownTo_37 : decode cX8_blownTo 37 = .ok (.iconst 4, 1) := by decide +kernel
theorem dX8_blownTo_38 : decode cX8_blownTo 38 = .ok (.if_icmp .ge 7, 3) := by decide +kernel
theorem dX8_blownTo_41 : decode cX8_blownTo 41 = .ok (.iconst 1, 1) := by decide +kernel
theorem dX8_blownTo_42 : decode cX8_blownTo 42 = .ok (.goto 13, 3) := by decide +kernel
theorem dX8_blownTo_45 : decode cX8_blownTo 45 = .ok (.iload_n 1, 1) := by decide +kernel
theorem dX8_blownTo_46 : decode cX8_blownTo 46 = .ok (.iconst 4, 1) := by decide +kernel
theorem dX8_blownTo_47 : decode cX8_blownTo 47 = .ok (.if_icmp .le 7, 3) := by decide +kernel
theorem dX8_blownTo_50 : decode cX8_blownTo 50 = .ok (.iconst (-1), 1) := by decide +kernel
theorem dX8_blownTo_51 : decode cX8_blownTo 51 = .ok (.goto 4, 3) := by decide +kernel
theorem dX8_blownTo_54 : decode cX8_blownTo 54 = .ok (.iconst 0, 1) := by decide +kernel
theorem dX8_blownTo_55 : decode cX8_blownTo 55 = .ok (.istore_n 3, 1) := by decide +kernel
theorem dX8_blownTo_56 : decode cX8_blownTo 56 = .ok (.iload_n 0, 1) := by decide +kernel
theorem dX8_blownTo_57 : decode cX8_blownTo 57 = .ok (.bipush 6, 2) := by decide +kernel
theorem dX8_blownTo_59 : decode cX8_blownTo 59 = .ok (.idiv, 1) := by decide +kernel
theorem dX8_blownTo_60 : decode cX8_blownTo 60 = .ok (.iload_n 2, 1) := by decide +kernel
theorem dX8_blownTo_61 : decode cX8_blownTo 61 = .ok (.iadd, 1) := by decide +kernel
theorem dX8_blownTo_62 : decode cX8_blownTo 62 = .ok (.istore 4, 2) := by decide +kernel
theorem dX8_blownTo_64 : decode cX8_blownTo 64 = .ok (.iload_n 0, 1) := by decide +kernel
theorem dX8_blownTo_65 : decode cX8_blownTo 65 = .ok (.bipush 6, 2) := by decide +kernel
theorem dX8_blownTo_67 : decode cX8_blownTo 67 = .ok (.irem, 1) := by decide +kernel
theorem dX8_blownTo_68 : decode cX8_blownTo 68 = .ok (.iload_n 3, 1) := by decide +kernel
theorem dX8_blownTo_69 : decode cX8_blownTo 69 = .ok (.iadd, 1) := by decide +kernel
theorem dX8_blownTo_70 : decode cX8_blownTo 70 = .ok (.istore 5, 2) := by decide +kernel
theorem dX8_blownTo_72 : decode cX8_blownTo 72 = .ok (.iload 4, 2) := by decide +kernel
theorem dX8_blownTo_74 : decode cX8_blownTo 74 = .ok (.i2l, 1) := by decide +kernel
theorem dX8_blownTo_75 : decode cX8_blownTo 75 = .ok (.iconst 0, 1) := by decide +kernel
theorem dX8_blownTo_76 : decode cX8_blownTo 76 = .ok (.iconst 5, 1) := by decide +kernel
theorem dX8_blownTo_77 : decode cX8_blownTo 77 = .ok (.invokestatic 47, 3) := by decide +kernel
theorem dX8_blownTo_80 : decode cX8_blownTo 80 = .ok (.ifCond .eq 25, 3) := by decide +kernel
theorem dX8_blownTo_83 : decode cX8_blownTo 83 = .ok (.iload 5, 2) := by decide +kernel
theorem dX8_blownTo_85 : decode cX8_blownTo 85 = .ok (.i2l, 1) := by decide +kernel
theorem dX8_blownTo_86 : decode cX8_blownTo 86 = .ok (.iconst 0, 1) := by decide +kernel
theorem dX8_blownTo_87 : decode cX8_blownTo 87 = .ok (.iconst 5, 1) := by decide +kernel
theorem dX8_blownTo_88 : decode cX8_blownTo 88 = .ok (.invokestatic 47, 3) := by decide +kernel
theorem dX8_blownTo_91 : decode cX8_blownTo 91 = .ok (.ifCond .eq 14, 3) := by decide +kernel
theorem dX8_blownTo_94 : decode cX8_blownTo 94 = .ok (.bipush 6, 2) := by decide +kernel
theorem dX8_blownTo_96 : decode cX8_blownTo 96 = .ok (.iload 4, 2) := by decide +kernel
theorem dX8_blownTo_98 : decode cX8_blownTo 98 = .ok (.imul, 1) := by decide +kernel
theorem dX8_blownTo_99 : decode cX8_blownTo 99 = .ok (.iload 5, 2) := by decide +kernel
theorem dX8_blownTo_101 : decode cX8_blownTo 101 = .ok (.iadd, 1) := by decide +kernel
theorem dX8_blownTo_102 : decode cX8_blownTo 102 = .ok (.goto 4, 3) := by decide +kernel
theorem dX8_blownTo_105 : decode cX8_blownTo 105 = .ok (.iconst (-1), 1) := by decide +kernel
theorem dX8_blownTo_106 : decode cX8_blownTo 106 = .ok (.ireturn, 1) := by decide +kernel
theorem dX8_rota_0 : decode cX8_rota 0 = .ok (.iload_n 1, 1) := by decide +kernel
theorem dX8_rota_1 : decode cX8_rota 1 = .ok (.i2l, 1) := by decide +kernel
theorem dX8_rota_2 : decode cX8_rota 2 = .ok (.iconst 0, 1) := by decide +kernel
theorem dX8_rota_3 : decode cX8_rota 3 = .ok (.bipush 6, 2) := by decide +kernel
theorem dX8_rota_5 : decode cX8_rota 5 = .ok (.invokestatic 47, 3) := by decide +kernel
theorem dX8_rota_8 : decode cX8_rota 8 = .ok (.ifCond .eq 25, 3) := by decide +kernel
theorem dX8_rota_11 : decode cX8_rota 11 = .ok (.iload_n 2, 1) := by decide +kernel
theorem dX8_rota_12 : decode cX8_rota 12 = .ok (.i2l, 1) := by decide +kernel
theorem dX8_rota_13 : decode cX8_rota 13 = .ok (.iconst 0, 1) := by decide +kernel
theorem dX8_rota_14 : decode cX8_rota 14 = .ok (.bipush 8, 2) := by decide +kernel
theorem dX8_rota_16 : decode cX8_rota 16 = .ok (.invokestatic 47, 3) := by decide +kernel
theorem dX8_rota_19 : decode cX8_rota 19 = .ok (.ifCond .eq 14, 3) := by decide +kernel
theorem dX8_rota_22 : decode cX8_rota 22 = .ok (.aload_n 0, 1) := by decide +kernel
theorem dX8_rota_23 : decode cX8_rota 23 = .ok (.iconst 4, 1) := by decide +kernel
theorem dX8_rota_24 : decode cX8_rota 24 = .ok (.iload_n 1, 1) := by decide +kernel
theorem dX8_rota_25 : decode cX8_rota 25 = .ok (.iadd, 1) := by decide +kernel
theorem dX8_rota_26 : decode cX8_rota 26 = .ok (.iload_n 2, 1) := by decide +kernel
theorem dX8_rota_27 : decode cX8_rota 27 = .ok (.invokevirtual 51, 3) := by decide +kernel
theorem dX8_rota_30 : decode cX8_rota 30 = .ok (.goto 9, 3) := by decide +kernel
theorem dX8_rota_33 : decode cX8_rota 33 = .ok (.aload_n 0, 1) := by decide +kernel
theorem dX8_rota_34 : decode cX8_rota 34 = .ok (.ldc 41, 2) := by decide +kernel
theorem dX8_rota_36 : decode cX8_rota 36 = .ok (.invokevirtual 43, 3) := by decide +kernel
theorem dX8_rota_39 : decode cX8_rota 39 = .ok (.ireturn, 1) := by decide +kernel
theorem dX8_rotaOf_0 : decode cX8_rotaOf 0 = .ok (.iload_n 1, 1) := by decide +kernel
theorem dX8_rotaOf_1 : decode cX8_rotaOf 1 = .ok (.i2l, 1) := by decide +kernel
theorem dX8_rotaOf_2 : decode cX8_rotaOf 2 = .ok (.iconst 0, 1) := by decide +kernel
theorem dX8_rotaOf_3 : decode cX8_rotaOf 3 = .ok (.bipush 6, 2) := by decide +kernel
theorem dX8_rotaOf_5 : decode cX8_rotaOf 5 = .ok (.invokestatic 47, 3) := by decide +kernel
theorem dX8_rotaOf_8 : decode cX8_rotaOf 8 = .ok (.ifCond .eq 14, 3) := by decide +kernel
theorem dX8_rotaOf_11 : decode cX8_rotaOf 11 = .ok (.aload_n 0, 1) := by decide +kernel
theorem dX8_rotaOf_12 : decode cX8_rotaOf 12 = .ok (.getfield 9, 3) := by decide +kernel
theorem dX8_rotaOf_15 : decode cX8_rotaOf 15 = .ok (.iconst 4, 1) := by decide +kernel
theorem dX8_rotaOf_16 : decode cX8_rotaOf 16 = .ok (.iload_n 1, 1) := by decide +kernel
theorem dX8_rotaOf_17 : decode cX8_rotaOf 17 = .ok (.iadd, 1) := by decide +kernel
theorem dX8_rotaOf_18 : decode cX8_rotaOf 18 = .ok (.iaload, 1) := by decide +kernel
theorem dX8_rotaOf_19 : decode cX8_rotaOf 19 = .ok (.goto 9, 3) := by decide +kernel
theorem dX8_rotaOf_22 : decode cX8_rotaOf 22 = .ok (.aload_n 0, 1) := by decide +kernel
theorem dX8_rotaOf_23 : decode cX8_rotaOf 23 = .ok (.ldc 41, 2) := by decide +kernel
theorem dX8_rotaOf_25 : decode cX8_rotaOf 25 = .ok (.invokevirtual 43, 3) := by decide +kernel
theorem dX8_rotaOf_28 : decode cX8_rotaOf 28 = .ok (.ireturn, 1) := by decide +kernel
theorem dX8_ails_0 : decode cX8_ails 0 = .ok (.aload_n 0, 1) := by decide +kernel
theorem dX8_ails_1 : decode cX8_ails 1 = .ok (.getfield 9, 3) := by decide +kernel
theorem dX8_ails_4 : decode cX8_ails 4 = .ok (.iconst 2, 1) := by decide +kernel
theorem dX8_ails_5 : decode cX8_ails 5 = .ok (.iload_n 2, 1) := by decide +kernel
theorem dX8_ails_6 : decode cX8_ails 6 = .ok (.iconst 1, 1) := by decide +kernel
theorem dX8_ails_7 : decode cX8_ails 7 = .ok (.if_icmp .ne 16, 3) := by decide +kernel
theorem dX8_ails_10 : decode cX8_ails 10 = .ok (.aload_n 0, 1) := by decide +kernel
theorem dX8_ails_11 : decode cX8_ails 11 = .ok (.getfield 9, 3) := by decide +kernel
theorem dX8_ails_14 : decode cX8_ails 14 = .ok (.iconst 2, 1) := by decide +kernel
theorem dX8_ails_15 : decode cX8_ails 15 = .ok (.iaload, 1) := by decide +kernel
theorem dX8_ails_16 : decode cX8_ails 16 = .ok (.iconst 1, 1) := by decide +kernel
theorem dX8_ails_17 : decode cX8_ails 17 = .ok (.iload_n 1, 1) := by decide +kernel
theorem dX8_ails_18 : decode cX8_ails 18 = .ok (.ishl, 1) := by decide +kernel
theorem dX8_ails_19 : decode cX8_ails 19 = .ok (.ior, 1) := by decide +kernel
theorem dX8_ails_20 : decode cX8_ails 20 = .ok (.goto 15, 3) := by decide +kernel
theorem dX8_ails_23 : decode cX8_ails 23 = .ok (.aload_n 0, 1) := by decide +kernel
theorem dX8_ails_24 : decode cX8_ails 24 = .ok (.getfield 9, 3) := by decide +kernel
theorem dX8_ails_27 : decode cX8_ails 27 = .ok (.iconst 2, 1) := by decide +kernel
theorem dX8_ails_28 : decode cX8_ails 28 = .ok (.iaload, 1) := by decide +kernel
theorem dX8_ails_29 : decode cX8_ails 29 = .ok (.iconst 1, 1) := by decide +kernel
theorem dX8_ails_30 : decode cX8_ails 30 = .ok (.iload_n 1, 1) := by decide +kernel
theorem dX8_ails_31 : decode cX8_ails 31 = .ok (.ishl, 1) := by decide +kernel
theorem dX8_ails_32 : decode cX8_ails 32 = .ok (.iconst (-1), 1) := by decide +kernel
theorem dX8_ails_33 : decode cX8_ails 33 = .ok (.ixor, 1) := by decide +kernel
theorem dX8_ails_34 : decode cX8_ails 34 = .ok (.iand, 1) := by decide +kernel
theorem dX8_ails_35 : decode cX8_ails 35 = .ok (.iastore, 1) := by decide +kernel
theorem dX8_ails_36 : decode cX8_ails 36 = .ok (.return_, 1) := by decide +kernel
theorem dX8_sick_0 : decode cX8_sick 0 = .ok (.iload_n 1, 1) := by decide +kernel
theorem dX8_sick_1 : decode cX8_sick 1 = .ok (.invokestatic 55, 3) := by decide +kernel
theorem dX8_sick_4 : decode cX8_sick 4 = .ok (.ifCond .eq 13, 3) := by decide +kernel
theorem dX8_sick_7 : decode cX8_sick 7 = .ok (.iload_n 2, 1) := by decide +kernel
theorem dX8_sick_8 : decode cX8_sick 8 = .ok (.i2l, 1) := by decide +kernel
theorem dX8_sick_9 : decode cX8_sick 9 = .ok (.iconst 0, 1) := by decide +kernel
theorem dX8_sick_10 : decode cX8_sick 10 = .ok (.iconst 1, 1) := by decide +kernel
theorem dX8_sick_11 : decode cX8_sick 11 = .ok (.invokestatic 47, 3) := by decide +kernel
theorem dX8_sick_14 : decode cX8_sick 14 = .ok (.ifCond .ne 10, 3) := by decide +kernel
theorem dX8_sick_17 : decode cX8_sick 17 = .ok (.aload_n 0, 1) := by decide +kernel
theorem dX8_sick_18 : decode cX8_sick 18 = .ok (.ldc 41, 2) := by decide +kernel
theorem dX8_sick_20 : decode cX8_sick 20 = .ok (.invokevirtual 43, 3) := by decide +kernel
theorem dX8_sick_23 : decode cX8_sick 23 = .ok (.ireturn, 1) := by decide +kernel
theorem dX8_sick_24 : decode cX8_sick 24 = .ok (.aload_n 0, 1) := by decide +kernel
theorem dX8_sick_25 : decode cX8_sick 25 = .ok (.getfield 9, 3) := by decide +kernel
theorem dX8_sick_28 : decode cX8_sick 28 = .ok (.iconst 2, 1) := by decide +kernel
theorem dX8_sick_29 : decode cX8_sick 29 = .ok (.iaload, 1) := by decide +kernel
theorem dX8_sick_30 : decode cX8_sick 30 = .ok (.iload_n 1, 1) := by decide +kernel
theorem dX8_sick_31 : decode cX8_sick 31 = .ok (.ishr, 1) := by decide +kernel
theorem dX8_sick_32 : decode cX8_sick 32 = .ok (.iconst 1, 1) := by decide +kernel
theorem dX8_sick_33 : decode cX8_sick 33 = .ok (.iand, 1) := by decide +kernel
theorem dX8_sick_34 : decode cX8_sick 34 = .ok (.istore_n 3, 1) := by decide +kernel
theorem dX8_sick_35 : decode cX8_sick 35 = .ok (.aload_n 0, 1) := by decide +kernel
theorem dX8_sick_36 : decode cX8_sick 36 = .ok (.iload_n 1, 1) := by decide +kernel
theorem dX8_sick_37 : decode cX8_sick 37 = .ok (.iload_n 2, 1) := by decide +kernel
theorem dX8_sick_38 : decode cX8_sick 38 = .ok (.invokevirtual 59, 3) := by decide +kernel
theorem dX8_sick_41 : decode cX8_sick 41 = .ok (.iload_n 3, 1) := by decide +kernel
theorem dX8_sick_42 : decode cX8_sick 42 = .ok (.ireturn, 1) := by decide +kernel
theorem dX8_force_0 : decode cX8_force 0 = .ok (.iload_n 1, 1) := by decide +kernel
theorem dX8_force_1 : decode cX8_force 1 = .ok (.i2l, 1) := by decide +kernel
theorem dX8_force_2 : decode cX8_force 2 = .ok (.iconst 0, 1) := by decide +kernel
theorem dX8_force_3 : decode cX8_force 3 = .ok (.bipush 9, 2) := by decide +kernel
theorem dX8_force_5 : decode cX8_force 5 = .ok (.invokestatic 47, 3) := by decide +kernel
theorem dX8_force_8 : decode cX8_force 8 = .ok (.ifCond .eq 12, 3) := by decide +kernel
theorem dX8_force_11 : decode cX8_force 11 = .ok (.aload_n 0, 1) := by decide +kernel
theorem dX8_force_12 : decode cX8_force 12 = .ok (.iconst 1, 1) := by decide +kernel
theorem dX8_force_13 : decode cX8_force 13 = .ok (.iload_n 1, 1) := by decide +kernel
theorem dX8_force_14 : decode cX8_force 14 = .ok (.invokevirtual 51, 3) := by decide +kernel
theorem dX8_force_17 : decode cX8_force 17 = .ok (.goto 9, 3) := by decide +kernel
theorem dX8_force_20 : decode cX8_force 20 = .ok (.aload_n 0, 1) := by decide +kernel
theorem dX8_force_21 : decode cX8_force 21 = .ok (.ldc 41, 2) := by decide +kernel
theorem dX8_force_23 : decode cX8_force 23 = .ok (.invokevirtual 43, 3) := by decide +kernel
theorem dX8_force_26 : decode cX8_force 26 = .ok (.ireturn, 1) := by decide +kernel
theorem dX8_blows_0 : decode cX8_blows 0 = .ok (.iload_n 1, 1) := by decide +kernel
theorem dX8_blows_1 : decode cX8_blows 1 = .ok (.i2l, 1) := by decide +kernel
theorem dX8_blows_2 : decode cX8_blows 2 = .ok (.iconst 0, 1) := by decide +kernel
theorem dX8_blows_3 : decode cX8_blows 3 = .ok (.sipush 9999, 3) := by decide +kernel
theorem dX8_blows_6 : decode cX8_blows 6 = .ok (.invokestatic 47, 3) := by decide +kernel
theorem dX8_blows_9 : decode cX8_blows 9 = .ok (.ifCond .eq 11, 3) := by decide +kernel
theorem dX8_blows_12 : decode cX8_blows 12 = .ok (.aload_n 0, 1) := by decide +kernel
theorem dX8_blows_13 : decode cX8_blows 13 = .ok (.iload_n 1, 1) := by decide +kernel
theorem dX8_blows_14 : decode cX8_blows 14 = .ok (.invokevirtual 63, 3) := by decide +kernel
theorem dX8_blows_17 : decode cX8_blows 17 = .ok (.goto 9, 3) := by decide +kernel
theorem dX8_blows_20 : decode cX8_blows 20 = .ok (.aload_n 0, 1) := by decide +kernel
theorem dX8_blows_21 : decode cX8_blows 21 = .ok (.ldc 41, 2) := by decide +kernel
theorem dX8_blows_23 : decode cX8_blows 23 = .ok (.invokevirtual 43, 3) := by decide +kernel
theorem dX8_blows_26 : decode cX8_blows 26 = .ok (.ireturn, 1) := by decide +kernel
theorem dX8_lee_0 : decode cX8_lee 0 = .ok (.iload_n 1, 1) := by decide +kernel
theorem dX8_lee_1 : decode cX8_lee 1 = .ok (.invokestatic 66, 3) := by decide +kernel
theorem dX8_lee_4 : decode cX8_lee 4 = .ok (.ifCond .eq 22, 3) := by decide +kernel
theorem dX8_lee_7 : decode cX8_lee 7 = .ok (.iload_n 2, 1) := by decide +kernel
theorem dX8_lee_8 : decode cX8_lee 8 = .ok (.invokestatic 55, 3) := by decide +kernel
theorem dX8_lee_11 : decode cX8_lee 11 = .ok (.ifCond .eq 15, 3) := by decide +kernel
theorem dX8_lee_14 : decode cX8_lee 14 = .ok (.aload_n 0, 1) := by decide +kernel
theorem dX8_lee_15 : decode cX8_lee 15 = .ok (.iload_n 1, 1) := by decide +kernel
theorem dX8_lee_16 : decode cX8_lee 16 = .ok (.iload_n 2, 1) := by decide +kernel
theorem dX8_lee_17 : decode cX8_lee 17 = .ok (.invokestatic 69, 3) := by decide +kernel
theorem dX8_lee_20 : decode cX8_lee 20 = .ok (.invokevirtual 72, 3) := by decide +kernel
theorem dX8_lee_23 : decode cX8_lee 23 = .ok (.goto 9, 3) := by decide +kernel
theorem dX8_lee_26 : decode cX8_lee 26 = .ok (.aload_n 0, 1) := by decide +kernel
theorem dX8_lee_27 : decode cX8_lee 27 = .ok (.ldc 41, 2) := by decide +kernel
theorem dX8_lee_29 : decode cX8_lee 29 = .ok (.invokevirtual 43, 3) := by decide +kernel
theorem dX8_lee_32 : decode cX8_lee 32 = .ok (.ireturn, 1) := by decide +kernel
theorem dX8_off_0 : decode cX8_off 0 = .ok (.iload_n 2, 1) := by decide +kernel
theorem dX8_off_1 : decode cX8_off 1 = .ok (.aload_n 0, 1) := by decide +kernel
theorem dX8_off_2 : decode cX8_off 2 = .ok (.iload_n 1, 1) := by decide +kernel
theorem dX8_off_3 : decode cX8_off 3 = .ok (.iconst 2, 1) := by decide +kernel
theorem dX8_off_4 : decode cX8_off 4 = .ok (.invokevirtual 75, 3) := by decide +kernel
theorem dX8_off_7 : decode cX8_off 7 = .ok (.if_icmp .le 14, 3) := by decide +kernel
theorem dX8_off_10 : decode cX8_off 10 = .ok (.iload_n 2, 1) := by decide +kernel
theorem dX8_off_11 : decode cX8_off 11 = .ok (.aload_n 0, 1) := by decide +kernel
theorem dX8_off_12 : decode cX8_off 12 = .ok (.iload_n 1, 1) := by decide +kernel
theorem dX8_off_13 : decode cX8_off 13 = .ok (.iconst 2, 1) := by decide +kernel
theorem dX8_off_14 : decode cX8_off 14 = .ok (.invokevirtual 75, 3) := by decide +kernel
theorem dX8_off_17 : decode cX8_off 17 = .ok (.isub, 1) := by decide +kernel
theorem dX8_off_18 : decode cX8_off 18 = .ok (.goto 11, 3) := by decide +kernel
theorem dX8_off_21 : decode cX8_off 21 = .ok (.aload_n 0, 1) := by decide +kernel
theorem dX8_off_22 : decode cX8_off 22 = .ok (.iload_n 1, 1) := by decide +kernel
theorem dX8_off_23 : decode cX8_off 23 = .ok (.iconst 2, 1) := by decide +kernel
theorem dX8_off_24 : decode cX8_off 24 = .ok (.invokevirtual 75, 3) := by decide +kernel
theorem dX8_off_27 : decode cX8_off 27 = .ok (.iload_n 2, 1) := by decide +kernel
theorem dX8_off_28 : decode cX8_off 28 = .ok (.isub, 1) := by decide +kernel
theorem dX8_off_29 : decode cX8_off 29 = .ok (.istore_n 3, 1) := by decide +kernel
theorem dX8_off_30 : decode cX8_off 30 = .ok (.iload_n 2, 1) := by decide +kernel
theorem dX8_off_31 : decode cX8_off 31 = .ok (.bipush 8, 2) := by decide +kernel
theorem dX8_off_33 : decode cX8_off 33 = .ok (.if_icmp .ne 7, 3) := by decide +kernel
theorem dX8_off_36 : decode cX8_off 36 = .ok (.iconst 4, 1) := by decide +kernel
theorem dX8_off_37 : decode cX8_off 37 = .ok (.goto 16, 3) := by decide +kernel
theorem dX8_off_40 : decode cX8_off 40 = .ok (.iload_n 3, 1) := by decide +kernel
theorem dX8_off_41 : decode cX8_off 41 = .ok (.iconst 4, 1) := by decide +kernel
theorem dX8_off_42 : decode cX8_off 42 = .ok (.if_icmp .le 10, 3) := by decide +kernel
theorem dX8_off_45 : decode cX8_off 45 = .ok (.bipush 8, 2) := by decide +kernel
theorem dX8_off_47 : decode cX8_off 47 = .ok (.iload_n 3, 1) := by decide +kernel
theorem dX8_off_48 : decode cX8_off 48 = .ok (.isub, 1) := by decide +kernel
theorem dX8_off_49 : decode cX8_off 49 = .ok (.goto 4, 3) := by decide +kernel
theorem dX8_off_52 : decode cX8_off 52 = .ok (.iload_n 3, 1) := by decide +kernel
theorem dX8_off_53 : decode cX8_off 53 = .ok (.ireturn, 1) := by decide +kernel
theorem dX8_doesGo_0 : decode cX8_doesGo 0 = .ok (.iload_n 2, 1) := by decide +kernel
theorem dX8_doesGo_1 : decode cX8_doesGo 1 = .ok (.bipush 8, 2) := by decide +kernel
theorem dX8_doesGo_3 : decode cX8_doesGo 3 = .ok (.if_icmp .ne 5, 3) := by decide +kernel
theorem dX8_doesGo_6 : decode cX8_doesGo 6 = .ok (.iconst 0, 1) := by decide +kernel
theorem dX8_doesGo_7 : decode cX8_doesGo 7 = .ok (.ireturn, 1) := by decide +kernel
theorem dX8_doesGo_8 : decode cX8_doesGo 8 = .ok (.aload_n 0, 1) := by decide +kernel
theorem dX8_doesGo_9 : decode cX8_doesGo 9 = .ok (.iload_n 1, 1) := by decide +kernel
theorem dX8_doesGo_10 : decode cX8_doesGo 10 = .ok (.iconst 0, 1) := by decide +kernel
theorem dX8_doesGo_11 : decode cX8_doesGo 11 = .ok (.invokevirtual 75, 3) := by decide +kernel
theorem dX8_doesGo_14 : decode cX8_doesGo 14 = .ok (.tableswitch 93 1 5 #[34, 50, 93, 67, 50], 34) := by decide +kernel
theorem dX8_doesGo_48 : decode cX8_doesGo 48 = .ok (.aload_n 0, 1) := by decide +kernel
theorem dX8_doesGo_49 : decode cX8_doesGo 49 = .ok (.getfield 9, 3) := by decide +kernel
theorem dX8_doesGo_52 : decode cX8_doesGo 52 = .ok (.iconst 1, 1) := by decide +kernel
theorem dX8_doesGo_53 : decode cX8_doesGo 53 = .ok (.iaload, 1) := by decide +kernel
theorem dX8_doesGo_54 : decode cX8_doesGo 54 = .ok (.iconst 2, 1) := by decide +kernel
theorem dX8_doesGo_55 : decode cX8_doesGo 55 = .ok (.if_icmp .lt 7, 3) := by decide +kernel
theorem dX8_doesGo_58 : decode cX8_doesGo 58 = .ok (.iconst 1, 1) := by decide +kernel
theorem dX8_doesGo_59 : decode cX8_doesGo 59 = .ok (.goto 4, 3) := by decide +kernel
theorem dX8_doesGo_62 : decode cX8_doesGo 62 = .ok (.iconst 0, 1) := by decide +kernel
theorem dX8_doesGo_63 : decode cX8_doesGo 63 = .ok (.ireturn, 1) := by decide +kernel
theorem dX8_doesGo_64 : decode cX8_doesGo 64 = .ok (.aload_n 0, 1) := by decide +kernel
theorem dX8_doesGo_65 : decode cX8_doesGo 65 = .ok (.getfield 9, 3) := by decide +kernel
theorem dX8_doesGo_68 : decode cX8_doesGo 68 = .ok (.iconst 1, 1) := by decide +kernel
theorem dX8_doesGo_69 : decode cX8_doesGo 69 = .ok (.iaload, 1) := by decide +kernel
theorem dX8_doesGo_70 : decode cX8_doesGo 70 = .ok (.bipush 9, 2) := by decide +kernel
theorem dX8_doesGo_72 : decode cX8_doesGo 72 = .ok (.if_icmp .ne 7, 3) := by decide +kernel
theorem dX8_doesGo_75 : decode cX8_doesGo 75 = .ok (.iconst 1, 1) := by decide +kernel
theorem dX8_doesGo_76 : decode cX8_doesGo 76 = .ok (.goto 4, 3) := by decide +kernel
theorem dX8_doesGo_79 : decode cX8_doesGo 79 = .ok (.iconst 0, 1) := by decide +kernel
theorem dX8_doesGo_80 : decode cX8_doesGo 80 = .ok (.ireturn, 1) := by decide +kernel
theorem dX8_doesGo_81 : decode cX8_doesGo 81 = .ok (.aload_n 0, 1) := by decide +kernel
theorem dX8_doesGo_82 : decode cX8_doesGo 82 = .ok (.getfield 9, 3) := by decide +kernel
theorem dX8_doesGo_85 : decode cX8_doesGo 85 = .ok (.iconst 1, 1) := by decide +kernel
theorem dX8_doesGo_86 : decode cX8_doesGo 86 = .ok (.iaload, 1) := by decide +kernel
theorem dX8_doesGo_87 : decode cX8_doesGo 87 = .ok (.iconst 2, 1) := by decide +kernel
theorem dX8_doesGo_88 : decode cX8_doesGo 88 = .ok (.if_icmp .lt 17, 3) := by decide +kernel
theorem dX8_doesGo_91 : decode cX8_doesGo 91 = .ok (.aload_n 0, 1) := by decide +kernel
theorem dX8_doesGo_92 : decode cX8_doesGo 92 = .ok (.iload_n 1, 1) := by decide +kernel
theorem dX8_doesGo_93 : decode cX8_doesGo 93 = .ok (.iload_n 2, 1) := by decide +kernel
theorem dX8_doesGo_94 : decode cX8_doesGo 94 = .ok (.invokevirtual 78, 3) := by decide +kernel
theorem dX8_doesGo_97 : decode cX8_doesGo 97 = .ok (.iconst 1, 1) := by decide +kernel
theorem dX8_doesGo_98 : decode cX8_doesGo 98 = .ok (.if_icmp .gt 7, 3) := by decide +kernel
theorem dX8_doesGo_101 : decode cX8_doesGo 101 = .ok (.iconst 1, 1) := by decide +kernel
theorem dX8_doesGo_102 : decode cX8_doesGo 102 = .ok (.goto 4, 3) := by decide +kernel
theorem dX8_doesGo_105 : decode cX8_doesGo 105 = .ok (.iconst 0, 1) := by decide +kernel
theorem dX8_doesGo_106 : decode cX8_doesGo 106 = .ok (.ireturn, 1) := by decide +kernel
theorem dX8_doesGo_107 : decode cX8_doesGo 107 = .ok (.iconst 0, 1) := by decide +kernel
theorem dX8_doesGo_108 : decode cX8_doesGo 108 = .ok (.ireturn, 1) := by decide +kernel
theorem dX8_earns_0 : decode cX8_earns 0 = .ok (.iload_n 2, 1) := by decide +kernel
theorem dX8_earns_1 : decode cX8_earns 1 = .ok (.bipush 8, 2) := by decide +kernel
theorem dX8_earns_3 : decode cX8_earns 3 = .ok (.if_icmp .ne 7, 3) := by decide +kernel
theorem dX8_earns_6 : decode cX8_earns 6 = .ok (.iconst 0, 1) := by decide +kernel
theorem dX8_earns_7 : decode cX8_earns 7 = .ok (.goto 9, 3) := by decide +kernel
theorem dX8_earns_10 : decode cX8_earns 10 = .ok (.aload_n 0, 1) := by decide +kernel
theorem dX8_earns_11 : decode cX8_earns 11 = .ok (.getfield 9, 3) := by decide +kernel
theorem dX8_earns_14 : decode cX8_earns 14 = .ok (.iconst 1, 1) := by decide +kernel
theorem dX8_earns_15 : decode cX8_earns 15 = .ok (.iaload, 1) := by decide +kernel
theorem dX8_earns_16 : decode cX8_earns 16 = .ok (.istore_n 3, 1) := by decide +kernel
