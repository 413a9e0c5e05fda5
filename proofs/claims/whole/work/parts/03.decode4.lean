theorem dX8_couldResultIn_84 : decode cX8_couldResultIn 84 = .ok (.if_icmp .gt 7, 3) := by decide +kernel
theorem dX8_couldResultIn_87 : decode cX8_couldResultIn 87 = .ok (.iconst 1, 1) := by decide +kernel
theorem dX8_couldResultIn_88 : decode cX8_couldResultIn 88 = .ok (.goto 4, 3) := by decide +kernel
theorem dX8_couldResultIn_91 : decode cX8_couldResultIn 91 = .ok (.iconst 0, 1) := by decide +kernel
theorem dX8_couldResultIn_92 : decode cX8_couldResultIn 92 = .ok (.ireturn, 1) := by decide +kernel
theorem dX8_earliest_0 : decode cX8_earliest 0 = .ok (.aload_n 0, 1) := by decide +kernel
theorem dX8_earliest_1 : decode cX8_earliest 1 = .ok (.iload_n 1, 1) := by decide +kernel
theorem dX8_earliest_2 : decode cX8_earliest 2 = .ok (.invokevirtual 101, 3) := by decide +kernel
theorem dX8_earliest_5 : decode cX8_earliest 5 = .ok (.ifCond .eq 20, 3) := by decide +kernel
theorem dX8_earliest_8 : decode cX8_earliest 8 = .ok (.aload_n 0, 1) := by decide +kernel
theorem dX8_earliest_9 : decode cX8_earliest 9 = .ok (.iload_n 3, 1) := by decide +kernel
theorem dX8_earliest_10 : decode cX8_earliest 10 = .ok (.invokevirtual 101, 3) := by decide +kernel
theorem dX8_earliest_13 : decode cX8_earliest 13 = .ok (.ifCond .eq 12, 3) := by decide +kernel
theorem dX8_earliest_16 : decode cX8_earliest 16 = .ok (.aload_n 0, 1) := by decide +kernel
theorem dX8_earliest_17 : decode cX8_earliest 17 = .ok (.iload_n 1, 1) := by decide +kernel
theorem dX8_earliest_18 : decode cX8_earliest 18 = .ok (.iload_n 2, 1) := by decide +kernel
theorem dX8_earliest_19 : decode cX8_earliest 19 = .ok (.invokevirtual 86, 3) := by decide +kernel
theorem dX8_earliest_22 : decode cX8_earliest 22 = .ok (.ifCond .ne 10, 3) := by decide +kernel
theorem dX8_earliest_25 : decode cX8_earliest 25 = .ok (.aload_n 0, 1) := by decide +kernel
theorem dX8_earliest_26 : decode cX8_earliest 26 = .ok (.bipush (-2), 2) := by decide +kernel
theorem dX8_earliest_28 : decode cX8_earliest 28 = .ok (.invokevirtual 52, 3) := by decide +kernel
theorem dX8_earliest_31 : decode cX8_earliest 31 = .ok (.ireturn, 1) := by decide +kernel
theorem dX8_earliest_32 : decode cX8_earliest 32 = .ok (.aload_n 0, 1) := by decide +kernel
theorem dX8_earliest_33 : decode cX8_earliest 33 = .ok (.iload_n 1, 1) := by decide +kernel
theorem dX8_earliest_34 : decode cX8_earliest 34 = .ok (.iload_n 2, 1) := by decide +kernel
theorem dX8_earliest_35 : decode cX8_earliest 35 = .ok (.bipush 100, 2) := by decide +kernel
theorem dX8_earliest_37 : decode cX8_earliest 37 = .ok (.irem, 1) := by decide +kernel
theorem dX8_earliest_38 : decode cX8_earliest 38 = .ok (.invokevirtual 104, 3) := by decide +kernel
theorem dX8_earliest_41 : decode cX8_earliest 41 = .ok (.aload_n 0, 1) := by decide +kernel
theorem dX8_earliest_42 : decode cX8_earliest 42 = .ok (.getfield 34, 3) := by decide +kernel
theorem dX8_earliest_45 : decode cX8_earliest 45 = .ok (.iload_n 3, 1) := by decide +kernel
theorem dX8_earliest_46 : decode cX8_earliest 46 = .ok (.iaload, 1) := by decide +kernel
theorem dX8_earliest_47 : decode cX8_earliest 47 = .ok (.iconst (-1), 1) := by decide +kernel
theorem dX8_earliest_48 : decode cX8_earliest 48 = .ok (.if_icmp .ne 7, 3) := by decide +kernel
theorem dX8_earliest_51 : decode cX8_earliest 51 = .ok (.iconst (-1), 1) := by decide +kernel
theorem dX8_earliest_52 : decode cX8_earliest 52 = .ok (.goto 16, 3) := by decide +kernel
theorem dX8_earliest_55 : decode cX8_earliest 55 = .ok (.iload_n 2, 1) := by decide +kernel
theorem dX8_earliest_56 : decode cX8_earliest 56 = .ok (.iload_n 2, 1) := by decide +kernel
theorem dX8_earliest_57 : decode cX8_earliest 57 = .ok (.bipush 100, 2) := by decide +kernel
theorem dX8_earliest_59 : decode cX8_earliest 59 = .ok (.irem, 1) := by decide +kernel
theorem dX8_earliest_60 : decode cX8_earliest 60 = .ok (.isub, 1) := by decide +kernel
theorem dX8_earliest_61 : decode cX8_earliest 61 = .ok (.aload_n 0, 1) := by decide +kernel
theorem dX8_earliest_62 : decode cX8_earliest 62 = .ok (.getfield 34, 3) := by decide +kernel
theorem dX8_earliest_65 : decode cX8_earliest 65 = .ok (.iload_n 3, 1) := by decide +kernel
theorem dX8_earliest_66 : decode cX8_earliest 66 = .ok (.iaload, 1) := by decide +kernel
theorem dX8_earliest_67 : decode cX8_earliest 67 = .ok (.iadd, 1) := by decide +kernel
theorem dX8_earliest_68 : decode cX8_earliest 68 = .ok (.ireturn, 1) := by decide +kernel
theorem dX8_updates_0 : decode cX8_updates 0 = .ok (.aload_n 0, 1) := by decide +kernel
theorem dX8_updates_1 : decode cX8_updates 1 = .ok (.getfield 8, 3) := by decide +kernel
theorem dX8_updates_4 : decode cX8_updates 4 = .ok (.aload_n 0, 1) := by decide +kernel
theorem dX8_updates_5 : decode cX8_updates 5 = .ok (.iload_n 1, 1) := by decide +kernel
theorem dX8_updates_6 : decode cX8_updates 6 = .ok (.iload_n 2, 1) := by decide +kernel
theorem dX8_updates_7 : decode cX8_updates 7 = .ok (.iload_n 3, 1) := by decide +kernel
theorem dX8_updates_8 : decode cX8_updates 8 = .ok (.invokevirtual 59, 3) := by decide +kernel
theorem dX8_updates_11 : decode cX8_updates 11 = .ok (.dup2, 1) := by decide +kernel
theorem dX8_updates_12 : decode cX8_updates 12 = .ok (.iaload, 1) := by decide +kernel
theorem dX8_updates_13 : decode cX8_updates 13 = .ok (.iload 4, 2) := by decide +kernel
theorem dX8_updates_15 : decode cX8_updates 15 = .ok (.iadd, 1) := by decide +kernel
theorem dX8_updates_16 : decode cX8_updates 16 = .ok (.iastore, 1) := by decide +kernel
theorem dX8_updates_17 : decode cX8_updates 17 = .ok (.iconst 1, 1) := by decide +kernel
theorem dX8_updates_18 : decode cX8_updates 18 = .ok (.iload_n 1, 1) := by decide +kernel
theorem dX8_updates_19 : decode cX8_updates 19 = .ok (.isub, 1) := by decide +kernel
theorem dX8_updates_20 : decode cX8_updates 20 = .ok (.istore 5, 2) := by decide +kernel
theorem dX8_updates_22 : decode cX8_updates 22 = .ok (.aload_n 0, 1) := by decide +kernel
theorem dX8_updates_23 : decode cX8_updates 23 = .ok (.getfield 8, 3) := by decide +kernel
theorem dX8_updates_26 : decode cX8_updates 26 = .ok (.ldc 107, 2) := by decide +kernel
theorem dX8_updates_28 : decode cX8_updates 28 = .ok (.sipush 8192, 3) := by decide +kernel
theorem dX8_updates_31 : decode cX8_updates 31 = .ok (.iload 5, 2) := by decide +kernel
theorem dX8_updates_33 : decode cX8_updates 33 = .ok (.imul, 1) := by decide +kernel
theorem dX8_updates_34 : decode cX8_updates 34 = .ok (.iadd, 1) := by decide +kernel
theorem dX8_updates_35 : decode cX8_updates 35 = .ok (.aload_n 0, 1) := by decide +kernel
theorem dX8_updates_36 : decode cX8_updates 36 = .ok (.getfield 8, 3) := by decide +kernel
theorem dX8_updates_39 : decode cX8_updates 39 = .ok (.sipush 357, 3) := by decide +kernel
theorem dX8_updates_42 : decode cX8_updates 42 = .ok (.iload 5, 2) := by decide +kernel
theorem dX8_updates_44 : decode cX8_updates 44 = .ok (.iadd, 1) := by decide +kernel
theorem dX8_updates_45 : decode cX8_updates 45 = .ok (.iaload, 1) := by decide +kernel
theorem dX8_updates_46 : decode cX8_updates 46 = .ok (.iadd, 1) := by decide +kernel
theorem dX8_updates_47 : decode cX8_updates 47 = .ok (.iconst 2, 1) := by decide +kernel
theorem dX8_updates_48 : decode cX8_updates 48 = .ok (.sipush 1000, 3) := by decide +kernel
theorem dX8_updates_51 : decode cX8_updates 51 = .ok (.iload_n 2, 1) := by decide +kernel
theorem dX8_updates_52 : decode cX8_updates 52 = .ok (.imul, 1) := by decide +kernel
theorem dX8_updates_53 : decode cX8_updates 53 = .ok (.iload_n 3, 1) := by decide +kernel
theorem dX8_updates_54 : decode cX8_updates 54 = .ok (.iadd, 1) := by decide +kernel
theorem dX8_updates_55 : decode cX8_updates 55 = .ok (.imul, 1) := by decide +kernel
theorem dX8_updates_56 : decode cX8_updates 56 = .ok (.iload 4, 2) := by decide +kernel
theorem dX8_updates_58 : decode cX8_updates 58 = .ok (.ifCond .le 7, 3) := by decide +kernel
theorem dX8_updates_61 : decode cX8_updates 61 = .ok (.iconst 1, 1) := by decide +kernel
theorem dX8_updates_62 : decode cX8_updates 62 = .ok (.goto 4, 3) := by decide +kernel
theorem dX8_updates_65 : decode cX8_updates 65 = .ok (.iconst 0, 1) := by decide +kernel
theorem dX8_updates_66 : decode cX8_updates 66 = .ok (.iadd, 1) := by decide +kernel
theorem dX8_updates_67 : decode cX8_updates 67 = .ok (.iastore, 1) := by decide +kernel
theorem dX8_updates_68 : decode cX8_updates 68 = .ok (.aload_n 0, 1) := by decide +kernel
theorem dX8_updates_69 : decode cX8_updates 69 = .ok (.getfield 8, 3) := by decide +kernel
theorem dX8_updates_72 : decode cX8_updates 72 = .ok (.sipush 357, 3) := by decide +kernel
theorem dX8_updates_75 : decode cX8_updates 75 = .ok (.iload 5, 2) := by decide +kernel
theorem dX8_updates_77 : decode cX8_updates 77 = .ok (.iadd, 1) := by decide +kernel
theorem dX8_updates_78 : decode cX8_updates 78 = .ok (.dup2, 1) := by decide +kernel
theorem dX8_updates_79 : decode cX8_updates 79 = .ok (.iaload, 1) := by decide +kernel
theorem dX8_updates_80 : decode cX8_updates 80 = .ok (.iconst 1, 1) := by decide +kernel
theorem dX8_updates_81 : decode cX8_updates 81 = .ok (.iadd, 1) := by decide +kernel
theorem dX8_updates_82 : decode cX8_updates 82 = .ok (.iastore, 1) := by decide +kernel
theorem dX8_updates_83 : decode cX8_updates 83 = .ok (.aload_n 0, 1) := by decide +kernel
theorem dX8_updates_84 : decode cX8_updates 84 = .ok (.getfield 8, 3) := by decide +kernel
theorem dX8_updates_87 : decode cX8_updates 87 = .ok (.iconst 2, 1) := by decide +kernel
theorem dX8_updates_88 : decode cX8_updates 88 = .ok (.iconst 1, 1) := by decide +kernel
theorem dX8_updates_89 : decode cX8_updates 89 = .ok (.iastore, 1) := by decide +kernel
theorem dX8_updates_90 : decode cX8_updates 90 = .ok (.return_, 1) := by decide +kernel
theorem dX8_lineOf_0 : decode cX8_lineOf 0 = .ok (.bipush 10, 2) := by decide +kernel
theorem dX8_lineOf_2 : decode cX8_lineOf 2 = .ok (.iload_n 1, 1) := by decide +kernel
theorem dX8_lineOf_3 : decode cX8_lineOf 3 = .ok (.imul, 1) := by decide +kernel
theorem dX8_lineOf_4 : decode cX8_lineOf 4 = .ok (.iload_n 2, 1) := by decide +kernel
theorem dX8_lineOf_5 : decode cX8_lineOf 5 = .ok (.iadd, 1) := by decide +kernel
theorem dX8_lineOf_6 : decode cX8_lineOf 6 = .ok (.ireturn, 1) := by decide +kernel
theorem dX8_puts_0 : decode cX8_puts 0 = .ok (.aload_n 0, 1) := by decide +kernel
theorem dX8_puts_1 : decode cX8_puts 1 = .ok (.iload_n 1, 1) := by decide +kernel
theorem dX8_puts_2 : decode cX8_puts 2 = .ok (.iload_n 2, 1) := by decide +kernel
theorem dX8_puts_3 : decode cX8_puts 3 = .ok (.invokevirtual 108, 3) := by decide +kernel
theorem dX8_puts_6 : decode cX8_puts 6 = .ok (.istore 4, 2) := by decide +kernel
theorem dX8_puts_8 : decode cX8_puts 8 = .ok (.aload_n 0, 1) := by decide +kernel
theorem dX8_puts_9 : decode cX8_puts 9 = .ok (.getfield 8, 3) := by decide +kernel
theorem dX8_puts_12 : decode cX8_puts 12 = .ok (.bipush 67, 2) := by decide +kernel
theorem dX8_puts_14 : decode cX8_puts 14 = .ok (.bipush 12, 2) := by decide +kernel
theorem dX8_puts_16 : decode cX8_puts 16 = .ok (.iload 4, 2) := by decide +kernel
theorem dX8_puts_18 : decode cX8_puts 18 = .ok (.imul, 1) := by decide +kernel
theorem dX8_puts_19 : decode cX8_puts 19 = .ok (.iadd, 1) := by decide +kernel
theorem dX8_puts_20 : decode cX8_puts 20 = .ok (.aload_n 0, 1) := by decide +kernel
theorem dX8_puts_21 : decode cX8_puts 21 = .ok (.getfield 8, 3) := by decide +kernel
theorem dX8_puts_24 : decode cX8_puts 24 = .ok (.bipush 47, 2) := by decide +kernel
theorem dX8_puts_26 : decode cX8_puts 26 = .ok (.iload 4, 2) := by decide +kernel
theorem dX8_puts_28 : decode cX8_puts 28 = .ok (.iadd, 1) := by decide +kernel
theorem dX8_puts_29 : decode cX8_puts 29 = .ok (.iaload, 1) := by decide +kernel
theorem dX8_puts_30 : decode cX8_puts 30 = .ok (.iadd, 1) := by decide +kernel
theorem dX8_puts_31 : decode cX8_puts 31 = .ok (.iload_n 3, 1) := by decide +kernel
theorem dX8_puts_32 : decode cX8_puts 32 = .ok (.iastore, 1) := by decide +kernel
theorem dX8_puts_33 : decode cX8_puts 33 = .ok (.aload_n 0, 1) := by decide +kernel
theorem dX8_puts_34 : decode cX8_puts 34 = .ok (.getfield 8, 3) := by decide +kernel
theorem dX8_puts_37 : decode cX8_puts 37 = .ok (.bipush 47, 2) := by decide +kernel
theorem dX8_puts_39 : decode cX8_puts 39 = .ok (.iload 4, 2) := by decide +kernel
theorem dX8_puts_41 : decode cX8_puts 41 = .ok (.iadd, 1) := by decide +kernel
theorem dX8_puts_42 : decode cX8_puts 42 = .ok (.dup2, 1) := by decide +kernel
theorem dX8_puts_43 : decode cX8_puts 43 = .ok (.iaload, 1) := by decide +kernel
theorem dX8_puts_44 : decode cX8_puts 44 = .ok (.iconst 1, 1) := by decide +kernel
theorem dX8_puts_45 : decode cX8_puts 45 = .ok (.iadd, 1) := by decide +kernel
theorem dX8_puts_46 : decode cX8_puts 46 = .ok (.iastore, 1) := by decide +kernel
theorem dX8_puts_47 : decode cX8_puts 47 = .ok (.return_, 1) := by decide +kernel
theorem dX8_isFullLine_0 : decode cX8_isFullLine 0 = .ok (.aload_n 0, 1) := by decide +kernel
theorem dX8_isFullLine_1 : decode cX8_isFullLine 1 = .ok (.getfield 8, 3) := by decide +kernel
theorem dX8_isFullLine_4 : decode cX8_isFullLine 4 = .ok (.bipush 47, 2) := by decide +kernel
theorem dX8_isFullLine_6 : decode cX8_isFullLine 6 = .ok (.aload_n 0, 1) := by decide +kernel
theorem dX8_isFullLine_7 : decode cX8_isFullLine 7 = .ok (.iload_n 1, 1) := by decide +kernel
theorem dX8_isFullLine_8 : decode cX8_isFullLine 8 = .ok (.iload_n 2, 1) := by decide +kernel
theorem dX8_isFullLine_9 : decode cX8_isFullLine 9 = .ok (.invokevirtual 108, 3) := by decide +kernel
theorem dX8_isFullLine_12 : decode cX8_isFullLine 12 = .ok (.iadd, 1) := by decide +kernel
theorem dX8_isFullLine_13 : decode cX8_isFullLine 13 = .ok (.iaload, 1) := by decide +kernel
theorem dX8_isFullLine_14 : decode cX8_isFullLine 14 = .ok (.bipush 12, 2) := by decide +kernel
theorem dX8_isFullLine_16 : decode cX8_isFullLine 16 = .ok (.if_icmp .ne 7, 3) := by decide +kernel
theorem dX8_isFullLine_19 : decode cX8_isFullLine 19 = .ok (.iconst 1, 1) := by decide +kernel
theorem dX8_isFullLine_20 : decode cX8_isFullLine 20 = .ok (.goto 4, 3) := by decide +kernel
theorem dX8_isFullLine_23 : decode cX8_isFullLine 23 = .ok (.iconst 0, 1) := by decide +kernel
theorem dX8_isFullLine_24 : decode cX8_isFullLine 24 = .ok (.ireturn, 1) := by decide +kernel
theorem dX8_send_0 : decode cX8_send 0 = .ok (.aload_n 0, 1) := by decide +kernel
theorem dX8_send_1 : decode cX8_send 1 = .ok (.iload_n 1, 1) := by decide +kernel
theorem dX8_send_2 : decode cX8_send 2 = .ok (.invokevirtual 77, 3) := by decide +kernel
theorem dX8_send_5 : decode cX8_send 5 = .ok (.ifCond .eq 10, 3) := by decide +kernel
theorem dX8_send_8 : decode cX8_send 8 = .ok (.iload_n 2, 1) := by decide +kernel
theorem dX8_send_9 : decode cX8_send 9 = .ok (.invokestatic 111, 3) := by decide +kernel
theorem dX8_send_12 : decode cX8_send 12 = .ok (.ifCond .ne 10, 3) := by decide +kernel
theorem dX8_send_15 : decode cX8_send 15 = .ok (.aload_n 0, 1) := by decide +kernel
theorem dX8_send_16 : decode cX8_send 16 = .ok (.bipush (-2), 2) := by decide +kernel
theorem dX8_send_18 : decode cX8_send 18 = .ok (.invokevirtual 52, 3) := by decide +kernel
theorem dX8_send_21 : decode cX8_send 21 = .ok (.ireturn, 1) := by decide +kernel
theorem dX8_send_22 : decode cX8_send 22 = .ok (.aload_n 0, 1) := by decide +kernel
theorem dX8_send_23 : decode cX8_send 23 = .ok (.getfield 8, 3) := by decide +kernel
theorem dX8_send_26 : decode cX8_send 26 = .ok (.bipush 11, 2) := by decide +kernel
theorem dX8_send_28 : decode cX8_send 28 = .ok (.aload_n 0, 1) := by decide +kernel
theorem dX8_send_29 : decode cX8_send 29 = .ok (.getfield 8, 3) := by decide +kernel
theorem dX8_send_32 : decode cX8_send 32 = .ok (.bipush 17, 2) := by decide +kernel
theorem dX8_send_34 : decode cX8_send 34 = .ok (.iload_n 1, 1) := by decide +kernel
theorem dX8_send_35 : decode cX8_send 35 = .ok (.iadd, 1) := by decide +kernel
theorem dX8_send_36 : decode cX8_send 36 = .ok (.iaload, 1) := by decide +kernel
theorem dX8_send_37 : decode cX8_send 37 = .ok (.iadd, 1) := by decide +kernel
theorem dX8_send_38 : decode cX8_send 38 = .ok (.iaload, 1) := by decide +kernel
theorem dX8_send_39 : decode cX8_send 39 = .ok (.istore_n 3, 1) := by decide +kernel
theorem dX8_send_40 : decode cX8_send 40 = .ok (.iload_n 3, 1) := by decide +kernel
theorem dX8_send_41 : decode cX8_send 41 = .ok (.ifCond .ge 10, 3) := by decide +kernel
theorem dX8_send_44 : decode cX8_send 44 = .ok (.aload_n 0, 1) := by decide +kernel
theorem dX8_send_45 : decode cX8_send 45 = .ok (.bipush (-3), 2) := by decide +kernel
theorem dX8_send_47 : decode cX8_send 47 = .ok (.invokevirtual 52, 3) := by decide +kernel
theorem dX8_send_50 : decode cX8_send 50 = .ok (.ireturn, 1) := by decide +kernel
theorem dX8_send_51 : decode cX8_send 51 = .ok (.aload_n 0, 1) := by decide +kernel
theorem dX8_send_52 : decode cX8_send 52 = .ok (.iload_n 2, 1) := by decide +kernel
theorem dX8_send_53 : decode cX8_send 53 = .ok (.iload_n 1, 1) := by decide +kernel
theorem dX8_send_54 : decode cX8_send 54 = .ok (.invokevirtual 114, 3) := by decide +kernel
theorem dX8_send_57 : decode cX8_send 57 = .ok (.ifCond .eq 10, 3) := by decide +kernel
theorem dX8_send_60 : decode cX8_send 60 = .ok (.aload_n 0, 1) := by decide +kernel
theorem dX8_send_61 : decode cX8_send 61 = .ok (.bipush (-4), 2) := by decide +kernel
theorem dX8_send_63 : decode cX8_send 63 = .ok (.invokevirtual 52, 3) := by decide +kernel
theorem dX8_send_66 : decode cX8_send 66 = .ok (.ireturn, 1) := by decide +kernel
theorem dX8_send_67 : decode cX8_send 67 = .ok (.aload_n 0, 1) := by decide +kernel
theorem dX8_send_68 : decode cX8_send 68 = .ok (.invokevirtual 56, 3) := by decide +kernel
theorem dX8_send_71 : decode cX8_send 71 = .ok (.aload_n 0, 1) := by decide +kernel
theorem dX8_send_72 : decode cX8_send 72 = .ok (.iload_n 2, 1) := by decide +kernel
theorem dX8_send_73 : decode cX8_send 73 = .ok (.iload_n 1, 1) := by decide +kernel
theorem dX8_send_74 : decode cX8_send 74 = .ok (.bipush 100, 2) := by decide +kernel
theorem dX8_send_76 : decode cX8_send 76 = .ok (.iload_n 3, 1) := by decide +kernel
theorem dX8_send_77 : decode cX8_send 77 = .ok (.imul, 1) := by decide +kernel
theorem dX8_send_78 : decode cX8_send 78 = .ok (.invokevirtual 117, 3) := by decide +kernel
theorem dX8_send_81 : decode cX8_send 81 = .ok (.aload_n 0, 1) := by decide +kernel
theorem dX8_send_82 : decode cX8_send 82 = .ok (.iconst 0, 1) := by decide +kernel
theorem dX8_send_83 : decode cX8_send 83 = .ok (.bipush 6, 2) := by decide +kernel
theorem dX8_send_85 : decode cX8_send 85 = .ok (.iload_n 1, 1) := by decide +kernel
theorem dX8_send_86 : decode cX8_send 86 = .ok (.iadd, 1) := by decide +kernel
theorem dX8_send_87 : decode cX8_send 87 = .ok (.bipush 100, 2) := by decide +kernel
theorem dX8_send_89 : decode cX8_send 89 = .ok (.iload_n 3, 1) := by decide +kernel
theorem dX8_send_90 : decode cX8_send 90 = .ok (.imul, 1) := by decide +kernel
theorem dX8_send_91 : decode cX8_send 91 = .ok (.iconst 1, 1) := by decide +kernel
theorem dX8_send_92 : decode cX8_send 92 = .ok (.invokevirtual 121, 3) := by decide +kernel
theorem dX8_send_95 : decode cX8_send 95 = .ok (.bipush 100, 2) := by decide +kernel
theorem dX8_send_97 : decode cX8_send 97 = .ok (.iload_n 3, 1) := by decide +kernel
theorem dX8_send_98 : decode cX8_send 98 = .ok (.imul, 1) := by decide +kernel
theorem dX8_send_99 : decode cX8_send 99 = .ok (.ireturn, 1) := by decide +kernel
theorem dX8_advance_0 : decode cX8_advance 0 = .ok (.aload_n 0, 1) := by decide +kernel
theorem dX8_advance_1 : decode cX8_advance 1 = .ok (.iload_n 1, 1) := by decide +kernel
theorem dX8_advance_2 : decode cX8_advance 2 = .ok (.invokevirtual 71, 3) := by decide +kernel
theorem dX8_advance_5 : decode cX8_advance 5 = .ok (.ifCond .ne 10, 3) := by decide +kernel
theorem dX8_advance_8 : decode cX8_advance 8 = .ok (.aload_n 0, 1) := by decide +kernel
theorem dX8_advance_9 : decode cX8_advance 9 = .ok (.bipush (-2), 2) := by decide +kernel
theorem dX8_advance_11 : decode cX8_advance 11 = .ok (.invokevirtual 52, 3) := by decide +kernel
theorem dX8_advance_14 : decode cX8_advance 14 = .ok (.ireturn, 1) := by decide +kernel
theorem dX8_advance_15 : decode cX8_advance 15 = .ok (.aload_n 0, 1) := by decide +kernel
theorem dX8_advance_16 : decode cX8_advance 16 = .ok (.getfield 8, 3) := by decide +kernel
theorem dX8_advance_19 : decode cX8_advance 19 = .ok (.bipush 11, 2) := by decide +kernel
theorem dX8_advance_21 : decode cX8_advance 21 = .ok (.iload_n 1, 1) := by decide +kernel
theorem dX8_advance_22 : decode cX8_advance 22 = .ok (.iadd, 1) := by decide +kernel
theorem dX8_advance_23 : decode cX8_advance 23 = .ok (.iaload, 1) := by decide +kernel
theorem dX8_advance_24 : decode cX8_advance 24 = .ok (.istore_n 2, 1) := by decide +kernel
theorem dX8_advance_25 : decode cX8_advance 25 = .ok (.iload_n 2, 1) := by decide +kernel
theorem dX8_advance_26 : decode cX8_advance 26 = .ok (.ifCond .lt 9, 3) := by decide +kernel
theorem dX8_advance_29 : decode cX8_advance 29 = .ok (.iload_n 2, 1) := by decide +kernel
theorem dX8_advance_30 : decode cX8_advance 30 = .ok (.bipush 9, 2) := by decide +kernel
theorem dX8_advance_32 : decode cX8_advance 32 = .ok (.if_icmp .ne 10, 3) := by decide +kernel
theorem dX8_advance_35 : decode cX8_advance 35 = .ok (.aload_n 0, 1) := by decide +kernel
theorem dX8_advance_36 : decode cX8_advance 36 = .ok (.bipush (-3), 2) := by decide +kernel
theorem dX8_advance_38 : decode cX8_advance 38 = .ok (.invokevirtual 52, 3) := by decide +kernel
theorem dX8_advance_41 : decode cX8_advance 41 = .ok (.ireturn, 1) := by decide +kernel
theorem dX8_advance_42 : decode cX8_advance 42 = .ok (.aload_n 0, 1) := by decide +kernel
theorem dX8_advance_43 : decode cX8_advance 43 = .ok (.invokevirtual 56, 3) := by decide +kernel
theorem dX8_advance_46 : decode cX8_advance 46 = .ok (.aload_n 0, 1) := by decide +kernel
theorem dX8_advance_47 : decode cX8_advance 47 = .ok (.getfield 8, 3) := by decide +kernel
theorem dX8_advance_50 : decode cX8_advance 50 = .ok (.bipush 11, 2) := by decide +kernel
theorem dX8_advance_52 : decode cX8_advance 52 = .ok (.iload_n 1, 1) := by decide +kernel
theorem dX8_advance_53 : decode cX8_advance 53 = .ok (.iadd, 1) := by decide +kernel
theorem dX8_advance_54 : decode cX8_advance 54 = .ok (.iload_n 2, 1) := by decide +kernel
theorem dX8_advance_55 : decode cX8_advance 55 = .ok (.iconst 1, 1) := by decide +kernel
theorem dX8_advance_56 : decode cX8_advance 56 = .ok (.iadd, 1) := by decide +kernel
theorem dX8_advance_57 : decode cX8_advance 57 = .ok (.iastore, 1) := by decide +kernel
theorem dX8_advance_58 : decode cX8_advance 58 = .ok (.aload_n 0, 1) := by decide +kernel
theorem dX8_advance_59 : decode cX8_advance 59 = .ok (.iconst 0, 1) := by decide +kernel
theorem dX8_advance_60 : decode cX8_advance 60 = .ok (.iload_n 1, 1) := by decide +kernel
theorem dX8_advance_61 : decode cX8_advance 61 = .ok (.bipush 100, 2) := by decide +kernel
theorem dX8_advance_63 : decode cX8_advance 63 = .ok (.iload_n 2, 1) := by decide +kernel
theorem dX8_advance_64 : decode cX8_advance 64 = .ok (.iconst 1, 1) := by decide +kernel
theorem dX8_advance_65 : decode cX8_advance 65 = .ok (.iadd, 1) := by decide +kernel
theorem dX8_advance_66 : decode cX8_advance 66 = .ok (.imul, 1) := by decide +kernel
theorem dX8_advance_67 : decode cX8_advance 67 = .ok (.iconst 1, 1) := by decide +kernel
theorem dX8_advance_68 : decode cX8_advance 68 = .ok (.invokevirtual 121, 3) := by decide +kernel
theorem dX8_advance_71 : decode cX8_advance 71 = .ok (.aload_n 0, 1) := by decide +kernel
theorem dX8_advance_72 : decode cX8_advance 72 = .ok (.iconst 0, 1) := by decide +kernel
theorem dX8_advance_73 : decode cX8_advance 73 = .ok (.iload_n 1, 1) := by decide +kernel
theorem dX8_advance_74 : decode cX8_advance 74 = .ok (.bipush 100, 2) := by decide +kernel
theorem dX8_advance_76 : decode cX8_advance 76 = .ok (.iload_n 2, 1) := by decide +kernel
theorem dX8_advance_77 : decode cX8_advance 77 = .ok (.imul, 1) := by decide +kernel
theorem dX8_advance_78 : decode cX8_advance 78 = .ok (.iconst (-1), 1) := by decide +kernel
theorem dX8_advance_79 : decode cX8_advance 79 = .ok (.invokevirtual 121, 3) := by decide +kernel
theorem dX8_advance_82 : decode cX8_advance 82 = .ok (.iload_n 2, 1) := by decide +kernel
theorem dX8_advance_83 : decode cX8_advance 83 = .ok (.iconst 1, 1) := by decide +kernel
theorem dX8_advance_84 : decode cX8_advance 84 = .ok (.iadd, 1) := by decide +kernel
theorem dX8_advance_85 : decode cX8_advance 85 = .ok (.ireturn, 1) := by decide +kernel
theorem dX8_close_0 : decode cX8_close 0 = .ok (.aload_n 0, 1) := by decide +kernel
theorem dX8_close_1 : decode cX8_close 1 = .ok (.iload_n 1, 1) := by decide +kernel
theorem dX8_close_2 : decode cX8_close 2 = .ok (.invokevirtual 71, 3) := by decide +kernel
theorem dX8_close_5 : decode cX8_close 5 = .ok (.ifCond .ne 10, 3) := by decide +kernel
theorem dX8_close_8 : decode cX8_close 8 = .ok (.aload_n 0, 1) := by decide +kernel
theorem dX8_close_9 : decode cX8_close 9 = .ok (.bipush (-2), 2) := by decide +kernel
theorem dX8_close_11 : decode cX8_close 11 = .ok (.invokevirtual 52, 3) := by decide +kernel
theorem dX8_close_14 : decode cX8_close 14 = .ok (.ireturn, 1) := by decide +kernel
theorem dX8_close_15 : decode cX8_close 15 = .ok (.aload_n 0, 1) := by decide +kernel
theorem dX8_close_16 : decode cX8_close 16 = .ok (.getfield 8, 3) := by decide +kernel
theorem dX8_close_19 : decode cX8_close 19 = .ok (.bipush 11, 2) := by decide +kernel
theorem dX8_close_21 : decode cX8_close 21 = .ok (.iload_n 1, 1) := by decide +kernel
theorem dX8_close_22 : decode cX8_close 22 = .ok (.iadd, 1) := by decide +kernel
theorem dX8_close_23 : decode cX8_close 23 = .ok (.iaload, 1) := by decide +kernel
theorem dX8_close_24 : decode cX8_close 24 = .ok (.istore_n 2, 1) := by decide +kernel
theorem dX8_close_25 : decode cX8_close 25 = .ok (.iload_n 2, 1) := by decide +kernel
theorem dX8_close_26 : decode cX8_close 26 = .ok (.ifCond .ge 10, 3) := by decide +kernel
theorem dX8_close_29 : decode cX8_close 29 = .ok (.aload_n 0, 1) := by decide +kernel
theorem dX8_close_30 : decode cX8_close 30 = .ok (.bipush (-3), 2) := by decide +kernel
theorem dX8_close_32 : decode cX8_close 32 = .ok (.invokevirtual 52, 3) := by decide +kernel
theorem dX8_close_35 : decode cX8_close 35 = .ok (.ireturn, 1) := by decide +kernel
theorem dX8_close_36 : decode cX8_close 36 = .ok (.aload_n 0, 1) := by decide +kernel
theorem dX8_close_37 : decode cX8_close 37 = .ok (.invokevirtual 56, 3) := by decide +kernel
theorem dX8_close_40 : decode cX8_close 40 = .ok (.aload_n 0, 1) := by decide +kernel
theorem dX8_close_41 : decode cX8_close 41 = .ok (.getfield 8, 3) := by decide +kernel
theorem dX8_close_44 : decode cX8_close 44 = .ok (.bipush 11, 2) := by decide +kernel
theorem dX8_close_46 : decode cX8_close 46 = .ok (.iload_n 1, 1) := by decide +kernel
theorem dX8_close_47 : decode cX8_close 47 = .ok (.iadd, 1) := by decide +kernel
theorem dX8_close_48 : decode cX8_close 48 = .ok (.bipush (-2), 2) := by decide +kernel
theorem dX8_close_50 : decode cX8_close 50 = .ok (.iastore, 1) := by decide +kernel
theorem dX8_close_51 : decode cX8_close 51 = .ok (.aload_n 0, 1) := by decide +kernel
theorem dX8_close_52 : decode cX8_close 52 = .ok (.iconst 0, 1) := by decide +kernel
theorem dX8_close_53 : decode cX8_close 53 = .ok (.iload_n 1, 1) := by decide +kernel
theorem dX8_close_54 : decode cX8_close 54 = .ok (.bipush 100, 2) := by decide +kernel
theorem dX8_close_56 : decode cX8_close 56 = .ok (.iload_n 2, 1) := by decide +kernel
theorem dX8_close_57 : decode cX8_close 57 = .ok (.imul, 1) := by decide +kernel
theorem dX8_close_58 : decode cX8_close 58 = .ok (.iconst (-1), 1) := by decide +kernel
theorem dX8_close_59 : decode cX8_close 59 = .ok (.invokevirtual 121, 3) := by decide +kernel
theorem dX8_close_62 : decode cX8_close 62 = .ok (.iload_n 2, 1) := by decide +kernel
theorem dX8_close_63 : decode cX8_close 63 = .ok (.ireturn, 1) := by decide +kernel
theorem dX8_areEdges_0 : decode cX8_areEdges 0 = .ok (.iload_n 1, 1) := by decide +kernel
theorem dX8_areEdges_1 : decode cX8_areEdges 1 = .ok (.iconst 0, 1) := by decide +kernel
theorem dX8_areEdges_2 : decode cX8_areEdges 2 = .ok (.iconst 1, 1) := by decide +kernel
theorem dX8_areEdges_3 : decode cX8_areEdges 3 = .ok (.aload_n 0, 1) := by decide +kernel
theorem dX8_areEdges_4 : decode cX8_areEdges 4 = .ok (.getfield 8, 3) := by decide +kernel
theorem dX8_areEdges_7 : decode cX8_areEdges 7 = .ok (.iconst 1, 1) := by decide +kernel
theorem dX8_areEdges_8 : decode cX8_areEdges 8 = .ok (.iaload, 1) := by decide +kernel
theorem dX8_areEdges_9 : decode cX8_areEdges 9 = .ok (.ishl, 1) := by decide +kernel
theorem dX8_areEdges_10 : decode cX8_areEdges 10 = .ok (.iconst 1, 1) := by decide +kernel
theorem dX8_areEdges_11 : decode cX8_areEdges 11 = .ok (.isub, 1) := by decide +kernel
theorem dX8_areEdges_12 : decode cX8_areEdges 12 = .ok (.invokestatic 43, 3) := by decide +kernel
theorem dX8_areEdges_15 : decode cX8_areEdges 15 = .ok (.ireturn, 1) := by decide +kernel
theorem dX8_has_0 : decode cX8_has 0 = .ok (.iload_n 0, 1) := by decide +kernel
theorem dX8_has_1 : decode cX8_has 1 = .ok (.iload_n 1, 1) := by decide +kernel
theorem dX8_has_2 : decode cX8_has 2 = .ok (.ishr, 1) := by decide +kernel
theorem dX8_has_3 : decode cX8_has 3 = .ok (.iconst 1, 1) := by decide +kernel
theorem dX8_has_4 : decode cX8_has 4 = .ok (.iand, 1) := by decide +kernel
theorem dX8_has_5 : decode cX8_has 5 = .ok (.iconst 1, 1) := by decide +kernel
theorem dX8_has_6 : decode cX8_has 6 = .ok (.if_icmp .ne 7, 3) := by decide +kernel
theorem dX8_has_9 : decode cX8_has 9 = .ok (.iconst 1, 1) := by decide +kernel
theorem dX8_has_10 : decode cX8_has 10 = .ok (.goto 4, 3) := by decide +kernel
theorem dX8_has_13 : decode cX8_has 13 = .ok (.iconst 0, 1) := by decide +kernel
theorem dX8_has_14 : decode cX8_has 14 = .ok (.ireturn, 1) := by decide +kernel
theorem dX8_startAt_0 : decode cX8_startAt 0 = .ok (.iconst 1, 1) := by decide +kernel
theorem dX8_startAt_1 : decode cX8_startAt 1 = .ok (.istore_n 3, 1) := by decide +kernel
theorem dX8_startAt_2 : decode cX8_startAt 2 = .ok (.iconst 0, 1) := by decide +kernel
theorem dX8_startAt_3 : decode cX8_startAt 3 = .ok (.istore 4, 2) := by decide +kernel
theorem dX8_startAt_5 : decode cX8_startAt 5 = .ok (.iload 4, 2) := by decide +kernel
theorem dX8_startAt_7 : decode cX8_startAt 7 = .ok (.aload_n 0, 1) := by decide +kernel
theorem dX8_startAt_8 : decode cX8_startAt 8 = .ok (.getfield 8, 3) := by decide +kernel
theorem dX8_startAt_11 : decode cX8_startAt 11 = .ok (.iconst 1, 1) := by decide +kernel
theorem dX8_startAt_12 : decode cX8_startAt 12 = .ok (.iaload, 1) := by decide +kernel
theorem dX8_startAt_13 : decode cX8_startAt 13 = .ok (.if_icmp .ge 42, 3) := by decide +kernel
theorem dX8_startAt_16 : decode cX8_startAt 16 = .ok (.iload_n 3, 1) := by decide +kernel
theorem dX8_startAt_17 : decode cX8_startAt 17 = .ok (.ifCond .eq 30, 3) := by decide +kernel
theorem dX8_startAt_20 : decode cX8_startAt 20 = .ok (.iload_n 1, 1) := by decide +kernel
theorem dX8_startAt_21 : decode cX8_startAt 21 = .ok (.iload 4, 2) := by decide +kernel
theorem dX8_startAt_23 : decode cX8_startAt 23 = .ok (.invokestatic 125, 3) := by decide +kernel
theorem dX8_startAt_26 : decode cX8_startAt 26 = .ok (.ifCond .eq 17, 3) := by decide +kernel
theorem dX8_startAt_29 : decode cX8_startAt 29 = .ok (.aload_n 0, 1) := by decide +kernel
theorem dX8_startAt_30 : decode cX8_startAt 30 = .ok (.getfield 8, 3) := by decide +kernel
theorem dX8_startAt_33 : decode cX8_startAt 33 = .ok (.bipush 17, 2) := by decide +kernel
theorem dX8_startAt_35 : decode cX8_startAt 35 = .ok (.iload 4, 2) := by decide +kernel
theorem dX8_startAt_37 : decode cX8_startAt 37 = .ok (.iadd, 1) := by decide +kernel
theorem dX8_startAt_38 : decode cX8_startAt 38 = .ok (.iaload, 1) := by decide +kernel
theorem dX8_startAt_39 : decode cX8_startAt 39 = .ok (.iload_n 2, 1) := by decide +kernel
theorem dX8_startAt_40 : decode cX8_startAt 40 = .ok (.if_icmp .ne 7, 3) := by decide +kernel
theorem dX8_startAt_43 : decode cX8_startAt 43 = .ok (.iconst 1, 1) := by decide +kernel
theorem dX8_startAt_44 : decode cX8_startAt 44 = .ok (.goto 4, 3) := by decide +kernel
theorem dX8_startAt_47 : decode cX8_startAt 47 = .ok (.iconst 0, 1) := by decide +kernel
theorem dX8_startAt_48 : decode cX8_startAt 48 = .ok (.istore_n 3, 1) := by decide +kernel
theorem dX8_startAt_49 : decode cX8_startAt 49 = .ok (.iinc 4 1, 3) := by decide +kernel
theorem dX8_startAt_52 : decode cX8_startAt 52 = .ok (.goto (-47), 3) := by decide +kernel
theorem dX8_startAt_55 : decode cX8_startAt 55 = .ok (.iload_n 3, 1) := by decide +kernel
theorem dX8_startAt_56 : decode cX8_startAt 56 = .ok (.ireturn, 1) := by decide +kernel
theorem dX8_isOneFull_0 : decode cX8_isOneFull 0 = .ok (.iconst 0, 1) := by decide +kernel
theorem dX8_isOneFull_1 : decode cX8_isOneFull 1 = .ok (.istore_n 3, 1) := by decide +kernel
theorem dX8_isOneFull_2 : decode cX8_isOneFull 2 = .ok (.iconst 0, 1) := by decide +kernel
theorem dX8_isOneFull_3 : decode cX8_isOneFull 3 = .ok (.istore 4, 2) := by decide +kernel
theorem dX8_isOneFull_5 : decode cX8_isOneFull 5 = .ok (.iload 4, 2) := by decide +kernel
theorem dX8_isOneFull_7 : decode cX8_isOneFull 7 = .ok (.aload_n 0, 1) := by decide +kernel
theorem dX8_isOneFull_8 : decode cX8_isOneFull 8 = .ok (.getfield 8, 3) := by decide +kernel
theorem dX8_isOneFull_11 : decode cX8_isOneFull 11 = .ok (.iconst 1, 1) := by decide +kernel
theorem dX8_isOneFull_12 : decode cX8_isOneFull 12 = .ok (.iaload, 1) := by decide +kernel
theorem dX8_isOneFull_13 : decode cX8_isOneFull 13 = .ok (.if_icmp .ge 38, 3) := by decide +kernel
theorem dX8_isOneFull_16 : decode cX8_isOneFull 16 = .ok (.iload_n 3, 1) := by decide +kernel
theorem dX8_isOneFull_17 : decode cX8_isOneFull 17 = .ok (.ifCond .ne 22, 3) := by decide +kernel
theorem dX8_isOneFull_20 : decode cX8_isOneFull 20 = .ok (.iload_n 1, 1) := by decide +kernel
theorem dX8_isOneFull_21 : decode cX8_isOneFull 21 = .ok (.iload 4, 2) := by decide +kernel
theorem dX8_isOneFull_23 : decode cX8_isOneFull 23 = .ok (.invokestatic 125, 3) := by decide +kernel
theorem dX8_isOneFull_26 : decode cX8_isOneFull 26 = .ok (.ifCond .eq 17, 3) := by decide +kernel
theorem dX8_isOneFull_29 : decode cX8_isOneFull 29 = .ok (.aload_n 0, 1) := by decide +kernel
theorem dX8_isOneFull_30 : decode cX8_isOneFull 30 = .ok (.iload_n 2, 1) := by decide +kernel
theorem dX8_isOneFull_31 : decode cX8_isOneFull 31 = .ok (.iload 4, 2) := by decide +kernel
theorem dX8_isOneFull_33 : decode cX8_isOneFull 33 = .ok (.invokevirtual 114, 3) := by decide +kernel
theorem dX8_isOneFull_36 : decode cX8_isOneFull 36 = .ok (.ifCond .eq 7, 3) := by decide +kernel
theorem dX8_isOneFull_39 : decode cX8_isOneFull 39 = .ok (.iconst 1, 1) := by decide +kernel
theorem dX8_isOneFull_40 : decode cX8_isOneFull 40 = .ok (.goto 4, 3) := by decide +kernel
theorem dX8_isOneFull_43 : decode cX8_isOneFull 43 = .ok (.iconst 0, 1) := by decide +kernel
theorem dX8_isOneFull_44 : decode cX8_isOneFull 44 = .ok (.istore_n 3, 1) := by decide +kernel
theorem dX8_isOneFull_45 : decode cX8_isOneFull 45 = .ok (.iinc 4 1, 3) := by decide +kernel
theorem dX8_isOneFull_48 : decode cX8_isOneFull 48 = .ok (.goto (-43), 3) := by decide +kernel
theorem dX8_isOneFull_51 : decode cX8_isOneFull 51 = .ok (.iload_n 3, 1) := by decide +kernel
theorem dX8_isOneFull_52 : decode cX8_isOneFull 52 = .ok (.ireturn, 1) := by decide +kernel
theorem dX8_putsAll_0 : decode cX8_putsAll 0 = .ok (.iconst 0, 1) := by decide +kernel
theorem dX8_putsAll_1 : decode cX8_putsAll 1 = .ok (.istore 5, 2) := by decide +kernel
theorem dX8_putsAll_3 : decode cX8_putsAll 3 = .ok (.iload 5, 2) := by decide +kernel
theorem dX8_putsAll_5 : decode cX8_putsAll 5 = .ok (.aload_n 0, 1) := by decide +kernel
theorem dX8_putsAll_6 : decode cX8_putsAll 6 = .ok (.getfield 8, 3) := by decide +kernel
theorem dX8_putsAll_9 : decode cX8_putsAll 9 = .ok (.iconst 1, 1) := by decide +kernel
theorem dX8_putsAll_10 : decode cX8_putsAll 10 = .ok (.iaload, 1) := by decide +kernel
theorem dX8_putsAll_11 : decode cX8_putsAll 11 = .ok (.if_icmp .ge 40, 3) := by decide +kernel
theorem dX8_putsAll_14 : decode cX8_putsAll 14 = .ok (.iload_n 2, 1) := by decide +kernel
theorem dX8_putsAll_15 : decode cX8_putsAll 15 = .ok (.iload 5, 2) := by decide +kernel
theorem dX8_putsAll_17 : decode cX8_putsAll 17 = .ok (.invokestatic 125, 3) := by decide +kernel
theorem dX8_putsAll_20 : decode cX8_putsAll 20 = .ok (.ifCond .eq 25, 3) := by decide +kernel
theorem dX8_putsAll_23 : decode cX8_putsAll 23 = .ok (.aload_n 0, 1) := by decide +kernel
theorem dX8_putsAll_24 : decode cX8_putsAll 24 = .ok (.iload_n 3, 1) := by decide +kernel
theorem dX8_putsAll_25 : decode cX8_putsAll 25 = .ok (.iload 5, 2) := by decide +kernel
theorem dX8_putsAll_27 : decode cX8_putsAll 27 = .ok (.iload 4, 2) := by decide +kernel
theorem dX8_putsAll_29 : decode cX8_putsAll 29 = .ok (.invokevirtual 117, 3) := by decide +kernel
theorem dX8_putsAll_32 : decode cX8_putsAll 32 = .ok (.aload_n 0, 1) := by decide +kernel
theorem dX8_putsAll_33 : decode cX8_putsAll 33 = .ok (.iload_n 1, 1) := by decide +kernel
theorem dX8_putsAll_34 : decode cX8_putsAll 34 = .ok (.bipush 6, 2) := by decide +kernel
theorem dX8_putsAll_36 : decode cX8_putsAll 36 = .ok (.iload 5, 2) := by decide +kernel
theorem dX8_putsAll_38 : decode cX8_putsAll 38 = .ok (.iadd, 1) := by decide +kernel
theorem dX8_putsAll_39 : decode cX8_putsAll 39 = .ok (.iload 4, 2) := by decide +kernel
theorem dX8_putsAll_41 : decode cX8_putsAll 41 = .ok (.iconst 1, 1) := by decide +kernel
theorem dX8_putsAll_42 : decode cX8_putsAll 42 = .ok (.invokevirtual 121, 3) := by decide +kernel
theorem dX8_putsAll_45 : decode cX8_putsAll 45 = .ok (.iinc 5 1, 3) := by decide +kernel
theorem dX8_putsAll_48 : decode cX8_putsAll 48 = .ok (.goto (-45), 3) := by decide +kernel
theorem dX8_putsAll_51 : decode cX8_putsAll 51 = .ok (.return_, 1) := by decide +kernel
theorem dX8_takes_0 : decode cX8_takes 0 = .ok (.aload_n 0, 1) := by decide +kernel
theorem dX8_takes_1 : decode cX8_takes 1 = .ok (.getfield 8, 3) := by decide +kernel
theorem dX8_takes_4 : decode cX8_takes 4 = .ok (.bipush 67, 2) := by decide +kernel
theorem dX8_takes_6 : decode cX8_takes 6 = .ok (.bipush 12, 2) := by decide +kernel
theorem dX8_takes_8 : decode cX8_takes 8 = .ok (.iload_n 1, 1) := by decide +kernel
theorem dX8_takes_9 : decode cX8_takes 9 = .ok (.imul, 1) := by decide +kernel
theorem dX8_takes_10 : decode cX8_takes 10 = .ok (.iadd, 1) := by decide +kernel
theorem dX8_takes_11 : decode cX8_takes 11 = .ok (.iaload, 1) := by decide +kernel
theorem dX8_takes_12 : decode cX8_takes 12 = .ok (.istore_n 2, 1) := by decide +kernel
theorem dX8_takes_13 : decode cX8_takes 13 = .ok (.aload_n 0, 1) := by decide +kernel
theorem dX8_takes_14 : decode cX8_takes 14 = .ok (.getfield 8, 3) := by decide +kernel
theorem dX8_takes_17 : decode cX8_takes 17 = .ok (.bipush 47, 2) := by decide +kernel
theorem dX8_takes_19 : decode cX8_takes 19 = .ok (.iload_n 1, 1) := by decide +kernel
theorem dX8_takes_20 : decode cX8_takes 20 = .ok (.iadd, 1) := by decide +kernel
theorem dX8_takes_21 : decode cX8_takes 21 = .ok (.dup2, 1) := by decide +kernel
theorem dX8_takes_22 : decode cX8_takes 22 = .ok (.iaload, 1) := by decide +kernel
theorem dX8_takes_23 : decode cX8_takes 23 = .ok (.iconst 1, 1) := by decide +kernel
theorem dX8_takes_24 : decode cX8_takes 24 = .ok (.isub, 1) := by decide +kernel
theorem dX8_takes_25 : decode cX8_takes 25 = .ok (.iastore, 1) := by decide +kernel
theorem dX8_takes_26 : decode cX8_takes 26 = .ok (.iconst 0, 1) := by decide +kernel
theorem dX8_takes_27 : decode cX8_takes 27 = .ok (.istore_n 3, 1) := by decide +kernel
theorem dX8_takes_28 : decode cX8_takes 28 = .ok (.iload_n 3, 1) := by decide +kernel
theorem dX8_takes_29 : decode cX8_takes 29 = .ok (.aload_n 0, 1) := by decide +kernel
theorem dX8_takes_30 : decode cX8_takes 30 = .ok (.getfield 8, 3) := by decide +kernel
theorem dX8_takes_33 : decode cX8_takes 33 = .ok (.bipush 47, 2) := by decide +kernel
theorem dX8_takes_35 : decode cX8_takes 35 = .ok (.iload_n 1, 1) := by decide +kernel
theorem dX8_takes_36 : decode cX8_takes 36 = .ok (.iadd, 1) := by decide +kernel
theorem dX8_takes_37 : decode cX8_takes 37 = .ok (.iaload, 1) := by decide +kernel
theorem dX8_takes_38 : decode cX8_takes 38 = .ok (.if_icmp .ge 39, 3) := by decide +kernel
theorem dX8_takes_41 : decode cX8_takes 41 = .ok (.aload_n 0, 1) := by decide +kernel
theorem dX8_takes_42 : decode cX8_takes 42 = .ok (.getfield 8, 3) := by decide +kernel
theorem dX8_takes_45 : decode cX8_takes 45 = .ok (.bipush 67, 2) := by decide +kernel
theorem dX8_takes_47 : decode cX8_takes 47 = .ok (.bipush 12, 2) := by decide +kernel
theorem dX8_takes_49 : decode cX8_takes 49 = .ok (.iload_n 1, 1) := by decide +kernel
theorem dX8_takes_50 : decode cX8_takes 50 = .ok (.imul, 1) := by decide +kernel
theorem dX8_takes_51 : decode cX8_takes 51 = .ok (.iadd, 1) := by decide +kernel
theorem dX8_takes_52 : decode cX8_takes 52 = .ok (.iload_n 3, 1) := by decide +kernel
theorem dX8_takes_53 : decode cX8_takes 53 = .ok (.iadd, 1) := by decide +kernel
theorem dX8_takes_54 : decode cX8_takes 54 = .ok (.aload_n 0, 1) := by decide +kernel
theorem dX8_takes_55 : decode cX8_takes 55 = .ok (.getfield 8, 3) := by decide +kernel
theorem dX8_takes_58 : decode cX8_takes 58 = .ok (.bipush 67, 2) := by decide +kernel
theorem dX8_takes_60 : decode cX8_takes 60 = .ok (.bipush 12, 2) := by decide +kernel
theorem dX8_takes_62 : decode cX8_takes 62 = .ok (.iload_n 1, 1) := by decide +kernel
theorem dX8_takes_63 : decode cX8_takes 63 = .ok (.imul, 1) := by decide +kernel
theorem dX8_takes_64 : decode cX8_takes 64 = .ok (.iadd, 1) := by decide +kernel
theorem dX8_takes_65 : decode cX8_takes 65 = .ok (.iload_n 3, 1) := by decide +kernel
theorem dX8_takes_66 : decode cX8_takes 66 = .ok (.iadd, 1) := by decide +kernel
theorem dX8_takes_67 : decode cX8_takes 67 = .ok (.iconst 1, 1) := by decide +kernel
theorem dX8_takes_68 : decode cX8_takes 68 = .ok (.iadd, 1) := by decide +kernel
theorem dX8_takes_69 : decode cX8_takes 69 = .ok (.iaload, 1) := by decide +kernel
theorem dX8_takes_70 : decode cX8_takes 70 = .ok (.iastore, 1) := by decide +kernel
theorem dX8_takes_71 : decode cX8_takes 71 = .ok (.iinc 3 1, 3) := by decide +kernel
theorem dX8_takes_74 : decode cX8_takes 74 = .ok (.goto (-46), 3) := by decide +kernel
theorem dX8_takes_77 : decode cX8_takes 77 = .ok (.iload_n 2, 1) := by decide +kernel
theorem dX8_takes_78 : decode cX8_takes 78 = .ok (.ireturn, 1) := by decide +kernel
theorem dX8_atMost_0 : decode cX8_atMost 0 = .ok (.iload_n 0, 1) := by decide +kernel
theorem dX8_atMost_1 : decode cX8_atMost 1 = .ok (.bipush 100, 2) := by decide +kernel
theorem dX8_atMost_3 : decode cX8_atMost 3 = .ok (.idiv, 1) := by decide +kernel
theorem dX8_atMost_4 : decode cX8_atMost 4 = .ok (.iload_n 1, 1) := by decide +kernel
theorem dX8_atMost_5 : decode cX8_atMost 5 = .ok (.bipush 100, 2) := by decide +kernel
theorem dX8_atMost_7 : decode cX8_atMost 7 = .ok (.idiv, 1) := by decide +kernel
theorem dX8_atMost_8 : decode cX8_atMost 8 = .ok (.if_icmp .gt 18, 3) := by decide +kernel
theorem dX8_atMost_11 : decode cX8_atMost 11 = .ok (.iload_n 0, 1) := by decide +kernel
theorem dX8_atMost_12 : decode cX8_atMost 12 = .ok (.bipush 100, 2) := by decide +kernel
theorem dX8_atMost_14 : decode cX8_atMost 14 = .ok (.irem, 1) := by decide +kernel
theorem dX8_atMost_15 : decode cX8_atMost 15 = .ok (.iload_n 1, 1) := by decide +kernel
theorem dX8_atMost_16 : decode cX8_atMost 16 = .ok (.bipush 100, 2) := by decide +kernel
theorem dX8_atMost_18 : decode cX8_atMost 18 = .ok (.irem, 1) := by decide +kernel
theorem dX8_atMost_19 : decode cX8_atMost 19 = .ok (.if_icmp .gt 7, 3) := by decide +kernel
theorem dX8_atMost_22 : decode cX8_atMost 22 = .ok (.iconst 1, 1) := by decide +kernel
theorem dX8_atMost_23 : decode cX8_atMost 23 = .ok (.goto 4, 3) := by decide +kernel
theorem dX8_atMost_26 : decode cX8_atMost 26 = .ok (.iconst 0, 1) := by decide +kernel
theorem dX8_atMost_27 : decode cX8_atMost 27 = .ok (.ireturn, 1) := by decide +kernel
theorem dX8_violates_0 : decode cX8_violates 0 = .ok (.iconst 0, 1) := by decide +kernel
theorem dX8_violates_1 : decode cX8_violates 1 = .ok (.istore_n 3, 1) := by decide +kernel
theorem dX8_violates_2 : decode cX8_violates 2 = .ok (.iconst 0, 1) := by decide +kernel
theorem dX8_violates_3 : decode cX8_violates 3 = .ok (.istore 4, 2) := by decide +kernel
theorem dX8_violates_5 : decode cX8_violates 5 = .ok (.iload 4, 2) := by decide +kernel
theorem dX8_violates_7 : decode cX8_violates 7 = .ok (.sipush 1000, 3) := by decide +kernel
theorem dX8_violates_10 : decode cX8_violates 10 = .ok (.if_icmp .ge 49, 3) := by decide +kernel
theorem dX8_violates_13 : decode cX8_violates 13 = .ok (.iload_n 3, 1) := by decide +kernel
theorem dX8_violates_14 : decode cX8_violates 14 = .ok (.ifCond .ne 33, 3) := by decide +kernel
theorem dX8_violates_17 : decode cX8_violates 17 = .ok (.aload_n 0, 1) := by decide +kernel
theorem dX8_violates_18 : decode cX8_violates 18 = .ok (.getfield 8, 3) := by decide +kernel
theorem dX8_violates_21 : decode cX8_violates 21 = .ok (.sipush 359, 3) := by decide +kernel
theorem dX8_violates_24 : decode cX8_violates 24 = .ok (.sipush 1000, 3) := by decide +kernel
theorem dX8_violates_27 : decode cX8_violates 27 = .ok (.iload_n 1, 1) := by decide +kernel
theorem dX8_violates_28 : decode cX8_violates 28 = .ok (.imul, 1) := by decide +kernel
theorem dX8_violates_29 : decode cX8_violates 29 = .ok (.iadd, 1) := by decide +kernel
theorem dX8_violates_30 : decode cX8_violates 30 = .ok (.iload 4, 2) := by decide +kernel
theorem dX8_violates_32 : decode cX8_violates 32 = .ok (.iadd, 1) := by decide +kernel
theorem dX8_violates_33 : decode cX8_violates 33 = .ok (.iaload, 1) := by decide +kernel
theorem dX8_violates_34 : decode cX8_violates 34 = .ok (.iconst 1, 1) := by decide +kernel
theorem dX8_violates_35 : decode cX8_violates 35 = .ok (.if_icmp .ne 16, 3) := by decide +kernel
theorem dX8_violates_38 : decode cX8_violates 38 = .ok (.iload_n 2, 1) := by decide +kernel
theorem dX8_violates_39 : decode cX8_violates 39 = .ok (.iload 4, 2) := by decide +kernel
theorem dX8_violates_41 : decode cX8_violates 41 = .ok (.invokestatic 128, 3) := by decide +kernel
theorem dX8_violates_44 : decode cX8_violates 44 = .ok (.ifCond .eq 7, 3) := by decide +kernel
theorem dX8_violates_47 : decode cX8_violates 47 = .ok (.iconst 1, 1) := by decide +kernel
theorem dX8_violates_48 : decode cX8_violates 48 = .ok (.goto 4, 3) := by decide +kernel
theorem dX8_violates_51 : decode cX8_violates 51 = .ok (.iconst 0, 1) := by decide +kernel
theorem dX8_violates_52 : decode cX8_violates 52 = .ok (.istore_n 3, 1) := by decide +kernel
theorem dX8_violates_53 : decode cX8_violates 53 = .ok (.iinc 4 1, 3) := by decide +kernel
theorem dX8_violates_56 : decode cX8_violates 56 = .ok (.goto (-51), 3) := by decide +kernel
theorem dX8_violates_59 : decode cX8_violates 59 = .ok (.iload_n 3, 1) := by decide +kernel
theorem dX8_violates_60 : decode cX8_violates 60 = .ok (.ireturn, 1) := by decide +kernel
theorem dX8_process_0 : decode cX8_process 0 = .ok (.iload_n 1, 1) := by decide +kernel
theorem dX8_process_1 : decode cX8_process 1 = .ok (.invokestatic 111, 3) := by decide +kernel
theorem dX8_process_4 : decode cX8_process 4 = .ok (.ifCond .eq 37, 3) := by decide +kernel
theorem dX8_process_7 : decode cX8_process 7 = .ok (.aload_n 0, 1) := by decide +kernel
theorem dX8_process_8 : decode cX8_process 8 = .ok (.iload_n 2, 1) := by decide +kernel
theorem dX8_process_9 : decode cX8_process 9 = .ok (.invokevirtual 77, 3) := by decide +kernel
theorem dX8_process_12 : decode cX8_process 12 = .ok (.ifCond .eq 29, 3) := by decide +kernel
theorem dX8_process_15 : decode cX8_process 15 = .ok (.iload 4, 2) := by decide +kernel
theorem dX8_process_17 : decode cX8_process 17 = .ok (.invokestatic 111, 3) := by decide +kernel
theorem dX8_process_20 : decode cX8_process 20 = .ok (.ifCond .eq 21, 3) := by decide +kernel
theorem dX8_process_23 : decode cX8_process 23 = .ok (.iload 5, 2) := by decide +kernel
theorem dX8_process_25 : decode cX8_process 25 = .ok (.iconst 0, 1) := by decide +kernel
theorem dX8_process_26 : decode cX8_process 26 = .ok (.iconst 1, 1) := by decide +kernel
theorem dX8_process_27 : decode cX8_process 27 = .ok (.invokestatic 43, 3) := by decide +kernel
theorem dX8_process_30 : decode cX8_process 30 = .ok (.ifCond .eq 11, 3) := by decide +kernel
theorem dX8_process_33 : decode cX8_process 33 = .ok (.aload_n 0, 1) := by decide +kernel
theorem dX8_process_34 : decode cX8_process 34 = .ok (.iload_n 3, 1) := by decide +kernel
theorem dX8_process_35 : decode cX8_process 35 = .ok (.invokevirtual 131, 3) := by decide +kernel
theorem dX8_process_38 : decode cX8_process 38 = .ok (.ifCond .ne 10, 3) := by decide +kernel
theorem dX8_process_41 : decode cX8_process 41 = .ok (.aload_n 0, 1) := by decide +kernel
theorem dX8_process_42 : decode cX8_process 42 = .ok (.bipush (-2), 2) := by decide +kernel
theorem dX8_process_44 : decode cX8_process 44 = .ok (.invokevirtual 52, 3) := by decide +kernel
theorem dX8_process_47 : decode cX8_process 47 = .ok (.ireturn, 1) := by decide +kernel
theorem dX8_process_48 : decode cX8_process 48 = .ok (.aload_n 0, 1) := by decide +kernel
theorem dX8_process_49 : decode cX8_process 49 = .ok (.getfield 8, 3) := by decide +kernel
theorem dX8_process_52 : decode cX8_process 52 = .ok (.bipush 27, 2) := by decide +kernel
theorem dX8_process_54 : decode cX8_process 54 = .ok (.iload_n 2, 1) := by decide +kernel
theorem dX8_process_55 : decode cX8_process 55 = .ok (.iadd, 1) := by decide +kernel
theorem dX8_process_56 : decode cX8_process 56 = .ok (.iaload, 1) := by decide +kernel
theorem dX8_process_57 : decode cX8_process 57 = .ok (.istore 6, 2) := by decide +kernel
theorem dX8_process_59 : decode cX8_process 59 = .ok (.aload_n 0, 1) := by decide +kernel
theorem dX8_process_60 : decode cX8_process 60 = .ok (.getfield 8, 3) := by decide +kernel
theorem dX8_process_63 : decode cX8_process 63 = .ok (.bipush 47, 2) := by decide +kernel
theorem dX8_process_65 : decode cX8_process 65 = .ok (.aload_n 0, 1) := by decide +kernel
theorem dX8_process_66 : decode cX8_process 66 = .ok (.iload_n 1, 1) := by decide +kernel
theorem dX8_process_67 : decode cX8_process 67 = .ok (.iload_n 2, 1) := by decide +kernel
theorem dX8_process_68 : decode cX8_process 68 = .ok (.invokevirtual 108, 3) := by decide +kernel
theorem dX8_process_71 : decode cX8_process 71 = .ok (.iadd, 1) := by decide +kernel
theorem dX8_process_72 : decode cX8_process 72 = .ok (.iaload, 1) := by decide +kernel
theorem dX8_process_73 : decode cX8_process 73 = .ok (.ifCond .eq 13, 3) := by decide +kernel
theorem dX8_process_76 : decode cX8_process 76 = .ok (.aload_n 0, 1) := by decide +kernel
theorem dX8_process_77 : decode cX8_process 77 = .ok (.iload_n 3, 1) := by decide +kernel
theorem dX8_process_78 : decode cX8_process 78 = .ok (.iload 6, 2) := by decide +kernel
theorem dX8_process_80 : decode cX8_process 80 = .ok (.invokevirtual 134, 3) := by decide +kernel
theorem dX8_process_83 : decode cX8_process 83 = .ok (.ifCond .ne 10, 3) := by decide +kernel
theorem dX8_process_86 : decode cX8_process 86 = .ok (.aload_n 0, 1) := by decide +kernel
theorem dX8_process_87 : decode cX8_process 87 = .ok (.bipush (-3), 2) := by decide +kernel
theorem dX8_process_89 : decode cX8_process 89 = .ok (.invokevirtual 52, 3) := by decide +kernel
theorem dX8_process_92 : decode cX8_process 92 = .ok (.ireturn, 1) := by decide +kernel
theorem dX8_process_93 : decode cX8_process 93 = .ok (.aload_n 0, 1) := by decide +kernel
theorem dX8_process_94 : decode cX8_process 94 = .ok (.iload_n 3, 1) := by decide +kernel
theorem dX8_process_95 : decode cX8_process 95 = .ok (.iload 4, 2) := by decide +kernel
theorem dX8_process_97 : decode cX8_process 97 = .ok (.invokevirtual 137, 3) := by decide +kernel
theorem dX8_process_100 : decode cX8_process 100 = .ok (.ifCond .ne 24, 3) := by decide +kernel
theorem dX8_process_103 : decode cX8_process 103 = .ok (.iload 5, 2) := by decide +kernel
theorem dX8_process_105 : decode cX8_process 105 = .ok (.iconst 1, 1) := by decide +kernel
theorem dX8_process_106 : decode cX8_process 106 = .ok (.if_icmp .ne 25, 3) := by decide +kernel
theorem dX8_process_109 : decode cX8_process 109 = .ok (.aload_n 0, 1) := by decide +kernel
theorem dX8_process_110 : decode cX8_process 110 = .ok (.getfield 8, 3) := by decide +kernel
theorem dX8_process_113 : decode cX8_process 113 = .ok (.sipush 307, 3) := by decide +kernel
theorem dX8_process_116 : decode cX8_process 116 = .ok (.iload_n 1, 1) := by decide +kernel
theorem dX8_process_117 : decode cX8_process 117 = .ok (.iadd, 1) := by decide +kernel
theorem dX8_process_118 : decode cX8_process 118 = .ok (.iaload, 1) := by decide +kernel
theorem dX8_process_119 : decode cX8_process 119 = .ok (.bipush 12, 2) := by decide +kernel
theorem dX8_process_121 : decode cX8_process 121 = .ok (.if_icmp .ne 10, 3) := by decide +kernel
theorem dX8_process_124 : decode cX8_process 124 = .ok (.aload_n 0, 1) := by decide +kernel
theorem dX8_process_125 : decode cX8_process 125 = .ok (.bipush (-4), 2) := by decide +kernel
theorem dX8_process_127 : decode cX8_process 127 = .ok (.invokevirtual 52, 3) := by decide +kernel
theorem dX8_process_130 : decode cX8_process 130 = .ok (.ireturn, 1) := by decide +kernel
theorem dX8_process_131 : decode cX8_process 131 = .ok (.aload_n 0, 1) := by decide +kernel
theorem dX8_process_132 : decode cX8_process 132 = .ok (.invokevirtual 56, 3) := by decide +kernel
theorem dX8_process_135 : decode cX8_process 135 = .ok (.aload_n 0, 1) := by decide +kernel
theorem dX8_process_136 : decode cX8_process 136 = .ok (.aload_n 0, 1) := by decide +kernel
theorem dX8_process_137 : decode cX8_process 137 = .ok (.iload_n 1, 1) := by decide +kernel
theorem dX8_process_138 : decode cX8_process 138 = .ok (.iload_n 2, 1) := by decide +kernel
theorem dX8_process_139 : decode cX8_process 139 = .ok (.invokevirtual 108, 3) := by decide +kernel
theorem dX8_process_142 : decode cX8_process 142 = .ok (.invokevirtual 140, 3) := by decide +kernel
theorem dX8_process_145 : decode cX8_process 145 = .ok (.istore 7, 2) := by decide +kernel
theorem dX8_process_147 : decode cX8_process 147 = .ok (.aload_n 0, 1) := by decide +kernel
theorem dX8_process_148 : decode cX8_process 148 = .ok (.iload_n 2, 1) := by decide +kernel
theorem dX8_process_149 : decode cX8_process 149 = .ok (.iload 7, 2) := by decide +kernel
theorem dX8_process_151 : decode cX8_process 151 = .ok (.invokevirtual 90, 3) := by decide +kernel
theorem dX8_process_154 : decode cX8_process 154 = .ok (.istore 8, 2) := by decide +kernel
theorem dX8_process_156 : decode cX8_process 156 = .ok (.iload 8, 2) := by decide +kernel
theorem dX8_process_158 : decode cX8_process 158 = .ok (.iconst (-1), 1) := by decide +kernel
theorem dX8_process_159 : decode cX8_process 159 = .ok (.if_icmp .eq 111, 3) := by decide +kernel
theorem dX8_process_162 : decode cX8_process 162 = .ok (.aload_n 0, 1) := by decide +kernel
theorem dX8_process_163 : decode cX8_process 163 = .ok (.getfield 8, 3) := by decide +kernel
theorem dX8_process_166 : decode cX8_process 166 = .ok (.iconst 4, 1) := by decide +kernel
theorem dX8_process_167 : decode cX8_process 167 = .ok (.dup2, 1) := by decide +kernel
theorem dX8_process_168 : decode cX8_process 168 = .ok (.iaload, 1) := by decide +kernel
theorem dX8_process_169 : decode cX8_process 169 = .ok (.aload_n 0, 1) := by decide +kernel
theorem dX8_process_170 : decode cX8_process 170 = .ok (.iload 6, 2) := by decide +kernel
theorem dX8_process_172 : decode cX8_process 172 = .ok (.iload 8, 2) := by decide +kernel
theorem dX8_process_174 : decode cX8_process 174 = .ok (.invokevirtual 143, 3) := by decide +kernel
theorem dX8_process_177 : decode cX8_process 177 = .ok (.ifCond .eq 7, 3) := by decide +kernel
theorem dX8_process_180 : decode cX8_process 180 = .ok (.iconst 1, 1) := by decide +kernel
theorem dX8_process_181 : decode cX8_process 181 = .ok (.goto 4, 3) := by decide +kernel
theorem dX8_process_184 : decode cX8_process 184 = .ok (.iconst 0, 1) := by decide +kernel
theorem dX8_process_185 : decode cX8_process 185 = .ok (.iadd, 1) := by decide +kernel
theorem dX8_process_186 : decode cX8_process 186 = .ok (.iastore, 1) := by decide +kernel
theorem dX8_process_187 : decode cX8_process 187 = .ok (.aload_n 0, 1) := by decide +kernel
theorem dX8_process_188 : decode cX8_process 188 = .ok (.iload_n 1, 1) := by decide +kernel
theorem dX8_process_189 : decode cX8_process 189 = .ok (.iload_n 3, 1) := by decide +kernel
theorem dX8_process_190 : decode cX8_process 190 = .ok (.iload 4, 2) := by decide +kernel
theorem dX8_process_192 : decode cX8_process 192 = .ok (.iload 8, 2) := by decide +kernel
theorem dX8_process_194 : decode cX8_process 194 = .ok (.invokevirtual 146, 3) := by decide +kernel
theorem dX8_process_197 : decode cX8_process 197 = .ok (.iload 5, 2) := by decide +kernel
theorem dX8_process_199 : decode cX8_process 199 = .ok (.iconst 1, 1) := by decide +kernel
theorem dX8_process_200 : decode cX8_process 200 = .ok (.if_icmp .ne 70, 3) := by decide +kernel
theorem dX8_process_203 : decode cX8_process 203 = .ok (.bipush 12, 2) := by decide +kernel
theorem dX8_process_205 : decode cX8_process 205 = .ok (.iload_n 1, 1) := by decide +kernel
theorem dX8_process_206 : decode cX8_process 206 = .ok (.imul, 1) := by decide +kernel
theorem dX8_process_207 : decode cX8_process 207 = .ok (.aload_n 0, 1) := by decide +kernel
theorem dX8_process_208 : decode cX8_process 208 = .ok (.getfield 8, 3) := by decide +kernel
theorem dX8_process_211 : decode cX8_process 211 = .ok (.sipush 307, 3) := by decide +kernel
theorem dX8_process_214 : decode cX8_process 214 = .ok (.iload_n 1, 1) := by decide +kernel
theorem dX8_process_215 : decode cX8_process 215 = .ok (.iadd, 1) := by decide +kernel
theorem dX8_process_216 : decode cX8_process 216 = .ok (.iaload, 1) := by decide +kernel
theorem dX8_process_217 : decode cX8_process 217 = .ok (.iadd, 1) := by decide +kernel
theorem dX8_process_218 : decode cX8_process 218 = .ok (.istore 9, 2) := by decide +kernel
theorem dX8_process_220 : decode cX8_process 220 = .ok (.aload_n 0, 1) := by decide +kernel
theorem dX8_process_221 : decode cX8_process 221 = .ok (.getfield 8, 3) := by decide +kernel
theorem dX8_process_224 : decode cX8_process 224 = .ok (.sipush 309, 3) := by decide +kernel
theorem dX8_process_227 : decode cX8_process 227 = .ok (.iload 9, 2) := by decide +kernel
theorem dX8_process_229 : decode cX8_process 229 = .ok (.iadd, 1) := by decide +kernel
theorem dX8_process_230 : decode cX8_process 230 = .ok (.iload 6, 2) := by decide +kernel
theorem dX8_process_232 : decode cX8_process 232 = .ok (.iastore, 1) := by decide +kernel
theorem dX8_process_233 : decode cX8_process 233 = .ok (.aload_n 0, 1) := by decide +kernel
theorem dX8_process_234 : decode cX8_process 234 = .ok (.getfield 8, 3) := by decide +kernel
theorem dX8_process_237 : decode cX8_process 237 = .ok (.sipush 333, 3) := by decide +kernel
theorem dX8_process_240 : decode cX8_process 240 = .ok (.iload 9, 2) := by decide +kernel
theorem dX8_process_242 : decode cX8_process 242 = .ok (.iadd, 1) := by decide +kernel
theorem dX8_process_243 : decode cX8_process 243 = .ok (.iload 8, 2) := by decide +kernel
theorem dX8_process_245 : decode cX8_process 245 = .ok (.iastore, 1) := by decide +kernel
theorem dX8_process_246 : decode cX8_process 246 = .ok (.aload_n 0, 1) := by decide +kernel
theorem dX8_process_247 : decode cX8_process 247 = .ok (.getfield 8, 3) := by decide +kernel
theorem dX8_process_250 : decode cX8_process 250 = .ok (.sipush 307, 3) := by decide +kernel
theorem dX8_process_253 : decode cX8_process 253 = .ok (.iload_n 1, 1) := by decide +kernel
theorem dX8_process_254 : decode cX8_process 254 = .ok (.iadd, 1) := by decide +kernel
theorem dX8_process_255 : decode cX8_process 255 = .ok (.dup2, 1) := by decide +kernel
theorem dX8_process_256 : decode cX8_process 256 = .ok (.iaload, 1) := by decide +kernel
theorem dX8_process_257 : decode cX8_process 257 = .ok (.iconst 1, 1) := by decide +kernel
theorem dX8_process_258 : decode cX8_process 258 = .ok (.iadd, 1) := by decide +kernel
theorem dX8_process_259 : decode cX8_process 259 = .ok (.iastore, 1) := by decide +kernel
theorem dX8_process_260 : decode cX8_process 260 = .ok (.aload_n 0, 1) := by decide +kernel
theorem dX8_process_261 : decode cX8_process 261 = .ok (.iload_n 1, 1) := by decide +kernel
theorem dX8_process_262 : decode cX8_process 262 = .ok (.iload 6, 2) := by decide +kernel
theorem dX8_process_264 : decode cX8_process 264 = .ok (.iload 8, 2) := by decide +kernel
theorem dX8_process_266 : decode cX8_process 266 = .ok (.iconst 1, 1) := by decide +kernel
theorem dX8_process_267 : decode cX8_process 267 = .ok (.invokevirtual 121, 3) := by decide +kernel
theorem dX8_process_270 : decode cX8_process 270 = .ok (.aload_n 0, 1) := by decide +kernel
theorem dX8_process_271 : decode cX8_process 271 = .ok (.iload_n 1, 1) := by decide +kernel
theorem dX8_process_272 : decode cX8_process 272 = .ok (.bipush 6, 2) := by decide +kernel
theorem dX8_process_274 : decode cX8_process 274 = .ok (.iload_n 2, 1) := by decide +kernel
theorem dX8_process_275 : decode cX8_process 275 = .ok (.iadd, 1) := by decide +kernel
theorem dX8_process_276 : decode cX8_process 276 = .ok (.iload 7, 2) := by decide +kernel
theorem dX8_process_278 : decode cX8_process 278 = .ok (.iconst (-1), 1) := by decide +kernel
theorem dX8_process_279 : decode cX8_process 279 = .ok (.invokevirtual 121, 3) := by decide +kernel
theorem dX8_process_282 : decode cX8_process 282 = .ok (.iload 8, 2) := by decide +kernel
theorem dX8_process_284 : decode cX8_process 284 = .ok (.ireturn, 1) := by decide +kernel
theorem dX8_findsActive_0 : decode cX8_findsActive 0 = .ok (.aload_n 0, 1) := by decide +kernel
theorem dX8_findsActive_1 : decode cX8_findsActive 1 = .ok (.iconst 0, 1) := by decide +kernel
theorem dX8_findsActive_2 : decode cX8_findsActive 2 = .ok (.putfield 149, 3) := by decide +kernel
theorem dX8_findsActive_5 : decode cX8_findsActive 5 = .ok (.iconst 0, 1) := by decide +kernel
theorem dX8_findsActive_6 : decode cX8_findsActive 6 = .ok (.istore_n 2, 1) := by decide +kernel
theorem dX8_findsActive_7 : decode cX8_findsActive 7 = .ok (.iload_n 2, 1) := by decide +kernel
theorem dX8_findsActive_8 : decode cX8_findsActive 8 = .ok (.sipush 16000, 3) := by decide +kernel
theorem dX8_findsActive_11 : decode cX8_findsActive 11 = .ok (.if_icmp .ge 58, 3) := by decide +kernel
theorem dX8_findsActive_14 : decode cX8_findsActive 14 = .ok (.aload_n 0, 1) := by decide +kernel
theorem dX8_findsActive_15 : decode cX8_findsActive 15 = .ok (.getfield 8, 3) := by decide +kernel
theorem dX8_findsActive_18 : decode cX8_findsActive 18 = .ok (.sipush 6359, 3) := by decide +kernel
theorem dX8_findsActive_21 : decode cX8_findsActive 21 = .ok (.sipush 16000, 3) := by decide +kernel
theorem dX8_findsActive_24 : decode cX8_findsActive 24 = .ok (.iload_n 1, 1) := by decide +kernel
theorem dX8_findsActive_25 : decode cX8_findsActive 25 = .ok (.imul, 1) := by decide +kernel
theorem dX8_findsActive_26 : decode cX8_findsActive 26 = .ok (.iadd, 1) := by decide +kernel
theorem dX8_findsActive_27 : decode cX8_findsActive 27 = .ok (.iload_n 2, 1) := by decide +kernel
theorem dX8_findsActive_28 : decode cX8_findsActive 28 = .ok (.iadd, 1) := by decide +kernel
theorem dX8_findsActive_29 : decode cX8_findsActive 29 = .ok (.iaload, 1) := by decide +kernel
theorem dX8_findsActive_30 : decode cX8_findsActive 30 = .ok (.ifCond .le 33, 3) := by decide +kernel
theorem dX8_findsActive_33 : decode cX8_findsActive 33 = .ok (.aload_n 0, 1) := by decide +kernel
theorem dX8_findsActive_34 : decode cX8_findsActive 34 = .ok (.getfield 37, 3) := by decide +kernel
theorem dX8_findsActive_37 : decode cX8_findsActive 37 = .ok (.aload_n 0, 1) := by decide +kernel
theorem dX8_findsActive_38 : decode cX8_findsActive 38 = .ok (.getfield 149, 3) := by decide +kernel
theorem dX8_findsActive_41 : decode cX8_findsActive 41 = .ok (.iload_n 2, 1) := by decide +kernel
theorem dX8_findsActive_42 : decode cX8_findsActive 42 = .ok (.iastore, 1) := by decide +kernel
theorem dX8_findsActive_43 : decode cX8_findsActive 43 = .ok (.aload_n 0, 1) := by decide +kernel
theorem dX8_findsActive_44 : decode cX8_findsActive 44 = .ok (.getfield 40, 3) := by decide +kernel
theorem dX8_findsActive_47 : decode cX8_findsActive 47 = .ok (.aload_n 0, 1) := by decide +kernel
theorem dX8_findsActive_48 : decode cX8_findsActive 48 = .ok (.getfield 149, 3) := by decide +kernel
theorem dX8_findsActive_51 : decode cX8_findsActive 51 = .ok (.iconst 1, 1) := by decide +kernel
theorem dX8_findsActive_52 : decode cX8_findsActive 52 = .ok (.bastore, 1) := by decide +kernel
theorem dX8_findsActive_53 : decode cX8_findsActive 53 = .ok (.aload_n 0, 1) := by decide +kernel
theorem dX8_findsActive_54 : decode cX8_findsActive 54 = .ok (.dup, 1) := by decide +kernel
theorem dX8_findsActive_55 : decode cX8_findsActive 55 = .ok (.getfield 149, 3) := by decide +kernel
theorem dX8_findsActive_58 : decode cX8_findsActive 58 = .ok (.iconst 1, 1) := by decide +kernel
theorem dX8_findsActive_59 : decode cX8_findsActive 59 = .ok (.iadd, 1) := by decide +kernel
theorem dX8_findsActive_60 : decode cX8_findsActive 60 = .ok (.putfield 149, 3) := by decide +kernel
theorem dX8_findsActive_63 : decode cX8_findsActive 63 = .ok (.iinc 2 1, 3) := by decide +kernel
theorem dX8_findsActive_66 : decode cX8_findsActive 66 = .ok (.goto (-59), 3) := by decide +kernel
theorem dX8_findsActive_69 : decode cX8_findsActive 69 = .ok (.return_, 1) := by decide +kernel
theorem dX8_findsFrontier_0 : decode cX8_findsFrontier 0 = .ok (.aload_n 0, 1) := by decide +kernel
theorem dX8_findsFrontier_1 : decode cX8_findsFrontier 1 = .ok (.iload_n 1, 1) := by decide +kernel
theorem dX8_findsFrontier_2 : decode cX8_findsFrontier 2 = .ok (.invokevirtual 152, 3) := by decide +kernel
theorem dX8_findsFrontier_5 : decode cX8_findsFrontier 5 = .ok (.iconst 0, 1) := by decide +kernel
theorem dX8_findsFrontier_6 : decode cX8_findsFrontier 6 = .ok (.istore_n 2, 1) := by decide +kernel
theorem dX8_findsFrontier_7 : decode cX8_findsFrontier 7 = .ok (.iload_n 2, 1) := by decide +kernel
theorem dX8_findsFrontier_8 : decode cX8_findsFrontier 8 = .ok (.aload_n 0, 1) := by decide +kernel
theorem dX8_findsFrontier_9 : decode cX8_findsFrontier 9 = .ok (.getfield 149, 3) := by decide +kernel
theorem dX8_findsFrontier_12 : decode cX8_findsFrontier 12 = .ok (.if_icmp .ge 143, 3) := by decide +kernel
theorem dX8_findsFrontier_15 : decode cX8_findsFrontier 15 = .ok (.aload_n 0, 1) := by decide +kernel
theorem dX8_findsFrontier_16 : decode cX8_findsFrontier 16 = .ok (.getfield 37, 3) := by decide +kernel
theorem dX8_findsFrontier_19 : decode cX8_findsFrontier 19 = .ok (.iload_n 2, 1) := by decide +kernel
theorem dX8_findsFrontier_20 : decode cX8_findsFrontier 20 = .ok (.iaload, 1) := by decide +kernel
theorem dX8_findsFrontier_21 : decode cX8_findsFrontier 21 = .ok (.sipush 1000, 3) := by decide +kernel
theorem dX8_findsFrontier_24 : decode cX8_findsFrontier 24 = .ok (.irem, 1) := by decide +kernel
theorem dX8_findsFrontier_25 : decode cX8_findsFrontier 25 = .ok (.istore_n 3, 1) := by decide +kernel
theorem dX8_findsFrontier_26 : decode cX8_findsFrontier 26 = .ok (.aload_n 0, 1) := by decide +kernel
theorem dX8_findsFrontier_27 : decode cX8_findsFrontier 27 = .ok (.aload_n 0, 1) := by decide +kernel
theorem dX8_findsFrontier_28 : decode cX8_findsFrontier 28 = .ok (.getfield 37, 3) := by decide +kernel
theorem dX8_findsFrontier_31 : decode cX8_findsFrontier 31 = .ok (.iload_n 2, 1) := by decide +kernel
theorem dX8_findsFrontier_32 : decode cX8_findsFrontier 32 = .ok (.iaload, 1) := by decide +kernel
theorem dX8_findsFrontier_33 : decode cX8_findsFrontier 33 = .ok (.sipush 1000, 3) := by decide +kernel
theorem dX8_findsFrontier_36 : decode cX8_findsFrontier 36 = .ok (.idiv, 1) := by decide +kernel
theorem dX8_findsFrontier_37 : decode cX8_findsFrontier 37 = .ok (.iload_n 3, 1) := by decide +kernel
theorem dX8_findsFrontier_38 : decode cX8_findsFrontier 38 = .ok (.bipush 100, 2) := by decide +kernel
theorem dX8_findsFrontier_40 : decode cX8_findsFrontier 40 = .ok (.irem, 1) := by decide +kernel
theorem dX8_findsFrontier_41 : decode cX8_findsFrontier 41 = .ok (.invokevirtual 104, 3) := by decide +kernel
theorem dX8_findsFrontier_44 : decode cX8_findsFrontier 44 = .ok (.iconst 0, 1) := by decide +kernel
theorem dX8_findsFrontier_45 : decode cX8_findsFrontier 45 = .ok (.istore 4, 2) := by decide +kernel
theorem dX8_findsFrontier_47 : decode cX8_findsFrontier 47 = .ok (.iload 4, 2) := by decide +kernel
theorem dX8_findsFrontier_49 : decode cX8_findsFrontier 49 = .ok (.aload_n 0, 1) := by decide +kernel
theorem dX8_findsFrontier_50 : decode cX8_findsFrontier 50 = .ok (.getfield 149, 3) := by decide +kernel
theorem dX8_findsFrontier_53 : decode cX8_findsFrontier 53 = .ok (.if_icmp .ge 96, 3) := by decide +kernel
theorem dX8_findsFrontier_56 : decode cX8_findsFrontier 56 = .ok (.aload_n 0, 1) := by decide +kernel
theorem dX8_findsFrontier_57 : decode cX8_findsFrontier 57 = .ok (.getfield 37, 3) := by decide +kernel
theorem dX8_findsFrontier_60 : decode cX8_findsFrontier 60 = .ok (.iload 4, 2) := by decide +kernel
theorem dX8_findsFrontier_62 : decode cX8_findsFrontier 62 = .ok (.iaload, 1) := by decide +kernel
theorem dX8_findsFrontier_63 : decode cX8_findsFrontier 63 = .ok (.sipush 1000, 3) := by decide +kernel
theorem dX8_findsFrontier_66 : decode cX8_findsFrontier 66 = .ok (.irem, 1) := by decide +kernel
theorem dX8_findsFrontier_67 : decode cX8_findsFrontier 67 = .ok (.istore 5, 2) := by decide +kernel
theorem dX8_findsFrontier_69 : decode cX8_findsFrontier 69 = .ok (.aload_n 0, 1) := by decide +kernel
theorem dX8_findsFrontier_70 : decode cX8_findsFrontier 70 = .ok (.getfield 34, 3) := by decide +kernel
theorem dX8_findsFrontier_73 : decode cX8_findsFrontier 73 = .ok (.aload_n 0, 1) := by decide +kernel
theorem dX8_findsFrontier_74 : decode cX8_findsFrontier 74 = .ok (.getfield 37, 3) := by decide +kernel
theorem dX8_findsFrontier_77 : decode cX8_findsFrontier 77 = .ok (.iload 4, 2) := by decide +kernel
theorem dX8_findsFrontier_79 : decode cX8_findsFrontier 79 = .ok (.iaload, 1) := by decide +kernel
theorem dX8_findsFrontier_80 : decode cX8_findsFrontier 80 = .ok (.sipush 1000, 3) := by decide +kernel
theorem dX8_findsFrontier_83 : decode cX8_findsFrontier 83 = .ok (.idiv, 1) := by decide +kernel
theorem dX8_findsFrontier_84 : decode cX8_findsFrontier 84 = .ok (.iaload, 1) := by decide +kernel
theorem dX8_findsFrontier_85 : decode cX8_findsFrontier 85 = .ok (.istore 6, 2) := by decide +kernel
theorem dX8_findsFrontier_87 : decode cX8_findsFrontier 87 = .ok (.aload_n 0, 1) := by decide +kernel
theorem dX8_findsFrontier_88 : decode cX8_findsFrontier 88 = .ok (.getfield 40, 3) := by decide +kernel
theorem dX8_findsFrontier_91 : decode cX8_findsFrontier 91 = .ok (.iload 4, 2) := by decide +kernel
theorem dX8_findsFrontier_93 : decode cX8_findsFrontier 93 = .ok (.aload_n 0, 1) := by decide +kernel
theorem dX8_findsFrontier_94 : decode cX8_findsFrontier 94 = .ok (.getfield 40, 3) := by decide +kernel
theorem dX8_findsFrontier_97 : decode cX8_findsFrontier 97 = .ok (.iload 4, 2) := by decide +kernel
theorem dX8_findsFrontier_99 : decode cX8_findsFrontier 99 = .ok (.baload, 1) := by decide +kernel
theorem dX8_findsFrontier_100 : decode cX8_findsFrontier 100 = .ok (.ifCond .eq 41, 3) := by decide +kernel
theorem dX8_findsFrontier_103 : decode cX8_findsFrontier 103 = .ok (.iload_n 2, 1) := by decide +kernel
theorem dX8_findsFrontier_104 : decode cX8_findsFrontier 104 = .ok (.iload 4, 2) := by decide +kernel
theorem dX8_findsFrontier_106 : decode cX8_findsFrontier 106 = .ok (.if_icmp .eq 31, 3) := by decide +kernel
theorem dX8_findsFrontier_109 : decode cX8_findsFrontier 109 = .ok (.iload_n 3, 1) := by decide +kernel
theorem dX8_findsFrontier_110 : decode cX8_findsFrontier 110 = .ok (.bipush 100, 2) := by decide +kernel
theorem dX8_findsFrontier_112 : decode cX8_findsFrontier 112 = .ok (.idiv, 1) := by decide +kernel
theorem dX8_findsFrontier_113 : decode cX8_findsFrontier 113 = .ok (.iload 5, 2) := by decide +kernel
theorem dX8_findsFrontier_115 : decode cX8_findsFrontier 115 = .ok (.bipush 100, 2) := by decide +kernel
theorem dX8_findsFrontier_117 : decode cX8_findsFrontier 117 = .ok (.idiv, 1) := by decide +kernel
theorem dX8_findsFrontier_118 : decode cX8_findsFrontier 118 = .ok (.if_icmp .gt 19, 3) := by decide +kernel
theorem dX8_findsFrontier_121 : decode cX8_findsFrontier 121 = .ok (.iload 6, 2) := by decide +kernel
theorem dX8_findsFrontier_123 : decode cX8_findsFrontier 123 = .ok (.iconst (-1), 1) := by decide +kernel
theorem dX8_findsFrontier_124 : decode cX8_findsFrontier 124 = .ok (.if_icmp .eq 13, 3) := by decide +kernel
theorem dX8_findsFrontier_127 : decode cX8_findsFrontier 127 = .ok (.iload 6, 2) := by decide +kernel
theorem dX8_findsFrontier_129 : decode cX8_findsFrontier 129 = .ok (.iload 5, 2) := by decide +kernel
theorem dX8_findsFrontier_131 : decode cX8_findsFrontier 131 = .ok (.bipush 100, 2) := by decide +kernel
theorem dX8_findsFrontier_133 : decode cX8_findsFrontier 133 = .ok (.irem, 1) := by decide +kernel
theorem dX8_findsFrontier_134 : decode cX8_findsFrontier 134 = .ok (.if_icmp .le 7, 3) := by decide +kernel
theorem dX8_findsFrontier_137 : decode cX8_findsFrontier 137 = .ok (.iconst 1, 1) := by decide +kernel
theorem dX8_findsFrontier_138 : decode cX8_findsFrontier 138 = .ok (.goto 4, 3) := by decide +kernel
theorem dX8_findsFrontier_141 : decode cX8_findsFrontier 141 = .ok (.iconst 0, 1) := by decide +kernel
theorem dX8_findsFrontier_142 : decode cX8_findsFrontier 142 = .ok (.bastore, 1) := by decide +kernel
theorem dX8_findsFrontier_143 : decode cX8_findsFrontier 143 = .ok (.iinc 4 1, 3) := by decide +kernel
theorem dX8_findsFrontier_146 : decode cX8_findsFrontier 146 = .ok (.goto (-99), 3) := by decide +kernel
theorem dX8_findsFrontier_149 : decode cX8_findsFrontier 149 = .ok (.iinc 2 1, 3) := by decide +kernel
theorem dX8_findsFrontier_152 : decode cX8_findsFrontier 152 = .ok (.goto (-145), 3) := by decide +kernel
theorem dX8_findsFrontier_155 : decode cX8_findsFrontier 155 = .ok (.return_, 1) := by decide +kernel
theorem dX8_isOnFrontier_0 : decode cX8_isOnFrontier 0 = .ok (.iconst 0, 1) := by decide +kernel
theorem dX8_isOnFrontier_1 : decode cX8_isOnFrontier 1 = .ok (.istore_n 3, 1) := by decide +kernel
theorem dX8_isOnFrontier_2 : decode cX8_isOnFrontier 2 = .ok (.iconst 0, 1) := by decide +kernel
theorem dX8_isOnFrontier_3 : decode cX8_isOnFrontier 3 = .ok (.istore 4, 2) := by decide +kernel
theorem dX8_isOnFrontier_5 : decode cX8_isOnFrontier 5 = .ok (.iload 4, 2) := by decide +kernel
theorem dX8_isOnFrontier_7 : decode cX8_isOnFrontier 7 = .ok (.aload_n 0, 1) := by decide +kernel
theorem dX8_isOnFrontier_8 : decode cX8_isOnFrontier 8 = .ok (.getfield 149, 3) := by decide +kernel
theorem dX8_isOnFrontier_11 : decode cX8_isOnFrontier 11 = .ok (.if_icmp .ge 46, 3) := by decide +kernel
theorem dX8_isOnFrontier_14 : decode cX8_isOnFrontier 14 = .ok (.iload_n 3, 1) := by decide +kernel
theorem dX8_isOnFrontier_15 : decode cX8_isOnFrontier 15 = .ok (.ifCond .ne 30, 3) := by decide +kernel
theorem dX8_isOnFrontier_18 : decode cX8_isOnFrontier 18 = .ok (.aload_n 0, 1) := by decide +kernel
theorem dX8_isOnFrontier_19 : decode cX8_isOnFrontier 19 = .ok (.getfield 40, 3) := by decide +kernel
theorem dX8_isOnFrontier_22 : decode cX8_isOnFrontier 22 = .ok (.iload 4, 2) := by decide +kernel
theorem dX8_isOnFrontier_24 : decode cX8_isOnFrontier 24 = .ok (.baload, 1) := by decide +kernel
theorem dX8_isOnFrontier_25 : decode cX8_isOnFrontier 25 = .ok (.ifCond .eq 24, 3) := by decide +kernel
theorem dX8_isOnFrontier_28 : decode cX8_isOnFrontier 28 = .ok (.aload_n 0, 1) := by decide +kernel
theorem dX8_isOnFrontier_29 : decode cX8_isOnFrontier 29 = .ok (.getfield 37, 3) := by decide +kernel
theorem dX8_isOnFrontier_32 : decode cX8_isOnFrontier 32 = .ok (.iload 4, 2) := by decide +kernel
theorem dX8_isOnFrontier_34 : decode cX8_isOnFrontier 34 = .ok (.iaload, 1) := by decide +kernel
theorem dX8_isOnFrontier_35 : decode cX8_isOnFrontier 35 = .ok (.sipush 1000, 3) := by decide +kernel
theorem dX8_isOnFrontier_38 : decode cX8_isOnFrontier 38 = .ok (.iload_n 1, 1) := by decide +kernel
theorem dX8_isOnFrontier_39 : decode cX8_isOnFrontier 39 = .ok (.imul, 1) := by decide +kernel
theorem dX8_isOnFrontier_40 : decode cX8_isOnFrontier 40 = .ok (.iload_n 2, 1) := by decide +kernel
theorem dX8_isOnFrontier_41 : decode cX8_isOnFrontier 41 = .ok (.iadd, 1) := by decide +kernel
theorem dX8_isOnFrontier_42 : decode cX8_isOnFrontier 42 = .ok (.if_icmp .ne 7, 3) := by decide +kernel
theorem dX8_isOnFrontier_45 : decode cX8_isOnFrontier 45 = .ok (.iconst 1, 1) := by decide +kernel
theorem dX8_isOnFrontier_46 : decode cX8_isOnFrontier 46 = .ok (.goto 4, 3) := by decide +kernel
theorem dX8_isOnFrontier_49 : decode cX8_isOnFrontier 49 = .ok (.iconst 0, 1) := by decide +kernel
theorem dX8_isOnFrontier_50 : decode cX8_isOnFrontier 50 = .ok (.istore_n 3, 1) := by decide +kernel
theorem dX8_isOnFrontier_51 : decode cX8_isOnFrontier 51 = .ok (.iinc 4 1, 3) := by decide +kernel
theorem dX8_isOnFrontier_54 : decode cX8_isOnFrontier 54 = .ok (.goto (-49), 3) := by decide +kernel
theorem dX8_isOnFrontier_57 : decode cX8_isOnFrontier 57 = .ok (.iload_n 3, 1) := by decide +kernel
theorem dX8_isOnFrontier_58 : decode cX8_isOnFrontier 58 = .ok (.ireturn, 1) := by decide +kernel
theorem dX8_nextAt_0 : decode cX8_nextAt 0 = .ok (.iconst (-1), 1) := by decide +kernel
theorem dX8_nextAt_1 : decode cX8_nextAt 1 = .ok (.istore_n 3, 1) := by decide +kernel
theorem dX8_nextAt_2 : decode cX8_nextAt 2 = .ok (.bipush 12, 2) := by decide +kernel
theorem dX8_nextAt_4 : decode cX8_nextAt 4 = .ok (.iload_n 1, 1) := by decide +kernel
theorem dX8_nextAt_5 : decode cX8_nextAt 5 = .ok (.imul, 1) := by decide +kernel
theorem dX8_nextAt_6 : decode cX8_nextAt 6 = .ok (.istore 4, 2) := by decide +kernel
theorem dX8_nextAt_8 : decode cX8_nextAt 8 = .ok (.iload 4, 2) := by decide +kernel
theorem dX8_nextAt_10 : decode cX8_nextAt 10 = .ok (.bipush 12, 2) := by decide +kernel
theorem dX8_nextAt_12 : decode cX8_nextAt 12 = .ok (.iload_n 1, 1) := by decide +kernel
theorem dX8_nextAt_13 : decode cX8_nextAt 13 = .ok (.imul, 1) := by decide +kernel
theorem dX8_nextAt_14 : decode cX8_nextAt 14 = .ok (.aload_n 0, 1) := by decide +kernel
theorem dX8_nextAt_15 : decode cX8_nextAt 15 = .ok (.getfield 8, 3) := by decide +kernel
theorem dX8_nextAt_18 : decode cX8_nextAt 18 = .ok (.sipush 307, 3) := by decide +kernel
theorem dX8_nextAt_21 : decode cX8_nextAt 21 = .ok (.iload_n 1, 1) := by decide +kernel
theorem dX8_nextAt_22 : decode cX8_nextAt 22 = .ok (.iadd, 1) := by decide +kernel
theorem dX8_nextAt_23 : decode cX8_nextAt 23 = .ok (.iaload, 1) := by decide +kernel
theorem dX8_nextAt_24 : decode cX8_nextAt 24 = .ok (.iadd, 1) := by decide +kernel
theorem dX8_nextAt_25 : decode cX8_nextAt 25 = .ok (.if_icmp .ge 65, 3) := by decide +kernel
theorem dX8_nextAt_28 : decode cX8_nextAt 28 = .ok (.aload_n 0, 1) := by decide +kernel
theorem dX8_nextAt_29 : decode cX8_nextAt 29 = .ok (.getfield 8, 3) := by decide +kernel
theorem dX8_nextAt_32 : decode cX8_nextAt 32 = .ok (.sipush 333, 3) := by decide +kernel
theorem dX8_nextAt_35 : decode cX8_nextAt 35 = .ok (.iload 4, 2) := by decide +kernel
theorem dX8_nextAt_37 : decode cX8_nextAt 37 = .ok (.iadd, 1) := by decide +kernel
theorem dX8_nextAt_38 : decode cX8_nextAt 38 = .ok (.iaload, 1) := by decide +kernel
theorem dX8_nextAt_39 : decode cX8_nextAt 39 = .ok (.istore 5, 2) := by decide +kernel
theorem dX8_nextAt_41 : decode cX8_nextAt 41 = .ok (.aload_n 0, 1) := by decide +kernel
theorem dX8_nextAt_42 : decode cX8_nextAt 42 = .ok (.getfield 8, 3) := by decide +kernel
theorem dX8_nextAt_45 : decode cX8_nextAt 45 = .ok (.sipush 309, 3) := by decide +kernel
theorem dX8_nextAt_48 : decode cX8_nextAt 48 = .ok (.iload 4, 2) := by decide +kernel
theorem dX8_nextAt_50 : decode cX8_nextAt 50 = .ok (.iadd, 1) := by decide +kernel
theorem dX8_nextAt_51 : decode cX8_nextAt 51 = .ok (.iaload, 1) := by decide +kernel
theorem dX8_nextAt_52 : decode cX8_nextAt 52 = .ok (.iload_n 2, 1) := by decide +kernel
theorem dX8_nextAt_53 : decode cX8_nextAt 53 = .ok (.if_icmp .ne 29, 3) := by decide +kernel
theorem dX8_nextAt_56 : decode cX8_nextAt 56 = .ok (.iload_n 3, 1) := by decide +kernel
theorem dX8_nextAt_57 : decode cX8_nextAt 57 = .ok (.iconst (-1), 1) := by decide +kernel
theorem dX8_nextAt_58 : decode cX8_nextAt 58 = .ok (.if_icmp .eq 9, 3) := by decide +kernel
theorem dX8_nextAt_61 : decode cX8_nextAt 61 = .ok (.iload 5, 2) := by decide +kernel
theorem dX8_nextAt_63 : decode cX8_nextAt 63 = .ok (.iload_n 3, 1) := by decide +kernel
theorem dX8_nextAt_64 : decode cX8_nextAt 64 = .ok (.if_icmp .ge 18, 3) := by decide +kernel
theorem dX8_nextAt_67 : decode cX8_nextAt 67 = .ok (.aload_n 0, 1) := by decide +kernel
theorem dX8_nextAt_68 : decode cX8_nextAt 68 = .ok (.iload_n 2, 1) := by decide +kernel
theorem dX8_nextAt_69 : decode cX8_nextAt 69 = .ok (.iload 5, 2) := by decide +kernel
theorem dX8_nextAt_71 : decode cX8_nextAt 71 = .ok (.invokevirtual 156, 3) := by decide +kernel
theorem dX8_nextAt_74 : decode cX8_nextAt 74 = .ok (.ifCond .eq 8, 3) := by decide +kernel
theorem dX8_nextAt_77 : decode cX8_nextAt 77 = .ok (.iload 5, 2) := by decide +kernel
theorem dX8_nextAt_79 : decode cX8_nextAt 79 = .ok (.goto 4, 3) := by decide +kernel
theorem dX8_nextAt_82 : decode cX8_nextAt 82 = .ok (.iload_n 3, 1) := by decide +kernel
theorem dX8_nextAt_83 : decode cX8_nextAt 83 = .ok (.istore_n 3, 1) := by decide +kernel
theorem dX8_nextAt_84 : decode cX8_nextAt 84 = .ok (.iinc 4 1, 3) := by decide +kernel
theorem dX8_nextAt_87 : decode cX8_nextAt 87 = .ok (.goto (-79), 3) := by decide +kernel
theorem dX8_nextAt_90 : decode cX8_nextAt 90 = .ok (.iload_n 3, 1) := by decide +kernel
theorem dX8_nextAt_91 : decode cX8_nextAt 91 = .ok (.ireturn, 1) := by decide +kernel
theorem dX8_deliver_0 : decode cX8_deliver 0 = .ok (.iload_n 1, 1) := by decide +kernel
theorem dX8_deliver_1 : decode cX8_deliver 1 = .ok (.invokestatic 111, 3) := by decide +kernel
theorem dX8_deliver_4 : decode cX8_deliver 4 = .ok (.ifCond .eq 27, 3) := by decide +kernel
theorem dX8_deliver_7 : decode cX8_deliver 7 = .ok (.aload_n 0, 1) := by decide +kernel
theorem dX8_deliver_8 : decode cX8_deliver 8 = .ok (.iload_n 2, 1) := by decide +kernel
theorem dX8_deliver_9 : decode cX8_deliver 9 = .ok (.invokevirtual 71, 3) := by decide +kernel
theorem dX8_deliver_12 : decode cX8_deliver 12 = .ok (.ifCond .eq 19, 3) := by decide +kernel
theorem dX8_deliver_15 : decode cX8_deliver 15 = .ok (.iload 4, 2) := by decide +kernel
theorem dX8_deliver_17 : decode cX8_deliver 17 = .ok (.invokestatic 111, 3) := by decide +kernel
theorem dX8_deliver_20 : decode cX8_deliver 20 = .ok (.ifCond .eq 11, 3) := by decide +kernel
theorem dX8_deliver_23 : decode cX8_deliver 23 = .ok (.aload_n 0, 1) := by decide +kernel
theorem dX8_deliver_24 : decode cX8_deliver 24 = .ok (.iload_n 3, 1) := by decide +kernel
theorem dX8_deliver_25 : decode cX8_deliver 25 = .ok (.invokevirtual 131, 3) := by decide +kernel
theorem dX8_deliver_28 : decode cX8_deliver 28 = .ok (.ifCond .ne 10, 3) := by decide +kernel
theorem dX8_deliver_31 : decode cX8_deliver 31 = .ok (.aload_n 0, 1) := by decide +kernel
theorem dX8_deliver_32 : decode cX8_deliver 32 = .ok (.bipush (-2), 2) := by decide +kernel
theorem dX8_deliver_34 : decode cX8_deliver 34 = .ok (.invokevirtual 52, 3) := by decide +kernel
theorem dX8_deliver_37 : decode cX8_deliver 37 = .ok (.ireturn, 1) := by decide +kernel
theorem dX8_deliver_38 : decode cX8_deliver 38 = .ok (.aload_n 0, 1) := by decide +kernel
theorem dX8_deliver_39 : decode cX8_deliver 39 = .ok (.iload_n 1, 1) := by decide +kernel
theorem dX8_deliver_40 : decode cX8_deliver 40 = .ok (.invokevirtual 159, 3) := by decide +kernel
theorem dX8_deliver_43 : decode cX8_deliver 43 = .ok (.aload_n 0, 1) := by decide +kernel
theorem dX8_deliver_44 : decode cX8_deliver 44 = .ok (.iload_n 1, 1) := by decide +kernel
theorem dX8_deliver_45 : decode cX8_deliver 45 = .ok (.iload_n 2, 1) := by decide +kernel
theorem dX8_deliver_46 : decode cX8_deliver 46 = .ok (.invokevirtual 162, 3) := by decide +kernel
theorem dX8_deliver_49 : decode cX8_deliver 49 = .ok (.istore 5, 2) := by decide +kernel
theorem dX8_deliver_51 : decode cX8_deliver 51 = .ok (.iload 5, 2) := by decide +kernel
theorem dX8_deliver_53 : decode cX8_deliver 53 = .ok (.iconst (-1), 1) := by decide +kernel
theorem dX8_deliver_54 : decode cX8_deliver 54 = .ok (.if_icmp .eq 12, 3) := by decide +kernel
theorem dX8_deliver_57 : decode cX8_deliver 57 = .ok (.aload_n 0, 1) := by decide +kernel
theorem dX8_deliver_58 : decode cX8_deliver 58 = .ok (.iload_n 3, 1) := by decide +kernel
theorem dX8_deliver_59 : decode cX8_deliver 59 = .ok (.iload_n 2, 1) := by decide +kernel
theorem dX8_deliver_60 : decode cX8_deliver 60 = .ok (.invokevirtual 134, 3) := by decide +kernel
theorem dX8_deliver_63 : decode cX8_deliver 63 = .ok (.ifCond .ne 10, 3) := by decide +kernel
theorem dX8_deliver_66 : decode cX8_deliver 66 = .ok (.aload_n 0, 1) := by decide +kernel
theorem dX8_deliver_67 : decode cX8_deliver 67 = .ok (.bipush (-3), 2) := by decide +kernel
theorem dX8_deliver_69 : decode cX8_deliver 69 = .ok (.invokevirtual 52, 3) := by decide +kernel
theorem dX8_deliver_72 : decode cX8_deliver 72 = .ok (.ireturn, 1) := by decide +kernel
theorem dX8_deliver_73 : decode cX8_deliver 73 = .ok (.aload_n 0, 1) := by decide +kernel
theorem dX8_deliver_74 : decode cX8_deliver 74 = .ok (.iload_n 3, 1) := by decide +kernel
theorem dX8_deliver_75 : decode cX8_deliver 75 = .ok (.iload 4, 2) := by decide +kernel
theorem dX8_deliver_77 : decode cX8_deliver 77 = .ok (.invokevirtual 137, 3) := by decide +kernel
theorem dX8_deliver_80 : decode cX8_deliver 80 = .ok (.ifCond .eq 10, 3) := by decide +kernel
theorem dX8_deliver_83 : decode cX8_deliver 83 = .ok (.aload_n 0, 1) := by decide +kernel
theorem dX8_deliver_84 : decode cX8_deliver 84 = .ok (.bipush (-4), 2) := by decide +kernel
theorem dX8_deliver_86 : decode cX8_deliver 86 = .ok (.invokevirtual 52, 3) := by decide +kernel
theorem dX8_deliver_89 : decode cX8_deliver 89 = .ok (.ireturn, 1) := by decide +kernel
theorem dX8_deliver_90 : decode cX8_deliver 90 = .ok (.aload_n 0, 1) := by decide +kernel
theorem dX8_deliver_91 : decode cX8_deliver 91 = .ok (.invokevirtual 56, 3) := by decide +kernel
theorem dX8_deliver_94 : decode cX8_deliver 94 = .ok (.bipush 12, 2) := by decide +kernel
theorem dX8_deliver_96 : decode cX8_deliver 96 = .ok (.iload_n 1, 1) := by decide +kernel
theorem dX8_deliver_97 : decode cX8_deliver 97 = .ok (.imul, 1) := by decide +kernel
theorem dX8_deliver_98 : decode cX8_deliver 98 = .ok (.istore 6, 2) := by decide +kernel
theorem dX8_deliver_100 : decode cX8_deliver 100 = .ok (.aload_n 0, 1) := by decide +kernel
theorem dX8_deliver_101 : decode cX8_deliver 101 = .ok (.getfield 8, 3) := by decide +kernel
theorem dX8_deliver_104 : decode cX8_deliver 104 = .ok (.sipush 309, 3) := by decide +kernel
theorem dX8_deliver_107 : decode cX8_deliver 107 = .ok (.iload 6, 2) := by decide +kernel
theorem dX8_deliver_109 : decode cX8_deliver 109 = .ok (.iadd, 1) := by decide +kernel
theorem dX8_deliver_110 : decode cX8_deliver 110 = .ok (.iaload, 1) := by decide +kernel
theorem dX8_deliver_111 : decode cX8_deliver 111 = .ok (.iload_n 2, 1) := by decide +kernel
theorem dX8_deliver_112 : decode cX8_deliver 112 = .ok (.if_icmp .ne 19, 3) := by decide +kernel
theorem dX8_deliver_115 : decode cX8_deliver 115 = .ok (.aload_n 0, 1) := by decide +kernel
theorem dX8_deliver_116 : decode cX8_deliver 116 = .ok (.getfield 8, 3) := by decide +kernel
theorem dX8_deliver_119 : decode cX8_deliver 119 = .ok (.sipush 333, 3) := by decide +kernel
theorem dX8_deliver_122 : decode cX8_deliver 122 = .ok (.iload 6, 2) := by decide +kernel
theorem dX8_deliver_124 : decode cX8_deliver 124 = .ok (.iadd, 1) := by decide +kernel
theorem dX8_deliver_125 : decode cX8_deliver 125 = .ok (.iaload, 1) := by decide +kernel
theorem dX8_deliver_126 : decode cX8_deliver 126 = .ok (.iload 5, 2) := by decide +kernel
theorem dX8_deliver_128 : decode cX8_deliver 128 = .ok (.if_icmp .eq 9, 3) := by decide +kernel
theorem dX8_deliver_131 : decode cX8_deliver 131 = .ok (.iinc 6 1, 3) := by decide +kernel
theorem dX8_deliver_134 : decode cX8_deliver 134 = .ok (.goto (-34), 3) := by decide +kernel
theorem dX8_deliver_137 : decode cX8_deliver 137 = .ok (.aload_n 0, 1) := by decide +kernel
theorem dX8_deliver_138 : decode cX8_deliver 138 = .ok (.getfield 8, 3) := by decide +kernel
theorem dX8_deliver_141 : decode cX8_deliver 141 = .ok (.sipush 307, 3) := by decide +kernel
theorem dX8_deliver_144 : decode cX8_deliver 144 = .ok (.iload_n 1, 1) := by decide +kernel
theorem dX8_deliver_145 : decode cX8_deliver 145 = .ok (.iadd, 1) := by decide +kernel
theorem dX8_deliver_146 : decode cX8_deliver 146 = .ok (.dup2, 1) := by decide +kernel
theorem dX8_deliver_147 : decode cX8_deliver 147 = .ok (.iaload, 1) := by decide +kernel
theorem dX8_deliver_148 : decode cX8_deliver 148 = .ok (.iconst 1, 1) := by decide +kernel
theorem dX8_deliver_149 : decode cX8_deliver 149 = .ok (.isub, 1) := by decide +kernel
theorem dX8_deliver_150 : decode cX8_deliver 150 = .ok (.iastore, 1) := by decide +kernel
theorem dX8_deliver_151 : decode cX8_deliver 151 = .ok (.iload 6, 2) := by decide +kernel
theorem dX8_deliver_153 : decode cX8_deliver 153 = .ok (.istore 7, 2) := by decide +kernel
theorem dX8_deliver_155 : decode cX8_deliver 155 = .ok (.iload 7, 2) := by decide +kernel
theorem dX8_deliver_157 : decode cX8_deliver 157 = .ok (.bipush 12, 2) := by decide +kernel
theorem dX8_deliver_159 : decode cX8_deliver 159 = .ok (.iload_n 1, 1) := by decide +kernel
theorem dX8_deliver_160 : decode cX8_deliver 160 = .ok (.imul, 1) := by decide +kernel
theorem dX8_deliver_161 : decode cX8_deliver 161 = .ok (.aload_n 0, 1) := by decide +kernel
theorem dX8_deliver_162 : decode cX8_deliver 162 = .ok (.getfield 8, 3) := by decide +kernel
theorem dX8_deliver_165 : decode cX8_deliver 165 = .ok (.sipush 307, 3) := by decide +kernel
theorem dX8_deliver_168 : decode cX8_deliver 168 = .ok (.iload_n 1, 1) := by decide +kernel
theorem dX8_deliver_169 : decode cX8_deliver 169 = .ok (.iadd, 1) := by decide +kernel
theorem dX8_deliver_170 : decode cX8_deliver 170 = .ok (.iaload, 1) := by decide +kernel
theorem dX8_deliver_171 : decode cX8_deliver 171 = .ok (.iadd, 1) := by decide +kernel
theorem dX8_deliver_172 : decode cX8_deliver 172 = .ok (.if_icmp .ge 57, 3) := by decide +kernel
theorem dX8_deliver_175 : decode cX8_deliver 175 = .ok (.aload_n 0, 1) := by decide +kernel
theorem dX8_deliver_176 : decode cX8_deliver 176 = .ok (.getfield 8, 3) := by decide +kernel
theorem dX8_deliver_179 : decode cX8_deliver 179 = .ok (.sipush 309, 3) := by decide +kernel
theorem dX8_deliver_182 : decode cX8_deliver 182 = .ok (.iload 7, 2) := by decide +kernel
theorem dX8_deliver_184 : decode cX8_deliver 184 = .ok (.iadd, 1) := by decide +kernel
theorem dX8_deliver_185 : decode cX8_deliver 185 = .ok (.aload_n 0, 1) := by decide +kernel
theorem dX8_deliver_186 : decode cX8_deliver 186 = .ok (.getfield 8, 3) := by decide +kernel
theorem dX8_deliver_189 : decode cX8_deliver 189 = .ok (.sipush 309, 3) := by decide +kernel
theorem dX8_deliver_192 : decode cX8_deliver 192 = .ok (.iload 7, 2) := by decide +kernel
theorem dX8_deliver_194 : decode cX8_deliver 194 = .ok (.iadd, 1) := by decide +kernel
theorem dX8_deliver_195 : decode cX8_deliver 195 = .ok (.iconst 1, 1) := by decide +kernel
theorem dX8_deliver_196 : decode cX8_deliver 196 = .ok (.iadd, 1) := by decide +kernel
theorem dX8_deliver_197 : decode cX8_deliver 197 = .ok (.iaload, 1) := by decide +kernel
theorem dX8_deliver_198 : decode cX8_deliver 198 = .ok (.iastore, 1) := by decide +kernel
theorem dX8_deliver_199 : decode cX8_deliver 199 = .ok (.aload_n 0, 1) := by decide +kernel
theorem dX8_deliver_200 : decode cX8_deliver 200 = .ok (.getfield 8, 3) := by decide +kernel
theorem dX8_deliver_203 : decode cX8_deliver 203 = .ok (.sipush 333, 3) := by decide +kernel
theorem dX8_deliver_206 : decode cX8_deliver 206 = .ok (.iload 7, 2) := by decide +kernel
theorem dX8_deliver_208 : decode cX8_deliver 208 = .ok (.iadd, 1) := by decide +kernel
theorem dX8_deliver_209 : decode cX8_deliver 209 = .ok (.aload_n 0, 1) := by decide +kernel
theorem dX8_deliver_210 : decode cX8_deliver 210 = .ok (.getfield 8, 3) := by decide +kernel
theorem dX8_deliver_213 : decode cX8_deliver 213 = .ok (.sipush 333, 3) := by decide +kernel
theorem dX8_deliver_216 : decode cX8_deliver 216 = .ok (.iload 7, 2) := by decide +kernel
theorem dX8_deliver_218 : decode cX8_deliver 218 = .ok (.iadd, 1) := by decide +kernel
theorem dX8_deliver_219 : decode cX8_deliver 219 = .ok (.iconst 1, 1) := by decide +kernel
theorem dX8_deliver_220 : decode cX8_deliver 220 = .ok (.iadd, 1) := by decide +kernel
theorem dX8_deliver_221 : decode cX8_deliver 221 = .ok (.iaload, 1) := by decide +kernel
theorem dX8_deliver_222 : decode cX8_deliver 222 = .ok (.iastore, 1) := by decide +kernel
theorem dX8_deliver_223 : decode cX8_deliver 223 = .ok (.iinc 7 1, 3) := by decide +kernel
theorem dX8_deliver_226 : decode cX8_deliver 226 = .ok (.goto (-71), 3) := by decide +kernel
theorem dX8_deliver_229 : decode cX8_deliver 229 = .ok (.aload_n 0, 1) := by decide +kernel
theorem dX8_deliver_230 : decode cX8_deliver 230 = .ok (.getfield 8, 3) := by decide +kernel
theorem dX8_deliver_233 : decode cX8_deliver 233 = .ok (.iconst 3, 1) := by decide +kernel
theorem dX8_deliver_234 : decode cX8_deliver 234 = .ok (.dup2, 1) := by decide +kernel
theorem dX8_deliver_235 : decode cX8_deliver 235 = .ok (.iaload, 1) := by decide +kernel
theorem dX8_deliver_236 : decode cX8_deliver 236 = .ok (.iconst 1, 1) := by decide +kernel
theorem dX8_deliver_237 : decode cX8_deliver 237 = .ok (.iadd, 1) := by decide +kernel
theorem dX8_deliver_238 : decode cX8_deliver 238 = .ok (.iastore, 1) := by decide +kernel
theorem dX8_deliver_239 : decode cX8_deliver 239 = .ok (.aload_n 0, 1) := by decide +kernel
theorem dX8_deliver_240 : decode cX8_deliver 240 = .ok (.getfield 8, 3) := by decide +kernel
theorem dX8_deliver_243 : decode cX8_deliver 243 = .ok (.sipush 359, 3) := by decide +kernel
theorem dX8_deliver_246 : decode cX8_deliver 246 = .ok (.sipush 1000, 3) := by decide +kernel
theorem dX8_deliver_249 : decode cX8_deliver 249 = .ok (.iload_n 2, 1) := by decide +kernel
theorem dX8_deliver_250 : decode cX8_deliver 250 = .ok (.imul, 1) := by decide +kernel
theorem dX8_deliver_251 : decode cX8_deliver 251 = .ok (.iadd, 1) := by decide +kernel
theorem dX8_deliver_252 : decode cX8_deliver 252 = .ok (.iload 5, 2) := by decide +kernel
theorem dX8_deliver_254 : decode cX8_deliver 254 = .ok (.iadd, 1) := by decide +kernel
theorem dX8_deliver_255 : decode cX8_deliver 255 = .ok (.iconst 1, 1) := by decide +kernel
theorem dX8_deliver_256 : decode cX8_deliver 256 = .ok (.iastore, 1) := by decide +kernel
theorem dX8_deliver_257 : decode cX8_deliver 257 = .ok (.aload_n 0, 1) := by decide +kernel
theorem dX8_deliver_258 : decode cX8_deliver 258 = .ok (.iload_n 1, 1) := by decide +kernel
theorem dX8_deliver_259 : decode cX8_deliver 259 = .ok (.iload_n 3, 1) := by decide +kernel
theorem dX8_deliver_260 : decode cX8_deliver 260 = .ok (.iload 4, 2) := by decide +kernel
theorem dX8_deliver_262 : decode cX8_deliver 262 = .ok (.iload 5, 2) := by decide +kernel
theorem dX8_deliver_264 : decode cX8_deliver 264 = .ok (.invokevirtual 146, 3) := by decide +kernel
theorem dX8_deliver_267 : decode cX8_deliver 267 = .ok (.aload_n 0, 1) := by decide +kernel
theorem dX8_deliver_268 : decode cX8_deliver 268 = .ok (.iload_n 1, 1) := by decide +kernel
theorem dX8_deliver_269 : decode cX8_deliver 269 = .ok (.iload_n 2, 1) := by decide +kernel
theorem dX8_deliver_270 : decode cX8_deliver 270 = .ok (.iload 5, 2) := by decide +kernel
theorem dX8_deliver_272 : decode cX8_deliver 272 = .ok (.iconst (-1), 1) := by decide +kernel
theorem dX8_deliver_273 : decode cX8_deliver 273 = .ok (.invokevirtual 121, 3) := by decide +kernel
theorem dX8_deliver_276 : decode cX8_deliver 276 = .ok (.iload 5, 2) := by decide +kernel
theorem dX8_deliver_278 : decode cX8_deliver 278 = .ok (.ireturn, 1) := by decide +kernel
theorem dX8_receive_0 : decode cX8_receive 0 = .ok (.iload_n 1, 1) := by decide +kernel
theorem dX8_receive_1 : decode cX8_receive 1 = .ok (.invokestatic 111, 3) := by decide +kernel
theorem dX8_receive_4 : decode cX8_receive 4 = .ok (.ifCond .eq 13, 3) := by decide +kernel
theorem dX8_receive_7 : decode cX8_receive 7 = .ok (.iload_n 2, 1) := by decide +kernel
theorem dX8_receive_8 : decode cX8_receive 8 = .ok (.iconst 1, 1) := by decide +kernel
theorem dX8_receive_9 : decode cX8_receive 9 = .ok (.bipush 99, 2) := by decide +kernel
theorem dX8_receive_11 : decode cX8_receive 11 = .ok (.invokestatic 43, 3) := by decide +kernel
theorem dX8_receive_14 : decode cX8_receive 14 = .ok (.ifCond .ne 10, 3) := by decide +kernel
theorem dX8_receive_17 : decode cX8_receive 17 = .ok (.aload_n 0, 1) := by decide +kernel
theorem dX8_receive_18 : decode cX8_receive 18 = .ok (.bipush (-2), 2) := by decide +kernel
theorem dX8_receive_20 : decode cX8_receive 20 = .ok (.invokevirtual 52, 3) := by decide +kernel
theorem dX8_receive_23 : decode cX8_receive 23 = .ok (.ireturn, 1) := by decide +kernel
theorem dX8_receive_24 : decode cX8_receive 24 = .ok (.aload_n 0, 1) := by decide +kernel
theorem dX8_receive_25 : decode cX8_receive 25 = .ok (.invokevirtual 56, 3) := by decide +kernel
theorem dX8_receive_28 : decode cX8_receive 28 = .ok (.aload_n 0, 1) := by decide +kernel
theorem dX8_receive_29 : decode cX8_receive 29 = .ok (.getfield 8, 3) := by decide +kernel
theorem dX8_receive_32 : decode cX8_receive 32 = .ok (.sipush 357, 3) := by decide +kernel
theorem dX8_receive_35 : decode cX8_receive 35 = .ok (.iload_n 1, 1) := by decide +kernel
theorem dX8_receive_36 : decode cX8_receive 36 = .ok (.iadd, 1) := by decide +kernel
theorem dX8_receive_37 : decode cX8_receive 37 = .ok (.iaload, 1) := by decide +kernel
theorem dX8_receive_38 : decode cX8_receive 38 = .ok (.iload_n 2, 1) := by decide +kernel
theorem dX8_receive_39 : decode cX8_receive 39 = .ok (.if_icmp .ge 16, 3) := by decide +kernel
theorem dX8_receive_42 : decode cX8_receive 42 = .ok (.aload_n 0, 1) := by decide +kernel
theorem dX8_receive_43 : decode cX8_receive 43 = .ok (.getfield 8, 3) := by decide +kernel
theorem dX8_receive_46 : decode cX8_receive 46 = .ok (.sipush 357, 3) := by decide +kernel
theorem dX8_receive_49 : decode cX8_receive 49 = .ok (.iload_n 1, 1) := by decide +kernel
theorem dX8_receive_50 : decode cX8_receive 50 = .ok (.iadd, 1) := by decide +kernel
theorem dX8_receive_51 : decode cX8_receive 51 = .ok (.iaload, 1) := by decide +kernel
theorem dX8_receive_52 : decode cX8_receive 52 = .ok (.goto 4, 3) := by decide +kernel
theorem dX8_receive_55 : decode cX8_receive 55 = .ok (.iload_n 2, 1) := by decide +kernel
theorem dX8_receive_56 : decode cX8_receive 56 = .ok (.istore_n 3, 1) := by decide +kernel
theorem dX8_receive_57 : decode cX8_receive 57 = .ok (.ldc 107, 2) := by decide +kernel
theorem dX8_receive_59 : decode cX8_receive 59 = .ok (.sipush 8192, 3) := by decide +kernel
theorem dX8_receive_62 : decode cX8_receive 62 = .ok (.iload_n 1, 1) := by decide +kernel
theorem dX8_receive_63 : decode cX8_receive 63 = .ok (.imul, 1) := by decide +kernel
theorem dX8_receive_64 : decode cX8_receive 64 = .ok (.iadd, 1) := by decide +kernel
theorem dX8_receive_65 : decode cX8_receive 65 = .ok (.istore 4, 2) := by decide +kernel
theorem dX8_receive_67 : decode cX8_receive 67 = .ok (.iconst 0, 1) := by decide +kernel
theorem dX8_receive_68 : decode cX8_receive 68 = .ok (.istore 5, 2) := by decide +kernel
theorem dX8_receive_70 : decode cX8_receive 70 = .ok (.iload 5, 2) := by decide +kernel
theorem dX8_receive_72 : decode cX8_receive 72 = .ok (.iload_n 3, 1) := by decide +kernel
theorem dX8_receive_73 : decode cX8_receive 73 = .ok (.if_icmp .ge 56, 3) := by decide +kernel
theorem dX8_receive_76 : decode cX8_receive 76 = .ok (.aload_n 0, 1) := by decide +kernel
theorem dX8_receive_77 : decode cX8_receive 77 = .ok (.getfield 8, 3) := by decide +kernel
theorem dX8_receive_80 : decode cX8_receive 80 = .ok (.iload 4, 2) := by decide +kernel
theorem dX8_receive_82 : decode cX8_receive 82 = .ok (.iload 5, 2) := by decide +kernel
theorem dX8_receive_84 : decode cX8_receive 84 = .ok (.iadd, 1) := by decide +kernel
theorem dX8_receive_85 : decode cX8_receive 85 = .ok (.iaload, 1) := by decide +kernel
theorem dX8_receive_86 : decode cX8_receive 86 = .ok (.istore 6, 2) := by decide +kernel
theorem dX8_receive_88 : decode cX8_receive 88 = .ok (.aload_n 0, 1) := by decide +kernel
theorem dX8_receive_89 : decode cX8_receive 89 = .ok (.getfield 8, 3) := by decide +kernel
theorem dX8_receive_92 : decode cX8_receive 92 = .ok (.sipush 6359, 3) := by decide +kernel
theorem dX8_receive_95 : decode cX8_receive 95 = .ok (.sipush 16000, 3) := by decide +kernel
theorem dX8_receive_98 : decode cX8_receive 98 = .ok (.iload_n 1, 1) := by decide +kernel
theorem dX8_receive_99 : decode cX8_receive 99 = .ok (.imul, 1) := by decide +kernel
theorem dX8_receive_100 : decode cX8_receive 100 = .ok (.iadd, 1) := by decide +kernel
theorem dX8_receive_101 : decode cX8_receive 101 = .ok (.iload 6, 2) := by decide +kernel
theorem dX8_receive_103 : decode cX8_receive 103 = .ok (.iconst 2, 1) := by decide +kernel
theorem dX8_receive_104 : decode cX8_receive 104 = .ok (.idiv, 1) := by decide +kernel
theorem dX8_receive_105 : decode cX8_receive 105 = .ok (.iadd, 1) := by decide +kernel
theorem dX8_receive_106 : decode cX8_receive 106 = .ok (.dup2, 1) := by decide +kernel
theorem dX8_receive_107 : decode cX8_receive 107 = .ok (.iaload, 1) := by decide +kernel
theorem dX8_receive_108 : decode cX8_receive 108 = .ok (.iload 6, 2) := by decide +kernel
theorem dX8_receive_110 : decode cX8_receive 110 = .ok (.iconst 2, 1) := by decide +kernel
theorem dX8_receive_111 : decode cX8_receive 111 = .ok (.irem, 1) := by decide +kernel
theorem dX8_receive_112 : decode cX8_receive 112 = .ok (.iconst 1, 1) := by decide +kernel
theorem dX8_receive_113 : decode cX8_receive 113 = .ok (.if_icmp .ne 7, 3) := by decide +kernel
theorem dX8_receive_116 : decode cX8_receive 116 = .ok (.iconst 1, 1) := by decide +kernel
theorem dX8_receive_117 : decode cX8_receive 117 = .ok (.goto 4, 3) := by decide +kernel
theorem dX8_receive_120 : decode cX8_receive 120 = .ok (.iconst (-1), 1) := by decide +kernel
theorem dX8_receive_121 : decode cX8_receive 121 = .ok (.iadd, 1) := by decide +kernel
theorem dX8_receive_122 : decode cX8_receive 122 = .ok (.iastore, 1) := by decide +kernel
theorem dX8_receive_123 : decode cX8_receive 123 = .ok (.iinc 5 1, 3) := by decide +kernel
theorem dX8_receive_126 : decode cX8_receive 126 = .ok (.goto (-56), 3) := by decide +kernel
theorem dX8_receive_129 : decode cX8_receive 129 = .ok (.aload_n 0, 1) := by decide +kernel
theorem dX8_receive_130 : decode cX8_receive 130 = .ok (.getfield 8, 3) := by decide +kernel
theorem dX8_receive_133 : decode cX8_receive 133 = .ok (.sipush 357, 3) := by decide +kernel
theorem dX8_receive_136 : decode cX8_receive 136 = .ok (.iload_n 1, 1) := by decide +kernel
theorem dX8_receive_137 : decode cX8_receive 137 = .ok (.iadd, 1) := by decide +kernel
theorem dX8_receive_138 : decode cX8_receive 138 = .ok (.dup2, 1) := by decide +kernel
theorem dX8_receive_139 : decode cX8_receive 139 = .ok (.iaload, 1) := by decide +kernel
theorem dX8_receive_140 : decode cX8_receive 140 = .ok (.iload_n 3, 1) := by decide +kernel
theorem dX8_receive_141 : decode cX8_receive 141 = .ok (.isub, 1) := by decide +kernel
theorem dX8_receive_142 : decode cX8_receive 142 = .ok (.iastore, 1) := by decide +kernel
theorem dX8_receive_143 : decode cX8_receive 143 = .ok (.iconst 0, 1) := by decide +kernel
theorem dX8_receive_144 : decode cX8_receive 144 = .ok (.istore 5, 2) := by decide +kernel
theorem dX8_receive_146 : decode cX8_receive 146 = .ok (.iload 5, 2) := by decide +kernel
theorem dX8_receive_148 : decode cX8_receive 148 = .ok (.aload_n 0, 1) := by decide +kernel
theorem dX8_receive_149 : decode cX8_receive 149 = .ok (.getfield 8, 3) := by decide +kernel
theorem dX8_receive_152 : decode cX8_receive 152 = .ok (.sipush 357, 3) := by decide +kernel
theorem dX8_receive_155 : decode cX8_receive 155 = .ok (.iload_n 1, 1) := by decide +kernel
theorem dX8_receive_156 : decode cX8_receive 156 = .ok (.iadd, 1) := by decide +kernel
theorem dX8_receive_157 : decode cX8_receive 157 = .ok (.iaload, 1) := by decide +kernel
theorem dX8_receive_158 : decode cX8_receive 158 = .ok (.if_icmp .ge 31, 3) := by decide +kernel
theorem dX8_receive_161 : decode cX8_receive 161 = .ok (.aload_n 0, 1) := by decide +kernel
theorem dX8_receive_162 : decode cX8_receive 162 = .ok (.getfield 8, 3) := by decide +kernel
theorem dX8_receive_165 : decode cX8_receive 165 = .ok (.iload 4, 2) := by decide +kernel
theorem dX8_receive_167 : decode cX8_receive 167 = .ok (.iload 5, 2) := by decide +kernel
theorem dX8_receive_169 : decode cX8_receive 169 = .ok (.iadd, 1) := by decide +kernel
theorem dX8_receive_170 : decode cX8_receive 170 = .ok (.aload_n 0, 1) := by decide +kernel
theorem dX8_receive_171 : decode cX8_receive 171 = .ok (.getfield 8, 3) := by decide +kernel
theorem dX8_receive_174 : decode cX8_receive 174 = .ok (.iload 4, 2) := by decide +kernel
theorem dX8_receive_176 : decode cX8_receive 176 = .ok (.iload_n 3, 1) := by decide +kernel
theorem dX8_receive_177 : decode cX8_receive 177 = .ok (.iadd, 1) := by decide +kernel
theorem dX8_receive_178 : decode cX8_receive 178 = .ok (.iload 5, 2) := by decide +kernel
theorem dX8_receive_180 : decode cX8_receive 180 = .ok (.iadd, 1) := by decide +kernel
theorem dX8_receive_181 : decode cX8_receive 181 = .ok (.iaload, 1) := by decide +kernel
theorem dX8_receive_182 : decode cX8_receive 182 = .ok (.iastore, 1) := by decide +kernel
theorem dX8_receive_183 : decode cX8_receive 183 = .ok (.iinc 5 1, 3) := by decide +kernel
theorem dX8_receive_186 : decode cX8_receive 186 = .ok (.goto (-40), 3) := by decide +kernel
theorem dX8_receive_189 : decode cX8_receive 189 = .ok (.iload_n 3, 1) := by decide +kernel
theorem dX8_receive_190 : decode cX8_receive 190 = .ok (.ireturn, 1) := by decide +kernel
theorem dX8_messages_0 : decode cX8_messages 0 = .ok (.iload_n 1, 1) := by decide +kernel
theorem dX8_messages_1 : decode cX8_messages 1 = .ok (.invokestatic 111, 3) := by decide +kernel
theorem dX8_messages_4 : decode cX8_messages 4 = .ok (.ifCond .eq 28, 3) := by decide +kernel
theorem dX8_messages_7 : decode cX8_messages 7 = .ok (.aload_n 0, 1) := by decide +kernel
theorem dX8_messages_8 : decode cX8_messages 8 = .ok (.iload_n 2, 1) := by decide +kernel
theorem dX8_messages_9 : decode cX8_messages 9 = .ok (.invokevirtual 77, 3) := by decide +kernel
theorem dX8_messages_12 : decode cX8_messages 12 = .ok (.ifCond .eq 20, 3) := by decide +kernel
theorem dX8_messages_15 : decode cX8_messages 15 = .ok (.aload_n 0, 1) := by decide +kernel
theorem dX8_messages_16 : decode cX8_messages 16 = .ok (.getfield 8, 3) := by decide +kernel
theorem dX8_messages_19 : decode cX8_messages 19 = .ok (.bipush 47, 2) := by decide +kernel
theorem dX8_messages_21 : decode cX8_messages 21 = .ok (.aload_n 0, 1) := by decide +kernel
theorem dX8_messages_22 : decode cX8_messages 22 = .ok (.iload_n 1, 1) := by decide +kernel
theorem dX8_messages_23 : decode cX8_messages 23 = .ok (.iload_n 2, 1) := by decide +kernel
theorem dX8_messages_24 : decode cX8_messages 24 = .ok (.invokevirtual 108, 3) := by decide +kernel
theorem dX8_messages_27 : decode cX8_messages 27 = .ok (.iadd, 1) := by decide +kernel
theorem dX8_messages_28 : decode cX8_messages 28 = .ok (.iaload, 1) := by decide +kernel
theorem dX8_messages_29 : decode cX8_messages 29 = .ok (.goto 9, 3) := by decide +kernel
theorem dX8_messages_32 : decode cX8_messages 32 = .ok (.aload_n 0, 1) := by decide +kernel
theorem dX8_messages_33 : decode cX8_messages 33 = .ok (.bipush (-2), 2) := by decide +kernel
theorem dX8_messages_35 : decode cX8_messages 35 = .ok (.invokevirtual 52, 3) := by decide +kernel
theorem dX8_messages_38 : decode cX8_messages 38 = .ok (.ireturn, 1) := by decide +kernel
theorem dX8_messageTime_0 : decode cX8_messageTime 0 = .ok (.iload_n 1, 1) := by decide +kernel
theorem dX8_messageTime_1 : decode cX8_messageTime 1 = .ok (.invokestatic 111, 3) := by decide +kernel
theorem dX8_messageTime_4 : decode cX8_messageTime 4 = .ok (.ifCond .eq 15, 3) := by decide +kernel
theorem dX8_messageTime_7 : decode cX8_messageTime 7 = .ok (.aload_n 0, 1) := by decide +kernel
theorem dX8_messageTime_8 : decode cX8_messageTime 8 = .ok (.iload_n 2, 1) := by decide +kernel
theorem dX8_messageTime_9 : decode cX8_messageTime 9 = .ok (.invokevirtual 77, 3) := by decide +kernel
theorem dX8_messageTime_12 : decode cX8_messageTime 12 = .ok (.ifCond .eq 7, 3) := by decide +kernel
theorem dX8_messageTime_15 : decode cX8_messageTime 15 = .ok (.iload_n 3, 1) := by decide +kernel
theorem dX8_messageTime_16 : decode cX8_messageTime 16 = .ok (.ifCond .ge 10, 3) := by decide +kernel
theorem dX8_messageTime_19 : decode cX8_messageTime 19 = .ok (.aload_n 0, 1) := by decide +kernel
theorem dX8_messageTime_20 : decode cX8_messageTime 20 = .ok (.bipush (-2), 2) := by decide +kernel
theorem dX8_messageTime_22 : decode cX8_messageTime 22 = .ok (.invokevirtual 52, 3) := by decide +kernel
theorem dX8_messageTime_25 : decode cX8_messageTime 25 = .ok (.ireturn, 1) := by decide +kernel
theorem dX8_messageTime_26 : decode cX8_messageTime 26 = .ok (.aload_n 0, 1) := by decide +kernel
theorem dX8_messageTime_27 : decode cX8_messageTime 27 = .ok (.iload_n 1, 1) := by decide +kernel
theorem dX8_messageTime_28 : decode cX8_messageTime 28 = .ok (.iload_n 2, 1) := by decide +kernel
theorem dX8_messageTime_29 : decode cX8_messageTime 29 = .ok (.invokevirtual 108, 3) := by decide +kernel
theorem dX8_messageTime_32 : decode cX8_messageTime 32 = .ok (.istore 4, 2) := by decide +kernel
theorem dX8_messageTime_34 : decode cX8_messageTime 34 = .ok (.iload_n 3, 1) := by decide +kernel
theorem dX8_messageTime_35 : decode cX8_messageTime 35 = .ok (.aload_n 0, 1) := by decide +kernel
theorem dX8_messageTime_36 : decode cX8_messageTime 36 = .ok (.getfield 8, 3) := by decide +kernel
theorem dX8_messageTime_39 : decode cX8_messageTime 39 = .ok (.bipush 47, 2) := by decide +kernel
theorem dX8_messageTime_41 : decode cX8_messageTime 41 = .ok (.iload 4, 2) := by decide +kernel
theorem dX8_messageTime_43 : decode cX8_messageTime 43 = .ok (.iadd, 1) := by decide +kernel
theorem dX8_messageTime_44 : decode cX8_messageTime 44 = .ok (.iaload, 1) := by decide +kernel
theorem dX8_messageTime_45 : decode cX8_messageTime 45 = .ok (.if_icmp .ge 21, 3) := by decide +kernel
theorem dX8_messageTime_48 : decode cX8_messageTime 48 = .ok (.aload_n 0, 1) := by decide +kernel
theorem dX8_messageTime_49 : decode cX8_messageTime 49 = .ok (.getfield 8, 3) := by decide +kernel
theorem dX8_messageTime_52 : decode cX8_messageTime 52 = .ok (.bipush 67, 2) := by decide +kernel
theorem dX8_messageTime_54 : decode cX8_messageTime 54 = .ok (.bipush 12, 2) := by decide +kernel
theorem dX8_messageTime_56 : decode cX8_messageTime 56 = .ok (.iload 4, 2) := by decide +kernel
theorem dX8_messageTime_58 : decode cX8_messageTime 58 = .ok (.imul, 1) := by decide +kernel
theorem dX8_messageTime_59 : decode cX8_messageTime 59 = .ok (.iadd, 1) := by decide +kernel
theorem dX8_messageTime_60 : decode cX8_messageTime 60 = .ok (.iload_n 3, 1) := by decide +kernel
theorem dX8_messageTime_61 : decode cX8_messageTime 61 = .ok (.iadd, 1) := by decide +kernel
theorem dX8_messageTime_62 : decode cX8_messageTime 62 = .ok (.iaload, 1) := by decide +kernel
theorem dX8_messageTime_63 : decode cX8_messageTime 63 = .ok (.goto 4, 3) := by decide +kernel
theorem dX8_messageTime_66 : decode cX8_messageTime 66 = .ok (.iconst (-1), 1) := by decide +kernel
theorem dX8_messageTime_67 : decode cX8_messageTime 67 = .ok (.ireturn, 1) := by decide +kernel
theorem dX8_requestsOf_0 : decode cX8_requestsOf 0 = .ok (.iconst 0, 1) := by decide +kernel
theorem dX8_requestsOf_1 : decode cX8_requestsOf 1 = .ok (.istore_n 3, 1) := by decide +kernel
theorem dX8_requestsOf_2 : decode cX8_requestsOf 2 = .ok (.bipush 12, 2) := by decide +kernel
theorem dX8_requestsOf_4 : decode cX8_requestsOf 4 = .ok (.iload_n 1, 1) := by decide +kernel
theorem dX8_requestsOf_5 : decode cX8_requestsOf 5 = .ok (.imul, 1) := by decide +kernel
theorem dX8_requestsOf_6 : decode cX8_requestsOf 6 = .ok (.istore 4, 2) := by decide +kernel
theorem dX8_requestsOf_8 : decode cX8_requestsOf 8 = .ok (.iload 4, 2) := by decide +kernel
theorem dX8_requestsOf_10 : decode cX8_requestsOf 10 = .ok (.bipush 12, 2) := by decide +kernel
theorem dX8_requestsOf_12 : decode cX8_requestsOf 12 = .ok (.iload_n 1, 1) := by decide +kernel
theorem dX8_requestsOf_13 : decode cX8_requestsOf 13 = .ok (.imul, 1) := by decide +kernel
theorem dX8_requestsOf_14 : decode cX8_requestsOf 14 = .ok (.aload_n 0, 1) := by decide +kernel
theorem dX8_requestsOf_15 : decode cX8_requestsOf 15 = .ok (.getfield 8, 3) := by decide +kernel
theorem dX8_requestsOf_18 : decode cX8_requestsOf 18 = .ok (.sipush 307, 3) := by decide +kernel
theorem dX8_requestsOf_21 : decode cX8_requestsOf 21 = .ok (.iload_n 1, 1) := by decide +kernel
theorem dX8_requestsOf_22 : decode cX8_requestsOf 22 = .ok (.iadd, 1) := by decide +kernel
theorem dX8_requestsOf_23 : decode cX8_requestsOf 23 = .ok (.iaload, 1) := by decide +kernel
theorem dX8_requestsOf_24 : decode cX8_requestsOf 24 = .ok (.iadd, 1) := by decide +kernel
theorem dX8_requestsOf_25 : decode cX8_requestsOf 25 = .ok (.if_icmp .ge 32, 3) := by decide +kernel
theorem dX8_requestsOf_28 : decode cX8_requestsOf 28 = .ok (.iload_n 3, 1) := by decide +kernel
theorem dX8_requestsOf_29 : decode cX8_requestsOf 29 = .ok (.aload_n 0, 1) := by decide +kernel
theorem dX8_requestsOf_30 : decode cX8_requestsOf 30 = .ok (.getfield 8, 3) := by decide +kernel
theorem dX8_requestsOf_33 : decode cX8_requestsOf 33 = .ok (.sipush 309, 3) := by decide +kernel
theorem dX8_requestsOf_36 : decode cX8_requestsOf 36 = .ok (.iload 4, 2) := by decide +kernel
theorem dX8_requestsOf_38 : decode cX8_requestsOf 38 = .ok (.iadd, 1) := by decide +kernel
theorem dX8_requestsOf_39 : decode cX8_requestsOf 39 = .ok (.iaload, 1) := by decide +kernel
theorem dX8_requestsOf_40 : decode cX8_requestsOf 40 = .ok (.iload_n 2, 1) := by decide +kernel
theorem dX8_requestsOf_41 : decode cX8_requestsOf 41 = .ok (.if_icmp .ne 7, 3) := by decide +kernel
theorem dX8_requestsOf_44 : decode cX8_requestsOf 44 = .ok (.iconst 1, 1) := by decide +kernel
theorem dX8_requestsOf_45 : decode cX8_requestsOf 45 = .ok (.goto 4, 3) := by decide +kernel
theorem dX8_requestsOf_48 : decode cX8_requestsOf 48 = .ok (.iconst 0, 1) := by decide +kernel
theorem dX8_requestsOf_49 : decode cX8_requestsOf 49 = .ok (.iadd, 1) := by decide +kernel
theorem dX8_requestsOf_50 : decode cX8_requestsOf 50 = .ok (.istore_n 3, 1) := by decide +kernel
theorem dX8_requestsOf_51 : decode cX8_requestsOf 51 = .ok (.iinc 4 1, 3) := by decide +kernel
theorem dX8_requestsOf_54 : decode cX8_requestsOf 54 = .ok (.goto (-46), 3) := by decide +kernel
theorem dX8_requestsOf_57 : decode cX8_requestsOf 57 = .ok (.iload_n 3, 1) := by decide +kernel
theorem dX8_requestsOf_58 : decode cX8_requestsOf 58 = .ok (.ireturn, 1) := by decide +kernel
theorem dX8_requests_0 : decode cX8_requests 0 = .ok (.iload_n 1, 1) := by decide +kernel
theorem dX8_requests_1 : decode cX8_requests 1 = .ok (.invokestatic 111, 3) := by decide +kernel
theorem dX8_requests_4 : decode cX8_requests 4 = .ok (.ifCond .eq 20, 3) := by decide +kernel
theorem dX8_requests_7 : decode cX8_requests 7 = .ok (.aload_n 0, 1) := by decide +kernel
theorem dX8_requests_8 : decode cX8_requests 8 = .ok (.iload_n 2, 1) := by decide +kernel
theorem dX8_requests_9 : decode cX8_requests 9 = .ok (.invokevirtual 71, 3) := by decide +kernel
theorem dX8_requests_12 : decode cX8_requests 12 = .ok (.ifCond .eq 12, 3) := by decide +kernel
theorem dX8_requests_15 : decode cX8_requests 15 = .ok (.aload_n 0, 1) := by decide +kernel
theorem dX8_requests_16 : decode cX8_requests 16 = .ok (.iload_n 1, 1) := by decide +kernel
theorem dX8_requests_17 : decode cX8_requests 17 = .ok (.iload_n 2, 1) := by decide +kernel
theorem dX8_requests_18 : decode cX8_requests 18 = .ok (.invokevirtual 165, 3) := by decide +kernel
theorem dX8_requests_21 : decode cX8_requests 21 = .ok (.goto 9, 3) := by decide +kernel
theorem dX8_requests_24 : decode cX8_requests 24 = .ok (.aload_n 0, 1) := by decide +kernel
theorem dX8_requests_25 : decode cX8_requests 25 = .ok (.bipush (-2), 2) := by decide +kernel
theorem dX8_requests_27 : decode cX8_requests 27 = .ok (.invokevirtual 52, 3) := by decide +kernel
theorem dX8_requests_30 : decode cX8_requests 30 = .ok (.ireturn, 1) := by decide +kernel
theorem dX8_deliverable_0 : decode cX8_deliverable 0 = .ok (.iload_n 1, 1) := by decide +kernel
theorem dX8_deliverable_1 : decode cX8_deliverable 1 = .ok (.invokestatic 111, 3) := by decide +kernel
theorem dX8_deliverable_4 : decode cX8_deliverable 4 = .ok (.ifCond .eq 11, 3) := by decide +kernel
theorem dX8_deliverable_7 : decode cX8_deliverable 7 = .ok (.aload_n 0, 1) := by decide +kernel
theorem dX8_deliverable_8 : decode cX8_deliverable 8 = .ok (.iload_n 2, 1) := by decide +kernel
theorem dX8_deliverable_9 : decode cX8_deliverable 9 = .ok (.invokevirtual 71, 3) := by decide +kernel
theorem dX8_deliverable_12 : decode cX8_deliverable 12 = .ok (.ifCond .ne 10, 3) := by decide +kernel
theorem dX8_deliverable_15 : decode cX8_deliverable 15 = .ok (.aload_n 0, 1) := by decide +kernel
theorem dX8_deliverable_16 : decode cX8_deliverable 16 = .ok (.bipush (-2), 2) := by decide +kernel
theorem dX8_deliverable_18 : decode cX8_deliverable 18 = .ok (.invokevirtual 52, 3) := by decide +kernel
theorem dX8_deliverable_21 : decode cX8_deliverable 21 = .ok (.ireturn, 1) := by decide +kernel
theorem dX8_deliverable_22 : decode cX8_deliverable 22 = .ok (.aload_n 0, 1) := by decide +kernel
theorem dX8_deliverable_23 : decode cX8_deliverable 23 = .ok (.iload_n 1, 1) := by decide +kernel
theorem dX8_deliverable_24 : decode cX8_deliverable 24 = .ok (.invokevirtual 159, 3) := by decide +kernel
theorem dX8_deliverable_27 : decode cX8_deliverable 27 = .ok (.aload_n 0, 1) := by decide +kernel
theorem dX8_deliverable_28 : decode cX8_deliverable 28 = .ok (.iload_n 1, 1) := by decide +kernel
theorem dX8_deliverable_29 : decode cX8_deliverable 29 = .ok (.iload_n 2, 1) := by decide +kernel
theorem dX8_deliverable_30 : decode cX8_deliverable 30 = .ok (.invokevirtual 162, 3) := by decide +kernel
theorem dX8_deliverable_33 : decode cX8_deliverable 33 = .ok (.ireturn, 1) := by decide +kernel
theorem dX8_count_0 : decode cX8_count 0 = .ok (.iload_n 1, 1) := by decide +kernel
theorem dX8_count_1 : decode cX8_count 1 = .ok (.invokestatic 111, 3) := by decide +kernel
theorem dX8_count_4 : decode cX8_count 4 = .ok (.ifCond .eq 39, 3) := by decide +kernel
theorem dX8_count_7 : decode cX8_count 7 = .ok (.aload_n 0, 1) := by decide +kernel
theorem dX8_count_8 : decode cX8_count 8 = .ok (.iload_n 2, 1) := by decide +kernel
theorem dX8_count_9 : decode cX8_count 9 = .ok (.invokevirtual 101, 3) := by decide +kernel
theorem dX8_count_12 : decode cX8_count 12 = .ok (.ifCond .eq 31, 3) := by decide +kernel
theorem dX8_count_15 : decode cX8_count 15 = .ok (.aload_n 0, 1) := by decide +kernel
theorem dX8_count_16 : decode cX8_count 16 = .ok (.iload_n 2, 1) := by decide +kernel
theorem dX8_count_17 : decode cX8_count 17 = .ok (.iload_n 3, 1) := by decide +kernel
theorem dX8_count_18 : decode cX8_count 18 = .ok (.invokevirtual 86, 3) := by decide +kernel
theorem dX8_count_21 : decode cX8_count 21 = .ok (.ifCond .eq 22, 3) := by decide +kernel
theorem dX8_count_24 : decode cX8_count 24 = .ok (.sipush 1000, 3) := by decide +kernel
theorem dX8_count_27 : decode cX8_count 27 = .ok (.aload_n 0, 1) := by decide +kernel
theorem dX8_count_28 : decode cX8_count 28 = .ok (.getfield 8, 3) := by decide +kernel
theorem dX8_count_31 : decode cX8_count 31 = .ok (.aload_n 0, 1) := by decide +kernel
theorem dX8_count_32 : decode cX8_count 32 = .ok (.iload_n 1, 1) := by decide +kernel
theorem dX8_count_33 : decode cX8_count 33 = .ok (.iload_n 2, 1) := by decide +kernel
theorem dX8_count_34 : decode cX8_count 34 = .ok (.iload_n 3, 1) := by decide +kernel
theorem dX8_count_35 : decode cX8_count 35 = .ok (.invokevirtual 59, 3) := by decide +kernel
theorem dX8_count_38 : decode cX8_count 38 = .ok (.iaload, 1) := by decide +kernel
theorem dX8_count_39 : decode cX8_count 39 = .ok (.iadd, 1) := by decide +kernel
theorem dX8_count_40 : decode cX8_count 40 = .ok (.goto 9, 3) := by decide +kernel
theorem dX8_count_43 : decode cX8_count 43 = .ok (.aload_n 0, 1) := by decide +kernel
theorem dX8_count_44 : decode cX8_count 44 = .ok (.bipush (-2), 2) := by decide +kernel
theorem dX8_count_46 : decode cX8_count 46 = .ok (.invokevirtual 52, 3) := by decide +kernel
theorem dX8_count_49 : decode cX8_count 49 = .ok (.ireturn, 1) := by decide +kernel
theorem dX8_active_0 : decode cX8_active 0 = .ok (.iload_n 1, 1) := by decide +kernel
theorem dX8_active_1 : decode cX8_active 1 = .ok (.invokestatic 111, 3) := by decide +kernel
theorem dX8_active_4 : decode cX8_active 4 = .ok (.ifCond .ne 10, 3) := by decide +kernel
theorem dX8_active_7 : decode cX8_active 7 = .ok (.aload_n 0, 1) := by decide +kernel
theorem dX8_active_8 : decode cX8_active 8 = .ok (.bipush (-2), 2) := by decide +kernel
theorem dX8_active_10 : decode cX8_active 10 = .ok (.invokevirtual 52, 3) := by decide +kernel
theorem dX8_active_13 : decode cX8_active 13 = .ok (.ireturn, 1) := by decide +kernel
theorem dX8_active_14 : decode cX8_active 14 = .ok (.aload_n 0, 1) := by decide +kernel
theorem dX8_active_15 : decode cX8_active 15 = .ok (.iload_n 1, 1) := by decide +kernel
theorem dX8_active_16 : decode cX8_active 16 = .ok (.invokevirtual 152, 3) := by decide +kernel
theorem dX8_active_19 : decode cX8_active 19 = .ok (.aload_n 0, 1) := by decide +kernel
theorem dX8_active_20 : decode cX8_active 20 = .ok (.getfield 149, 3) := by decide +kernel
theorem dX8_active_23 : decode cX8_active 23 = .ok (.ireturn, 1) := by decide +kernel
theorem dX8_frontierAt_0 : decode cX8_frontierAt 0 = .ok (.iconst 0, 1) := by decide +kernel
theorem dX8_frontierAt_1 : decode cX8_frontierAt 1 = .ok (.istore_n 2, 1) := by decide +kernel
theorem dX8_frontierAt_2 : decode cX8_frontierAt 2 = .ok (.iconst (-1), 1) := by decide +kernel
theorem dX8_frontierAt_3 : decode cX8_frontierAt 3 = .ok (.istore_n 3, 1) := by decide +kernel
theorem dX8_frontierAt_4 : decode cX8_frontierAt 4 = .ok (.iconst 0, 1) := by decide +kernel
theorem dX8_frontierAt_5 : decode cX8_frontierAt 5 = .ok (.istore 4, 2) := by decide +kernel
theorem dX8_frontierAt_7 : decode cX8_frontierAt 7 = .ok (.iload 4, 2) := by decide +kernel
theorem dX8_frontierAt_9 : decode cX8_frontierAt 9 = .ok (.aload_n 0, 1) := by decide +kernel
theorem dX8_frontierAt_10 : decode cX8_frontierAt 10 = .ok (.getfield 149, 3) := by decide +kernel
theorem dX8_frontierAt_13 : decode cX8_frontierAt 13 = .ok (.if_icmp .ge 39, 3) := by decide +kernel
theorem dX8_frontierAt_16 : decode cX8_frontierAt 16 = .ok (.aload_n 0, 1) := by decide +kernel
theorem dX8_frontierAt_17 : decode cX8_frontierAt 17 = .ok (.getfield 40, 3) := by decide +kernel
theorem dX8_frontierAt_20 : decode cX8_frontierAt 20 = .ok (.iload 4, 2) := by decide +kernel
theorem dX8_frontierAt_22 : decode cX8_frontierAt 22 = .ok (.baload, 1) := by decide +kernel
theorem dX8_frontierAt_23 : decode cX8_frontierAt 23 = .ok (.ifCond .eq 23, 3) := by decide +kernel
theorem dX8_frontierAt_26 : decode cX8_frontierAt 26 = .ok (.iload_n 2, 1) := by decide +kernel
theorem dX8_frontierAt_27 : decode cX8_frontierAt 27 = .ok (.iload_n 1, 1) := by decide +kernel
theorem dX8_frontierAt_28 : decode cX8_frontierAt 28 = .ok (.if_icmp .ne 13, 3) := by decide +kernel
theorem dX8_frontierAt_31 : decode cX8_frontierAt 31 = .ok (.aload_n 0, 1) := by decide +kernel
theorem dX8_frontierAt_32 : decode cX8_frontierAt 32 = .ok (.getfield 37, 3) := by decide +kernel
theorem dX8_frontierAt_35 : decode cX8_frontierAt 35 = .ok (.iload 4, 2) := by decide +kernel
theorem dX8_frontierAt_37 : decode cX8_frontierAt 37 = .ok (.iaload, 1) := by decide +kernel
theorem dX8_frontierAt_38 : decode cX8_frontierAt 38 = .ok (.goto 4, 3) := by decide +kernel
theorem dX8_frontierAt_41 : decode cX8_frontierAt 41 = .ok (.iload_n 3, 1) := by decide +kernel
theorem dX8_frontierAt_42 : decode cX8_frontierAt 42 = .ok (.istore_n 3, 1) := by decide +kernel
theorem dX8_frontierAt_43 : decode cX8_frontierAt 43 = .ok (.iinc 2 1, 3) := by decide +kernel
theorem dX8_frontierAt_46 : decode cX8_frontierAt 46 = .ok (.iinc 4 1, 3) := by decide +kernel
theorem dX8_frontierAt_49 : decode cX8_frontierAt 49 = .ok (.goto (-42), 3) := by decide +kernel
theorem dX8_frontierAt_52 : decode cX8_frontierAt 52 = .ok (.iload_n 1, 1) := by decide +kernel
theorem dX8_frontierAt_53 : decode cX8_frontierAt 53 = .ok (.iconst (-1), 1) := by decide +kernel
theorem dX8_frontierAt_54 : decode cX8_frontierAt 54 = .ok (.if_icmp .ne 7, 3) := by decide +kernel
theorem dX8_frontierAt_57 : decode cX8_frontierAt 57 = .ok (.iload_n 2, 1) := by decide +kernel
theorem dX8_frontierAt_58 : decode cX8_frontierAt 58 = .ok (.goto 4, 3) := by decide +kernel
theorem dX8_frontierAt_61 : decode cX8_frontierAt 61 = .ok (.iload_n 3, 1) := by decide +kernel
theorem dX8_frontierAt_62 : decode cX8_frontierAt 62 = .ok (.ireturn, 1) := by decide +kernel
theorem dX8_frontier_0 : decode cX8_frontier 0 = .ok (.iload_n 1, 1) := by decide +kernel
theorem dX8_frontier_1 : decode cX8_frontier 1 = .ok (.invokestatic 111, 3) := by decide +kernel
theorem dX8_frontier_4 : decode cX8_frontier 4 = .ok (.ifCond .eq 8, 3) := by decide +kernel
theorem dX8_frontier_7 : decode cX8_frontier 7 = .ok (.iload_n 2, 1) := by decide +kernel
theorem dX8_frontier_8 : decode cX8_frontier 8 = .ok (.iconst (-1), 1) := by decide +kernel
theorem dX8_frontier_9 : decode cX8_frontier 9 = .ok (.if_icmp .ge 10, 3) := by decide +kernel
theorem dX8_frontier_12 : decode cX8_frontier 12 = .ok (.aload_n 0, 1) := by decide +kernel
theorem dX8_frontier_13 : decode cX8_frontier 13 = .ok (.bipush (-2), 2) := by decide +kernel
theorem dX8_frontier_15 : decode cX8_frontier 15 = .ok (.invokevirtual 52, 3) := by decide +kernel
theorem dX8_frontier_18 : decode cX8_frontier 18 = .ok (.ireturn, 1) := by decide +kernel
theorem dX8_frontier_19 : decode cX8_frontier 19 = .ok (.aload_n 0, 1) := by decide +kernel
theorem dX8_frontier_20 : decode cX8_frontier 20 = .ok (.iload_n 1, 1) := by decide +kernel
theorem dX8_frontier_21 : decode cX8_frontier 21 = .ok (.invokevirtual 159, 3) := by decide +kernel
theorem dX8_frontier_24 : decode cX8_frontier 24 = .ok (.aload_n 0, 1) := by decide +kernel
theorem dX8_frontier_25 : decode cX8_frontier 25 = .ok (.iload_n 2, 1) := by decide +kernel
theorem dX8_frontier_26 : decode cX8_frontier 26 = .ok (.invokevirtual 168, 3) := by decide +kernel
theorem dX8_frontier_29 : decode cX8_frontier 29 = .ok (.ireturn, 1) := by decide +kernel
