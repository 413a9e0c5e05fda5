theorem dX7_mixMail_50 : decode cX7_mixMail 50 = .ok (.iload 7, 2) := by decide +kernel
theorem dX7_mixMail_52 : decode cX7_mixMail 52 = .ok (.if_icmp .ge 31, 3) := by decide +kernel
theorem dX7_mixMail_55 : decode cX7_mixMail 55 = .ok (.lload 4, 2) := by decide +kernel
theorem dX7_mixMail_57 : decode cX7_mixMail 57 = .ok (.aload_n 0, 1) := by decide +kernel
theorem dX7_mixMail_58 : decode cX7_mixMail 58 = .ok (.getfield 27, 3) := by decide +kernel
theorem dX7_mixMail_61 : decode cX7_mixMail 61 = .ok (.getfield 120, 3) := by decide +kernel
theorem dX7_mixMail_64 : decode cX7_mixMail 64 = .ok (.iload_n 3, 1) := by decide +kernel
theorem dX7_mixMail_65 : decode cX7_mixMail 65 = .ok (.iload 6, 2) := by decide +kernel
theorem dX7_mixMail_67 : decode cX7_mixMail 67 = .ok (.iload 8, 2) := by decide +kernel
theorem dX7_mixMail_69 : decode cX7_mixMail 69 = .ok (.invokevirtual 199, 3) := by decide +kernel
theorem dX7_mixMail_72 : decode cX7_mixMail 72 = .ok (.invokestatic 241, 3) := by decide +kernel
theorem dX7_mixMail_75 : decode cX7_mixMail 75 = .ok (.lstore 4, 2) := by decide +kernel
theorem dX7_mixMail_77 : decode cX7_mixMail 77 = .ok (.iinc 8 1, 3) := by decide +kernel
theorem dX7_mixMail_80 : decode cX7_mixMail 80 = .ok (.goto (-32), 3) := by decide +kernel
theorem dX7_mixMail_83 : decode cX7_mixMail 83 = .ok (.iinc 6 1, 3) := by decide +kernel
theorem dX7_mixMail_86 : decode cX7_mixMail 86 = .ok (.goto (-80), 3) := by decide +kernel
theorem dX7_mixMail_89 : decode cX7_mixMail 89 = .ok (.lload 4, 2) := by decide +kernel
theorem dX7_mixMail_91 : decode cX7_mixMail 91 = .ok (.lreturn, 1) := by decide +kernel
theorem dX7_mixNotifications_0 : decode cX7_mixNotifications 0 = .ok (.lload_n 1, 1) := by decide +kernel
theorem dX7_mixNotifications_1 : decode cX7_mixNotifications 1 = .ok (.lstore 4, 2) := by decide +kernel
theorem dX7_mixNotifications_3 : decode cX7_mixNotifications 3 = .ok (.iconst 0, 1) := by decide +kernel
theorem dX7_mixNotifications_4 : decode cX7_mixNotifications 4 = .ok (.istore 6, 2) := by decide +kernel
theorem dX7_mixNotifications_6 : decode cX7_mixNotifications 6 = .ok (.iload 6, 2) := by decide +kernel
theorem dX7_mixNotifications_8 : decode cX7_mixNotifications 8 = .ok (.aload_n 0, 1) := by decide +kernel
theorem dX7_mixNotifications_9 : decode cX7_mixNotifications 9 = .ok (.getfield 27, 3) := by decide +kernel
theorem dX7_mixNotifications_12 : decode cX7_mixNotifications 12 = .ok (.getfield 43, 3) := by decide +kernel
theorem dX7_mixNotifications_15 : decode cX7_mixNotifications 15 = .ok (.getfield 47, 3) := by decide +kernel
theorem dX7_mixNotifications_18 : decode cX7_mixNotifications 18 = .ok (.if_icmp .ge 43, 3) := by decide +kernel
theorem dX7_mixNotifications_21 : decode cX7_mixNotifications 21 = .ok (.lload 4, 2) := by decide +kernel
theorem dX7_mixNotifications_23 : decode cX7_mixNotifications 23 = .ok (.aload_n 0, 1) := by decide +kernel
theorem dX7_mixNotifications_24 : decode cX7_mixNotifications 24 = .ok (.getfield 27, 3) := by decide +kernel
theorem dX7_mixNotifications_27 : decode cX7_mixNotifications 27 = .ok (.getfield 155, 3) := by decide +kernel
theorem dX7_mixNotifications_30 : decode cX7_mixNotifications 30 = .ok (.iload_n 3, 1) := by decide +kernel
theorem dX7_mixNotifications_31 : decode cX7_mixNotifications 31 = .ok (.iload 6, 2) := by decide +kernel
theorem dX7_mixNotifications_33 : decode cX7_mixNotifications 33 = .ok (.invokevirtual 203, 3) := by decide +kernel
theorem dX7_mixNotifications_36 : decode cX7_mixNotifications 36 = .ok (.invokestatic 241, 3) := by decide +kernel
theorem dX7_mixNotifications_39 : decode cX7_mixNotifications 39 = .ok (.lstore 4, 2) := by decide +kernel
theorem dX7_mixNotifications_41 : decode cX7_mixNotifications 41 = .ok (.lload 4, 2) := by decide +kernel
theorem dX7_mixNotifications_43 : decode cX7_mixNotifications 43 = .ok (.aload_n 0, 1) := by decide +kernel
theorem dX7_mixNotifications_44 : decode cX7_mixNotifications 44 = .ok (.iload_n 3, 1) := by decide +kernel
theorem dX7_mixNotifications_45 : decode cX7_mixNotifications 45 = .ok (.iload 6, 2) := by decide +kernel
theorem dX7_mixNotifications_47 : decode cX7_mixNotifications 47 = .ok (.invokevirtual 176, 3) := by decide +kernel
theorem dX7_mixNotifications_50 : decode cX7_mixNotifications 50 = .ok (.invokestatic 241, 3) := by decide +kernel
theorem dX7_mixNotifications_53 : decode cX7_mixNotifications 53 = .ok (.lstore 4, 2) := by decide +kernel
theorem dX7_mixNotifications_55 : decode cX7_mixNotifications 55 = .ok (.iinc 6 1, 3) := by decide +kernel
theorem dX7_mixNotifications_58 : decode cX7_mixNotifications 58 = .ok (.goto (-52), 3) := by decide +kernel
theorem dX7_mixNotifications_61 : decode cX7_mixNotifications 61 = .ok (.lload 4, 2) := by decide +kernel
theorem dX7_mixNotifications_63 : decode cX7_mixNotifications 63 = .ok (.lreturn, 1) := by decide +kernel
theorem dX7_mixView_0 : decode cX7_mixView 0 = .ok (.aload_n 0, 1) := by decide +kernel
theorem dX7_mixView_1 : decode cX7_mixView 1 = .ok (.getfield 27, 3) := by decide +kernel
theorem dX7_mixView_4 : decode cX7_mixView 4 = .ok (.getfield 189, 3) := by decide +kernel
theorem dX7_mixView_7 : decode cX7_mixView 7 = .ok (.iload_n 3, 1) := by decide +kernel
theorem dX7_mixView_8 : decode cX7_mixView 8 = .ok (.aaload, 1) := by decide +kernel
theorem dX7_mixView_9 : decode cX7_mixView 9 = .ok (.astore 4, 2) := by decide +kernel
theorem dX7_mixView_11 : decode cX7_mixView 11 = .ok (.lload_n 1, 1) := by decide +kernel
theorem dX7_mixView_12 : decode cX7_mixView 12 = .ok (.aload 4, 2) := by decide +kernel
theorem dX7_mixView_14 : decode cX7_mixView 14 = .ok (.invokevirtual 211, 3) := by decide +kernel
theorem dX7_mixView_17 : decode cX7_mixView 17 = .ok (.invokestatic 241, 3) := by decide +kernel
theorem dX7_mixView_20 : decode cX7_mixView 20 = .ok (.lstore 5, 2) := by decide +kernel
theorem dX7_mixView_22 : decode cX7_mixView 22 = .ok (.aload_n 0, 1) := by decide +kernel
theorem dX7_mixView_23 : decode cX7_mixView 23 = .ok (.aload 4, 2) := by decide +kernel
theorem dX7_mixView_25 : decode cX7_mixView 25 = .ok (.invokevirtual 261, 3) := by decide +kernel
theorem dX7_mixView_28 : decode cX7_mixView 28 = .ok (.istore 7, 2) := by decide +kernel
theorem dX7_mixView_30 : decode cX7_mixView 30 = .ok (.lload 5, 2) := by decide +kernel
theorem dX7_mixView_32 : decode cX7_mixView 32 = .ok (.iload 7, 2) := by decide +kernel
theorem dX7_mixView_34 : decode cX7_mixView 34 = .ok (.invokestatic 241, 3) := by decide +kernel
theorem dX7_mixView_37 : decode cX7_mixView 37 = .ok (.lstore 5, 2) := by decide +kernel
theorem dX7_mixView_39 : decode cX7_mixView 39 = .ok (.iconst 0, 1) := by decide +kernel
theorem dX7_mixView_40 : decode cX7_mixView 40 = .ok (.istore 8, 2) := by decide +kernel
theorem dX7_mixView_42 : decode cX7_mixView 42 = .ok (.iload 8, 2) := by decide +kernel
theorem dX7_mixView_44 : decode cX7_mixView 44 = .ok (.aload 4, 2) := by decide +kernel
theorem dX7_mixView_46 : decode cX7_mixView 46 = .ok (.getfield 215, 3) := by decide +kernel
theorem dX7_mixView_49 : decode cX7_mixView 49 = .ok (.if_icmp .ge 36, 3) := by decide +kernel
theorem dX7_mixView_52 : decode cX7_mixView 52 = .ok (.aload 4, 2) := by decide +kernel
theorem dX7_mixView_54 : decode cX7_mixView 54 = .ok (.getfield 265, 3) := by decide +kernel
theorem dX7_mixView_57 : decode cX7_mixView 57 = .ok (.iload 8, 2) := by decide +kernel
theorem dX7_mixView_59 : decode cX7_mixView 59 = .ok (.iaload, 1) := by decide +kernel
theorem dX7_mixView_60 : decode cX7_mixView 60 = .ok (.iconst 1, 1) := by decide +kernel
theorem dX7_mixView_61 : decode cX7_mixView 61 = .ok (.if_icmp .ne 18, 3) := by decide +kernel
theorem dX7_mixView_64 : decode cX7_mixView 64 = .ok (.lload 5, 2) := by decide +kernel
theorem dX7_mixView_66 : decode cX7_mixView 66 = .ok (.aload 4, 2) := by decide +kernel
theorem dX7_mixView_68 : decode cX7_mixView 68 = .ok (.getfield 222, 3) := by decide +kernel
theorem dX7_mixView_71 : decode cX7_mixView 71 = .ok (.iload 8, 2) := by decide +kernel
theorem dX7_mixView_73 : decode cX7_mixView 73 = .ok (.iaload, 1) := by decide +kernel
theorem dX7_mixView_74 : decode cX7_mixView 74 = .ok (.invokestatic 241, 3) := by decide +kernel
theorem dX7_mixView_77 : decode cX7_mixView 77 = .ok (.lstore 5, 2) := by decide +kernel
theorem dX7_mixView_79 : decode cX7_mixView 79 = .ok (.iinc 8 1, 3) := by decide +kernel
theorem dX7_mixView_82 : decode cX7_mixView 82 = .ok (.goto (-40), 3) := by decide +kernel
theorem dX7_mixView_85 : decode cX7_mixView 85 = .ok (.lload 5, 2) := by decide +kernel
theorem dX7_mixView_87 : decode cX7_mixView 87 = .ok (.aload_n 0, 1) := by decide +kernel
theorem dX7_mixView_88 : decode cX7_mixView 88 = .ok (.getfield 27, 3) := by decide +kernel
theorem dX7_mixView_91 : decode cX7_mixView 91 = .ok (.getfield 185, 3) := by decide +kernel
theorem dX7_mixView_94 : decode cX7_mixView 94 = .ok (.iload_n 3, 1) := by decide +kernel
theorem dX7_mixView_95 : decode cX7_mixView 95 = .ok (.aaload, 1) := by decide +kernel
theorem dX7_mixView_96 : decode cX7_mixView 96 = .ok (.getfield 225, 3) := by decide +kernel
theorem dX7_mixView_99 : decode cX7_mixView 99 = .ok (.invokestatic 241, 3) := by decide +kernel
theorem dX7_mixView_102 : decode cX7_mixView 102 = .ok (.lreturn, 1) := by decide +kernel
theorem dX7_mix_0 : decode cX7_mix 0 = .ok (.ldc2_w 268, 3) := by decide +kernel
theorem dX7_mix_3 : decode cX7_mix 3 = .ok (.lload_n 0, 1) := by decide +kernel
theorem dX7_mix_4 : decode cX7_mix 4 = .ok (.lmul, 1) := by decide +kernel
theorem dX7_mix_5 : decode cX7_mix 5 = .ok (.iload_n 2, 1) := by decide +kernel
theorem dX7_mix_6 : decode cX7_mix 6 = .ok (.i2l, 1) := by decide +kernel
theorem dX7_mix_7 : decode cX7_mix 7 = .ok (.ladd, 1) := by decide +kernel
theorem dX7_mix_8 : decode cX7_mix 8 = .ok (.lreturn, 1) := by decide +kernel
theorem dX7_markFrontier_0 : decode cX7_markFrontier 0 = .ok (.iconst 0, 1) := by decide +kernel
theorem dX7_markFrontier_1 : decode cX7_markFrontier 1 = .ok (.istore_n 2, 1) := by decide +kernel
theorem dX7_markFrontier_2 : decode cX7_markFrontier 2 = .ok (.iconst 0, 1) := by decide +kernel
theorem dX7_markFrontier_3 : decode cX7_markFrontier 3 = .ok (.istore_n 3, 1) := by decide +kernel
theorem dX7_markFrontier_4 : decode cX7_markFrontier 4 = .ok (.iload_n 3, 1) := by decide +kernel
theorem dX7_markFrontier_5 : decode cX7_markFrontier 5 = .ok (.aload_n 1, 1) := by decide +kernel
theorem dX7_markFrontier_6 : decode cX7_markFrontier 6 = .ok (.getfield 215, 3) := by decide +kernel
theorem dX7_markFrontier_9 : decode cX7_markFrontier 9 = .ok (.if_icmp .ge 38, 3) := by decide +kernel
theorem dX7_markFrontier_12 : decode cX7_markFrontier 12 = .ok (.aload_n 1, 1) := by decide +kernel
theorem dX7_markFrontier_13 : decode cX7_markFrontier 13 = .ok (.getfield 265, 3) := by decide +kernel
theorem dX7_markFrontier_16 : decode cX7_markFrontier 16 = .ok (.iload_n 3, 1) := by decide +kernel
theorem dX7_markFrontier_17 : decode cX7_markFrontier 17 = .ok (.aload_n 0, 1) := by decide +kernel
theorem dX7_markFrontier_18 : decode cX7_markFrontier 18 = .ok (.aload_n 1, 1) := by decide +kernel
theorem dX7_markFrontier_19 : decode cX7_markFrontier 19 = .ok (.iload_n 3, 1) := by decide +kernel
theorem dX7_markFrontier_20 : decode cX7_markFrontier 20 = .ok (.invokevirtual 218, 3) := by decide +kernel
theorem dX7_markFrontier_23 : decode cX7_markFrontier 23 = .ok (.ifCond .eq 7, 3) := by decide +kernel
theorem dX7_markFrontier_26 : decode cX7_markFrontier 26 = .ok (.iconst 1, 1) := by decide +kernel
theorem dX7_markFrontier_27 : decode cX7_markFrontier 27 = .ok (.goto 4, 3) := by decide +kernel
theorem dX7_markFrontier_30 : decode cX7_markFrontier 30 = .ok (.iconst 0, 1) := by decide +kernel
theorem dX7_markFrontier_31 : decode cX7_markFrontier 31 = .ok (.iastore, 1) := by decide +kernel
theorem dX7_markFrontier_32 : decode cX7_markFrontier 32 = .ok (.iload_n 2, 1) := by decide +kernel
theorem dX7_markFrontier_33 : decode cX7_markFrontier 33 = .ok (.aload_n 1, 1) := by decide +kernel
theorem dX7_markFrontier_34 : decode cX7_markFrontier 34 = .ok (.getfield 265, 3) := by decide +kernel
theorem dX7_markFrontier_37 : decode cX7_markFrontier 37 = .ok (.iload_n 3, 1) := by decide +kernel
theorem dX7_markFrontier_38 : decode cX7_markFrontier 38 = .ok (.iaload, 1) := by decide +kernel
theorem dX7_markFrontier_39 : decode cX7_markFrontier 39 = .ok (.iadd, 1) := by decide +kernel
theorem dX7_markFrontier_40 : decode cX7_markFrontier 40 = .ok (.istore_n 2, 1) := by decide +kernel
theorem dX7_markFrontier_41 : decode cX7_markFrontier 41 = .ok (.iinc 3 1, 3) := by decide +kernel
theorem dX7_markFrontier_44 : decode cX7_markFrontier 44 = .ok (.goto (-40), 3) := by decide +kernel
theorem dX7_markFrontier_47 : decode cX7_markFrontier 47 = .ok (.iload_n 2, 1) := by decide +kernel
theorem dX7_markFrontier_48 : decode cX7_markFrontier 48 = .ok (.ireturn, 1) := by decide +kernel
theorem dX7_isOnFrontier_0 : decode cX7_isOnFrontier 0 = .ok (.aload_n 1, 1) := by decide +kernel
theorem dX7_isOnFrontier_1 : decode cX7_isOnFrontier 1 = .ok (.getfield 270, 3) := by decide +kernel
theorem dX7_isOnFrontier_4 : decode cX7_isOnFrontier 4 = .ok (.iload_n 2, 1) := by decide +kernel
theorem dX7_isOnFrontier_5 : decode cX7_isOnFrontier 5 = .ok (.iaload, 1) := by decide +kernel
theorem dX7_isOnFrontier_6 : decode cX7_isOnFrontier 6 = .ok (.ifCond .gt 5, 3) := by decide +kernel
theorem dX7_isOnFrontier_9 : decode cX7_isOnFrontier 9 = .ok (.iconst 0, 1) := by decide +kernel
theorem dX7_isOnFrontier_10 : decode cX7_isOnFrontier 10 = .ok (.ireturn, 1) := by decide +kernel
theorem dX7_isOnFrontier_11 : decode cX7_isOnFrontier 11 = .ok (.aload_n 1, 1) := by decide +kernel
theorem dX7_isOnFrontier_12 : decode cX7_isOnFrontier 12 = .ok (.getfield 222, 3) := by decide +kernel
theorem dX7_isOnFrontier_15 : decode cX7_isOnFrontier 15 = .ok (.iload_n 2, 1) := by decide +kernel
theorem dX7_isOnFrontier_16 : decode cX7_isOnFrontier 16 = .ok (.iaload, 1) := by decide +kernel
theorem dX7_isOnFrontier_17 : decode cX7_isOnFrontier 17 = .ok (.istore_n 3, 1) := by decide +kernel
theorem dX7_isOnFrontier_18 : decode cX7_isOnFrontier 18 = .ok (.iconst 0, 1) := by decide +kernel
theorem dX7_isOnFrontier_19 : decode cX7_isOnFrontier 19 = .ok (.istore 4, 2) := by decide +kernel
theorem dX7_isOnFrontier_21 : decode cX7_isOnFrontier 21 = .ok (.iload 4, 2) := by decide +kernel
theorem dX7_isOnFrontier_23 : decode cX7_isOnFrontier 23 = .ok (.aload_n 1, 1) := by decide +kernel
theorem dX7_isOnFrontier_24 : decode cX7_isOnFrontier 24 = .ok (.getfield 215, 3) := by decide +kernel
theorem dX7_isOnFrontier_27 : decode cX7_isOnFrontier 27 = .ok (.if_icmp .ge 52, 3) := by decide +kernel
theorem dX7_isOnFrontier_30 : decode cX7_isOnFrontier 30 = .ok (.iload 4, 2) := by decide +kernel
theorem dX7_isOnFrontier_32 : decode cX7_isOnFrontier 32 = .ok (.iload_n 2, 1) := by decide +kernel
theorem dX7_isOnFrontier_33 : decode cX7_isOnFrontier 33 = .ok (.if_icmp .eq 40, 3) := by decide +kernel
theorem dX7_isOnFrontier_36 : decode cX7_isOnFrontier 36 = .ok (.aload_n 1, 1) := by decide +kernel
theorem dX7_isOnFrontier_37 : decode cX7_isOnFrontier 37 = .ok (.getfield 270, 3) := by decide +kernel
theorem dX7_isOnFrontier_40 : decode cX7_isOnFrontier 40 = .ok (.iload 4, 2) := by decide +kernel
theorem dX7_isOnFrontier_42 : decode cX7_isOnFrontier 42 = .ok (.iaload, 1) := by decide +kernel
theorem dX7_isOnFrontier_43 : decode cX7_isOnFrontier 43 = .ok (.ifCond .le 30, 3) := by decide +kernel
theorem dX7_isOnFrontier_46 : decode cX7_isOnFrontier 46 = .ok (.aload_n 0, 1) := by decide +kernel
theorem dX7_isOnFrontier_47 : decode cX7_isOnFrontier 47 = .ok (.getfield 22, 3) := by decide +kernel
theorem dX7_isOnFrontier_50 : decode cX7_isOnFrontier 50 = .ok (.aload_n 0, 1) := by decide +kernel
theorem dX7_isOnFrontier_51 : decode cX7_isOnFrontier 51 = .ok (.getfield 27, 3) := by decide +kernel
theorem dX7_isOnFrontier_54 : decode cX7_isOnFrontier 54 = .ok (.getfield 43, 3) := by decide +kernel
theorem dX7_isOnFrontier_57 : decode cX7_isOnFrontier 57 = .ok (.aload_n 1, 1) := by decide +kernel
theorem dX7_isOnFrontier_58 : decode cX7_isOnFrontier 58 = .ok (.getfield 222, 3) := by decide +kernel
theorem dX7_isOnFrontier_61 : decode cX7_isOnFrontier 61 = .ok (.iload 4, 2) := by decide +kernel
theorem dX7_isOnFrontier_63 : decode cX7_isOnFrontier 63 = .ok (.iaload, 1) := by decide +kernel
theorem dX7_isOnFrontier_64 : decode cX7_isOnFrontier 64 = .ok (.iload_n 3, 1) := by decide +kernel
theorem dX7_isOnFrontier_65 : decode cX7_isOnFrontier 65 = .ok (.invokevirtual 97, 3) := by decide +kernel
theorem dX7_isOnFrontier_68 : decode cX7_isOnFrontier 68 = .ok (.ifCond .eq 5, 3) := by decide +kernel
theorem dX7_isOnFrontier_71 : decode cX7_isOnFrontier 71 = .ok (.iconst 0, 1) := by decide +kernel
theorem dX7_isOnFrontier_72 : decode cX7_isOnFrontier 72 = .ok (.ireturn, 1) := by decide +kernel
theorem dX7_isOnFrontier_73 : decode cX7_isOnFrontier 73 = .ok (.iinc 4 1, 3) := by decide +kernel
theorem dX7_isOnFrontier_76 : decode cX7_isOnFrontier 76 = .ok (.goto (-55), 3) := by decide +kernel
theorem dX7_isOnFrontier_79 : decode cX7_isOnFrontier 79 = .ok (.iconst 1, 1) := by decide +kernel
theorem dX7_isOnFrontier_80 : decode cX7_isOnFrontier 80 = .ok (.ireturn, 1) := by decide +kernel
theorem dX7_leastDeliverable_0 : decode cX7_leastDeliverable 0 = .ok (.aload_n 0, 1) := by decide +kernel
theorem dX7_leastDeliverable_1 : decode cX7_leastDeliverable 1 = .ok (.getfield 27, 3) := by decide +kernel
theorem dX7_leastDeliverable_4 : decode cX7_leastDeliverable 4 = .ok (.getfield 155, 3) := by decide +kernel
theorem dX7_leastDeliverable_7 : decode cX7_leastDeliverable 7 = .ok (.astore_n 3, 1) := by decide +kernel
theorem dX7_leastDeliverable_8 : decode cX7_leastDeliverable 8 = .ok (.aload_n 0, 1) := by decide +kernel
theorem dX7_leastDeliverable_9 : decode cX7_leastDeliverable 9 = .ok (.getfield 27, 3) := by decide +kernel
theorem dX7_leastDeliverable_12 : decode cX7_leastDeliverable 12 = .ok (.getfield 189, 3) := by decide +kernel
theorem dX7_leastDeliverable_15 : decode cX7_leastDeliverable 15 = .ok (.iload_n 1, 1) := by decide +kernel
theorem dX7_leastDeliverable_16 : decode cX7_leastDeliverable 16 = .ok (.aaload, 1) := by decide +kernel
theorem dX7_leastDeliverable_17 : decode cX7_leastDeliverable 17 = .ok (.astore 4, 2) := by decide +kernel
theorem dX7_leastDeliverable_19 : decode cX7_leastDeliverable 19 = .ok (.iconst (-1), 1) := by decide +kernel
theorem dX7_leastDeliverable_20 : decode cX7_leastDeliverable 20 = .ok (.istore 5, 2) := by decide +kernel
theorem dX7_leastDeliverable_22 : decode cX7_leastDeliverable 22 = .ok (.iconst 0, 1) := by decide +kernel
theorem dX7_leastDeliverable_23 : decode cX7_leastDeliverable 23 = .ok (.istore 6, 2) := by decide +kernel
theorem dX7_leastDeliverable_25 : decode cX7_leastDeliverable 25 = .ok (.iload 6, 2) := by decide +kernel
theorem dX7_leastDeliverable_27 : decode cX7_leastDeliverable 27 = .ok (.aload_n 3, 1) := by decide +kernel
theorem dX7_leastDeliverable_28 : decode cX7_leastDeliverable 28 = .ok (.iload_n 1, 1) := by decide +kernel
theorem dX7_leastDeliverable_29 : decode cX7_leastDeliverable 29 = .ok (.invokevirtual 273, 3) := by decide +kernel
theorem dX7_leastDeliverable_32 : decode cX7_leastDeliverable 32 = .ok (.if_icmp .ge 79, 3) := by decide +kernel
theorem dX7_leastDeliverable_35 : decode cX7_leastDeliverable 35 = .ok (.aload_n 3, 1) := by decide +kernel
theorem dX7_leastDeliverable_36 : decode cX7_leastDeliverable 36 = .ok (.iload_n 1, 1) := by decide +kernel
theorem dX7_leastDeliverable_37 : decode cX7_leastDeliverable 37 = .ok (.iload 6, 2) := by decide +kernel
theorem dX7_leastDeliverable_39 : decode cX7_leastDeliverable 39 = .ok (.invokevirtual 275, 3) := by decide +kernel
theorem dX7_leastDeliverable_42 : decode cX7_leastDeliverable 42 = .ok (.istore 7, 2) := by decide +kernel
theorem dX7_leastDeliverable_44 : decode cX7_leastDeliverable 44 = .ok (.iload 7, 2) := by decide +kernel
theorem dX7_leastDeliverable_46 : decode cX7_leastDeliverable 46 = .ok (.sipush 1000, 3) := by decide +kernel
theorem dX7_leastDeliverable_49 : decode cX7_leastDeliverable 49 = .ok (.irem, 1) := by decide +kernel
theorem dX7_leastDeliverable_50 : decode cX7_leastDeliverable 50 = .ok (.istore 8, 2) := by decide +kernel
theorem dX7_leastDeliverable_52 : decode cX7_leastDeliverable 52 = .ok (.iload 7, 2) := by decide +kernel
theorem dX7_leastDeliverable_54 : decode cX7_leastDeliverable 54 = .ok (.sipush 1000, 3) := by decide +kernel
theorem dX7_leastDeliverable_57 : decode cX7_leastDeliverable 57 = .ok (.idiv, 1) := by decide +kernel
theorem dX7_leastDeliverable_58 : decode cX7_leastDeliverable 58 = .ok (.iload_n 2, 1) := by decide +kernel
theorem dX7_leastDeliverable_59 : decode cX7_leastDeliverable 59 = .ok (.if_icmp .ne 46, 3) := by decide +kernel
theorem dX7_leastDeliverable_62 : decode cX7_leastDeliverable 62 = .ok (.iload 5, 2) := by decide +kernel
theorem dX7_leastDeliverable_64 : decode cX7_leastDeliverable 64 = .ok (.iconst (-1), 1) := by decide +kernel
theorem dX7_leastDeliverable_65 : decode cX7_leastDeliverable 65 = .ok (.if_icmp .eq 10, 3) := by decide +kernel
theorem dX7_leastDeliverable_68 : decode cX7_leastDeliverable 68 = .ok (.iload 8, 2) := by decide +kernel
theorem dX7_leastDeliverable_70 : decode cX7_leastDeliverable 70 = .ok (.iload 5, 2) := by decide +kernel
theorem dX7_leastDeliverable_72 : decode cX7_leastDeliverable 72 = .ok (.if_icmp .ge 33, 3) := by decide +kernel
theorem dX7_leastDeliverable_75 : decode cX7_leastDeliverable 75 = .ok (.aload 4, 2) := by decide +kernel
theorem dX7_leastDeliverable_77 : decode cX7_leastDeliverable 77 = .ok (.iload 7, 2) := by decide +kernel
theorem dX7_leastDeliverable_79 : decode cX7_leastDeliverable 79 = .ok (.invokevirtual 278, 3) := by decide +kernel
theorem dX7_leastDeliverable_82 : decode cX7_leastDeliverable 82 = .ok (.istore 9, 2) := by decide +kernel
theorem dX7_leastDeliverable_84 : decode cX7_leastDeliverable 84 = .ok (.iload 9, 2) := by decide +kernel
theorem dX7_leastDeliverable_86 : decode cX7_leastDeliverable 86 = .ok (.iconst (-1), 1) := by decide +kernel
theorem dX7_leastDeliverable_87 : decode cX7_leastDeliverable 87 = .ok (.if_icmp .eq 18, 3) := by decide +kernel
theorem dX7_leastDeliverable_90 : decode cX7_leastDeliverable 90 = .ok (.aload_n 0, 1) := by decide +kernel
theorem dX7_leastDeliverable_91 : decode cX7_leastDeliverable 91 = .ok (.aload 4, 2) := by decide +kernel
theorem dX7_leastDeliverable_93 : decode cX7_leastDeliverable 93 = .ok (.iload 9, 2) := by decide +kernel
theorem dX7_leastDeliverable_95 : decode cX7_leastDeliverable 95 = .ok (.invokevirtual 218, 3) := by decide +kernel
theorem dX7_leastDeliverable_98 : decode cX7_leastDeliverable 98 = .ok (.ifCond .eq 7, 3) := by decide +kernel
theorem dX7_leastDeliverable_101 : decode cX7_leastDeliverable 101 = .ok (.iload 8, 2) := by decide +kernel
theorem dX7_leastDeliverable_103 : decode cX7_leastDeliverable 103 = .ok (.istore 5, 2) := by decide +kernel
theorem dX7_leastDeliverable_105 : decode cX7_leastDeliverable 105 = .ok (.iinc 6 1, 3) := by decide +kernel
theorem dX7_leastDeliverable_108 : decode cX7_leastDeliverable 108 = .ok (.goto (-83), 3) := by decide +kernel
theorem dX7_leastDeliverable_111 : decode cX7_leastDeliverable 111 = .ok (.iload 5, 2) := by decide +kernel
theorem dX7_leastDeliverable_113 : decode cX7_leastDeliverable 113 = .ok (.ireturn, 1) := by decide +kernel
theorem dX7_fail_0 : decode cX7_fail 0 = .ok (.aload_n 0, 1) := by decide +kernel
theorem dX7_fail_1 : decode cX7_fail 1 = .ok (.getfield 9, 3) := by decide +kernel
theorem dX7_fail_4 : decode cX7_fail 4 = .ok (.bipush (-2), 2) := by decide +kernel
theorem dX7_fail_6 : decode cX7_fail 6 = .ok (.iload_n 1, 1) := by decide +kernel
theorem dX7_fail_7 : decode cX7_fail 7 = .ok (.isub, 1) := by decide +kernel
theorem dX7_fail_8 : decode cX7_fail 8 = .ok (.dup2, 1) := by decide +kernel
theorem dX7_fail_9 : decode cX7_fail 9 = .ok (.iaload, 1) := by decide +kernel
theorem dX7_fail_10 : decode cX7_fail 10 = .ok (.iconst 1, 1) := by decide +kernel
theorem dX7_fail_11 : decode cX7_fail 11 = .ok (.iadd, 1) := by decide +kernel
theorem dX7_fail_12 : decode cX7_fail 12 = .ok (.iastore, 1) := by decide +kernel
theorem dX7_fail_13 : decode cX7_fail 13 = .ok (.iload_n 1, 1) := by decide +kernel
theorem dX7_fail_14 : decode cX7_fail 14 = .ok (.ireturn, 1) := by decide +kernel
theorem dX7_beginEvent_0 : decode cX7_beginEvent 0 = .ok (.aload_n 0, 1) := by decide +kernel
theorem dX7_beginEvent_1 : decode cX7_beginEvent 1 = .ok (.invokevirtual 53, 3) := by decide +kernel
theorem dX7_beginEvent_4 : decode cX7_beginEvent 4 = .ok (.aload_n 0, 1) := by decide +kernel
theorem dX7_beginEvent_5 : decode cX7_beginEvent 5 = .ok (.getfield 27, 3) := by decide +kernel
theorem dX7_beginEvent_8 : decode cX7_beginEvent 8 = .ok (.iconst 1, 1) := by decide +kernel
theorem dX7_beginEvent_9 : decode cX7_beginEvent 9 = .ok (.putfield 39, 3) := by decide +kernel
theorem dX7_beginEvent_12 : decode cX7_beginEvent 12 = .ok (.return_, 1) := by decide +kernel
theorem dX7_save_0 : decode cX7_save 0 = .ok (.aload_n 0, 1) := by decide +kernel
theorem dX7_save_1 : decode cX7_save 1 = .ok (.getfield 232, 3) := by decide +kernel
theorem dX7_save_4 : decode cX7_save 4 = .ok (.iconst 3, 1) := by decide +kernel
theorem dX7_save_5 : decode cX7_save 5 = .ok (.if_icmp .ne 7, 3) := by decide +kernel
theorem dX7_save_8 : decode cX7_save 8 = .ok (.aload_n 0, 1) := by decide +kernel
theorem dX7_save_9 : decode cX7_save 9 = .ok (.invokevirtual 281, 3) := by decide +kernel
theorem dX7_save_12 : decode cX7_save 12 = .ok (.aload_n 0, 1) := by decide +kernel
theorem dX7_save_13 : decode cX7_save 13 = .ok (.getfield 15, 3) := by decide +kernel
theorem dX7_save_16 : decode cX7_save 16 = .ok (.aload_n 0, 1) := by decide +kernel
theorem dX7_save_17 : decode cX7_save 17 = .ok (.getfield 232, 3) := by decide +kernel
theorem dX7_save_20 : decode cX7_save 20 = .ok (.aaload, 1) := by decide +kernel
theorem dX7_save_21 : decode cX7_save 21 = .ok (.aload_n 0, 1) := by decide +kernel
theorem dX7_save_22 : decode cX7_save 22 = .ok (.getfield 27, 3) := by decide +kernel
theorem dX7_save_25 : decode cX7_save 25 = .ok (.invokevirtual 284, 3) := by decide +kernel
theorem dX7_save_28 : decode cX7_save 28 = .ok (.aload_n 0, 1) := by decide +kernel
theorem dX7_save_29 : decode cX7_save 29 = .ok (.dup, 1) := by decide +kernel
theorem dX7_save_30 : decode cX7_save 30 = .ok (.getfield 232, 3) := by decide +kernel
theorem dX7_save_33 : decode cX7_save 33 = .ok (.iconst 1, 1) := by decide +kernel
theorem dX7_save_34 : decode cX7_save 34 = .ok (.iadd, 1) := by decide +kernel
theorem dX7_save_35 : decode cX7_save 35 = .ok (.putfield 232, 3) := by decide +kernel
theorem dX7_save_38 : decode cX7_save 38 = .ok (.return_, 1) := by decide +kernel
theorem dX7_dropOldest_0 : decode cX7_dropOldest 0 = .ok (.aload_n 0, 1) := by decide +kernel
theorem dX7_dropOldest_1 : decode cX7_dropOldest 1 = .ok (.getfield 15, 3) := by decide +kernel
theorem dX7_dropOldest_4 : decode cX7_dropOldest 4 = .ok (.iconst 0, 1) := by decide +kernel
theorem dX7_dropOldest_5 : decode cX7_dropOldest 5 = .ok (.aaload, 1) := by decide +kernel
theorem dX7_dropOldest_6 : decode cX7_dropOldest 6 = .ok (.astore_n 1, 1) := by decide +kernel
theorem dX7_dropOldest_7 : decode cX7_dropOldest 7 = .ok (.iconst 1, 1) := by decide +kernel
theorem dX7_dropOldest_8 : decode cX7_dropOldest 8 = .ok (.istore_n 2, 1) := by decide +kernel
theorem dX7_dropOldest_9 : decode cX7_dropOldest 9 = .ok (.iload_n 2, 1) := by decide +kernel
theorem dX7_dropOldest_10 : decode cX7_dropOldest 10 = .ok (.iconst 3, 1) := by decide +kernel
theorem dX7_dropOldest_11 : decode cX7_dropOldest 11 = .ok (.if_icmp .ge 23, 3) := by decide +kernel
theorem dX7_dropOldest_14 : decode cX7_dropOldest 14 = .ok (.aload_n 0, 1) := by decide +kernel
theorem dX7_dropOldest_15 : decode cX7_dropOldest 15 = .ok (.getfield 15, 3) := by decide +kernel
theorem dX7_dropOldest_18 : decode cX7_dropOldest 18 = .ok (.iload_n 2, 1) := by decide +kernel
theorem dX7_dropOldest_19 : decode cX7_dropOldest 19 = .ok (.iconst 1, 1) := by decide +kernel
theorem dX7_dropOldest_20 : decode cX7_dropOldest 20 = .ok (.isub, 1) := by decide +kernel
theorem dX7_dropOldest_21 : decode cX7_dropOldest 21 = .ok (.aload_n 0, 1) := by decide +kernel
theorem dX7_dropOldest_22 : decode cX7_dropOldest 22 = .ok (.getfield 15, 3) := by decide +kernel
theorem dX7_dropOldest_25 : decode cX7_dropOldest 25 = .ok (.iload_n 2, 1) := by decide +kernel
theorem dX7_dropOldest_26 : decode cX7_dropOldest 26 = .ok (.aaload, 1) := by decide +kernel
theorem dX7_dropOldest_27 : decode cX7_dropOldest 27 = .ok (.aastore, 1) := by decide +kernel
theorem dX7_dropOldest_28 : decode cX7_dropOldest 28 = .ok (.iinc 2 1, 3) := by decide +kernel
theorem dX7_dropOldest_31 : decode cX7_dropOldest 31 = .ok (.goto (-22), 3) := by decide +kernel
theorem dX7_dropOldest_34 : decode cX7_dropOldest 34 = .ok (.aload_n 0, 1) := by decide +kernel
theorem dX7_dropOldest_35 : decode cX7_dropOldest 35 = .ok (.getfield 15, 3) := by decide +kernel
theorem dX7_dropOldest_38 : decode cX7_dropOldest 38 = .ok (.iconst 2, 1) := by decide +kernel
theorem dX7_dropOldest_39 : decode cX7_dropOldest 39 = .ok (.aload_n 1, 1) := by decide +kernel
theorem dX7_dropOldest_40 : decode cX7_dropOldest 40 = .ok (.aastore, 1) := by decide +kernel
theorem dX7_dropOldest_41 : decode cX7_dropOldest 41 = .ok (.aload_n 0, 1) := by decide +kernel
theorem dX7_dropOldest_42 : decode cX7_dropOldest 42 = .ok (.dup, 1) := by decide +kernel
theorem dX7_dropOldest_43 : decode cX7_dropOldest 43 = .ok (.getfield 232, 3) := by decide +kernel
theorem dX7_dropOldest_46 : decode cX7_dropOldest 46 = .ok (.iconst 1, 1) := by decide +kernel
theorem dX7_dropOldest_47 : decode cX7_dropOldest 47 = .ok (.isub, 1) := by decide +kernel
theorem dX7_dropOldest_48 : decode cX7_dropOldest 48 = .ok (.putfield 232, 3) := by decide +kernel
theorem dX7_dropOldest_51 : decode cX7_dropOldest 51 = .ok (.return_, 1) := by decide +kernel
theorem dX7_isWorker_0 : decode cX7_isWorker 0 = .ok (.iload_n 0, 1) := by decide +kernel
theorem dX7_isWorker_1 : decode cX7_isWorker 1 = .ok (.ifCond .lt 12, 3) := by decide +kernel
theorem dX7_isWorker_4 : decode cX7_isWorker 4 = .ok (.iload_n 0, 1) := by decide +kernel
theorem dX7_isWorker_5 : decode cX7_isWorker 5 = .ok (.iconst 2, 1) := by decide +kernel
theorem dX7_isWorker_6 : decode cX7_isWorker 6 = .ok (.if_icmp .ge 7, 3) := by decide +kernel
theorem dX7_isWorker_9 : decode cX7_isWorker 9 = .ok (.iconst 1, 1) := by decide +kernel
theorem dX7_isWorker_10 : decode cX7_isWorker 10 = .ok (.goto 4, 3) := by decide +kernel
theorem dX7_isWorker_13 : decode cX7_isWorker 13 = .ok (.iconst 0, 1) := by decide +kernel
theorem dX7_isWorker_14 : decode cX7_isWorker 14 = .ok (.ireturn, 1) := by decide +kernel
theorem dX7_isFlag_0 : decode cX7_isFlag 0 = .ok (.iload_n 0, 1) := by decide +kernel
theorem dX7_isFlag_1 : decode cX7_isFlag 1 = .ok (.ifCond .eq 8, 3) := by decide +kernel
theorem dX7_isFlag_4 : decode cX7_isFlag 4 = .ok (.iload_n 0, 1) := by decide +kernel
theorem dX7_isFlag_5 : decode cX7_isFlag 5 = .ok (.iconst 1, 1) := by decide +kernel
theorem dX7_isFlag_6 : decode cX7_isFlag 6 = .ok (.if_icmp .ne 7, 3) := by decide +kernel
theorem dX7_isFlag_9 : decode cX7_isFlag 9 = .ok (.iconst 1, 1) := by decide +kernel
theorem dX7_isFlag_10 : decode cX7_isFlag 10 = .ok (.goto 4, 3) := by decide +kernel
theorem dX7_isFlag_13 : decode cX7_isFlag 13 = .ok (.iconst 0, 1) := by decide +kernel
theorem dX7_isFlag_14 : decode cX7_isFlag 14 = .ok (.ireturn, 1) := by decide +kernel
theorem dX7_stampOf_0 : decode cX7_stampOf 0 = .ok (.sipush 1000, 3) := by decide +kernel
theorem dX7_stampOf_3 : decode cX7_stampOf 3 = .ok (.iload_n 0, 1) := by decide +kernel
theorem dX7_stampOf_4 : decode cX7_stampOf 4 = .ok (.imul, 1) := by decide +kernel
theorem dX7_stampOf_5 : decode cX7_stampOf 5 = .ok (.iload_n 1, 1) := by decide +kernel
theorem dX7_stampOf_6 : decode cX7_stampOf 6 = .ok (.iadd, 1) := by decide +kernel
theorem dX7_stampOf_7 : decode cX7_stampOf 7 = .ok (.ireturn, 1) := by decide +kernel
theorem dX7_countersOf_0 : decode cX7_countersOf 0 = .ok (.iload_n 0, 1) := by decide +kernel
theorem dX7_countersOf_1 : decode cX7_countersOf 1 = .ok (.bipush 100, 2) := by decide +kernel
theorem dX7_countersOf_3 : decode cX7_countersOf 3 = .ok (.irem, 1) := by decide +kernel
theorem dX7_countersOf_4 : decode cX7_countersOf 4 = .ok (.ireturn, 1) := by decide +kernel
theorem dX8_init_0 : decode cX8_init 0 = .ok (.aload_n 0, 1) := by decide +kernel
theorem dX8_init_1 : decode cX8_init 1 = .ok (.invokespecial 1, 3) := by decide +kernel
theorem dX8_init_4 : decode cX8_init 4 = .ok (.aload_n 0, 1) := by decide +kernel
theorem dX8_init_5 : decode cX8_init 5 = .ok (.ldc 7, 2) := by decide +kernel
theorem dX8_init_7 : decode cX8_init 7 = .ok (.newarray .int, 2) := by decide +kernel
theorem dX8_init_9 : decode cX8_init 9 = .ok (.putfield 8, 3) := by decide +kernel
theorem dX8_init_12 : decode cX8_init 12 = .ok (.aload_n 0, 1) := by decide +kernel
theorem dX8_init_13 : decode cX8_init 13 = .ok (.ldc 14, 2) := by decide +kernel
theorem dX8_init_15 : decode cX8_init 15 = .ok (.newarray .int, 2) := by decide +kernel
theorem dX8_init_17 : decode cX8_init 17 = .ok (.putfield 15, 3) := by decide +kernel
theorem dX8_init_20 : decode cX8_init 20 = .ok (.aload_n 0, 1) := by decide +kernel
theorem dX8_init_21 : decode cX8_init 21 = .ok (.iconst 4, 1) := by decide +kernel
theorem dX8_init_22 : decode cX8_init 22 = .ok (.newarray .int, 2) := by decide +kernel
theorem dX8_init_24 : decode cX8_init 24 = .ok (.putfield 18, 3) := by decide +kernel
theorem dX8_init_27 : decode cX8_init 27 = .ok (.aload_n 0, 1) := by decide +kernel
theorem dX8_init_28 : decode cX8_init 28 = .ok (.bipush 6, 2) := by decide +kernel
theorem dX8_init_30 : decode cX8_init 30 = .ok (.newarray .int, 2) := by decide +kernel
theorem dX8_init_32 : decode cX8_init 32 = .ok (.putfield 21, 3) := by decide +kernel
theorem dX8_init_35 : decode cX8_init 35 = .ok (.aload_n 0, 1) := by decide +kernel
theorem dX8_init_36 : decode cX8_init 36 = .ok (.bipush 6, 2) := by decide +kernel
theorem dX8_init_38 : decode cX8_init 38 = .ok (.newarray .int, 2) := by decide +kernel
theorem dX8_init_40 : decode cX8_init 40 = .ok (.putfield 24, 3) := by decide +kernel
theorem dX8_init_43 : decode cX8_init 43 = .ok (.aload_n 0, 1) := by decide +kernel
theorem dX8_init_44 : decode cX8_init 44 = .ok (.sipush 1600, 3) := by decide +kernel
theorem dX8_init_47 : decode cX8_init 47 = .ok (.newarray .boolean, 2) := by decide +kernel
theorem dX8_init_49 : decode cX8_init 49 = .ok (.putfield 27, 3) := by decide +kernel
theorem dX8_init_52 : decode cX8_init 52 = .ok (.aload_n 0, 1) := by decide +kernel
theorem dX8_init_53 : decode cX8_init 53 = .ok (.sipush 1600, 3) := by decide +kernel
theorem dX8_init_56 : decode cX8_init 56 = .ok (.newarray .int, 2) := by decide +kernel
theorem dX8_init_58 : decode cX8_init 58 = .ok (.putfield 31, 3) := by decide +kernel
theorem dX8_init_61 : decode cX8_init 61 = .ok (.aload_n 0, 1) := by decide +kernel
theorem dX8_init_62 : decode cX8_init 62 = .ok (.bipush 16, 2) := by decide +kernel
theorem dX8_init_64 : decode cX8_init 64 = .ok (.newarray .int, 2) := by decide +kernel
theorem dX8_init_66 : decode cX8_init 66 = .ok (.putfield 34, 3) := by decide +kernel
theorem dX8_init_69 : decode cX8_init 69 = .ok (.aload_n 0, 1) := by decide +kernel
theorem dX8_init_70 : decode cX8_init 70 = .ok (.sipush 16000, 3) := by decide +kernel
theorem dX8_init_73 : decode cX8_init 73 = .ok (.newarray .int, 2) := by decide +kernel
theorem dX8_init_75 : decode cX8_init 75 = .ok (.putfield 37, 3) := by decide +kernel
theorem dX8_init_78 : decode cX8_init 78 = .ok (.aload_n 0, 1) := by decide +kernel
theorem dX8_init_79 : decode cX8_init 79 = .ok (.sipush 16000, 3) := by decide +kernel
theorem dX8_init_82 : decode cX8_init 82 = .ok (.newarray .boolean, 2) := by decide +kernel
theorem dX8_init_84 : decode cX8_init 84 = .ok (.putfield 40, 3) := by decide +kernel
theorem dX8_init_87 : decode cX8_init 87 = .ok (.return_, 1) := by decide +kernel
theorem dX8_within_0 : decode cX8_within 0 = .ok (.iload_n 0, 1) := by decide +kernel
theorem dX8_within_1 : decode cX8_within 1 = .ok (.iload_n 1, 1) := by decide +kernel
theorem dX8_within_2 : decode cX8_within 2 = .ok (.if_icmp .lt 12, 3) := by decide +kernel
theorem dX8_within_5 : decode cX8_within 5 = .ok (.iload_n 0, 1) := by decide +kernel
theorem dX8_within_6 : decode cX8_within 6 = .ok (.iload_n 2, 1) := by decide +kernel
theorem dX8_within_7 : decode cX8_within 7 = .ok (.if_icmp .gt 7, 3) := by decide +kernel
theorem dX8_within_10 : decode cX8_within 10 = .ok (.iconst 1, 1) := by decide +kernel
theorem dX8_within_11 : decode cX8_within 11 = .ok (.goto 4, 3) := by decide +kernel
theorem dX8_within_14 : decode cX8_within 14 = .ok (.iconst 0, 1) := by decide +kernel
theorem dX8_within_15 : decode cX8_within 15 = .ok (.ireturn, 1) := by decide +kernel
theorem dX8_fails_0 : decode cX8_fails 0 = .ok (.aload_n 0, 1) := by decide +kernel
theorem dX8_fails_1 : decode cX8_fails 1 = .ok (.getfield 18, 3) := by decide +kernel
theorem dX8_fails_4 : decode cX8_fails 4 = .ok (.bipush (-2), 2) := by decide +kernel
theorem dX8_fails_6 : decode cX8_fails 6 = .ok (.iload_n 1, 1) := by decide +kernel
theorem dX8_fails_7 : decode cX8_fails 7 = .ok (.isub, 1) := by decide +kernel
theorem dX8_fails_8 : decode cX8_fails 8 = .ok (.dup2, 1) := by decide +kernel
theorem dX8_fails_9 : decode cX8_fails 9 = .ok (.iaload, 1) := by decide +kernel
theorem dX8_fails_10 : decode cX8_fails 10 = .ok (.iconst 1, 1) := by decide +kernel
theorem dX8_fails_11 : decode cX8_fails 11 = .ok (.iadd, 1) := by decide +kernel
theorem dX8_fails_12 : decode cX8_fails 12 = .ok (.iastore, 1) := by decide +kernel
theorem dX8_fails_13 : decode cX8_fails 13 = .ok (.iload_n 1, 1) := by decide +kernel
theorem dX8_fails_14 : decode cX8_fails 14 = .ok (.ireturn, 1) := by decide +kernel
theorem dX8_isNode_0 : decode cX8_isNode 0 = .ok (.iload_n 1, 1) := by decide +kernel
theorem dX8_isNode_1 : decode cX8_isNode 1 = .ok (.iconst 0, 1) := by decide +kernel
theorem dX8_isNode_2 : decode cX8_isNode 2 = .ok (.aload_n 0, 1) := by decide +kernel
theorem dX8_isNode_3 : decode cX8_isNode 3 = .ok (.getfield 8, 3) := by decide +kernel
theorem dX8_isNode_6 : decode cX8_isNode 6 = .ok (.iconst 0, 1) := by decide +kernel
theorem dX8_isNode_7 : decode cX8_isNode 7 = .ok (.iaload, 1) := by decide +kernel
theorem dX8_isNode_8 : decode cX8_isNode 8 = .ok (.iconst 1, 1) := by decide +kernel
theorem dX8_isNode_9 : decode cX8_isNode 9 = .ok (.isub, 1) := by decide +kernel
theorem dX8_isNode_10 : decode cX8_isNode 10 = .ok (.invokestatic 43, 3) := by decide +kernel
theorem dX8_isNode_13 : decode cX8_isNode 13 = .ok (.ireturn, 1) := by decide +kernel
theorem dX8_isEdge_0 : decode cX8_isEdge 0 = .ok (.iload_n 1, 1) := by decide +kernel
theorem dX8_isEdge_1 : decode cX8_isEdge 1 = .ok (.iconst 0, 1) := by decide +kernel
theorem dX8_isEdge_2 : decode cX8_isEdge 2 = .ok (.aload_n 0, 1) := by decide +kernel
theorem dX8_isEdge_3 : decode cX8_isEdge 3 = .ok (.getfield 8, 3) := by decide +kernel
theorem dX8_isEdge_6 : decode cX8_isEdge 6 = .ok (.iconst 1, 1) := by decide +kernel
theorem dX8_isEdge_7 : decode cX8_isEdge 7 = .ok (.iaload, 1) := by decide +kernel
theorem dX8_isEdge_8 : decode cX8_isEdge 8 = .ok (.iconst 1, 1) := by decide +kernel
theorem dX8_isEdge_9 : decode cX8_isEdge 9 = .ok (.isub, 1) := by decide +kernel
theorem dX8_isEdge_10 : decode cX8_isEdge 10 = .ok (.invokestatic 43, 3) := by decide +kernel
theorem dX8_isEdge_13 : decode cX8_isEdge 13 = .ok (.ireturn, 1) := by decide +kernel
theorem dX8_isWorker_0 : decode cX8_isWorker 0 = .ok (.iload_n 0, 1) := by decide +kernel
theorem dX8_isWorker_1 : decode cX8_isWorker 1 = .ok (.iconst 0, 1) := by decide +kernel
theorem dX8_isWorker_2 : decode cX8_isWorker 2 = .ok (.iconst 1, 1) := by decide +kernel
theorem dX8_isWorker_3 : decode cX8_isWorker 3 = .ok (.invokestatic 43, 3) := by decide +kernel
theorem dX8_isWorker_6 : decode cX8_isWorker 6 = .ok (.ireturn, 1) := by decide +kernel
theorem dX8_saves_0 : decode cX8_saves 0 = .ok (.aload_n 0, 1) := by decide +kernel
theorem dX8_saves_1 : decode cX8_saves 1 = .ok (.getfield 47, 3) := by decide +kernel
theorem dX8_saves_4 : decode cX8_saves 4 = .ok (.iconst 3, 1) := by decide +kernel
theorem dX8_saves_5 : decode cX8_saves 5 = .ok (.if_icmp .ne 42, 3) := by decide +kernel
theorem dX8_saves_8 : decode cX8_saves 8 = .ok (.iconst 0, 1) := by decide +kernel
theorem dX8_saves_9 : decode cX8_saves 9 = .ok (.istore_n 1, 1) := by decide +kernel
theorem dX8_saves_10 : decode cX8_saves 10 = .ok (.iload_n 1, 1) := by decide +kernel
theorem dX8_saves_11 : decode cX8_saves 11 = .ok (.ldc 51, 2) := by decide +kernel
theorem dX8_saves_13 : decode cX8_saves 13 = .ok (.if_icmp .ge 24, 3) := by decide +kernel
theorem dX8_saves_16 : decode cX8_saves 16 = .ok (.aload_n 0, 1) := by decide +kernel
theorem dX8_saves_17 : decode cX8_saves 17 = .ok (.getfield 15, 3) := by decide +kernel
theorem dX8_saves_20 : decode cX8_saves 20 = .ok (.iload_n 1, 1) := by decide +kernel
theorem dX8_saves_21 : decode cX8_saves 21 = .ok (.aload_n 0, 1) := by decide +kernel
theorem dX8_saves_22 : decode cX8_saves 22 = .ok (.getfield 15, 3) := by decide +kernel
theorem dX8_saves_25 : decode cX8_saves 25 = .ok (.iload_n 1, 1) := by decide +kernel
theorem dX8_saves_26 : decode cX8_saves 26 = .ok (.ldc 7, 2) := by decide +kernel
theorem dX8_saves_28 : decode cX8_saves 28 = .ok (.iadd, 1) := by decide +kernel
theorem dX8_saves_29 : decode cX8_saves 29 = .ok (.iaload, 1) := by decide +kernel
theorem dX8_saves_30 : decode cX8_saves 30 = .ok (.iastore, 1) := by decide +kernel
theorem dX8_saves_31 : decode cX8_saves 31 = .ok (.iinc 1 1, 3) := by decide +kernel
theorem dX8_saves_34 : decode cX8_saves 34 = .ok (.goto (-24), 3) := by decide +kernel
theorem dX8_saves_37 : decode cX8_saves 37 = .ok (.aload_n 0, 1) := by decide +kernel
theorem dX8_saves_38 : decode cX8_saves 38 = .ok (.dup, 1) := by decide +kernel
theorem dX8_saves_39 : decode cX8_saves 39 = .ok (.getfield 47, 3) := by decide +kernel
theorem dX8_saves_42 : decode cX8_saves 42 = .ok (.iconst 1, 1) := by decide +kernel
theorem dX8_saves_43 : decode cX8_saves 43 = .ok (.isub, 1) := by decide +kernel
theorem dX8_saves_44 : decode cX8_saves 44 = .ok (.putfield 47, 3) := by decide +kernel
theorem dX8_saves_47 : decode cX8_saves 47 = .ok (.iconst 0, 1) := by decide +kernel
theorem dX8_saves_48 : decode cX8_saves 48 = .ok (.istore_n 1, 1) := by decide +kernel
theorem dX8_saves_49 : decode cX8_saves 49 = .ok (.iload_n 1, 1) := by decide +kernel
theorem dX8_saves_50 : decode cX8_saves 50 = .ok (.ldc 7, 2) := by decide +kernel
theorem dX8_saves_52 : decode cX8_saves 52 = .ok (.if_icmp .ge 29, 3) := by decide +kernel
theorem dX8_saves_55 : decode cX8_saves 55 = .ok (.aload_n 0, 1) := by decide +kernel
theorem dX8_saves_56 : decode cX8_saves 56 = .ok (.getfield 15, 3) := by decide +kernel
theorem dX8_saves_59 : decode cX8_saves 59 = .ok (.ldc 7, 2) := by decide +kernel
theorem dX8_saves_61 : decode cX8_saves 61 = .ok (.aload_n 0, 1) := by decide +kernel
theorem dX8_saves_62 : decode cX8_saves 62 = .ok (.getfield 47, 3) := by decide +kernel
theorem dX8_saves_65 : decode cX8_saves 65 = .ok (.imul, 1) := by decide +kernel
theorem dX8_saves_66 : decode cX8_saves 66 = .ok (.iload_n 1, 1) := by decide +kernel
theorem dX8_saves_67 : decode cX8_saves 67 = .ok (.iadd, 1) := by decide +kernel
theorem dX8_saves_68 : decode cX8_saves 68 = .ok (.aload_n 0, 1) := by decide +kernel
theorem dX8_saves_69 : decode cX8_saves 69 = .ok (.getfield 8, 3) := by decide +kernel
theorem dX8_saves_72 : decode cX8_saves 72 = .ok (.iload_n 1, 1) := by decide +kernel
theorem dX8_saves_73 : decode cX8_saves 73 = .ok (.iaload, 1) := by decide +kernel
theorem dX8_saves_74 : decode cX8_saves 74 = .ok (.iastore, 1) := by decide +kernel
theorem dX8_saves_75 : decode cX8_saves 75 = .ok (.iinc 1 1, 3) := by decide +kernel
theorem dX8_saves_78 : decode cX8_saves 78 = .ok (.goto (-29), 3) := by decide +kernel
theorem dX8_saves_81 : decode cX8_saves 81 = .ok (.aload_n 0, 1) := by decide +kernel
theorem dX8_saves_82 : decode cX8_saves 82 = .ok (.dup, 1) := by decide +kernel
theorem dX8_saves_83 : decode cX8_saves 83 = .ok (.getfield 47, 3) := by decide +kernel
theorem dX8_saves_86 : decode cX8_saves 86 = .ok (.iconst 1, 1) := by decide +kernel
theorem dX8_saves_87 : decode cX8_saves 87 = .ok (.iadd, 1) := by decide +kernel
theorem dX8_saves_88 : decode cX8_saves 88 = .ok (.putfield 47, 3) := by decide +kernel
theorem dX8_saves_91 : decode cX8_saves 91 = .ok (.return_, 1) := by decide +kernel
theorem dX8_undo_0 : decode cX8_undo 0 = .ok (.aload_n 0, 1) := by decide +kernel
theorem dX8_undo_1 : decode cX8_undo 1 = .ok (.getfield 47, 3) := by decide +kernel
theorem dX8_undo_4 : decode cX8_undo 4 = .ok (.ifCond .ne 10, 3) := by decide +kernel
theorem dX8_undo_7 : decode cX8_undo 7 = .ok (.aload_n 0, 1) := by decide +kernel
theorem dX8_undo_8 : decode cX8_undo 8 = .ok (.bipush (-5), 2) := by decide +kernel
theorem dX8_undo_10 : decode cX8_undo 10 = .ok (.invokevirtual 52, 3) := by decide +kernel
theorem dX8_undo_13 : decode cX8_undo 13 = .ok (.ireturn, 1) := by decide +kernel
theorem dX8_undo_14 : decode cX8_undo 14 = .ok (.aload_n 0, 1) := by decide +kernel
theorem dX8_undo_15 : decode cX8_undo 15 = .ok (.dup, 1) := by decide +kernel
theorem dX8_undo_16 : decode cX8_undo 16 = .ok (.getfield 47, 3) := by decide +kernel
theorem dX8_undo_19 : decode cX8_undo 19 = .ok (.iconst 1, 1) := by decide +kernel
theorem dX8_undo_20 : decode cX8_undo 20 = .ok (.isub, 1) := by decide +kernel
theorem dX8_undo_21 : decode cX8_undo 21 = .ok (.putfield 47, 3) := by decide +kernel
theorem dX8_undo_24 : decode cX8_undo 24 = .ok (.iconst 0, 1) := by decide +kernel
theorem dX8_undo_25 : decode cX8_undo 25 = .ok (.istore_n 1, 1) := by decide +kernel
theorem dX8_undo_26 : decode cX8_undo 26 = .ok (.iload_n 1, 1) := by decide +kernel
theorem dX8_undo_27 : decode cX8_undo 27 = .ok (.ldc 7, 2) := by decide +kernel
theorem dX8_undo_29 : decode cX8_undo 29 = .ok (.if_icmp .ge 29, 3) := by decide +kernel
theorem dX8_undo_32 : decode cX8_undo 32 = .ok (.aload_n 0, 1) := by decide +kernel
theorem dX8_undo_33 : decode cX8_undo 33 = .ok (.getfield 8, 3) := by decide +kernel
theorem dX8_undo_36 : decode cX8_undo 36 = .ok (.iload_n 1, 1) := by decide +kernel
theorem dX8_undo_37 : decode cX8_undo 37 = .ok (.aload_n 0, 1) := by decide +kernel
theorem dX8_undo_38 : decode cX8_undo 38 = .ok (.getfield 15, 3) := by decide +kernel
theorem dX8_undo_41 : decode cX8_undo 41 = .ok (.ldc 7, 2) := by decide +kernel
theorem dX8_undo_43 : decode cX8_undo 43 = .ok (.aload_n 0, 1) := by decide +kernel
theorem dX8_undo_44 : decode cX8_undo 44 = .ok (.getfield 47, 3) := by decide +kernel
theorem dX8_undo_47 : decode cX8_undo 47 = .ok (.imul, 1) := by decide +kernel
theorem dX8_undo_48 : decode cX8_undo 48 = .ok (.iload_n 1, 1) := by decide +kernel
theorem dX8_undo_49 : decode cX8_undo 49 = .ok (.iadd, 1) := by decide +kernel
theorem dX8_undo_50 : decode cX8_undo 50 = .ok (.iaload, 1) := by decide +kernel
theorem dX8_undo_51 : decode cX8_undo 51 = .ok (.iastore, 1) := by decide +kernel
theorem dX8_undo_52 : decode cX8_undo 52 = .ok (.iinc 1 1, 3) := by decide +kernel
theorem dX8_undo_55 : decode cX8_undo 55 = .ok (.goto (-29), 3) := by decide +kernel
theorem dX8_undo_58 : decode cX8_undo 58 = .ok (.aload_n 0, 1) := by decide +kernel
theorem dX8_undo_59 : decode cX8_undo 59 = .ok (.getfield 47, 3) := by decide +kernel
theorem dX8_undo_62 : decode cX8_undo 62 = .ok (.ireturn, 1) := by decide +kernel
theorem dX8_viewAt_0 : decode cX8_viewAt 0 = .ok (.sipush 6359, 3) := by decide +kernel
theorem dX8_viewAt_3 : decode cX8_viewAt 3 = .ok (.sipush 1000, 3) := by decide +kernel
theorem dX8_viewAt_6 : decode cX8_viewAt 6 = .ok (.bipush 16, 2) := by decide +kernel
theorem dX8_viewAt_8 : decode cX8_viewAt 8 = .ok (.iload_n 1, 1) := by decide +kernel
theorem dX8_viewAt_9 : decode cX8_viewAt 9 = .ok (.imul, 1) := by decide +kernel
theorem dX8_viewAt_10 : decode cX8_viewAt 10 = .ok (.iload_n 2, 1) := by decide +kernel
theorem dX8_viewAt_11 : decode cX8_viewAt 11 = .ok (.iadd, 1) := by decide +kernel
theorem dX8_viewAt_12 : decode cX8_viewAt 12 = .ok (.imul, 1) := by decide +kernel
theorem dX8_viewAt_13 : decode cX8_viewAt 13 = .ok (.iadd, 1) := by decide +kernel
theorem dX8_viewAt_14 : decode cX8_viewAt 14 = .ok (.iload_n 3, 1) := by decide +kernel
theorem dX8_viewAt_15 : decode cX8_viewAt 15 = .ok (.iadd, 1) := by decide +kernel
theorem dX8_viewAt_16 : decode cX8_viewAt 16 = .ok (.ireturn, 1) := by decide +kernel
theorem dX8_addNode_0 : decode cX8_addNode 0 = .ok (.iload_n 1, 1) := by decide +kernel
theorem dX8_addNode_1 : decode cX8_addNode 1 = .ok (.iconst 0, 1) := by decide +kernel
theorem dX8_addNode_2 : decode cX8_addNode 2 = .ok (.iconst 2, 1) := by decide +kernel
theorem dX8_addNode_3 : decode cX8_addNode 3 = .ok (.invokestatic 43, 3) := by decide +kernel
theorem dX8_addNode_6 : decode cX8_addNode 6 = .ok (.ifCond .eq 21, 3) := by decide +kernel
theorem dX8_addNode_9 : decode cX8_addNode 9 = .ok (.iload_n 2, 1) := by decide +kernel
theorem dX8_addNode_10 : decode cX8_addNode 10 = .ok (.iconst 0, 1) := by decide +kernel
theorem dX8_addNode_11 : decode cX8_addNode 11 = .ok (.iconst 1, 1) := by decide +kernel
theorem dX8_addNode_12 : decode cX8_addNode 12 = .ok (.invokestatic 43, 3) := by decide +kernel
theorem dX8_addNode_15 : decode cX8_addNode 15 = .ok (.ifCond .eq 12, 3) := by decide +kernel
theorem dX8_addNode_18 : decode cX8_addNode 18 = .ok (.iload_n 2, 1) := by decide +kernel
theorem dX8_addNode_19 : decode cX8_addNode 19 = .ok (.iconst 1, 1) := by decide +kernel
theorem dX8_addNode_20 : decode cX8_addNode 20 = .ok (.if_icmp .ne 14, 3) := by decide +kernel
theorem dX8_addNode_23 : decode cX8_addNode 23 = .ok (.iload_n 1, 1) := by decide +kernel
theorem dX8_addNode_24 : decode cX8_addNode 24 = .ok (.ifCond .eq 10, 3) := by decide +kernel
theorem dX8_addNode_27 : decode cX8_addNode 27 = .ok (.aload_n 0, 1) := by decide +kernel
theorem dX8_addNode_28 : decode cX8_addNode 28 = .ok (.bipush (-2), 2) := by decide +kernel
theorem dX8_addNode_30 : decode cX8_addNode 30 = .ok (.invokevirtual 52, 3) := by decide +kernel
theorem dX8_addNode_33 : decode cX8_addNode 33 = .ok (.ireturn, 1) := by decide +kernel
theorem dX8_addNode_34 : decode cX8_addNode 34 = .ok (.aload_n 0, 1) := by decide +kernel
theorem dX8_addNode_35 : decode cX8_addNode 35 = .ok (.getfield 8, 3) := by decide +kernel
theorem dX8_addNode_38 : decode cX8_addNode 38 = .ok (.iconst 2, 1) := by decide +kernel
theorem dX8_addNode_39 : decode cX8_addNode 39 = .ok (.iaload, 1) := by decide +kernel
theorem dX8_addNode_40 : decode cX8_addNode 40 = .ok (.iconst 1, 1) := by decide +kernel
theorem dX8_addNode_41 : decode cX8_addNode 41 = .ok (.if_icmp .ne 10, 3) := by decide +kernel
theorem dX8_addNode_44 : decode cX8_addNode 44 = .ok (.aload_n 0, 1) := by decide +kernel
theorem dX8_addNode_45 : decode cX8_addNode 45 = .ok (.bipush (-3), 2) := by decide +kernel
theorem dX8_addNode_47 : decode cX8_addNode 47 = .ok (.invokevirtual 52, 3) := by decide +kernel
theorem dX8_addNode_50 : decode cX8_addNode 50 = .ok (.ireturn, 1) := by decide +kernel
theorem dX8_addNode_51 : decode cX8_addNode 51 = .ok (.aload_n 0, 1) := by decide +kernel
theorem dX8_addNode_52 : decode cX8_addNode 52 = .ok (.getfield 8, 3) := by decide +kernel
theorem dX8_addNode_55 : decode cX8_addNode 55 = .ok (.iconst 0, 1) := by decide +kernel
theorem dX8_addNode_56 : decode cX8_addNode 56 = .ok (.iaload, 1) := by decide +kernel
theorem dX8_addNode_57 : decode cX8_addNode 57 = .ok (.bipush 6, 2) := by decide +kernel
theorem dX8_addNode_59 : decode cX8_addNode 59 = .ok (.if_icmp .ne 10, 3) := by decide +kernel
theorem dX8_addNode_62 : decode cX8_addNode 62 = .ok (.aload_n 0, 1) := by decide +kernel
theorem dX8_addNode_63 : decode cX8_addNode 63 = .ok (.bipush (-4), 2) := by decide +kernel
theorem dX8_addNode_65 : decode cX8_addNode 65 = .ok (.invokevirtual 52, 3) := by decide +kernel
theorem dX8_addNode_68 : decode cX8_addNode 68 = .ok (.ireturn, 1) := by decide +kernel
theorem dX8_addNode_69 : decode cX8_addNode 69 = .ok (.aload_n 0, 1) := by decide +kernel
theorem dX8_addNode_70 : decode cX8_addNode 70 = .ok (.invokevirtual 56, 3) := by decide +kernel
theorem dX8_addNode_73 : decode cX8_addNode 73 = .ok (.aload_n 0, 1) := by decide +kernel
theorem dX8_addNode_74 : decode cX8_addNode 74 = .ok (.getfield 8, 3) := by decide +kernel
theorem dX8_addNode_77 : decode cX8_addNode 77 = .ok (.iconst 0, 1) := by decide +kernel
theorem dX8_addNode_78 : decode cX8_addNode 78 = .ok (.iaload, 1) := by decide +kernel
theorem dX8_addNode_79 : decode cX8_addNode 79 = .ok (.istore_n 3, 1) := by decide +kernel
theorem dX8_addNode_80 : decode cX8_addNode 80 = .ok (.aload_n 0, 1) := by decide +kernel
theorem dX8_addNode_81 : decode cX8_addNode 81 = .ok (.getfield 8, 3) := by decide +kernel
theorem dX8_addNode_84 : decode cX8_addNode 84 = .ok (.iconst 5, 1) := by decide +kernel
theorem dX8_addNode_85 : decode cX8_addNode 85 = .ok (.iload_n 3, 1) := by decide +kernel
theorem dX8_addNode_86 : decode cX8_addNode 86 = .ok (.iadd, 1) := by decide +kernel
theorem dX8_addNode_87 : decode cX8_addNode 87 = .ok (.iload_n 1, 1) := by decide +kernel
theorem dX8_addNode_88 : decode cX8_addNode 88 = .ok (.iastore, 1) := by decide +kernel
theorem dX8_addNode_89 : decode cX8_addNode 89 = .ok (.aload_n 0, 1) := by decide +kernel
theorem dX8_addNode_90 : decode cX8_addNode 90 = .ok (.getfield 8, 3) := by decide +kernel
theorem dX8_addNode_93 : decode cX8_addNode 93 = .ok (.bipush 11, 2) := by decide +kernel
theorem dX8_addNode_95 : decode cX8_addNode 95 = .ok (.iload_n 3, 1) := by decide +kernel
theorem dX8_addNode_96 : decode cX8_addNode 96 = .ok (.iadd, 1) := by decide +kernel
theorem dX8_addNode_97 : decode cX8_addNode 97 = .ok (.iload_n 2, 1) := by decide +kernel
theorem dX8_addNode_98 : decode cX8_addNode 98 = .ok (.iconst 1, 1) := by decide +kernel
theorem dX8_addNode_99 : decode cX8_addNode 99 = .ok (.if_icmp .ne 7, 3) := by decide +kernel
theorem dX8_addNode_102 : decode cX8_addNode 102 = .ok (.iconst 0, 1) := by decide +kernel
theorem dX8_addNode_103 : decode cX8_addNode 103 = .ok (.goto 4, 3) := by decide +kernel
theorem dX8_addNode_106 : decode cX8_addNode 106 = .ok (.iconst (-1), 1) := by decide +kernel
theorem dX8_addNode_107 : decode cX8_addNode 107 = .ok (.iastore, 1) := by decide +kernel
theorem dX8_addNode_108 : decode cX8_addNode 108 = .ok (.aload_n 0, 1) := by decide +kernel
theorem dX8_addNode_109 : decode cX8_addNode 109 = .ok (.getfield 8, 3) := by decide +kernel
theorem dX8_addNode_112 : decode cX8_addNode 112 = .ok (.aload_n 0, 1) := by decide +kernel
theorem dX8_addNode_113 : decode cX8_addNode 113 = .ok (.iconst 0, 1) := by decide +kernel
theorem dX8_addNode_114 : decode cX8_addNode 114 = .ok (.iload_n 3, 1) := by decide +kernel
theorem dX8_addNode_115 : decode cX8_addNode 115 = .ok (.iconst 0, 1) := by decide +kernel
theorem dX8_addNode_116 : decode cX8_addNode 116 = .ok (.invokevirtual 59, 3) := by decide +kernel
theorem dX8_addNode_119 : decode cX8_addNode 119 = .ok (.dup2, 1) := by decide +kernel
theorem dX8_addNode_120 : decode cX8_addNode 120 = .ok (.iaload, 1) := by decide +kernel
theorem dX8_addNode_121 : decode cX8_addNode 121 = .ok (.iload_n 2, 1) := by decide +kernel
theorem dX8_addNode_122 : decode cX8_addNode 122 = .ok (.iadd, 1) := by decide +kernel
theorem dX8_addNode_123 : decode cX8_addNode 123 = .ok (.iastore, 1) := by decide +kernel
theorem dX8_addNode_124 : decode cX8_addNode 124 = .ok (.aload_n 0, 1) := by decide +kernel
theorem dX8_addNode_125 : decode cX8_addNode 125 = .ok (.getfield 8, 3) := by decide +kernel
theorem dX8_addNode_128 : decode cX8_addNode 128 = .ok (.aload_n 0, 1) := by decide +kernel
theorem dX8_addNode_129 : decode cX8_addNode 129 = .ok (.iconst 1, 1) := by decide +kernel
theorem dX8_addNode_130 : decode cX8_addNode 130 = .ok (.iload_n 3, 1) := by decide +kernel
theorem dX8_addNode_131 : decode cX8_addNode 131 = .ok (.iconst 0, 1) := by decide +kernel
theorem dX8_addNode_132 : decode cX8_addNode 132 = .ok (.invokevirtual 59, 3) := by decide +kernel
theorem dX8_addNode_135 : decode cX8_addNode 135 = .ok (.dup2, 1) := by decide +kernel
theorem dX8_addNode_136 : decode cX8_addNode 136 = .ok (.iaload, 1) := by decide +kernel
theorem dX8_addNode_137 : decode cX8_addNode 137 = .ok (.iload_n 2, 1) := by decide +kernel
theorem dX8_addNode_138 : decode cX8_addNode 138 = .ok (.iadd, 1) := by decide +kernel
theorem dX8_addNode_139 : decode cX8_addNode 139 = .ok (.iastore, 1) := by decide +kernel
theorem dX8_addNode_140 : decode cX8_addNode 140 = .ok (.aload_n 0, 1) := by decide +kernel
theorem dX8_addNode_141 : decode cX8_addNode 141 = .ok (.getfield 8, 3) := by decide +kernel
theorem dX8_addNode_144 : decode cX8_addNode 144 = .ok (.iconst 0, 1) := by decide +kernel
theorem dX8_addNode_145 : decode cX8_addNode 145 = .ok (.dup2, 1) := by decide +kernel
theorem dX8_addNode_146 : decode cX8_addNode 146 = .ok (.iaload, 1) := by decide +kernel
theorem dX8_addNode_147 : decode cX8_addNode 147 = .ok (.iconst 1, 1) := by decide +kernel
theorem dX8_addNode_148 : decode cX8_addNode 148 = .ok (.iadd, 1) := by decide +kernel
theorem dX8_addNode_149 : decode cX8_addNode 149 = .ok (.iastore, 1) := by decide +kernel
theorem dX8_addNode_150 : decode cX8_addNode 150 = .ok (.iload_n 3, 1) := by decide +kernel
theorem dX8_addNode_151 : decode cX8_addNode 151 = .ok (.ireturn, 1) := by decide +kernel
theorem dX8_isInput_0 : decode cX8_isInput 0 = .ok (.aload_n 0, 1) := by decide +kernel
theorem dX8_isInput_1 : decode cX8_isInput 1 = .ok (.getfield 8, 3) := by decide +kernel
theorem dX8_isInput_4 : decode cX8_isInput 4 = .ok (.bipush 11, 2) := by decide +kernel
theorem dX8_isInput_6 : decode cX8_isInput 6 = .ok (.iload_n 1, 1) := by decide +kernel
theorem dX8_isInput_7 : decode cX8_isInput 7 = .ok (.iadd, 1) := by decide +kernel
theorem dX8_isInput_8 : decode cX8_isInput 8 = .ok (.iaload, 1) := by decide +kernel
theorem dX8_isInput_9 : decode cX8_isInput 9 = .ok (.iconst (-1), 1) := by decide +kernel
theorem dX8_isInput_10 : decode cX8_isInput 10 = .ok (.if_icmp .eq 7, 3) := by decide +kernel
theorem dX8_isInput_13 : decode cX8_isInput 13 = .ok (.iconst 1, 1) := by decide +kernel
theorem dX8_isInput_14 : decode cX8_isInput 14 = .ok (.goto 4, 3) := by decide +kernel
theorem dX8_isInput_17 : decode cX8_isInput 17 = .ok (.iconst 0, 1) := by decide +kernel
theorem dX8_isInput_18 : decode cX8_isInput 18 = .ok (.ireturn, 1) := by decide +kernel
theorem dX8_mayLead_0 : decode cX8_mayLead 0 = .ok (.aload_n 0, 1) := by decide +kernel
theorem dX8_mayLead_1 : decode cX8_mayLead 1 = .ok (.getfield 8, 3) := by decide +kernel
theorem dX8_mayLead_4 : decode cX8_mayLead 4 = .ok (.iconst 5, 1) := by decide +kernel
theorem dX8_mayLead_5 : decode cX8_mayLead 5 = .ok (.iload_n 2, 1) := by decide +kernel
theorem dX8_mayLead_6 : decode cX8_mayLead 6 = .ok (.iadd, 1) := by decide +kernel
theorem dX8_mayLead_7 : decode cX8_mayLead 7 = .ok (.iaload, 1) := by decide +kernel
theorem dX8_mayLead_8 : decode cX8_mayLead 8 = .ok (.aload_n 0, 1) := by decide +kernel
theorem dX8_mayLead_9 : decode cX8_mayLead 9 = .ok (.getfield 8, 3) := by decide +kernel
theorem dX8_mayLead_12 : decode cX8_mayLead 12 = .ok (.iconst 5, 1) := by decide +kernel
theorem dX8_mayLead_13 : decode cX8_mayLead 13 = .ok (.iload_n 1, 1) := by decide +kernel
theorem dX8_mayLead_14 : decode cX8_mayLead 14 = .ok (.iadd, 1) := by decide +kernel
theorem dX8_mayLead_15 : decode cX8_mayLead 15 = .ok (.iaload, 1) := by decide +kernel
theorem dX8_mayLead_16 : decode cX8_mayLead 16 = .ok (.isub, 1) := by decide +kernel
theorem dX8_mayLead_17 : decode cX8_mayLead 17 = .ok (.istore 4, 2) := by decide +kernel
theorem dX8_mayLead_19 : decode cX8_mayLead 19 = .ok (.aload_n 0, 1) := by decide +kernel
theorem dX8_mayLead_20 : decode cX8_mayLead 20 = .ok (.getfield 8, 3) := by decide +kernel
theorem dX8_mayLead_23 : decode cX8_mayLead 23 = .ok (.iconst 2, 1) := by decide +kernel
theorem dX8_mayLead_24 : decode cX8_mayLead 24 = .ok (.iaload, 1) := by decide +kernel
theorem dX8_mayLead_25 : decode cX8_mayLead 25 = .ok (.iconst 1, 1) := by decide +kernel
theorem dX8_mayLead_26 : decode cX8_mayLead 26 = .ok (.if_icmp .eq 42, 3) := by decide +kernel
theorem dX8_mayLead_29 : decode cX8_mayLead 29 = .ok (.aload_n 0, 1) := by decide +kernel
theorem dX8_mayLead_30 : decode cX8_mayLead 30 = .ok (.iload_n 2, 1) := by decide +kernel
theorem dX8_mayLead_31 : decode cX8_mayLead 31 = .ok (.invokevirtual 63, 3) := by decide +kernel
theorem dX8_mayLead_34 : decode cX8_mayLead 34 = .ok (.ifCond .ne 34, 3) := by decide +kernel
theorem dX8_mayLead_37 : decode cX8_mayLead 37 = .ok (.iload 4, 2) := by decide +kernel
theorem dX8_mayLead_39 : decode cX8_mayLead 39 = .ok (.iconst (-1), 1) := by decide +kernel
theorem dX8_mayLead_40 : decode cX8_mayLead 40 = .ok (.iconst 1, 1) := by decide +kernel
theorem dX8_mayLead_41 : decode cX8_mayLead 41 = .ok (.invokestatic 43, 3) := by decide +kernel
theorem dX8_mayLead_44 : decode cX8_mayLead 44 = .ok (.ifCond .eq 24, 3) := by decide +kernel
theorem dX8_mayLead_47 : decode cX8_mayLead 47 = .ok (.iload_n 3, 1) := by decide +kernel
theorem dX8_mayLead_48 : decode cX8_mayLead 48 = .ok (.iconst 1, 1) := by decide +kernel
theorem dX8_mayLead_49 : decode cX8_mayLead 49 = .ok (.if_icmp .ne 21, 3) := by decide +kernel
theorem dX8_mayLead_52 : decode cX8_mayLead 52 = .ok (.iload 4, 2) := by decide +kernel
theorem dX8_mayLead_54 : decode cX8_mayLead 54 = .ok (.ifCond .ne 14, 3) := by decide +kernel
theorem dX8_mayLead_57 : decode cX8_mayLead 57 = .ok (.aload_n 0, 1) := by decide +kernel
theorem dX8_mayLead_58 : decode cX8_mayLead 58 = .ok (.getfield 8, 3) := by decide +kernel
theorem dX8_mayLead_61 : decode cX8_mayLead 61 = .ok (.iconst 5, 1) := by decide +kernel
theorem dX8_mayLead_62 : decode cX8_mayLead 62 = .ok (.iload_n 2, 1) := by decide +kernel
theorem dX8_mayLead_63 : decode cX8_mayLead 63 = .ok (.iadd, 1) := by decide +kernel
theorem dX8_mayLead_64 : decode cX8_mayLead 64 = .ok (.iaload, 1) := by decide +kernel
theorem dX8_mayLead_65 : decode cX8_mayLead 65 = .ok (.ifCond .ne 5, 3) := by decide +kernel
theorem dX8_mayLead_68 : decode cX8_mayLead 68 = .ok (.iconst 0, 1) := by decide +kernel
theorem dX8_mayLead_69 : decode cX8_mayLead 69 = .ok (.ireturn, 1) := by decide +kernel
theorem dX8_mayLead_70 : decode cX8_mayLead 70 = .ok (.iconst 1, 1) := by decide +kernel
theorem dX8_mayLead_71 : decode cX8_mayLead 71 = .ok (.istore 5, 2) := by decide +kernel
theorem dX8_mayLead_73 : decode cX8_mayLead 73 = .ok (.iconst 0, 1) := by decide +kernel
theorem dX8_mayLead_74 : decode cX8_mayLead 74 = .ok (.istore 6, 2) := by decide +kernel
theorem dX8_mayLead_76 : decode cX8_mayLead 76 = .ok (.iload 6, 2) := by decide +kernel
theorem dX8_mayLead_78 : decode cX8_mayLead 78 = .ok (.aload_n 0, 1) := by decide +kernel
theorem dX8_mayLead_79 : decode cX8_mayLead 79 = .ok (.getfield 8, 3) := by decide +kernel
theorem dX8_mayLead_82 : decode cX8_mayLead 82 = .ok (.iconst 5, 1) := by decide +kernel
theorem dX8_mayLead_83 : decode cX8_mayLead 83 = .ok (.iload_n 1, 1) := by decide +kernel
theorem dX8_mayLead_84 : decode cX8_mayLead 84 = .ok (.iadd, 1) := by decide +kernel
theorem dX8_mayLead_85 : decode cX8_mayLead 85 = .ok (.iaload, 1) := by decide +kernel
theorem dX8_mayLead_86 : decode cX8_mayLead 86 = .ok (.if_icmp .gt 46, 3) := by decide +kernel
theorem dX8_mayLead_89 : decode cX8_mayLead 89 = .ok (.iload 6, 2) := by decide +kernel
theorem dX8_mayLead_91 : decode cX8_mayLead 91 = .ok (.aload_n 0, 1) := by decide +kernel
theorem dX8_mayLead_92 : decode cX8_mayLead 92 = .ok (.getfield 8, 3) := by decide +kernel
theorem dX8_mayLead_95 : decode cX8_mayLead 95 = .ok (.iconst 5, 1) := by decide +kernel
theorem dX8_mayLead_96 : decode cX8_mayLead 96 = .ok (.iload_n 2, 1) := by decide +kernel
theorem dX8_mayLead_97 : decode cX8_mayLead 97 = .ok (.iadd, 1) := by decide +kernel
theorem dX8_mayLead_98 : decode cX8_mayLead 98 = .ok (.iaload, 1) := by decide +kernel
theorem dX8_mayLead_99 : decode cX8_mayLead 99 = .ok (.if_icmp .gt 33, 3) := by decide +kernel
theorem dX8_mayLead_102 : decode cX8_mayLead 102 = .ok (.iload 5, 2) := by decide +kernel
theorem dX8_mayLead_104 : decode cX8_mayLead 104 = .ok (.ifCond .eq 19, 3) := by decide +kernel
theorem dX8_mayLead_107 : decode cX8_mayLead 107 = .ok (.aload_n 0, 1) := by decide +kernel
theorem dX8_mayLead_108 : decode cX8_mayLead 108 = .ok (.iload_n 1, 1) := by decide +kernel
theorem dX8_mayLead_109 : decode cX8_mayLead 109 = .ok (.iload_n 2, 1) := by decide +kernel
theorem dX8_mayLead_110 : decode cX8_mayLead 110 = .ok (.iload_n 3, 1) := by decide +kernel
theorem dX8_mayLead_111 : decode cX8_mayLead 111 = .ok (.iload 6, 2) := by decide +kernel
theorem dX8_mayLead_113 : decode cX8_mayLead 113 = .ok (.invokevirtual 67, 3) := by decide +kernel
theorem dX8_mayLead_116 : decode cX8_mayLead 116 = .ok (.ifCond .ne 7, 3) := by decide +kernel
theorem dX8_mayLead_119 : decode cX8_mayLead 119 = .ok (.iconst 1, 1) := by decide +kernel
theorem dX8_mayLead_120 : decode cX8_mayLead 120 = .ok (.goto 4, 3) := by decide +kernel
theorem dX8_mayLead_123 : decode cX8_mayLead 123 = .ok (.iconst 0, 1) := by decide +kernel
theorem dX8_mayLead_124 : decode cX8_mayLead 124 = .ok (.istore 5, 2) := by decide +kernel
theorem dX8_mayLead_126 : decode cX8_mayLead 126 = .ok (.iinc 6 1, 3) := by decide +kernel
theorem dX8_mayLead_129 : decode cX8_mayLead 129 = .ok (.goto (-53), 3) := by decide +kernel
theorem dX8_mayLead_132 : decode cX8_mayLead 132 = .ok (.iload 5, 2) := by decide +kernel
theorem dX8_mayLead_134 : decode cX8_mayLead 134 = .ok (.ireturn, 1) := by decide +kernel
theorem dX8_returns_0 : decode cX8_returns 0 = .ok (.iload_n 3, 1) := by decide +kernel
theorem dX8_returns_1 : decode cX8_returns 1 = .ok (.iconst 1, 1) := by decide +kernel
theorem dX8_returns_2 : decode cX8_returns 2 = .ok (.if_icmp .ne 18, 3) := by decide +kernel
theorem dX8_returns_5 : decode cX8_returns 5 = .ok (.aload_n 0, 1) := by decide +kernel
theorem dX8_returns_6 : decode cX8_returns 6 = .ok (.getfield 8, 3) := by decide +kernel
theorem dX8_returns_9 : decode cX8_returns 9 = .ok (.iconst 5, 1) := by decide +kernel
theorem dX8_returns_10 : decode cX8_returns 10 = .ok (.iload_n 1, 1) := by decide +kernel
theorem dX8_returns_11 : decode cX8_returns 11 = .ok (.iadd, 1) := by decide +kernel
theorem dX8_returns_12 : decode cX8_returns 12 = .ok (.iaload, 1) := by decide +kernel
theorem dX8_returns_13 : decode cX8_returns 13 = .ok (.iload 4, 2) := by decide +kernel
theorem dX8_returns_15 : decode cX8_returns 15 = .ok (.if_icmp .ne 5, 3) := by decide +kernel
theorem dX8_returns_18 : decode cX8_returns 18 = .ok (.iconst 0, 1) := by decide +kernel
theorem dX8_returns_19 : decode cX8_returns 19 = .ok (.ireturn, 1) := by decide +kernel
theorem dX8_returns_20 : decode cX8_returns 20 = .ok (.iconst 0, 1) := by decide +kernel
theorem dX8_returns_21 : decode cX8_returns 21 = .ok (.istore 5, 2) := by decide +kernel
theorem dX8_returns_23 : decode cX8_returns 23 = .ok (.iload 5, 2) := by decide +kernel
theorem dX8_returns_25 : decode cX8_returns 25 = .ok (.bipush 6, 2) := by decide +kernel
theorem dX8_returns_27 : decode cX8_returns 27 = .ok (.if_icmp .ge 25, 3) := by decide +kernel
theorem dX8_returns_30 : decode cX8_returns 30 = .ok (.aload_n 0, 1) := by decide +kernel
theorem dX8_returns_31 : decode cX8_returns 31 = .ok (.getfield 21, 3) := by decide +kernel
theorem dX8_returns_34 : decode cX8_returns 34 = .ok (.iload 5, 2) := by decide +kernel
theorem dX8_returns_36 : decode cX8_returns 36 = .ok (.iconst 0, 1) := by decide +kernel
theorem dX8_returns_37 : decode cX8_returns 37 = .ok (.iastore, 1) := by decide +kernel
theorem dX8_returns_38 : decode cX8_returns 38 = .ok (.aload_n 0, 1) := by decide +kernel
theorem dX8_returns_39 : decode cX8_returns 39 = .ok (.getfield 24, 3) := by decide +kernel
theorem dX8_returns_42 : decode cX8_returns 42 = .ok (.iload 5, 2) := by decide +kernel
theorem dX8_returns_44 : decode cX8_returns 44 = .ok (.iconst 0, 1) := by decide +kernel
theorem dX8_returns_45 : decode cX8_returns 45 = .ok (.iastore, 1) := by decide +kernel
theorem dX8_returns_46 : decode cX8_returns 46 = .ok (.iinc 5 1, 3) := by decide +kernel
theorem dX8_returns_49 : decode cX8_returns 49 = .ok (.goto (-26), 3) := by decide +kernel
theorem dX8_returns_52 : decode cX8_returns 52 = .ok (.aload_n 0, 1) := by decide +kernel
theorem dX8_returns_53 : decode cX8_returns 53 = .ok (.getfield 21, 3) := by decide +kernel
theorem dX8_returns_56 : decode cX8_returns 56 = .ok (.iload_n 2, 1) := by decide +kernel
theorem dX8_returns_57 : decode cX8_returns 57 = .ok (.iconst 1, 1) := by decide +kernel
theorem dX8_returns_58 : decode cX8_returns 58 = .ok (.iastore, 1) := by decide +kernel
theorem dX8_returns_59 : decode cX8_returns 59 = .ok (.aload_n 0, 1) := by decide +kernel
theorem dX8_returns_60 : decode cX8_returns 60 = .ok (.getfield 24, 3) := by decide +kernel
theorem dX8_returns_63 : decode cX8_returns 63 = .ok (.iload_n 2, 1) := by decide +kernel
theorem dX8_returns_64 : decode cX8_returns 64 = .ok (.aload_n 0, 1) := by decide +kernel
theorem dX8_returns_65 : decode cX8_returns 65 = .ok (.getfield 8, 3) := by decide +kernel
theorem dX8_returns_68 : decode cX8_returns 68 = .ok (.iconst 5, 1) := by decide +kernel
theorem dX8_returns_69 : decode cX8_returns 69 = .ok (.iload_n 2, 1) := by decide +kernel
theorem dX8_returns_70 : decode cX8_returns 70 = .ok (.iadd, 1) := by decide +kernel
theorem dX8_returns_71 : decode cX8_returns 71 = .ok (.iaload, 1) := by decide +kernel
theorem dX8_returns_72 : decode cX8_returns 72 = .ok (.iload 4, 2) := by decide +kernel
theorem dX8_returns_74 : decode cX8_returns 74 = .ok (.if_icmp .ne 7, 3) := by decide +kernel
theorem dX8_returns_77 : decode cX8_returns 77 = .ok (.iconst 1, 1) := by decide +kernel
theorem dX8_returns_78 : decode cX8_returns 78 = .ok (.goto 4, 3) := by decide +kernel
theorem dX8_returns_81 : decode cX8_returns 81 = .ok (.iconst 0, 1) := by decide +kernel
theorem dX8_returns_82 : decode cX8_returns 82 = .ok (.iastore, 1) := by decide +kernel
theorem dX8_returns_83 : decode cX8_returns 83 = .ok (.iconst 1, 1) := by decide +kernel
theorem dX8_returns_84 : decode cX8_returns 84 = .ok (.istore 5, 2) := by decide +kernel
theorem dX8_returns_86 : decode cX8_returns 86 = .ok (.iload 5, 2) := by decide +kernel
theorem dX8_returns_88 : decode cX8_returns 88 = .ok (.ifCond .eq 213, 3) := by decide +kernel
theorem dX8_returns_91 : decode cX8_returns 91 = .ok (.iconst 0, 1) := by decide +kernel
theorem dX8_returns_92 : decode cX8_returns 92 = .ok (.istore 5, 2) := by decide +kernel
theorem dX8_returns_94 : decode cX8_returns 94 = .ok (.iconst 0, 1) := by decide +kernel
theorem dX8_returns_95 : decode cX8_returns 95 = .ok (.istore 6, 2) := by decide +kernel
theorem dX8_returns_97 : decode cX8_returns 97 = .ok (.iload 6, 2) := by decide +kernel
theorem dX8_returns_99 : decode cX8_returns 99 = .ok (.aload_n 0, 1) := by decide +kernel
theorem dX8_returns_100 : decode cX8_returns 100 = .ok (.getfield 8, 3) := by decide +kernel
theorem dX8_returns_103 : decode cX8_returns 103 = .ok (.iconst 1, 1) := by decide +kernel
theorem dX8_returns_104 : decode cX8_returns 104 = .ok (.iaload, 1) := by decide +kernel
theorem dX8_returns_105 : decode cX8_returns 105 = .ok (.if_icmp .ge 193, 3) := by decide +kernel
theorem dX8_returns_108 : decode cX8_returns 108 = .ok (.aload_n 0, 1) := by decide +kernel
theorem dX8_returns_109 : decode cX8_returns 109 = .ok (.getfield 8, 3) := by decide +kernel
theorem dX8_returns_112 : decode cX8_returns 112 = .ok (.bipush 17, 2) := by decide +kernel
theorem dX8_returns_114 : decode cX8_returns 114 = .ok (.iload 6, 2) := by decide +kernel
theorem dX8_returns_116 : decode cX8_returns 116 = .ok (.iadd, 1) := by decide +kernel
theorem dX8_returns_117 : decode cX8_returns 117 = .ok (.iaload, 1) := by decide +kernel
theorem dX8_returns_118 : decode cX8_returns 118 = .ok (.istore 7, 2) := by decide +kernel
theorem dX8_returns_120 : decode cX8_returns 120 = .ok (.aload_n 0, 1) := by decide +kernel
theorem dX8_returns_121 : decode cX8_returns 121 = .ok (.getfield 8, 3) := by decide +kernel
theorem dX8_returns_124 : decode cX8_returns 124 = .ok (.bipush 27, 2) := by decide +kernel
theorem dX8_returns_126 : decode cX8_returns 126 = .ok (.iload 6, 2) := by decide +kernel
theorem dX8_returns_128 : decode cX8_returns 128 = .ok (.iadd, 1) := by decide +kernel
theorem dX8_returns_129 : decode cX8_returns 129 = .ok (.iaload, 1) := by decide +kernel
theorem dX8_returns_130 : decode cX8_returns 130 = .ok (.istore 8, 2) := by decide +kernel
theorem dX8_returns_132 : decode cX8_returns 132 = .ok (.aload_n 0, 1) := by decide +kernel
theorem dX8_returns_133 : decode cX8_returns 133 = .ok (.getfield 8, 3) := by decide +kernel
theorem dX8_returns_136 : decode cX8_returns 136 = .ok (.iconst 5, 1) := by decide +kernel
theorem dX8_returns_137 : decode cX8_returns 137 = .ok (.iload 7, 2) := by decide +kernel
theorem dX8_returns_139 : decode cX8_returns 139 = .ok (.iadd, 1) := by decide +kernel
theorem dX8_returns_140 : decode cX8_returns 140 = .ok (.iaload, 1) := by decide +kernel
theorem dX8_returns_141 : decode cX8_returns 141 = .ok (.iload 4, 2) := by decide +kernel
theorem dX8_returns_143 : decode cX8_returns 143 = .ok (.if_icmp .lt 48, 3) := by decide +kernel
theorem dX8_returns_146 : decode cX8_returns 146 = .ok (.aload_n 0, 1) := by decide +kernel
theorem dX8_returns_147 : decode cX8_returns 147 = .ok (.getfield 8, 3) := by decide +kernel
theorem dX8_returns_150 : decode cX8_returns 150 = .ok (.iconst 5, 1) := by decide +kernel
theorem dX8_returns_151 : decode cX8_returns 151 = .ok (.iload 8, 2) := by decide +kernel
theorem dX8_returns_153 : decode cX8_returns 153 = .ok (.iadd, 1) := by decide +kernel
theorem dX8_returns_154 : decode cX8_returns 154 = .ok (.iaload, 1) := by decide +kernel
theorem dX8_returns_155 : decode cX8_returns 155 = .ok (.iload 4, 2) := by decide +kernel
theorem dX8_returns_157 : decode cX8_returns 157 = .ok (.if_icmp .lt 34, 3) := by decide +kernel
theorem dX8_returns_160 : decode cX8_returns 160 = .ok (.aload_n 0, 1) := by decide +kernel
theorem dX8_returns_161 : decode cX8_returns 161 = .ok (.getfield 8, 3) := by decide +kernel
theorem dX8_returns_164 : decode cX8_returns 164 = .ok (.bipush 37, 2) := by decide +kernel
theorem dX8_returns_166 : decode cX8_returns 166 = .ok (.iload 6, 2) := by decide +kernel
theorem dX8_returns_168 : decode cX8_returns 168 = .ok (.iadd, 1) := by decide +kernel
theorem dX8_returns_169 : decode cX8_returns 169 = .ok (.iaload, 1) := by decide +kernel
theorem dX8_returns_170 : decode cX8_returns 170 = .ok (.ifCond .eq 17, 3) := by decide +kernel
theorem dX8_returns_173 : decode cX8_returns 173 = .ok (.aload_n 0, 1) := by decide +kernel
theorem dX8_returns_174 : decode cX8_returns 174 = .ok (.getfield 8, 3) := by decide +kernel
theorem dX8_returns_177 : decode cX8_returns 177 = .ok (.iconst 5, 1) := by decide +kernel
theorem dX8_returns_178 : decode cX8_returns 178 = .ok (.iload 7, 2) := by decide +kernel
theorem dX8_returns_180 : decode cX8_returns 180 = .ok (.iadd, 1) := by decide +kernel
theorem dX8_returns_181 : decode cX8_returns 181 = .ok (.iaload, 1) := by decide +kernel
theorem dX8_returns_182 : decode cX8_returns 182 = .ok (.iload 4, 2) := by decide +kernel
theorem dX8_returns_184 : decode cX8_returns 184 = .ok (.if_icmp .le 7, 3) := by decide +kernel
theorem dX8_returns_187 : decode cX8_returns 187 = .ok (.iconst 1, 1) := by decide +kernel
theorem dX8_returns_188 : decode cX8_returns 188 = .ok (.goto 4, 3) := by decide +kernel
theorem dX8_returns_191 : decode cX8_returns 191 = .ok (.iconst 0, 1) := by decide +kernel
theorem dX8_returns_192 : decode cX8_returns 192 = .ok (.istore 9, 2) := by decide +kernel
theorem dX8_returns_194 : decode cX8_returns 194 = .ok (.aload_n 0, 1) := by decide +kernel
theorem dX8_returns_195 : decode cX8_returns 195 = .ok (.getfield 24, 3) := by decide +kernel
theorem dX8_returns_198 : decode cX8_returns 198 = .ok (.iload 7, 2) := by decide +kernel
theorem dX8_returns_200 : decode cX8_returns 200 = .ok (.iaload, 1) := by decide +kernel
theorem dX8_returns_201 : decode cX8_returns 201 = .ok (.iconst 1, 1) := by decide +kernel
theorem dX8_returns_202 : decode cX8_returns 202 = .ok (.if_icmp .eq 17, 3) := by decide +kernel
theorem dX8_returns_205 : decode cX8_returns 205 = .ok (.aload_n 0, 1) := by decide +kernel
theorem dX8_returns_206 : decode cX8_returns 206 = .ok (.getfield 8, 3) := by decide +kernel
theorem dX8_returns_209 : decode cX8_returns 209 = .ok (.iconst 5, 1) := by decide +kernel
theorem dX8_returns_210 : decode cX8_returns 210 = .ok (.iload 8, 2) := by decide +kernel
theorem dX8_returns_212 : decode cX8_returns 212 = .ok (.iadd, 1) := by decide +kernel
theorem dX8_returns_213 : decode cX8_returns 213 = .ok (.iaload, 1) := by decide +kernel
theorem dX8_returns_214 : decode cX8_returns 214 = .ok (.iload 4, 2) := by decide +kernel
theorem dX8_returns_216 : decode cX8_returns 216 = .ok (.if_icmp .ne 7, 3) := by decide +kernel
theorem dX8_returns_219 : decode cX8_returns 219 = .ok (.iconst 1, 1) := by decide +kernel
theorem dX8_returns_220 : decode cX8_returns 220 = .ok (.goto 4, 3) := by decide +kernel
theorem dX8_returns_223 : decode cX8_returns 223 = .ok (.iconst 0, 1) := by decide +kernel
theorem dX8_returns_224 : decode cX8_returns 224 = .ok (.istore 10, 2) := by decide +kernel
theorem dX8_returns_226 : decode cX8_returns 226 = .ok (.iload 9, 2) := by decide +kernel
theorem dX8_returns_228 : decode cX8_returns 228 = .ok (.ifCond .eq 64, 3) := by decide +kernel
theorem dX8_returns_231 : decode cX8_returns 231 = .ok (.aload_n 0, 1) := by decide +kernel
theorem dX8_returns_232 : decode cX8_returns 232 = .ok (.getfield 21, 3) := by decide +kernel
theorem dX8_returns_235 : decode cX8_returns 235 = .ok (.iload 7, 2) := by decide +kernel
theorem dX8_returns_237 : decode cX8_returns 237 = .ok (.iaload, 1) := by decide +kernel
theorem dX8_returns_238 : decode cX8_returns 238 = .ok (.iconst 1, 1) := by decide +kernel
theorem dX8_returns_239 : decode cX8_returns 239 = .ok (.if_icmp .ne 53, 3) := by decide +kernel
theorem dX8_returns_242 : decode cX8_returns 242 = .ok (.aload_n 0, 1) := by decide +kernel
theorem dX8_returns_243 : decode cX8_returns 243 = .ok (.getfield 21, 3) := by decide +kernel
theorem dX8_returns_246 : decode cX8_returns 246 = .ok (.iload 8, 2) := by decide +kernel
theorem dX8_returns_248 : decode cX8_returns 248 = .ok (.iaload, 1) := by decide +kernel
theorem dX8_returns_249 : decode cX8_returns 249 = .ok (.ifCond .eq 15, 3) := by decide +kernel
theorem dX8_returns_252 : decode cX8_returns 252 = .ok (.aload_n 0, 1) := by decide +kernel
theorem dX8_returns_253 : decode cX8_returns 253 = .ok (.getfield 24, 3) := by decide +kernel
theorem dX8_returns_256 : decode cX8_returns 256 = .ok (.iload 8, 2) := by decide +kernel
theorem dX8_returns_258 : decode cX8_returns 258 = .ok (.iaload, 1) := by decide +kernel
theorem dX8_returns_259 : decode cX8_returns 259 = .ok (.iload 10, 2) := by decide +kernel
theorem dX8_returns_261 : decode cX8_returns 261 = .ok (.if_icmp .ge 31, 3) := by decide +kernel
theorem dX8_returns_264 : decode cX8_returns 264 = .ok (.aload_n 0, 1) := by decide +kernel
theorem dX8_returns_265 : decode cX8_returns 265 = .ok (.getfield 21, 3) := by decide +kernel
theorem dX8_returns_268 : decode cX8_returns 268 = .ok (.iload 8, 2) := by decide +kernel
theorem dX8_returns_270 : decode cX8_returns 270 = .ok (.iconst 1, 1) := by decide +kernel
theorem dX8_returns_271 : decode cX8_returns 271 = .ok (.iastore, 1) := by decide +kernel
theorem dX8_returns_272 : decode cX8_returns 272 = .ok (.aload_n 0, 1) := by decide +kernel
theorem dX8_returns_273 : decode cX8_returns 273 = .ok (.getfield 24, 3) := by decide +kernel
theorem dX8_returns_276 : decode cX8_returns 276 = .ok (.iload 8, 2) := by decide +kernel
theorem dX8_returns_278 : decode cX8_returns 278 = .ok (.aload_n 0, 1) := by decide +kernel
theorem dX8_returns_279 : decode cX8_returns 279 = .ok (.getfield 24, 3) := by decide +kernel
theorem dX8_returns_282 : decode cX8_returns 282 = .ok (.iload 8, 2) := by decide +kernel
theorem dX8_returns_284 : decode cX8_returns 284 = .ok (.iaload, 1) := by decide +kernel
theorem dX8_returns_285 : decode cX8_returns 285 = .ok (.iload 10, 2) := by decide +kernel
theorem dX8_returns_287 : decode cX8_returns 287 = .ok (.ior, 1) := by decide +kernel
theorem dX8_returns_288 : decode cX8_returns 288 = .ok (.iastore, 1) := by decide +kernel
theorem dX8_returns_289 : decode cX8_returns 289 = .ok (.iconst 1, 1) := by decide +kernel
theorem dX8_returns_290 : decode cX8_returns 290 = .ok (.istore 5, 2) := by decide +kernel
theorem dX8_returns_292 : decode cX8_returns 292 = .ok (.iinc 6 1, 3) := by decide +kernel
theorem dX8_returns_295 : decode cX8_returns 295 = .ok (.goto (-198), 3) := by decide +kernel
theorem dX8_returns_298 : decode cX8_returns 298 = .ok (.goto (-212), 3) := by decide +kernel
theorem dX8_returns_301 : decode cX8_returns 301 = .ok (.aload_n 0, 1) := by decide +kernel
theorem dX8_returns_302 : decode cX8_returns 302 = .ok (.getfield 21, 3) := by decide +kernel
theorem dX8_returns_305 : decode cX8_returns 305 = .ok (.iload_n 1, 1) := by decide +kernel
theorem dX8_returns_306 : decode cX8_returns 306 = .ok (.iaload, 1) := by decide +kernel
theorem dX8_returns_307 : decode cX8_returns 307 = .ok (.iconst 1, 1) := by decide +kernel
theorem dX8_returns_308 : decode cX8_returns 308 = .ok (.if_icmp .ne 17, 3) := by decide +kernel
theorem dX8_returns_311 : decode cX8_returns 311 = .ok (.aload_n 0, 1) := by decide +kernel
theorem dX8_returns_312 : decode cX8_returns 312 = .ok (.getfield 24, 3) := by decide +kernel
theorem dX8_returns_315 : decode cX8_returns 315 = .ok (.iload_n 1, 1) := by decide +kernel
theorem dX8_returns_316 : decode cX8_returns 316 = .ok (.iaload, 1) := by decide +kernel
theorem dX8_returns_317 : decode cX8_returns 317 = .ok (.iconst 1, 1) := by decide +kernel
theorem dX8_returns_318 : decode cX8_returns 318 = .ok (.if_icmp .ne 7, 3) := by decide +kernel
theorem dX8_returns_321 : decode cX8_returns 321 = .ok (.iconst 1, 1) := by decide +kernel
theorem dX8_returns_322 : decode cX8_returns 322 = .ok (.goto 4, 3) := by decide +kernel
theorem dX8_returns_325 : decode cX8_returns 325 = .ok (.iconst 0, 1) := by decide +kernel
theorem dX8_returns_326 : decode cX8_returns 326 = .ok (.ireturn, 1) := by decide +kernel
theorem dX8_addEdge_0 : decode cX8_addEdge 0 = .ok (.aload_n 0, 1) := by decide +kernel
theorem dX8_addEdge_1 : decode cX8_addEdge 1 = .ok (.iload_n 1, 1) := by decide +kernel
theorem dX8_addEdge_2 : decode cX8_addEdge 2 = .ok (.invokevirtual 71, 3) := by decide +kernel
theorem dX8_addEdge_5 : decode cX8_addEdge 5 = .ok (.ifCond .eq 20, 3) := by decide +kernel
theorem dX8_addEdge_8 : decode cX8_addEdge 8 = .ok (.aload_n 0, 1) := by decide +kernel
theorem dX8_addEdge_9 : decode cX8_addEdge 9 = .ok (.iload_n 2, 1) := by decide +kernel
theorem dX8_addEdge_10 : decode cX8_addEdge 10 = .ok (.invokevirtual 71, 3) := by decide +kernel
theorem dX8_addEdge_13 : decode cX8_addEdge 13 = .ok (.ifCond .eq 12, 3) := by decide +kernel
theorem dX8_addEdge_16 : decode cX8_addEdge 16 = .ok (.iload_n 3, 1) := by decide +kernel
theorem dX8_addEdge_17 : decode cX8_addEdge 17 = .ok (.iconst 0, 1) := by decide +kernel
theorem dX8_addEdge_18 : decode cX8_addEdge 18 = .ok (.iconst 1, 1) := by decide +kernel
theorem dX8_addEdge_19 : decode cX8_addEdge 19 = .ok (.invokestatic 43, 3) := by decide +kernel
theorem dX8_addEdge_22 : decode cX8_addEdge 22 = .ok (.ifCond .ne 10, 3) := by decide +kernel
theorem dX8_addEdge_25 : decode cX8_addEdge 25 = .ok (.aload_n 0, 1) := by decide +kernel
theorem dX8_addEdge_26 : decode cX8_addEdge 26 = .ok (.bipush (-2), 2) := by decide +kernel
theorem dX8_addEdge_28 : decode cX8_addEdge 28 = .ok (.invokevirtual 52, 3) := by decide +kernel
theorem dX8_addEdge_31 : decode cX8_addEdge 31 = .ok (.ireturn, 1) := by decide +kernel
theorem dX8_addEdge_32 : decode cX8_addEdge 32 = .ok (.aload_n 0, 1) := by decide +kernel
theorem dX8_addEdge_33 : decode cX8_addEdge 33 = .ok (.iload_n 1, 1) := by decide +kernel
theorem dX8_addEdge_34 : decode cX8_addEdge 34 = .ok (.iload_n 2, 1) := by decide +kernel
theorem dX8_addEdge_35 : decode cX8_addEdge 35 = .ok (.iload_n 3, 1) := by decide +kernel
theorem dX8_addEdge_36 : decode cX8_addEdge 36 = .ok (.invokevirtual 74, 3) := by decide +kernel
theorem dX8_addEdge_39 : decode cX8_addEdge 39 = .ok (.ifCond .ne 10, 3) := by decide +kernel
theorem dX8_addEdge_42 : decode cX8_addEdge 42 = .ok (.aload_n 0, 1) := by decide +kernel
theorem dX8_addEdge_43 : decode cX8_addEdge 43 = .ok (.bipush (-3), 2) := by decide +kernel
theorem dX8_addEdge_45 : decode cX8_addEdge 45 = .ok (.invokevirtual 52, 3) := by decide +kernel
theorem dX8_addEdge_48 : decode cX8_addEdge 48 = .ok (.ireturn, 1) := by decide +kernel
theorem dX8_addEdge_49 : decode cX8_addEdge 49 = .ok (.aload_n 0, 1) := by decide +kernel
theorem dX8_addEdge_50 : decode cX8_addEdge 50 = .ok (.getfield 8, 3) := by decide +kernel
theorem dX8_addEdge_53 : decode cX8_addEdge 53 = .ok (.iconst 1, 1) := by decide +kernel
theorem dX8_addEdge_54 : decode cX8_addEdge 54 = .ok (.iaload, 1) := by decide +kernel
theorem dX8_addEdge_55 : decode cX8_addEdge 55 = .ok (.bipush 10, 2) := by decide +kernel
theorem dX8_addEdge_57 : decode cX8_addEdge 57 = .ok (.if_icmp .ne 10, 3) := by decide +kernel
theorem dX8_addEdge_60 : decode cX8_addEdge 60 = .ok (.aload_n 0, 1) := by decide +kernel
theorem dX8_addEdge_61 : decode cX8_addEdge 61 = .ok (.bipush (-4), 2) := by decide +kernel
theorem dX8_addEdge_63 : decode cX8_addEdge 63 = .ok (.invokevirtual 52, 3) := by decide +kernel
theorem dX8_addEdge_66 : decode cX8_addEdge 66 = .ok (.ireturn, 1) := by decide +kernel
theorem dX8_addEdge_67 : decode cX8_addEdge 67 = .ok (.aload_n 0, 1) := by decide +kernel
theorem dX8_addEdge_68 : decode cX8_addEdge 68 = .ok (.invokevirtual 56, 3) := by decide +kernel
theorem dX8_addEdge_71 : decode cX8_addEdge 71 = .ok (.aload_n 0, 1) := by decide +kernel
theorem dX8_addEdge_72 : decode cX8_addEdge 72 = .ok (.getfield 8, 3) := by decide +kernel
theorem dX8_addEdge_75 : decode cX8_addEdge 75 = .ok (.bipush 17, 2) := by decide +kernel
theorem dX8_addEdge_77 : decode cX8_addEdge 77 = .ok (.aload_n 0, 1) := by decide +kernel
theorem dX8_addEdge_78 : decode cX8_addEdge 78 = .ok (.getfield 8, 3) := by decide +kernel
theorem dX8_addEdge_81 : decode cX8_addEdge 81 = .ok (.iconst 1, 1) := by decide +kernel
theorem dX8_addEdge_82 : decode cX8_addEdge 82 = .ok (.iaload, 1) := by decide +kernel
theorem dX8_addEdge_83 : decode cX8_addEdge 83 = .ok (.iadd, 1) := by decide +kernel
theorem dX8_addEdge_84 : decode cX8_addEdge 84 = .ok (.iload_n 1, 1) := by decide +kernel
theorem dX8_addEdge_85 : decode cX8_addEdge 85 = .ok (.iastore, 1) := by decide +kernel
theorem dX8_addEdge_86 : decode cX8_addEdge 86 = .ok (.aload_n 0, 1) := by decide +kernel
theorem dX8_addEdge_87 : decode cX8_addEdge 87 = .ok (.getfield 8, 3) := by decide +kernel
theorem dX8_addEdge_90 : decode cX8_addEdge 90 = .ok (.bipush 27, 2) := by decide +kernel
theorem dX8_addEdge_92 : decode cX8_addEdge 92 = .ok (.aload_n 0, 1) := by decide +kernel
theorem dX8_addEdge_93 : decode cX8_addEdge 93 = .ok (.getfield 8, 3) := by decide +kernel
theorem dX8_addEdge_96 : decode cX8_addEdge 96 = .ok (.iconst 1, 1) := by decide +kernel
theorem dX8_addEdge_97 : decode cX8_addEdge 97 = .ok (.iaload, 1) := by decide +kernel
theorem dX8_addEdge_98 : decode cX8_addEdge 98 = .ok (.iadd, 1) := by decide +kernel
theorem dX8_addEdge_99 : decode cX8_addEdge 99 = .ok (.iload_n 2, 1) := by decide +kernel
theorem dX8_addEdge_100 : decode cX8_addEdge 100 = .ok (.iastore, 1) := by decide +kernel
theorem dX8_addEdge_101 : decode cX8_addEdge 101 = .ok (.aload_n 0, 1) := by decide +kernel
theorem dX8_addEdge_102 : decode cX8_addEdge 102 = .ok (.getfield 8, 3) := by decide +kernel
theorem dX8_addEdge_105 : decode cX8_addEdge 105 = .ok (.bipush 37, 2) := by decide +kernel
theorem dX8_addEdge_107 : decode cX8_addEdge 107 = .ok (.aload_n 0, 1) := by decide +kernel
theorem dX8_addEdge_108 : decode cX8_addEdge 108 = .ok (.getfield 8, 3) := by decide +kernel
theorem dX8_addEdge_111 : decode cX8_addEdge 111 = .ok (.iconst 1, 1) := by decide +kernel
theorem dX8_addEdge_112 : decode cX8_addEdge 112 = .ok (.iaload, 1) := by decide +kernel
theorem dX8_addEdge_113 : decode cX8_addEdge 113 = .ok (.iadd, 1) := by decide +kernel
theorem dX8_addEdge_114 : decode cX8_addEdge 114 = .ok (.iload_n 3, 1) := by decide +kernel
theorem dX8_addEdge_115 : decode cX8_addEdge 115 = .ok (.iastore, 1) := by decide +kernel
theorem dX8_addEdge_116 : decode cX8_addEdge 116 = .ok (.aload_n 0, 1) := by decide +kernel
theorem dX8_addEdge_117 : decode cX8_addEdge 117 = .ok (.getfield 8, 3) := by decide +kernel
theorem dX8_addEdge_120 : decode cX8_addEdge 120 = .ok (.iconst 1, 1) := by decide +kernel
theorem dX8_addEdge_121 : decode cX8_addEdge 121 = .ok (.dup2, 1) := by decide +kernel
theorem dX8_addEdge_122 : decode cX8_addEdge 122 = .ok (.iaload, 1) := by decide +kernel
theorem dX8_addEdge_123 : decode cX8_addEdge 123 = .ok (.iconst 1, 1) := by decide +kernel
theorem dX8_addEdge_124 : decode cX8_addEdge 124 = .ok (.iadd, 1) := by decide +kernel
theorem dX8_addEdge_125 : decode cX8_addEdge 125 = .ok (.iastore, 1) := by decide +kernel
theorem dX8_addEdge_126 : decode cX8_addEdge 126 = .ok (.aload_n 0, 1) := by decide +kernel
theorem dX8_addEdge_127 : decode cX8_addEdge 127 = .ok (.getfield 8, 3) := by decide +kernel
theorem dX8_addEdge_130 : decode cX8_addEdge 130 = .ok (.iconst 1, 1) := by decide +kernel
theorem dX8_addEdge_131 : decode cX8_addEdge 131 = .ok (.iaload, 1) := by decide +kernel
theorem dX8_addEdge_132 : decode cX8_addEdge 132 = .ok (.iconst 1, 1) := by decide +kernel
theorem dX8_addEdge_133 : decode cX8_addEdge 133 = .ok (.isub, 1) := by decide +kernel
theorem dX8_addEdge_134 : decode cX8_addEdge 134 = .ok (.ireturn, 1) := by decide +kernel
theorem dX8_kindOf_0 : decode cX8_kindOf 0 = .ok (.aload_n 0, 1) := by decide +kernel
theorem dX8_kindOf_1 : decode cX8_kindOf 1 = .ok (.getfield 8, 3) := by decide +kernel
theorem dX8_kindOf_4 : decode cX8_kindOf 4 = .ok (.iconst 5, 1) := by decide +kernel
theorem dX8_kindOf_5 : decode cX8_kindOf 5 = .ok (.aload_n 0, 1) := by decide +kernel
theorem dX8_kindOf_6 : decode cX8_kindOf 6 = .ok (.getfield 8, 3) := by decide +kernel
theorem dX8_kindOf_9 : decode cX8_kindOf 9 = .ok (.bipush 27, 2) := by decide +kernel
theorem dX8_kindOf_11 : decode cX8_kindOf 11 = .ok (.iload_n 1, 1) := by decide +kernel
theorem dX8_kindOf_12 : decode cX8_kindOf 12 = .ok (.iadd, 1) := by decide +kernel
theorem dX8_kindOf_13 : decode cX8_kindOf 13 = .ok (.iaload, 1) := by decide +kernel
theorem dX8_kindOf_14 : decode cX8_kindOf 14 = .ok (.iadd, 1) := by decide +kernel
theorem dX8_kindOf_15 : decode cX8_kindOf 15 = .ok (.iaload, 1) := by decide +kernel
theorem dX8_kindOf_16 : decode cX8_kindOf 16 = .ok (.aload_n 0, 1) := by decide +kernel
theorem dX8_kindOf_17 : decode cX8_kindOf 17 = .ok (.getfield 8, 3) := by decide +kernel
theorem dX8_kindOf_20 : decode cX8_kindOf 20 = .ok (.iconst 5, 1) := by decide +kernel
theorem dX8_kindOf_21 : decode cX8_kindOf 21 = .ok (.aload_n 0, 1) := by decide +kernel
theorem dX8_kindOf_22 : decode cX8_kindOf 22 = .ok (.getfield 8, 3) := by decide +kernel
theorem dX8_kindOf_25 : decode cX8_kindOf 25 = .ok (.bipush 17, 2) := by decide +kernel
theorem dX8_kindOf_27 : decode cX8_kindOf 27 = .ok (.iload_n 1, 1) := by decide +kernel
theorem dX8_kindOf_28 : decode cX8_kindOf 28 = .ok (.iadd, 1) := by decide +kernel
theorem dX8_kindOf_29 : decode cX8_kindOf 29 = .ok (.iaload, 1) := by decide +kernel
theorem dX8_kindOf_30 : decode cX8_kindOf 30 = .ok (.iadd, 1) := by decide +kernel
theorem dX8_kindOf_31 : decode cX8_kindOf 31 = .ok (.iaload, 1) := by decide +kernel
theorem dX8_kindOf_32 : decode cX8_kindOf 32 = .ok (.isub, 1) := by decide +kernel
theorem dX8_kindOf_33 : decode cX8_kindOf 33 = .ok (.istore_n 2, 1) := by decide +kernel
theorem dX8_kindOf_34 : decode cX8_kindOf 34 = .ok (.aload_n 0, 1) := by decide +kernel
theorem dX8_kindOf_35 : decode cX8_kindOf 35 = .ok (.getfield 8, 3) := by decide +kernel
theorem dX8_kindOf_38 : decode cX8_kindOf 38 = .ok (.bipush 37, 2) := by decide +kernel
theorem dX8_kindOf_40 : decode cX8_kindOf 40 = .ok (.iload_n 1, 1) := by decide +kernel
theorem dX8_kindOf_41 : decode cX8_kindOf 41 = .ok (.iadd, 1) := by decide +kernel
theorem dX8_kindOf_42 : decode cX8_kindOf 42 = .ok (.iaload, 1) := by decide +kernel
theorem dX8_kindOf_43 : decode cX8_kindOf 43 = .ok (.iconst 1, 1) := by decide +kernel
theorem dX8_kindOf_44 : decode cX8_kindOf 44 = .ok (.if_icmp .ne 7, 3) := by decide +kernel
theorem dX8_kindOf_47 : decode cX8_kindOf 47 = .ok (.iconst 3, 1) := by decide +kernel
theorem dX8_kindOf_48 : decode cX8_kindOf 48 = .ok (.goto 20, 3) := by decide +kernel
theorem dX8_kindOf_51 : decode cX8_kindOf 51 = .ok (.iload_n 2, 1) := by decide +kernel
theorem dX8_kindOf_52 : decode cX8_kindOf 52 = .ok (.ifCond .ne 7, 3) := by decide +kernel
theorem dX8_kindOf_55 : decode cX8_kindOf 55 = .ok (.iconst 0, 1) := by decide +kernel
theorem dX8_kindOf_56 : decode cX8_kindOf 56 = .ok (.goto 12, 3) := by decide +kernel
theorem dX8_kindOf_59 : decode cX8_kindOf 59 = .ok (.iload_n 2, 1) := by decide +kernel
theorem dX8_kindOf_60 : decode cX8_kindOf 60 = .ok (.ifCond .le 7, 3) := by decide +kernel
theorem dX8_kindOf_63 : decode cX8_kindOf 63 = .ok (.iconst 1, 1) := by decide +kernel
theorem dX8_kindOf_64 : decode cX8_kindOf 64 = .ok (.goto 4, 3) := by decide +kernel
theorem dX8_kindOf_67 : decode cX8_kindOf 67 = .ok (.iconst 2, 1) := by decide +kernel
theorem dX8_kindOf_68 : decode cX8_kindOf 68 = .ok (.ireturn, 1) := by decide +kernel
theorem dX8_kind_0 : decode cX8_kind 0 = .ok (.aload_n 0, 1) := by decide +kernel
theorem dX8_kind_1 : decode cX8_kind 1 = .ok (.iload_n 1, 1) := by decide +kernel
theorem dX8_kind_2 : decode cX8_kind 2 = .ok (.invokevirtual 77, 3) := by decide +kernel
theorem dX8_kind_5 : decode cX8_kind 5 = .ok (.ifCond .eq 11, 3) := by decide +kernel
theorem dX8_kind_8 : decode cX8_kind 8 = .ok (.aload_n 0, 1) := by decide +kernel
theorem dX8_kind_9 : decode cX8_kind 9 = .ok (.iload_n 1, 1) := by decide +kernel
theorem dX8_kind_10 : decode cX8_kind 10 = .ok (.invokevirtual 80, 3) := by decide +kernel
theorem dX8_kind_13 : decode cX8_kind 13 = .ok (.goto 9, 3) := by decide +kernel
theorem dX8_kind_16 : decode cX8_kind 16 = .ok (.aload_n 0, 1) := by decide +kernel
theorem dX8_kind_17 : decode cX8_kind 17 = .ok (.bipush (-2), 2) := by decide +kernel
theorem dX8_kind_19 : decode cX8_kind 19 = .ok (.invokevirtual 52, 3) := by decide +kernel
theorem dX8_kind_22 : decode cX8_kind 22 = .ok (.ireturn, 1) := by decide +kernel
theorem dX8_isPlace_0 : decode cX8_isPlace 0 = .ok (.iload_n 1, 1) := by decide +kernel
theorem dX8_isPlace_1 : decode cX8_isPlace 1 = .ok (.bipush 6, 2) := by decide +kernel
theorem dX8_isPlace_3 : decode cX8_isPlace 3 = .ok (.if_icmp .ge 11, 3) := by decide +kernel
theorem dX8_isPlace_6 : decode cX8_isPlace 6 = .ok (.aload_n 0, 1) := by decide +kernel
theorem dX8_isPlace_7 : decode cX8_isPlace 7 = .ok (.iload_n 1, 1) := by decide +kernel
theorem dX8_isPlace_8 : decode cX8_isPlace 8 = .ok (.invokevirtual 71, 3) := by decide +kernel
theorem dX8_isPlace_11 : decode cX8_isPlace 11 = .ok (.goto 11, 3) := by decide +kernel
theorem dX8_isPlace_14 : decode cX8_isPlace 14 = .ok (.aload_n 0, 1) := by decide +kernel
theorem dX8_isPlace_15 : decode cX8_isPlace 15 = .ok (.iload_n 1, 1) := by decide +kernel
theorem dX8_isPlace_16 : decode cX8_isPlace 16 = .ok (.bipush 6, 2) := by decide +kernel
theorem dX8_isPlace_18 : decode cX8_isPlace 18 = .ok (.isub, 1) := by decide +kernel
theorem dX8_isPlace_19 : decode cX8_isPlace 19 = .ok (.invokevirtual 77, 3) := by decide +kernel
theorem dX8_isPlace_22 : decode cX8_isPlace 22 = .ok (.ireturn, 1) := by decide +kernel
theorem dX8_depthAt_0 : decode cX8_depthAt 0 = .ok (.aload_n 0, 1) := by decide +kernel
theorem dX8_depthAt_1 : decode cX8_depthAt 1 = .ok (.getfield 8, 3) := by decide +kernel
theorem dX8_depthAt_4 : decode cX8_depthAt 4 = .ok (.iconst 5, 1) := by decide +kernel
theorem dX8_depthAt_5 : decode cX8_depthAt 5 = .ok (.iload_n 1, 1) := by decide +kernel
theorem dX8_depthAt_6 : decode cX8_depthAt 6 = .ok (.bipush 6, 2) := by decide +kernel
theorem dX8_depthAt_8 : decode cX8_depthAt 8 = .ok (.if_icmp .ge 7, 3) := by decide +kernel
theorem dX8_depthAt_11 : decode cX8_depthAt 11 = .ok (.iload_n 1, 1) := by decide +kernel
theorem dX8_depthAt_12 : decode cX8_depthAt 12 = .ok (.goto 15, 3) := by decide +kernel
theorem dX8_depthAt_15 : decode cX8_depthAt 15 = .ok (.aload_n 0, 1) := by decide +kernel
theorem dX8_depthAt_16 : decode cX8_depthAt 16 = .ok (.getfield 8, 3) := by decide +kernel
theorem dX8_depthAt_19 : decode cX8_depthAt 19 = .ok (.bipush 17, 2) := by decide +kernel
theorem dX8_depthAt_21 : decode cX8_depthAt 21 = .ok (.iload_n 1, 1) := by decide +kernel
theorem dX8_depthAt_22 : decode cX8_depthAt 22 = .ok (.iadd, 1) := by decide +kernel
theorem dX8_depthAt_23 : decode cX8_depthAt 23 = .ok (.bipush 6, 2) := by decide +kernel
theorem dX8_depthAt_25 : decode cX8_depthAt 25 = .ok (.isub, 1) := by decide +kernel
theorem dX8_depthAt_26 : decode cX8_depthAt 26 = .ok (.iaload, 1) := by decide +kernel
theorem dX8_depthAt_27 : decode cX8_depthAt 27 = .ok (.iadd, 1) := by decide +kernel
theorem dX8_depthAt_28 : decode cX8_depthAt 28 = .ok (.iaload, 1) := by decide +kernel
theorem dX8_depthAt_29 : decode cX8_depthAt 29 = .ok (.ireturn, 1) := by decide +kernel
theorem dX8_isTime_0 : decode cX8_isTime 0 = .ok (.aload_n 0, 1) := by decide +kernel
theorem dX8_isTime_1 : decode cX8_isTime 1 = .ok (.iload_n 1, 1) := by decide +kernel
theorem dX8_isTime_2 : decode cX8_isTime 2 = .ok (.invokevirtual 83, 3) := by decide +kernel
theorem dX8_isTime_5 : decode cX8_isTime 5 = .ok (.istore_n 3, 1) := by decide +kernel
theorem dX8_isTime_6 : decode cX8_isTime 6 = .ok (.iload_n 2, 1) := by decide +kernel
theorem dX8_isTime_7 : decode cX8_isTime 7 = .ok (.iconst 0, 1) := by decide +kernel
theorem dX8_isTime_8 : decode cX8_isTime 8 = .ok (.sipush 999, 3) := by decide +kernel
theorem dX8_isTime_11 : decode cX8_isTime 11 = .ok (.invokestatic 43, 3) := by decide +kernel
theorem dX8_isTime_14 : decode cX8_isTime 14 = .ok (.ifCond .eq 29, 3) := by decide +kernel
theorem dX8_isTime_17 : decode cX8_isTime 17 = .ok (.iload_n 3, 1) := by decide +kernel
theorem dX8_isTime_18 : decode cX8_isTime 18 = .ok (.iconst 2, 1) := by decide +kernel
theorem dX8_isTime_19 : decode cX8_isTime 19 = .ok (.if_icmp .eq 20, 3) := by decide +kernel
theorem dX8_isTime_22 : decode cX8_isTime 22 = .ok (.iload_n 2, 1) := by decide +kernel
theorem dX8_isTime_23 : decode cX8_isTime 23 = .ok (.iload_n 3, 1) := by decide +kernel
theorem dX8_isTime_24 : decode cX8_isTime 24 = .ok (.iconst 1, 1) := by decide +kernel
theorem dX8_isTime_25 : decode cX8_isTime 25 = .ok (.if_icmp .ne 8, 3) := by decide +kernel
theorem dX8_isTime_28 : decode cX8_isTime 28 = .ok (.bipush 10, 2) := by decide +kernel
theorem dX8_isTime_30 : decode cX8_isTime 30 = .ok (.goto 5, 3) := by decide +kernel
theorem dX8_isTime_33 : decode cX8_isTime 33 = .ok (.bipush 100, 2) := by decide +kernel
theorem dX8_isTime_35 : decode cX8_isTime 35 = .ok (.irem, 1) := by decide +kernel
theorem dX8_isTime_36 : decode cX8_isTime 36 = .ok (.ifCond .ne 7, 3) := by decide +kernel
theorem dX8_isTime_39 : decode cX8_isTime 39 = .ok (.iconst 1, 1) := by decide +kernel
theorem dX8_isTime_40 : decode cX8_isTime 40 = .ok (.goto 4, 3) := by decide +kernel
theorem dX8_isTime_43 : decode cX8_isTime 43 = .ok (.iconst 0, 1) := by decide +kernel
theorem dX8_isTime_44 : decode cX8_isTime 44 = .ok (.ireturn, 1) := by decide +kernel
theorem dX8_moved_0 : decode cX8_moved 0 = .ok (.aload_n 0, 1) := by decide +kernel
theorem dX8_moved_1 : decode cX8_moved 1 = .ok (.iload_n 1, 1) := by decide +kernel
theorem dX8_moved_2 : decode cX8_moved 2 = .ok (.invokevirtual 80, 3) := by decide +kernel
theorem dX8_moved_5 : decode cX8_moved 5 = .ok (.istore_n 3, 1) := by decide +kernel
theorem dX8_moved_6 : decode cX8_moved 6 = .ok (.aload_n 0, 1) := by decide +kernel
theorem dX8_moved_7 : decode cX8_moved 7 = .ok (.getfield 8, 3) := by decide +kernel
theorem dX8_moved_10 : decode cX8_moved 10 = .ok (.iconst 5, 1) := by decide +kernel
theorem dX8_moved_11 : decode cX8_moved 11 = .ok (.aload_n 0, 1) := by decide +kernel
theorem dX8_moved_12 : decode cX8_moved 12 = .ok (.getfield 8, 3) := by decide +kernel
theorem dX8_moved_15 : decode cX8_moved 15 = .ok (.bipush 17, 2) := by decide +kernel
theorem dX8_moved_17 : decode cX8_moved 17 = .ok (.iload_n 1, 1) := by decide +kernel
theorem dX8_moved_18 : decode cX8_moved 18 = .ok (.iadd, 1) := by decide +kernel
theorem dX8_moved_19 : decode cX8_moved 19 = .ok (.iaload, 1) := by decide +kernel
theorem dX8_moved_20 : decode cX8_moved 20 = .ok (.iadd, 1) := by decide +kernel
theorem dX8_moved_21 : decode cX8_moved 21 = .ok (.iaload, 1) := by decide +kernel
theorem dX8_moved_22 : decode cX8_moved 22 = .ok (.iconst 2, 1) := by decide +kernel
theorem dX8_moved_23 : decode cX8_moved 23 = .ok (.if_icmp .ne 7, 3) := by decide +kernel
theorem dX8_moved_26 : decode cX8_moved 26 = .ok (.iconst 1, 1) := by decide +kernel
theorem dX8_moved_27 : decode cX8_moved 27 = .ok (.goto 4, 3) := by decide +kernel
theorem dX8_moved_30 : decode cX8_moved 30 = .ok (.iconst 0, 1) := by decide +kernel
theorem dX8_moved_31 : decode cX8_moved 31 = .ok (.istore 4, 2) := by decide +kernel
theorem dX8_moved_33 : decode cX8_moved 33 = .ok (.iload_n 3, 1) := by decide +kernel
theorem dX8_moved_34 : decode cX8_moved 34 = .ok (.iconst 2, 1) := by decide +kernel
theorem dX8_moved_35 : decode cX8_moved 35 = .ok (.if_icmp .ne 24, 3) := by decide +kernel
theorem dX8_moved_38 : decode cX8_moved 38 = .ok (.iload 4, 2) := by decide +kernel
theorem dX8_moved_40 : decode cX8_moved 40 = .ok (.ifCond .eq 12, 3) := by decide +kernel
theorem dX8_moved_43 : decode cX8_moved 43 = .ok (.iload_n 2, 1) := by decide +kernel
theorem dX8_moved_44 : decode cX8_moved 44 = .ok (.iload_n 2, 1) := by decide +kernel
theorem dX8_moved_45 : decode cX8_moved 45 = .ok (.bipush 10, 2) := by decide +kernel
theorem dX8_moved_47 : decode cX8_moved 47 = .ok (.irem, 1) := by decide +kernel
theorem dX8_moved_48 : decode cX8_moved 48 = .ok (.isub, 1) := by decide +kernel
theorem dX8_moved_49 : decode cX8_moved 49 = .ok (.goto 9, 3) := by decide +kernel
theorem dX8_moved_52 : decode cX8_moved 52 = .ok (.iload_n 2, 1) := by decide +kernel
theorem dX8_moved_53 : decode cX8_moved 53 = .ok (.iload_n 2, 1) := by decide +kernel
theorem dX8_moved_54 : decode cX8_moved 54 = .ok (.bipush 100, 2) := by decide +kernel
theorem dX8_moved_56 : decode cX8_moved 56 = .ok (.irem, 1) := by decide +kernel
theorem dX8_moved_57 : decode cX8_moved 57 = .ok (.isub, 1) := by decide +kernel
theorem dX8_moved_58 : decode cX8_moved 58 = .ok (.ireturn, 1) := by decide +kernel
theorem dX8_moved_59 : decode cX8_moved 59 = .ok (.iload_n 3, 1) := by decide +kernel
theorem dX8_moved_60 : decode cX8_moved 60 = .ok (.iconst 3, 1) := by decide +kernel
theorem dX8_moved_61 : decode cX8_moved 61 = .ok (.if_icmp .ne 49, 3) := by decide +kernel
theorem dX8_moved_64 : decode cX8_moved 64 = .ok (.iload 4, 2) := by decide +kernel
theorem dX8_moved_66 : decode cX8_moved 66 = .ok (.ifCond .eq 10, 3) := by decide +kernel
theorem dX8_moved_69 : decode cX8_moved 69 = .ok (.iload_n 2, 1) := by decide +kernel
theorem dX8_moved_70 : decode cX8_moved 70 = .ok (.bipush 10, 2) := by decide +kernel
theorem dX8_moved_72 : decode cX8_moved 72 = .ok (.irem, 1) := by decide +kernel
theorem dX8_moved_73 : decode cX8_moved 73 = .ok (.goto 10, 3) := by decide +kernel
theorem dX8_moved_76 : decode cX8_moved 76 = .ok (.iload_n 2, 1) := by decide +kernel
theorem dX8_moved_77 : decode cX8_moved 77 = .ok (.bipush 10, 2) := by decide +kernel
theorem dX8_moved_79 : decode cX8_moved 79 = .ok (.idiv, 1) := by decide +kernel
theorem dX8_moved_80 : decode cX8_moved 80 = .ok (.bipush 10, 2) := by decide +kernel
theorem dX8_moved_82 : decode cX8_moved 82 = .ok (.irem, 1) := by decide +kernel
theorem dX8_moved_83 : decode cX8_moved 83 = .ok (.istore 5, 2) := by decide +kernel
theorem dX8_moved_85 : decode cX8_moved 85 = .ok (.iload 5, 2) := by decide +kernel
theorem dX8_moved_87 : decode cX8_moved 87 = .ok (.bipush 9, 2) := by decide +kernel
theorem dX8_moved_89 : decode cX8_moved 89 = .ok (.if_icmp .ne 7, 3) := by decide +kernel
theorem dX8_moved_92 : decode cX8_moved 92 = .ok (.iconst (-1), 1) := by decide +kernel
theorem dX8_moved_93 : decode cX8_moved 93 = .ok (.goto 16, 3) := by decide +kernel
theorem dX8_moved_96 : decode cX8_moved 96 = .ok (.iload_n 2, 1) := by decide +kernel
theorem dX8_moved_97 : decode cX8_moved 97 = .ok (.iload 4, 2) := by decide +kernel
theorem dX8_moved_99 : decode cX8_moved 99 = .ok (.ifCond .eq 7, 3) := by decide +kernel
theorem dX8_moved_102 : decode cX8_moved 102 = .ok (.iconst 1, 1) := by decide +kernel
theorem dX8_moved_103 : decode cX8_moved 103 = .ok (.goto 5, 3) := by decide +kernel
theorem dX8_moved_106 : decode cX8_moved 106 = .ok (.bipush 10, 2) := by decide +kernel
theorem dX8_moved_108 : decode cX8_moved 108 = .ok (.iadd, 1) := by decide +kernel
theorem dX8_moved_109 : decode cX8_moved 109 = .ok (.ireturn, 1) := by decide +kernel
theorem dX8_moved_110 : decode cX8_moved 110 = .ok (.iload_n 2, 1) := by decide +kernel
theorem dX8_moved_111 : decode cX8_moved 111 = .ok (.ireturn, 1) := by decide +kernel
theorem dX8_move_0 : decode cX8_move 0 = .ok (.aload_n 0, 1) := by decide +kernel
theorem dX8_move_1 : decode cX8_move 1 = .ok (.iload_n 1, 1) := by decide +kernel
theorem dX8_move_2 : decode cX8_move 2 = .ok (.invokevirtual 77, 3) := by decide +kernel
theorem dX8_move_5 : decode cX8_move 5 = .ok (.ifCond .eq 24, 3) := by decide +kernel
theorem dX8_move_8 : decode cX8_move 8 = .ok (.aload_n 0, 1) := by decide +kernel
theorem dX8_move_9 : decode cX8_move 9 = .ok (.bipush 6, 2) := by decide +kernel
theorem dX8_move_11 : decode cX8_move 11 = .ok (.iload_n 1, 1) := by decide +kernel
theorem dX8_move_12 : decode cX8_move 12 = .ok (.iadd, 1) := by decide +kernel
theorem dX8_move_13 : decode cX8_move 13 = .ok (.iload_n 2, 1) := by decide +kernel
theorem dX8_move_14 : decode cX8_move 14 = .ok (.invokevirtual 86, 3) := by decide +kernel
theorem dX8_move_17 : decode cX8_move 17 = .ok (.ifCond .eq 12, 3) := by decide +kernel
theorem dX8_move_20 : decode cX8_move 20 = .ok (.aload_n 0, 1) := by decide +kernel
theorem dX8_move_21 : decode cX8_move 21 = .ok (.iload_n 1, 1) := by decide +kernel
theorem dX8_move_22 : decode cX8_move 22 = .ok (.iload_n 2, 1) := by decide +kernel
theorem dX8_move_23 : decode cX8_move 23 = .ok (.invokevirtual 90, 3) := by decide +kernel
theorem dX8_move_26 : decode cX8_move 26 = .ok (.goto 9, 3) := by decide +kernel
theorem dX8_move_29 : decode cX8_move 29 = .ok (.aload_n 0, 1) := by decide +kernel
theorem dX8_move_30 : decode cX8_move 30 = .ok (.bipush (-2), 2) := by decide +kernel
theorem dX8_move_32 : decode cX8_move 32 = .ok (.invokevirtual 52, 3) := by decide +kernel
theorem dX8_move_35 : decode cX8_move 35 = .ok (.ireturn, 1) := by decide +kernel
theorem dX8_reaches_0 : decode cX8_reaches 0 = .ok (.aload_n 0, 1) := by decide +kernel
theorem dX8_reaches_1 : decode cX8_reaches 1 = .ok (.getfield 27, 3) := by decide +kernel
theorem dX8_reaches_4 : decode cX8_reaches 4 = .ok (.bipush 100, 2) := by decide +kernel
theorem dX8_reaches_6 : decode cX8_reaches 6 = .ok (.iload_n 1, 1) := by decide +kernel
theorem dX8_reaches_7 : decode cX8_reaches 7 = .ok (.imul, 1) := by decide +kernel
theorem dX8_reaches_8 : decode cX8_reaches 8 = .ok (.iload_n 2, 1) := by decide +kernel
theorem dX8_reaches_9 : decode cX8_reaches 9 = .ok (.iadd, 1) := by decide +kernel
theorem dX8_reaches_10 : decode cX8_reaches 10 = .ok (.baload, 1) := by decide +kernel
theorem dX8_reaches_11 : decode cX8_reaches 11 = .ok (.ifCond .ne 76, 3) := by decide +kernel
theorem dX8_reaches_14 : decode cX8_reaches 14 = .ok (.aload_n 0, 1) := by decide +kernel
theorem dX8_reaches_15 : decode cX8_reaches 15 = .ok (.getfield 27, 3) := by decide +kernel
theorem dX8_reaches_18 : decode cX8_reaches 18 = .ok (.bipush 100, 2) := by decide +kernel
theorem dX8_reaches_20 : decode cX8_reaches 20 = .ok (.iload_n 1, 1) := by decide +kernel
theorem dX8_reaches_21 : decode cX8_reaches 21 = .ok (.imul, 1) := by decide +kernel
theorem dX8_reaches_22 : decode cX8_reaches 22 = .ok (.iload_n 2, 1) := by decide +kernel
theorem dX8_reaches_23 : decode cX8_reaches 23 = .ok (.iadd, 1) := by decide +kernel
theorem dX8_reaches_24 : decode cX8_reaches 24 = .ok (.iconst 1, 1) := by decide +kernel
theorem dX8_reaches_25 : decode cX8_reaches 25 = .ok (.bastore, 1) := by decide +kernel
theorem dX8_reaches_26 : decode cX8_reaches 26 = .ok (.aload_n 0, 1) := by decide +kernel
theorem dX8_reaches_27 : decode cX8_reaches 27 = .ok (.getfield 31, 3) := by decide +kernel
theorem dX8_reaches_30 : decode cX8_reaches 30 = .ok (.aload_n 0, 1) := by decide +kernel
theorem dX8_reaches_31 : decode cX8_reaches 31 = .ok (.getfield 94, 3) := by decide +kernel
theorem dX8_reaches_34 : decode cX8_reaches 34 = .ok (.bipush 100, 2) := by decide +kernel
theorem dX8_reaches_36 : decode cX8_reaches 36 = .ok (.iload_n 1, 1) := by decide +kernel
theorem dX8_reaches_37 : decode cX8_reaches 37 = .ok (.imul, 1) := by decide +kernel
theorem dX8_reaches_38 : decode cX8_reaches 38 = .ok (.iload_n 2, 1) := by decide +kernel
theorem dX8_reaches_39 : decode cX8_reaches 39 = .ok (.iadd, 1) := by decide +kernel
theorem dX8_reaches_40 : decode cX8_reaches 40 = .ok (.iastore, 1) := by decide +kernel
theorem dX8_reaches_41 : decode cX8_reaches 41 = .ok (.aload_n 0, 1) := by decide +kernel
theorem dX8_reaches_42 : decode cX8_reaches 42 = .ok (.dup, 1) := by decide +kernel
theorem dX8_reaches_43 : decode cX8_reaches 43 = .ok (.getfield 94, 3) := by decide +kernel
theorem dX8_reaches_46 : decode cX8_reaches 46 = .ok (.iconst 1, 1) := by decide +kernel
theorem dX8_reaches_47 : decode cX8_reaches 47 = .ok (.iadd, 1) := by decide +kernel
theorem dX8_reaches_48 : decode cX8_reaches 48 = .ok (.putfield 94, 3) := by decide +kernel
theorem dX8_reaches_51 : decode cX8_reaches 51 = .ok (.aload_n 0, 1) := by decide +kernel
theorem dX8_reaches_52 : decode cX8_reaches 52 = .ok (.getfield 34, 3) := by decide +kernel
theorem dX8_reaches_55 : decode cX8_reaches 55 = .ok (.iload_n 1, 1) := by decide +kernel
theorem dX8_reaches_56 : decode cX8_reaches 56 = .ok (.aload_n 0, 1) := by decide +kernel
theorem dX8_reaches_57 : decode cX8_reaches 57 = .ok (.getfield 34, 3) := by decide +kernel
theorem dX8_reaches_60 : decode cX8_reaches 60 = .ok (.iload_n 1, 1) := by decide +kernel
theorem dX8_reaches_61 : decode cX8_reaches 61 = .ok (.iaload, 1) := by decide +kernel
theorem dX8_reaches_62 : decode cX8_reaches 62 = .ok (.iconst (-1), 1) := by decide +kernel
theorem dX8_reaches_63 : decode cX8_reaches 63 = .ok (.if_icmp .eq 13, 3) := by decide +kernel
theorem dX8_reaches_66 : decode cX8_reaches 66 = .ok (.iload_n 2, 1) := by decide +kernel
theorem dX8_reaches_67 : decode cX8_reaches 67 = .ok (.aload_n 0, 1) := by decide +kernel
theorem dX8_reaches_68 : decode cX8_reaches 68 = .ok (.getfield 34, 3) := by decide +kernel
theorem dX8_reaches_71 : decode cX8_reaches 71 = .ok (.iload_n 1, 1) := by decide +kernel
theorem dX8_reaches_72 : decode cX8_reaches 72 = .ok (.iaload, 1) := by decide +kernel
theorem dX8_reaches_73 : decode cX8_reaches 73 = .ok (.if_icmp .ge 7, 3) := by decide +kernel
theorem dX8_reaches_76 : decode cX8_reaches 76 = .ok (.iload_n 2, 1) := by decide +kernel
theorem dX8_reaches_77 : decode cX8_reaches 77 = .ok (.goto 9, 3) := by decide +kernel
theorem dX8_reaches_80 : decode cX8_reaches 80 = .ok (.aload_n 0, 1) := by decide +kernel
theorem dX8_reaches_81 : decode cX8_reaches 81 = .ok (.getfield 34, 3) := by decide +kernel
theorem dX8_reaches_84 : decode cX8_reaches 84 = .ok (.iload_n 1, 1) := by decide +kernel
theorem dX8_reaches_85 : decode cX8_reaches 85 = .ok (.iaload, 1) := by decide +kernel
theorem dX8_reaches_86 : decode cX8_reaches 86 = .ok (.iastore, 1) := by decide +kernel
theorem dX8_reaches_87 : decode cX8_reaches 87 = .ok (.return_, 1) := by decide +kernel
theorem dX8_goes_0 : decode cX8_goes 0 = .ok (.iconst 0, 1) := by decide +kernel
theorem dX8_goes_1 : decode cX8_goes 1 = .ok (.istore_n 3, 1) := by decide +kernel
theorem dX8_goes_2 : decode cX8_goes 2 = .ok (.iload_n 3, 1) := by decide +kernel
theorem dX8_goes_3 : decode cX8_goes 3 = .ok (.sipush 1600, 3) := by decide +kernel
theorem dX8_goes_6 : decode cX8_goes 6 = .ok (.if_icmp .ge 16, 3) := by decide +kernel
theorem dX8_goes_9 : decode cX8_goes 9 = .ok (.aload_n 0, 1) := by decide +kernel
theorem dX8_goes_10 : decode cX8_goes 10 = .ok (.getfield 27, 3) := by decide +kernel
theorem dX8_goes_13 : decode cX8_goes 13 = .ok (.iload_n 3, 1) := by decide +kernel
theorem dX8_goes_14 : decode cX8_goes 14 = .ok (.iconst 0, 1) := by decide +kernel
theorem dX8_goes_15 : decode cX8_goes 15 = .ok (.bastore, 1) := by decide +kernel
theorem dX8_goes_16 : decode cX8_goes 16 = .ok (.iinc 3 1, 3) := by decide +kernel
theorem dX8_goes_19 : decode cX8_goes 19 = .ok (.goto (-17), 3) := by decide +kernel
theorem dX8_goes_22 : decode cX8_goes 22 = .ok (.iconst 0, 1) := by decide +kernel
theorem dX8_goes_23 : decode cX8_goes 23 = .ok (.istore_n 3, 1) := by decide +kernel
theorem dX8_goes_24 : decode cX8_goes 24 = .ok (.iload_n 3, 1) := by decide +kernel
theorem dX8_goes_25 : decode cX8_goes 25 = .ok (.bipush 16, 2) := by decide +kernel
theorem dX8_goes_27 : decode cX8_goes 27 = .ok (.if_icmp .ge 16, 3) := by decide +kernel
theorem dX8_goes_30 : decode cX8_goes 30 = .ok (.aload_n 0, 1) := by decide +kernel
theorem dX8_goes_31 : decode cX8_goes 31 = .ok (.getfield 34, 3) := by decide +kernel
theorem dX8_goes_34 : decode cX8_goes 34 = .ok (.iload_n 3, 1) := by decide +kernel
theorem dX8_goes_35 : decode cX8_goes 35 = .ok (.iconst (-1), 1) := by decide +kernel
theorem dX8_goes_36 : decode cX8_goes 36 = .ok (.iastore, 1) := by decide +kernel
theorem dX8_goes_37 : decode cX8_goes 37 = .ok (.iinc 3 1, 3) := by decide +kernel
theorem dX8_goes_40 : decode cX8_goes 40 = .ok (.goto (-16), 3) := by decide +kernel
theorem dX8_goes_43 : decode cX8_goes 43 = .ok (.aload_n 0, 1) := by decide +kernel
theorem dX8_goes_44 : decode cX8_goes 44 = .ok (.iconst 0, 1) := by decide +kernel
theorem dX8_goes_45 : decode cX8_goes 45 = .ok (.putfield 94, 3) := by decide +kernel
theorem dX8_goes_48 : decode cX8_goes 48 = .ok (.aload_n 0, 1) := by decide +kernel
theorem dX8_goes_49 : decode cX8_goes 49 = .ok (.iload_n 1, 1) := by decide +kernel
theorem dX8_goes_50 : decode cX8_goes 50 = .ok (.iload_n 2, 1) := by decide +kernel
theorem dX8_goes_51 : decode cX8_goes 51 = .ok (.invokevirtual 97, 3) := by decide +kernel
theorem dX8_goes_54 : decode cX8_goes 54 = .ok (.iconst 0, 1) := by decide +kernel
theorem dX8_goes_55 : decode cX8_goes 55 = .ok (.istore_n 3, 1) := by decide +kernel
theorem dX8_goes_56 : decode cX8_goes 56 = .ok (.iload_n 3, 1) := by decide +kernel
theorem dX8_goes_57 : decode cX8_goes 57 = .ok (.aload_n 0, 1) := by decide +kernel
theorem dX8_goes_58 : decode cX8_goes 58 = .ok (.getfield 94, 3) := by decide +kernel
theorem dX8_goes_61 : decode cX8_goes 61 = .ok (.if_icmp .ge 125, 3) := by decide +kernel
theorem dX8_goes_64 : decode cX8_goes 64 = .ok (.aload_n 0, 1) := by decide +kernel
theorem dX8_goes_65 : decode cX8_goes 65 = .ok (.getfield 31, 3) := by decide +kernel
theorem dX8_goes_68 : decode cX8_goes 68 = .ok (.iload_n 3, 1) := by decide +kernel
theorem dX8_goes_69 : decode cX8_goes 69 = .ok (.iaload, 1) := by decide +kernel
theorem dX8_goes_70 : decode cX8_goes 70 = .ok (.bipush 100, 2) := by decide +kernel
theorem dX8_goes_72 : decode cX8_goes 72 = .ok (.idiv, 1) := by decide +kernel
theorem dX8_goes_73 : decode cX8_goes 73 = .ok (.istore 4, 2) := by decide +kernel
theorem dX8_goes_75 : decode cX8_goes 75 = .ok (.aload_n 0, 1) := by decide +kernel
theorem dX8_goes_76 : decode cX8_goes 76 = .ok (.getfield 31, 3) := by decide +kernel
theorem dX8_goes_79 : decode cX8_goes 79 = .ok (.iload_n 3, 1) := by decide +kernel
theorem dX8_goes_80 : decode cX8_goes 80 = .ok (.iaload, 1) := by decide +kernel
theorem dX8_goes_81 : decode cX8_goes 81 = .ok (.bipush 100, 2) := by decide +kernel
theorem dX8_goes_83 : decode cX8_goes 83 = .ok (.irem, 1) := by decide +kernel
theorem dX8_goes_84 : decode cX8_goes 84 = .ok (.istore 5, 2) := by decide +kernel
theorem dX8_goes_86 : decode cX8_goes 86 = .ok (.iload 4, 2) := by decide +kernel
theorem dX8_goes_88 : decode cX8_goes 88 = .ok (.bipush 6, 2) := by decide +kernel
theorem dX8_goes_90 : decode cX8_goes 90 = .ok (.if_icmp .lt 44, 3) := by decide +kernel
theorem dX8_goes_93 : decode cX8_goes 93 = .ok (.aload_n 0, 1) := by decide +kernel
theorem dX8_goes_94 : decode cX8_goes 94 = .ok (.iload 4, 2) := by decide +kernel
theorem dX8_goes_96 : decode cX8_goes 96 = .ok (.bipush 6, 2) := by decide +kernel
theorem dX8_goes_98 : decode cX8_goes 98 = .ok (.isub, 1) := by decide +kernel
theorem dX8_goes_99 : decode cX8_goes 99 = .ok (.iload 5, 2) := by decide +kernel
theorem dX8_goes_101 : decode cX8_goes 101 = .ok (.invokevirtual 90, 3) := by decide +kernel
theorem dX8_goes_104 : decode cX8_goes 104 = .ok (.istore 6, 2) := by decide +kernel
theorem dX8_goes_106 : decode cX8_goes 106 = .ok (.iload 6, 2) := by decide +kernel
theorem dX8_goes_108 : decode cX8_goes 108 = .ok (.iconst (-1), 1) := by decide +kernel
theorem dX8_goes_109 : decode cX8_goes 109 = .ok (.if_icmp .eq 22, 3) := by decide +kernel
theorem dX8_goes_112 : decode cX8_goes 112 = .ok (.aload_n 0, 1) := by decide +kernel
theorem dX8_goes_113 : decode cX8_goes 113 = .ok (.aload_n 0, 1) := by decide +kernel
theorem dX8_goes_114 : decode cX8_goes 114 = .ok (.getfield 8, 3) := by decide +kernel
theorem dX8_goes_117 : decode cX8_goes 117 = .ok (.bipush 27, 2) := by decide +kernel
theorem dX8_goes_119 : decode cX8_goes 119 = .ok (.iload 4, 2) := by decide +kernel
theorem dX8_goes_121 : decode cX8_goes 121 = .ok (.iadd, 1) := by decide +kernel
theorem dX8_goes_122 : decode cX8_goes 122 = .ok (.bipush 6, 2) := by decide +kernel
theorem dX8_goes_124 : decode cX8_goes 124 = .ok (.isub, 1) := by decide +kernel
theorem dX8_goes_125 : decode cX8_goes 125 = .ok (.iaload, 1) := by decide +kernel
theorem dX8_goes_126 : decode cX8_goes 126 = .ok (.iload 6, 2) := by decide +kernel
theorem dX8_goes_128 : decode cX8_goes 128 = .ok (.invokevirtual 97, 3) := by decide +kernel
theorem dX8_goes_131 : decode cX8_goes 131 = .ok (.goto 49, 3) := by decide +kernel
theorem dX8_goes_134 : decode cX8_goes 134 = .ok (.iconst 0, 1) := by decide +kernel
theorem dX8_goes_135 : decode cX8_goes 135 = .ok (.istore 6, 2) := by decide +kernel
theorem dX8_goes_137 : decode cX8_goes 137 = .ok (.iload 6, 2) := by decide +kernel
theorem dX8_goes_139 : decode cX8_goes 139 = .ok (.aload_n 0, 1) := by decide +kernel
theorem dX8_goes_140 : decode cX8_goes 140 = .ok (.getfield 8, 3) := by decide +kernel
theorem dX8_goes_143 : decode cX8_goes 143 = .ok (.iconst 1, 1) := by decide +kernel
theorem dX8_goes_144 : decode cX8_goes 144 = .ok (.iaload, 1) := by decide +kernel
theorem dX8_goes_145 : decode cX8_goes 145 = .ok (.if_icmp .ge 35, 3) := by decide +kernel
theorem dX8_goes_148 : decode cX8_goes 148 = .ok (.aload_n 0, 1) := by decide +kernel
theorem dX8_goes_149 : decode cX8_goes 149 = .ok (.getfield 8, 3) := by decide +kernel
theorem dX8_goes_152 : decode cX8_goes 152 = .ok (.bipush 17, 2) := by decide +kernel
theorem dX8_goes_154 : decode cX8_goes 154 = .ok (.iload 6, 2) := by decide +kernel
theorem dX8_goes_156 : decode cX8_goes 156 = .ok (.iadd, 1) := by decide +kernel
theorem dX8_goes_157 : decode cX8_goes 157 = .ok (.iaload, 1) := by decide +kernel
theorem dX8_goes_158 : decode cX8_goes 158 = .ok (.iload 4, 2) := by decide +kernel
theorem dX8_goes_160 : decode cX8_goes 160 = .ok (.if_icmp .ne 14, 3) := by decide +kernel
theorem dX8_goes_163 : decode cX8_goes 163 = .ok (.aload_n 0, 1) := by decide +kernel
theorem dX8_goes_164 : decode cX8_goes 164 = .ok (.bipush 6, 2) := by decide +kernel
theorem dX8_goes_166 : decode cX8_goes 166 = .ok (.iload 6, 2) := by decide +kernel
theorem dX8_goes_168 : decode cX8_goes 168 = .ok (.iadd, 1) := by decide +kernel
theorem dX8_goes_169 : decode cX8_goes 169 = .ok (.iload 5, 2) := by decide +kernel
theorem dX8_goes_171 : decode cX8_goes 171 = .ok (.invokevirtual 97, 3) := by decide +kernel
theorem dX8_goes_174 : decode cX8_goes 174 = .ok (.iinc 6 1, 3) := by decide +kernel
theorem dX8_goes_177 : decode cX8_goes 177 = .ok (.goto (-40), 3) := by decide +kernel
theorem dX8_goes_180 : decode cX8_goes 180 = .ok (.iinc 3 1, 3) := by decide +kernel
theorem dX8_goes_183 : decode cX8_goes 183 = .ok (.goto (-127), 3) := by decide +kernel
theorem dX8_goes_186 : decode cX8_goes 186 = .ok (.return_, 1) := by decide +kernel
theorem dX8_couldResultIn_0 : decode cX8_couldResultIn 0 = .ok (.aload_n 0, 1) := by decide +kernel
theorem dX8_couldResultIn_1 : decode cX8_couldResultIn 1 = .ok (.iload_n 1, 1) := by decide +kernel
theorem dX8_couldResultIn_2 : decode cX8_couldResultIn 2 = .ok (.invokevirtual 101, 3) := by decide +kernel
theorem dX8_couldResultIn_5 : decode cX8_couldResultIn 5 = .ok (.ifCond .eq 30, 3) := by decide +kernel
theorem dX8_couldResultIn_8 : decode cX8_couldResultIn 8 = .ok (.aload_n 0, 1) := by decide +kernel
theorem dX8_couldResultIn_9 : decode cX8_couldResultIn 9 = .ok (.iload_n 3, 1) := by decide +kernel
theorem dX8_couldResultIn_10 : decode cX8_couldResultIn 10 = .ok (.invokevirtual 101, 3) := by decide +kernel
theorem dX8_couldResultIn_13 : decode cX8_couldResultIn 13 = .ok (.ifCond .eq 22, 3) := by decide +kernel
theorem dX8_couldResultIn_16 : decode cX8_couldResultIn 16 = .ok (.aload_n 0, 1) := by decide +kernel
theorem dX8_couldResultIn_17 : decode cX8_couldResultIn 17 = .ok (.iload_n 1, 1) := by decide +kernel
theorem dX8_couldResultIn_18 : decode cX8_couldResultIn 18 = .ok (.iload_n 2, 1) := by decide +kernel
theorem dX8_couldResultIn_19 : decode cX8_couldResultIn 19 = .ok (.invokevirtual 86, 3) := by decide +kernel
theorem dX8_couldResultIn_22 : decode cX8_couldResultIn 22 = .ok (.ifCond .eq 13, 3) := by decide +kernel
theorem dX8_couldResultIn_25 : decode cX8_couldResultIn 25 = .ok (.aload_n 0, 1) := by decide +kernel
theorem dX8_couldResultIn_26 : decode cX8_couldResultIn 26 = .ok (.iload_n 3, 1) := by decide +kernel
theorem dX8_couldResultIn_27 : decode cX8_couldResultIn 27 = .ok (.iload 4, 2) := by decide +kernel
theorem dX8_couldResultIn_29 : decode cX8_couldResultIn 29 = .ok (.invokevirtual 86, 3) := by decide +kernel
theorem dX8_couldResultIn_32 : decode cX8_couldResultIn 32 = .ok (.ifCond .ne 10, 3) := by decide +kernel
theorem dX8_couldResultIn_35 : decode cX8_couldResultIn 35 = .ok (.aload_n 0, 1) := by decide +kernel
theorem dX8_couldResultIn_36 : decode cX8_couldResultIn 36 = .ok (.bipush (-2), 2) := by decide +kernel
theorem dX8_couldResultIn_38 : decode cX8_couldResultIn 38 = .ok (.invokevirtual 52, 3) := by decide +kernel
theorem dX8_couldResultIn_41 : decode cX8_couldResultIn 41 = .ok (.ireturn, 1) := by decide +kernel
theorem dX8_couldResultIn_42 : decode cX8_couldResultIn 42 = .ok (.aload_n 0, 1) := by decide +kernel
theorem dX8_couldResultIn_43 : decode cX8_couldResultIn 43 = .ok (.iload_n 1, 1) := by decide +kernel
theorem dX8_couldResultIn_44 : decode cX8_couldResultIn 44 = .ok (.iload_n 2, 1) := by decide +kernel
theorem dX8_couldResultIn_45 : decode cX8_couldResultIn 45 = .ok (.bipush 100, 2) := by decide +kernel
theorem dX8_couldResultIn_47 : decode cX8_couldResultIn 47 = .ok (.irem, 1) := by decide +kernel
theorem dX8_couldResultIn_48 : decode cX8_couldResultIn 48 = .ok (.invokevirtual 104, 3) := by decide +kernel
theorem dX8_couldResultIn_51 : decode cX8_couldResultIn 51 = .ok (.iload_n 2, 1) := by decide +kernel
theorem dX8_couldResultIn_52 : decode cX8_couldResultIn 52 = .ok (.bipush 100, 2) := by decide +kernel
theorem dX8_couldResultIn_54 : decode cX8_couldResultIn 54 = .ok (.idiv, 1) := by decide +kernel
theorem dX8_couldResultIn_55 : decode cX8_couldResultIn 55 = .ok (.iload 4, 2) := by decide +kernel
theorem dX8_couldResultIn_57 : decode cX8_couldResultIn 57 = .ok (.bipush 100, 2) := by decide +kernel
theorem dX8_couldResultIn_59 : decode cX8_couldResultIn 59 = .ok (.idiv, 1) := by decide +kernel
theorem dX8_couldResultIn_60 : decode cX8_couldResultIn 60 = .ok (.if_icmp .gt 31, 3) := by decide +kernel
theorem dX8_couldResultIn_63 : decode cX8_couldResultIn 63 = .ok (.aload_n 0, 1) := by decide +kernel
theorem dX8_couldResultIn_64 : decode cX8_couldResultIn 64 = .ok (.getfield 34, 3) := by decide +kernel
theorem dX8_couldResultIn_67 : decode cX8_couldResultIn 67 = .ok (.iload_n 3, 1) := by decide +kernel
theorem dX8_couldResultIn_68 : decode cX8_couldResultIn 68 = .ok (.iaload, 1) := by decide +kernel
theorem dX8_couldResultIn_69 : decode cX8_couldResultIn 69 = .ok (.iconst (-1), 1) := by decide +kernel
theorem dX8_couldResultIn_70 : decode cX8_couldResultIn 70 = .ok (.if_icmp .eq 21, 3) := by decide +kernel
theorem dX8_couldResultIn_73 : decode cX8_couldResultIn 73 = .ok (.aload_n 0, 1) := by decide +kernel
theorem dX8_couldResultIn_74 : decode cX8_couldResultIn 74 = .ok (.getfield 34, 3) := by decide +kernel
theorem dX8_couldResultIn_77 : decode cX8_couldResultIn 77 = .ok (.iload_n 3, 1) := by decide +kernel
theorem dX8_couldResultIn_78 : decode cX8_couldResultIn 78 = .ok (.iaload, 1) := by decide +kernel
theorem dX8_couldResultIn_79 : decode cX8_couldResultIn 79 = .ok (.iload 4, 2) := by decide +kernel
theorem dX8_couldResultIn_81 : decode cX8_couldResultIn 81 = .ok (.bipush 100, 2) := by decide +kernel
theorem dX8_couldResultIn_83 : decode cX8_couldResultIn 83 = .ok (.irem, 1) := by decide +kernel
