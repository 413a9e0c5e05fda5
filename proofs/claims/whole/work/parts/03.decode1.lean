theorem dX0_init_0 : decode cX0_init 0 = .ok (.aload_n 0, 1) := by decide +kernel
theorem dX0_init_1 : decode cX0_init 1 = .ok (.invokespecial 3, 3) := by decide +kernel
theorem dX0_init_4 : decode cX0_init 4 = .ok (.aload_n 0, 1) := by decide +kernel
theorem dX0_init_5 : decode cX0_init 5 = .ok (.bipush 6, 2) := by decide +kernel
theorem dX0_init_7 : decode cX0_init 7 = .ok (.newarray .int, 2) := by decide +kernel
theorem dX0_init_9 : decode cX0_init 9 = .ok (.putfield 9, 3) := by decide +kernel
theorem dX0_init_12 : decode cX0_init 12 = .ok (.aload_n 0, 1) := by decide +kernel
theorem dX0_init_13 : decode cX0_init 13 = .ok (.bipush 11, 2) := by decide +kernel
theorem dX0_init_15 : decode cX0_init 15 = .ok (.newarray .int, 2) := by decide +kernel
theorem dX0_init_17 : decode cX0_init 17 = .ok (.putfield 15, 3) := by decide +kernel
theorem dX0_init_20 : decode cX0_init 20 = .ok (.aload_n 0, 1) := by decide +kernel
theorem dX0_init_21 : decode cX0_init 21 = .ok (.bipush 11, 2) := by decide +kernel
theorem dX0_init_23 : decode cX0_init 23 = .ok (.newarray .int, 2) := by decide +kernel
theorem dX0_init_25 : decode cX0_init 25 = .ok (.putfield 18, 3) := by decide +kernel
theorem dX0_init_28 : decode cX0_init 28 = .ok (.aload_n 0, 1) := by decide +kernel
theorem dX0_init_29 : decode cX0_init 29 = .ok (.bipush 11, 2) := by decide +kernel
theorem dX0_init_31 : decode cX0_init 31 = .ok (.newarray .int, 2) := by decide +kernel
theorem dX0_init_33 : decode cX0_init 33 = .ok (.putfield 21, 3) := by decide +kernel
theorem dX0_init_36 : decode cX0_init 36 = .ok (.return_, 1) := by decide +kernel
theorem dX0_hasNode_0 : decode cX0_hasNode 0 = .ok (.iload_n 1, 1) := by decide +kernel
theorem dX0_hasNode_1 : decode cX0_hasNode 1 = .ok (.ifCond .lt 15, 3) := by decide +kernel
theorem dX0_hasNode_4 : decode cX0_hasNode 4 = .ok (.iload_n 1, 1) := by decide +kernel
theorem dX0_hasNode_5 : decode cX0_hasNode 5 = .ok (.aload_n 0, 1) := by decide +kernel
theorem dX0_hasNode_6 : decode cX0_hasNode 6 = .ok (.getfield 24, 3) := by decide +kernel
theorem dX0_hasNode_9 : decode cX0_hasNode 9 = .ok (.if_icmp .ge 7, 3) := by decide +kernel
theorem dX0_hasNode_12 : decode cX0_hasNode 12 = .ok (.iconst 1, 1) := by decide +kernel
theorem dX0_hasNode_13 : decode cX0_hasNode 13 = .ok (.goto 4, 3) := by decide +kernel
theorem dX0_hasNode_16 : decode cX0_hasNode 16 = .ok (.iconst 0, 1) := by decide +kernel
theorem dX0_hasNode_17 : decode cX0_hasNode 17 = .ok (.ireturn, 1) := by decide +kernel
theorem dX0_hasEdge_0 : decode cX0_hasEdge 0 = .ok (.iload_n 1, 1) := by decide +kernel
theorem dX0_hasEdge_1 : decode cX0_hasEdge 1 = .ok (.ifCond .lt 15, 3) := by decide +kernel
theorem dX0_hasEdge_4 : decode cX0_hasEdge 4 = .ok (.iload_n 1, 1) := by decide +kernel
theorem dX0_hasEdge_5 : decode cX0_hasEdge 5 = .ok (.aload_n 0, 1) := by decide +kernel
theorem dX0_hasEdge_6 : decode cX0_hasEdge 6 = .ok (.getfield 28, 3) := by decide +kernel
theorem dX0_hasEdge_9 : decode cX0_hasEdge 9 = .ok (.if_icmp .ge 7, 3) := by decide +kernel
theorem dX0_hasEdge_12 : decode cX0_hasEdge 12 = .ok (.iconst 1, 1) := by decide +kernel
theorem dX0_hasEdge_13 : decode cX0_hasEdge 13 = .ok (.goto 4, 3) := by decide +kernel
theorem dX0_hasEdge_16 : decode cX0_hasEdge 16 = .ok (.iconst 0, 1) := by decide +kernel
theorem dX0_hasEdge_17 : decode cX0_hasEdge 17 = .ok (.ireturn, 1) := by decide +kernel
theorem dX0_hasEdges_0 : decode cX0_hasEdges 0 = .ok (.iload_n 1, 1) := by decide +kernel
theorem dX0_hasEdges_1 : decode cX0_hasEdges 1 = .ok (.aload_n 0, 1) := by decide +kernel
theorem dX0_hasEdges_2 : decode cX0_hasEdges 2 = .ok (.getfield 28, 3) := by decide +kernel
theorem dX0_hasEdges_5 : decode cX0_hasEdges 5 = .ok (.iushr, 1) := by decide +kernel
theorem dX0_hasEdges_6 : decode cX0_hasEdges 6 = .ok (.ifCond .ne 7, 3) := by decide +kernel
theorem dX0_hasEdges_9 : decode cX0_hasEdges 9 = .ok (.iconst 1, 1) := by decide +kernel
theorem dX0_hasEdges_10 : decode cX0_hasEdges 10 = .ok (.goto 4, 3) := by decide +kernel
theorem dX0_hasEdges_13 : decode cX0_hasEdges 13 = .ok (.iconst 0, 1) := by decide +kernel
theorem dX0_hasEdges_14 : decode cX0_hasEdges 14 = .ok (.ireturn, 1) := by decide +kernel
theorem dX0_startAllAt_0 : decode cX0_startAllAt 0 = .ok (.iconst 0, 1) := by decide +kernel
theorem dX0_startAllAt_1 : decode cX0_startAllAt 1 = .ok (.istore_n 3, 1) := by decide +kernel
theorem dX0_startAllAt_2 : decode cX0_startAllAt 2 = .ok (.iload_n 3, 1) := by decide +kernel
theorem dX0_startAllAt_3 : decode cX0_startAllAt 3 = .ok (.aload_n 0, 1) := by decide +kernel
theorem dX0_startAllAt_4 : decode cX0_startAllAt 4 = .ok (.getfield 28, 3) := by decide +kernel
theorem dX0_startAllAt_7 : decode cX0_startAllAt 7 = .ok (.if_icmp .ge 29, 3) := by decide +kernel
theorem dX0_startAllAt_10 : decode cX0_startAllAt 10 = .ok (.iload_n 1, 1) := by decide +kernel
theorem dX0_startAllAt_11 : decode cX0_startAllAt 11 = .ok (.iload_n 3, 1) := by decide +kernel
theorem dX0_startAllAt_12 : decode cX0_startAllAt 12 = .ok (.invokestatic 31, 3) := by decide +kernel
theorem dX0_startAllAt_15 : decode cX0_startAllAt 15 = .ok (.ifCond .eq 15, 3) := by decide +kernel
theorem dX0_startAllAt_18 : decode cX0_startAllAt 18 = .ok (.aload_n 0, 1) := by decide +kernel
theorem dX0_startAllAt_19 : decode cX0_startAllAt 19 = .ok (.getfield 15, 3) := by decide +kernel
theorem dX0_startAllAt_22 : decode cX0_startAllAt 22 = .ok (.iload_n 3, 1) := by decide +kernel
theorem dX0_startAllAt_23 : decode cX0_startAllAt 23 = .ok (.iaload, 1) := by decide +kernel
theorem dX0_startAllAt_24 : decode cX0_startAllAt 24 = .ok (.iload_n 2, 1) := by decide +kernel
theorem dX0_startAllAt_25 : decode cX0_startAllAt 25 = .ok (.if_icmp .eq 5, 3) := by decide +kernel
theorem dX0_startAllAt_28 : decode cX0_startAllAt 28 = .ok (.iconst 0, 1) := by decide +kernel
theorem dX0_startAllAt_29 : decode cX0_startAllAt 29 = .ok (.ireturn, 1) := by decide +kernel
theorem dX0_startAllAt_30 : decode cX0_startAllAt 30 = .ok (.iinc 3 1, 3) := by decide +kernel
theorem dX0_startAllAt_33 : decode cX0_startAllAt 33 = .ok (.goto (-31), 3) := by decide +kernel
theorem dX0_startAllAt_36 : decode cX0_startAllAt 36 = .ok (.iconst 1, 1) := by decide +kernel
theorem dX0_startAllAt_37 : decode cX0_startAllAt 37 = .ok (.ireturn, 1) := by decide +kernel
theorem dX0_hasLocation_0 : decode cX0_hasLocation 0 = .ok (.aload_n 0, 1) := by decide +kernel
theorem dX0_hasLocation_1 : decode cX0_hasLocation 1 = .ok (.iload_n 1, 1) := by decide +kernel
theorem dX0_hasLocation_2 : decode cX0_hasLocation 2 = .ok (.invokevirtual 35, 3) := by decide +kernel
theorem dX0_hasLocation_5 : decode cX0_hasLocation 5 = .ok (.ifCond .ne 20, 3) := by decide +kernel
theorem dX0_hasLocation_8 : decode cX0_hasLocation 8 = .ok (.iload_n 1, 1) := by decide +kernel
theorem dX0_hasLocation_9 : decode cX0_hasLocation 9 = .ok (.bipush 6, 2) := by decide +kernel
theorem dX0_hasLocation_11 : decode cX0_hasLocation 11 = .ok (.if_icmp .lt 18, 3) := by decide +kernel
theorem dX0_hasLocation_14 : decode cX0_hasLocation 14 = .ok (.aload_n 0, 1) := by decide +kernel
theorem dX0_hasLocation_15 : decode cX0_hasLocation 15 = .ok (.iload_n 1, 1) := by decide +kernel
theorem dX0_hasLocation_16 : decode cX0_hasLocation 16 = .ok (.bipush 6, 2) := by decide +kernel
theorem dX0_hasLocation_18 : decode cX0_hasLocation 18 = .ok (.isub, 1) := by decide +kernel
theorem dX0_hasLocation_19 : decode cX0_hasLocation 19 = .ok (.invokevirtual 39, 3) := by decide +kernel
theorem dX0_hasLocation_22 : decode cX0_hasLocation 22 = .ok (.ifCond .eq 7, 3) := by decide +kernel
theorem dX0_hasLocation_25 : decode cX0_hasLocation 25 = .ok (.iconst 1, 1) := by decide +kernel
theorem dX0_hasLocation_26 : decode cX0_hasLocation 26 = .ok (.goto 4, 3) := by decide +kernel
theorem dX0_hasLocation_29 : decode cX0_hasLocation 29 = .ok (.iconst 0, 1) := by decide +kernel
theorem dX0_hasLocation_30 : decode cX0_hasLocation 30 = .ok (.ireturn, 1) := by decide +kernel
theorem dX0_hasTime_0 : decode cX0_hasTime 0 = .ok (.aload_n 0, 1) := by decide +kernel
theorem dX0_hasTime_1 : decode cX0_hasTime 1 = .ok (.iload_n 1, 1) := by decide +kernel
theorem dX0_hasTime_2 : decode cX0_hasTime 2 = .ok (.invokevirtual 42, 3) := by decide +kernel
theorem dX0_hasTime_5 : decode cX0_hasTime 5 = .ok (.ifCond .eq 14, 3) := by decide +kernel
theorem dX0_hasTime_8 : decode cX0_hasTime 8 = .ok (.iload_n 2, 1) := by decide +kernel
theorem dX0_hasTime_9 : decode cX0_hasTime 9 = .ok (.ifCond .lt 10, 3) := by decide +kernel
theorem dX0_hasTime_12 : decode cX0_hasTime 12 = .ok (.iload_n 2, 1) := by decide +kernel
theorem dX0_hasTime_13 : decode cX0_hasTime 13 = .ok (.sipush 1000, 3) := by decide +kernel
theorem dX0_hasTime_16 : decode cX0_hasTime 16 = .ok (.if_icmp .lt 5, 3) := by decide +kernel
theorem dX0_hasTime_19 : decode cX0_hasTime 19 = .ok (.iconst 0, 1) := by decide +kernel
theorem dX0_hasTime_20 : decode cX0_hasTime 20 = .ok (.ireturn, 1) := by decide +kernel
theorem dX0_hasTime_21 : decode cX0_hasTime 21 = .ok (.aload_n 0, 1) := by decide +kernel
theorem dX0_hasTime_22 : decode cX0_hasTime 22 = .ok (.getfield 9, 3) := by decide +kernel
theorem dX0_hasTime_25 : decode cX0_hasTime 25 = .ok (.iload_n 1, 1) := by decide +kernel
theorem dX0_hasTime_26 : decode cX0_hasTime 26 = .ok (.bipush 6, 2) := by decide +kernel
theorem dX0_hasTime_28 : decode cX0_hasTime 28 = .ok (.if_icmp .ge 7, 3) := by decide +kernel
theorem dX0_hasTime_31 : decode cX0_hasTime 31 = .ok (.iload_n 1, 1) := by decide +kernel
theorem dX0_hasTime_32 : decode cX0_hasTime 32 = .ok (.goto 12, 3) := by decide +kernel
theorem dX0_hasTime_35 : decode cX0_hasTime 35 = .ok (.aload_n 0, 1) := by decide +kernel
theorem dX0_hasTime_36 : decode cX0_hasTime 36 = .ok (.getfield 15, 3) := by decide +kernel
theorem dX0_hasTime_39 : decode cX0_hasTime 39 = .ok (.iload_n 1, 1) := by decide +kernel
theorem dX0_hasTime_40 : decode cX0_hasTime 40 = .ok (.bipush 6, 2) := by decide +kernel
theorem dX0_hasTime_42 : decode cX0_hasTime 42 = .ok (.isub, 1) := by decide +kernel
theorem dX0_hasTime_43 : decode cX0_hasTime 43 = .ok (.iaload, 1) := by decide +kernel
theorem dX0_hasTime_44 : decode cX0_hasTime 44 = .ok (.iaload, 1) := by decide +kernel
theorem dX0_hasTime_45 : decode cX0_hasTime 45 = .ok (.istore_n 3, 1) := by decide +kernel
theorem dX0_hasTime_46 : decode cX0_hasTime 46 = .ok (.iload_n 3, 1) := by decide +kernel
theorem dX0_hasTime_47 : decode cX0_hasTime 47 = .ok (.ifCond .ne 16, 3) := by decide +kernel
theorem dX0_hasTime_50 : decode cX0_hasTime 50 = .ok (.iload_n 2, 1) := by decide +kernel
theorem dX0_hasTime_51 : decode cX0_hasTime 51 = .ok (.bipush 100, 2) := by decide +kernel
theorem dX0_hasTime_53 : decode cX0_hasTime 53 = .ok (.irem, 1) := by decide +kernel
theorem dX0_hasTime_54 : decode cX0_hasTime 54 = .ok (.ifCond .ne 7, 3) := by decide +kernel
theorem dX0_hasTime_57 : decode cX0_hasTime 57 = .ok (.iconst 1, 1) := by decide +kernel
theorem dX0_hasTime_58 : decode cX0_hasTime 58 = .ok (.goto 4, 3) := by decide +kernel
theorem dX0_hasTime_61 : decode cX0_hasTime 61 = .ok (.iconst 0, 1) := by decide +kernel
theorem dX0_hasTime_62 : decode cX0_hasTime 62 = .ok (.ireturn, 1) := by decide +kernel
theorem dX0_hasTime_63 : decode cX0_hasTime 63 = .ok (.iload_n 3, 1) := by decide +kernel
theorem dX0_hasTime_64 : decode cX0_hasTime 64 = .ok (.iconst 2, 1) := by decide +kernel
theorem dX0_hasTime_65 : decode cX0_hasTime 65 = .ok (.if_icmp .eq 10, 3) := by decide +kernel
theorem dX0_hasTime_68 : decode cX0_hasTime 68 = .ok (.iload_n 2, 1) := by decide +kernel
theorem dX0_hasTime_69 : decode cX0_hasTime 69 = .ok (.bipush 10, 2) := by decide +kernel
theorem dX0_hasTime_71 : decode cX0_hasTime 71 = .ok (.irem, 1) := by decide +kernel
theorem dX0_hasTime_72 : decode cX0_hasTime 72 = .ok (.ifCond .ne 7, 3) := by decide +kernel
theorem dX0_hasTime_75 : decode cX0_hasTime 75 = .ok (.iconst 1, 1) := by decide +kernel
theorem dX0_hasTime_76 : decode cX0_hasTime 76 = .ok (.goto 4, 3) := by decide +kernel
theorem dX0_hasTime_79 : decode cX0_hasTime 79 = .ok (.iconst 0, 1) := by decide +kernel
theorem dX0_hasTime_80 : decode cX0_hasTime 80 = .ok (.ireturn, 1) := by decide +kernel
theorem dX0_timeAfter_0 : decode cX0_timeAfter 0 = .ok (.aload_n 0, 1) := by decide +kernel
theorem dX0_timeAfter_1 : decode cX0_timeAfter 1 = .ok (.getfield 9, 3) := by decide +kernel
theorem dX0_timeAfter_4 : decode cX0_timeAfter 4 = .ok (.aload_n 0, 1) := by decide +kernel
theorem dX0_timeAfter_5 : decode cX0_timeAfter 5 = .ok (.getfield 15, 3) := by decide +kernel
theorem dX0_timeAfter_8 : decode cX0_timeAfter 8 = .ok (.iload_n 1, 1) := by decide +kernel
theorem dX0_timeAfter_9 : decode cX0_timeAfter 9 = .ok (.iaload, 1) := by decide +kernel
theorem dX0_timeAfter_10 : decode cX0_timeAfter 10 = .ok (.iaload, 1) := by decide +kernel
theorem dX0_timeAfter_11 : decode cX0_timeAfter 11 = .ok (.iconst 2, 1) := by decide +kernel
theorem dX0_timeAfter_12 : decode cX0_timeAfter 12 = .ok (.if_icmp .ne 7, 3) := by decide +kernel
theorem dX0_timeAfter_15 : decode cX0_timeAfter 15 = .ok (.iconst 1, 1) := by decide +kernel
theorem dX0_timeAfter_16 : decode cX0_timeAfter 16 = .ok (.goto 4, 3) := by decide +kernel
theorem dX0_timeAfter_19 : decode cX0_timeAfter 19 = .ok (.iconst 0, 1) := by decide +kernel
theorem dX0_timeAfter_20 : decode cX0_timeAfter 20 = .ok (.istore_n 3, 1) := by decide +kernel
theorem dX0_timeAfter_21 : decode cX0_timeAfter 21 = .ok (.iload_n 3, 1) := by decide +kernel
theorem dX0_timeAfter_22 : decode cX0_timeAfter 22 = .ok (.ifCond .eq 7, 3) := by decide +kernel
theorem dX0_timeAfter_25 : decode cX0_timeAfter 25 = .ok (.iconst 1, 1) := by decide +kernel
theorem dX0_timeAfter_26 : decode cX0_timeAfter 26 = .ok (.goto 5, 3) := by decide +kernel
theorem dX0_timeAfter_29 : decode cX0_timeAfter 29 = .ok (.bipush 10, 2) := by decide +kernel
theorem dX0_timeAfter_31 : decode cX0_timeAfter 31 = .ok (.istore 4, 2) := by decide +kernel
theorem dX0_timeAfter_33 : decode cX0_timeAfter 33 = .ok (.iload_n 2, 1) := by decide +kernel
theorem dX0_timeAfter_34 : decode cX0_timeAfter 34 = .ok (.iload 4, 2) := by decide +kernel
theorem dX0_timeAfter_36 : decode cX0_timeAfter 36 = .ok (.idiv, 1) := by decide +kernel
theorem dX0_timeAfter_37 : decode cX0_timeAfter 37 = .ok (.bipush 10, 2) := by decide +kernel
theorem dX0_timeAfter_39 : decode cX0_timeAfter 39 = .ok (.irem, 1) := by decide +kernel
theorem dX0_timeAfter_40 : decode cX0_timeAfter 40 = .ok (.istore 5, 2) := by decide +kernel
theorem dX0_timeAfter_42 : decode cX0_timeAfter 42 = .ok (.aload_n 0, 1) := by decide +kernel
theorem dX0_timeAfter_43 : decode cX0_timeAfter 43 = .ok (.getfield 21, 3) := by decide +kernel
theorem dX0_timeAfter_46 : decode cX0_timeAfter 46 = .ok (.iload_n 1, 1) := by decide +kernel
theorem dX0_timeAfter_47 : decode cX0_timeAfter 47 = .ok (.iaload, 1) := by decide +kernel
theorem dX0_timeAfter_48 : decode cX0_timeAfter 48 = .ok (.iconst 2, 1) := by decide +kernel
theorem dX0_timeAfter_49 : decode cX0_timeAfter 49 = .ok (.if_icmp .ne 11, 3) := by decide +kernel
theorem dX0_timeAfter_52 : decode cX0_timeAfter 52 = .ok (.iload_n 2, 1) := by decide +kernel
theorem dX0_timeAfter_53 : decode cX0_timeAfter 53 = .ok (.iload 5, 2) := by decide +kernel
theorem dX0_timeAfter_55 : decode cX0_timeAfter 55 = .ok (.iload 4, 2) := by decide +kernel
theorem dX0_timeAfter_57 : decode cX0_timeAfter 57 = .ok (.imul, 1) := by decide +kernel
theorem dX0_timeAfter_58 : decode cX0_timeAfter 58 = .ok (.isub, 1) := by decide +kernel
theorem dX0_timeAfter_59 : decode cX0_timeAfter 59 = .ok (.ireturn, 1) := by decide +kernel
theorem dX0_timeAfter_60 : decode cX0_timeAfter 60 = .ok (.aload_n 0, 1) := by decide +kernel
theorem dX0_timeAfter_61 : decode cX0_timeAfter 61 = .ok (.getfield 21, 3) := by decide +kernel
theorem dX0_timeAfter_64 : decode cX0_timeAfter 64 = .ok (.iload_n 1, 1) := by decide +kernel
theorem dX0_timeAfter_65 : decode cX0_timeAfter 65 = .ok (.iaload, 1) := by decide +kernel
theorem dX0_timeAfter_66 : decode cX0_timeAfter 66 = .ok (.iconst 3, 1) := by decide +kernel
theorem dX0_timeAfter_67 : decode cX0_timeAfter 67 = .ok (.if_icmp .ne 19, 3) := by decide +kernel
theorem dX0_timeAfter_70 : decode cX0_timeAfter 70 = .ok (.iload 5, 2) := by decide +kernel
theorem dX0_timeAfter_72 : decode cX0_timeAfter 72 = .ok (.bipush 9, 2) := by decide +kernel
theorem dX0_timeAfter_74 : decode cX0_timeAfter 74 = .ok (.if_icmp .ne 7, 3) := by decide +kernel
theorem dX0_timeAfter_77 : decode cX0_timeAfter 77 = .ok (.iconst (-1), 1) := by decide +kernel
theorem dX0_timeAfter_78 : decode cX0_timeAfter 78 = .ok (.goto 7, 3) := by decide +kernel
theorem dX0_timeAfter_81 : decode cX0_timeAfter 81 = .ok (.iload_n 2, 1) := by decide +kernel
theorem dX0_timeAfter_82 : decode cX0_timeAfter 82 = .ok (.iload 4, 2) := by decide +kernel
theorem dX0_timeAfter_84 : decode cX0_timeAfter 84 = .ok (.iadd, 1) := by decide +kernel
theorem dX0_timeAfter_85 : decode cX0_timeAfter 85 = .ok (.ireturn, 1) := by decide +kernel
theorem dX0_timeAfter_86 : decode cX0_timeAfter 86 = .ok (.iload_n 2, 1) := by decide +kernel
theorem dX0_timeAfter_87 : decode cX0_timeAfter 87 = .ok (.ireturn, 1) := by decide +kernel
theorem dX0_appendNode_0 : decode cX0_appendNode 0 = .ok (.aload_n 0, 1) := by decide +kernel
theorem dX0_appendNode_1 : decode cX0_appendNode 1 = .ok (.getfield 9, 3) := by decide +kernel
theorem dX0_appendNode_4 : decode cX0_appendNode 4 = .ok (.aload_n 0, 1) := by decide +kernel
theorem dX0_appendNode_5 : decode cX0_appendNode 5 = .ok (.getfield 24, 3) := by decide +kernel
theorem dX0_appendNode_8 : decode cX0_appendNode 8 = .ok (.iload_n 1, 1) := by decide +kernel
theorem dX0_appendNode_9 : decode cX0_appendNode 9 = .ok (.iastore, 1) := by decide +kernel
theorem dX0_appendNode_10 : decode cX0_appendNode 10 = .ok (.aload_n 0, 1) := by decide +kernel
theorem dX0_appendNode_11 : decode cX0_appendNode 11 = .ok (.dup, 1) := by decide +kernel
theorem dX0_appendNode_12 : decode cX0_appendNode 12 = .ok (.getfield 24, 3) := by decide +kernel
theorem dX0_appendNode_15 : decode cX0_appendNode 15 = .ok (.iconst 1, 1) := by decide +kernel
theorem dX0_appendNode_16 : decode cX0_appendNode 16 = .ok (.iadd, 1) := by decide +kernel
theorem dX0_appendNode_17 : decode cX0_appendNode 17 = .ok (.putfield 24, 3) := by decide +kernel
theorem dX0_appendNode_20 : decode cX0_appendNode 20 = .ok (.aload_n 0, 1) := by decide +kernel
theorem dX0_appendNode_21 : decode cX0_appendNode 21 = .ok (.getfield 24, 3) := by decide +kernel
theorem dX0_appendNode_24 : decode cX0_appendNode 24 = .ok (.iconst 1, 1) := by decide +kernel
theorem dX0_appendNode_25 : decode cX0_appendNode 25 = .ok (.isub, 1) := by decide +kernel
theorem dX0_appendNode_26 : decode cX0_appendNode 26 = .ok (.ireturn, 1) := by decide +kernel
theorem dX0_allowsEdge_0 : decode cX0_allowsEdge 0 = .ok (.aload_n 0, 1) := by decide +kernel
theorem dX0_allowsEdge_1 : decode cX0_allowsEdge 1 = .ok (.getfield 9, 3) := by decide +kernel
theorem dX0_allowsEdge_4 : decode cX0_allowsEdge 4 = .ok (.iload_n 2, 1) := by decide +kernel
theorem dX0_allowsEdge_5 : decode cX0_allowsEdge 5 = .ok (.iaload, 1) := by decide +kernel
theorem dX0_allowsEdge_6 : decode cX0_allowsEdge 6 = .ok (.aload_n 0, 1) := by decide +kernel
theorem dX0_allowsEdge_7 : decode cX0_allowsEdge 7 = .ok (.getfield 9, 3) := by decide +kernel
theorem dX0_allowsEdge_10 : decode cX0_allowsEdge 10 = .ok (.iload_n 1, 1) := by decide +kernel
theorem dX0_allowsEdge_11 : decode cX0_allowsEdge 11 = .ok (.iaload, 1) := by decide +kernel
theorem dX0_allowsEdge_12 : decode cX0_allowsEdge 12 = .ok (.isub, 1) := by decide +kernel
theorem dX0_allowsEdge_13 : decode cX0_allowsEdge 13 = .ok (.istore 4, 2) := by decide +kernel
theorem dX0_allowsEdge_15 : decode cX0_allowsEdge 15 = .ok (.iload 4, 2) := by decide +kernel
theorem dX0_allowsEdge_17 : decode cX0_allowsEdge 17 = .ok (.iconst 1, 1) := by decide +kernel
theorem dX0_allowsEdge_18 : decode cX0_allowsEdge 18 = .ok (.if_icmp .gt 9, 3) := by decide +kernel
theorem dX0_allowsEdge_21 : decode cX0_allowsEdge 21 = .ok (.iload 4, 2) := by decide +kernel
theorem dX0_allowsEdge_23 : decode cX0_allowsEdge 23 = .ok (.iconst (-1), 1) := by decide +kernel
theorem dX0_allowsEdge_24 : decode cX0_allowsEdge 24 = .ok (.if_icmp .ge 5, 3) := by decide +kernel
theorem dX0_allowsEdge_27 : decode cX0_allowsEdge 27 = .ok (.iconst 0, 1) := by decide +kernel
theorem dX0_allowsEdge_28 : decode cX0_allowsEdge 28 = .ok (.ireturn, 1) := by decide +kernel
theorem dX0_allowsEdge_29 : decode cX0_allowsEdge 29 = .ok (.iload_n 3, 1) := by decide +kernel
theorem dX0_allowsEdge_30 : decode cX0_allowsEdge 30 = .ok (.ifCond .eq 19, 3) := by decide +kernel
theorem dX0_allowsEdge_33 : decode cX0_allowsEdge 33 = .ok (.iload 4, 2) := by decide +kernel
theorem dX0_allowsEdge_35 : decode cX0_allowsEdge 35 = .ok (.ifCond .ne 12, 3) := by decide +kernel
theorem dX0_allowsEdge_38 : decode cX0_allowsEdge 38 = .ok (.aload_n 0, 1) := by decide +kernel
theorem dX0_allowsEdge_39 : decode cX0_allowsEdge 39 = .ok (.getfield 9, 3) := by decide +kernel
theorem dX0_allowsEdge_42 : decode cX0_allowsEdge 42 = .ok (.iload_n 1, 1) := by decide +kernel
theorem dX0_allowsEdge_43 : decode cX0_allowsEdge 43 = .ok (.iaload, 1) := by decide +kernel
theorem dX0_allowsEdge_44 : decode cX0_allowsEdge 44 = .ok (.ifCond .ne 5, 3) := by decide +kernel
theorem dX0_allowsEdge_47 : decode cX0_allowsEdge 47 = .ok (.iconst 0, 1) := by decide +kernel
theorem dX0_allowsEdge_48 : decode cX0_allowsEdge 48 = .ok (.ireturn, 1) := by decide +kernel
theorem dX0_allowsEdge_49 : decode cX0_allowsEdge 49 = .ok (.aload_n 0, 1) := by decide +kernel
theorem dX0_allowsEdge_50 : decode cX0_allowsEdge 50 = .ok (.iload_n 1, 1) := by decide +kernel
theorem dX0_allowsEdge_51 : decode cX0_allowsEdge 51 = .ok (.iload_n 2, 1) := by decide +kernel
theorem dX0_allowsEdge_52 : decode cX0_allowsEdge 52 = .ok (.iload_n 3, 1) := by decide +kernel
theorem dX0_allowsEdge_53 : decode cX0_allowsEdge 53 = .ok (.invokevirtual 45, 3) := by decide +kernel
theorem dX0_allowsEdge_56 : decode cX0_allowsEdge 56 = .ok (.iconst 0, 1) := by decide +kernel
theorem dX0_allowsEdge_57 : decode cX0_allowsEdge 57 = .ok (.istore 5, 2) := by decide +kernel
theorem dX0_allowsEdge_59 : decode cX0_allowsEdge 59 = .ok (.iload 5, 2) := by decide +kernel
theorem dX0_allowsEdge_61 : decode cX0_allowsEdge 61 = .ok (.aload_n 0, 1) := by decide +kernel
theorem dX0_allowsEdge_62 : decode cX0_allowsEdge 62 = .ok (.getfield 24, 3) := by decide +kernel
theorem dX0_allowsEdge_65 : decode cX0_allowsEdge 65 = .ok (.if_icmp .ge 20, 3) := by decide +kernel
theorem dX0_allowsEdge_68 : decode cX0_allowsEdge 68 = .ok (.aload_n 0, 1) := by decide +kernel
theorem dX0_allowsEdge_69 : decode cX0_allowsEdge 69 = .ok (.iload 5, 2) := by decide +kernel
theorem dX0_allowsEdge_71 : decode cX0_allowsEdge 71 = .ok (.invokevirtual 49, 3) := by decide +kernel
theorem dX0_allowsEdge_74 : decode cX0_allowsEdge 74 = .ok (.ifCond .eq 5, 3) := by decide +kernel
theorem dX0_allowsEdge_77 : decode cX0_allowsEdge 77 = .ok (.iconst 0, 1) := by decide +kernel
theorem dX0_allowsEdge_78 : decode cX0_allowsEdge 78 = .ok (.ireturn, 1) := by decide +kernel
theorem dX0_allowsEdge_79 : decode cX0_allowsEdge 79 = .ok (.iinc 5 1, 3) := by decide +kernel
theorem dX0_allowsEdge_82 : decode cX0_allowsEdge 82 = .ok (.goto (-23), 3) := by decide +kernel
theorem dX0_allowsEdge_85 : decode cX0_allowsEdge 85 = .ok (.iconst 1, 1) := by decide +kernel
theorem dX0_allowsEdge_86 : decode cX0_allowsEdge 86 = .ok (.ireturn, 1) := by decide +kernel
theorem dX0_appendEdge_0 : decode cX0_appendEdge 0 = .ok (.aload_n 0, 1) := by decide +kernel
theorem dX0_appendEdge_1 : decode cX0_appendEdge 1 = .ok (.iload_n 1, 1) := by decide +kernel
theorem dX0_appendEdge_2 : decode cX0_appendEdge 2 = .ok (.iload_n 2, 1) := by decide +kernel
theorem dX0_appendEdge_3 : decode cX0_appendEdge 3 = .ok (.iload_n 3, 1) := by decide +kernel
theorem dX0_appendEdge_4 : decode cX0_appendEdge 4 = .ok (.invokevirtual 45, 3) := by decide +kernel
theorem dX0_appendEdge_7 : decode cX0_appendEdge 7 = .ok (.aload_n 0, 1) := by decide +kernel
theorem dX0_appendEdge_8 : decode cX0_appendEdge 8 = .ok (.dup, 1) := by decide +kernel
theorem dX0_appendEdge_9 : decode cX0_appendEdge 9 = .ok (.getfield 28, 3) := by decide +kernel
theorem dX0_appendEdge_12 : decode cX0_appendEdge 12 = .ok (.iconst 1, 1) := by decide +kernel
theorem dX0_appendEdge_13 : decode cX0_appendEdge 13 = .ok (.iadd, 1) := by decide +kernel
theorem dX0_appendEdge_14 : decode cX0_appendEdge 14 = .ok (.putfield 28, 3) := by decide +kernel
theorem dX0_appendEdge_17 : decode cX0_appendEdge 17 = .ok (.aload_n 0, 1) := by decide +kernel
theorem dX0_appendEdge_18 : decode cX0_appendEdge 18 = .ok (.getfield 28, 3) := by decide +kernel
theorem dX0_appendEdge_21 : decode cX0_appendEdge 21 = .ok (.iconst 1, 1) := by decide +kernel
theorem dX0_appendEdge_22 : decode cX0_appendEdge 22 = .ok (.isub, 1) := by decide +kernel
theorem dX0_appendEdge_23 : decode cX0_appendEdge 23 = .ok (.ireturn, 1) := by decide +kernel
theorem dX0_putEdge_0 : decode cX0_putEdge 0 = .ok (.aload_n 0, 1) := by decide +kernel
theorem dX0_putEdge_1 : decode cX0_putEdge 1 = .ok (.getfield 15, 3) := by decide +kernel
theorem dX0_putEdge_4 : decode cX0_putEdge 4 = .ok (.aload_n 0, 1) := by decide +kernel
theorem dX0_putEdge_5 : decode cX0_putEdge 5 = .ok (.getfield 28, 3) := by decide +kernel
theorem dX0_putEdge_8 : decode cX0_putEdge 8 = .ok (.iload_n 1, 1) := by decide +kernel
theorem dX0_putEdge_9 : decode cX0_putEdge 9 = .ok (.iastore, 1) := by decide +kernel
theorem dX0_putEdge_10 : decode cX0_putEdge 10 = .ok (.aload_n 0, 1) := by decide +kernel
theorem dX0_putEdge_11 : decode cX0_putEdge 11 = .ok (.getfield 18, 3) := by decide +kernel
theorem dX0_putEdge_14 : decode cX0_putEdge 14 = .ok (.aload_n 0, 1) := by decide +kernel
theorem dX0_putEdge_15 : decode cX0_putEdge 15 = .ok (.getfield 28, 3) := by decide +kernel
theorem dX0_putEdge_18 : decode cX0_putEdge 18 = .ok (.iload_n 2, 1) := by decide +kernel
theorem dX0_putEdge_19 : decode cX0_putEdge 19 = .ok (.iastore, 1) := by decide +kernel
theorem dX0_putEdge_20 : decode cX0_putEdge 20 = .ok (.aload_n 0, 1) := by decide +kernel
theorem dX0_putEdge_21 : decode cX0_putEdge 21 = .ok (.getfield 21, 3) := by decide +kernel
theorem dX0_putEdge_24 : decode cX0_putEdge 24 = .ok (.aload_n 0, 1) := by decide +kernel
theorem dX0_putEdge_25 : decode cX0_putEdge 25 = .ok (.getfield 28, 3) := by decide +kernel
theorem dX0_putEdge_28 : decode cX0_putEdge 28 = .ok (.aload_n 0, 1) := by decide +kernel
theorem dX0_putEdge_29 : decode cX0_putEdge 29 = .ok (.getfield 9, 3) := by decide +kernel
theorem dX0_putEdge_32 : decode cX0_putEdge 32 = .ok (.iload_n 1, 1) := by decide +kernel
theorem dX0_putEdge_33 : decode cX0_putEdge 33 = .ok (.iaload, 1) := by decide +kernel
theorem dX0_putEdge_34 : decode cX0_putEdge 34 = .ok (.aload_n 0, 1) := by decide +kernel
theorem dX0_putEdge_35 : decode cX0_putEdge 35 = .ok (.getfield 9, 3) := by decide +kernel
theorem dX0_putEdge_38 : decode cX0_putEdge 38 = .ok (.iload_n 2, 1) := by decide +kernel
theorem dX0_putEdge_39 : decode cX0_putEdge 39 = .ok (.iaload, 1) := by decide +kernel
theorem dX0_putEdge_40 : decode cX0_putEdge 40 = .ok (.iload_n 3, 1) := by decide +kernel
theorem dX0_putEdge_41 : decode cX0_putEdge 41 = .ok (.invokestatic 52, 3) := by decide +kernel
theorem dX0_putEdge_44 : decode cX0_putEdge 44 = .ok (.iastore, 1) := by decide +kernel
theorem dX0_putEdge_45 : decode cX0_putEdge 45 = .ok (.return_, 1) := by decide +kernel
theorem dX0_kindBetween_0 : decode cX0_kindBetween 0 = .ok (.iload_n 0, 1) := by decide +kernel
theorem dX0_kindBetween_1 : decode cX0_kindBetween 1 = .ok (.iload_n 1, 1) := by decide +kernel
theorem dX0_kindBetween_2 : decode cX0_kindBetween 2 = .ok (.if_icmp .eq 14, 3) := by decide +kernel
theorem dX0_kindBetween_5 : decode cX0_kindBetween 5 = .ok (.iload_n 0, 1) := by decide +kernel
theorem dX0_kindBetween_6 : decode cX0_kindBetween 6 = .ok (.iload_n 1, 1) := by decide +kernel
theorem dX0_kindBetween_7 : decode cX0_kindBetween 7 = .ok (.if_icmp .ge 7, 3) := by decide +kernel
theorem dX0_kindBetween_10 : decode cX0_kindBetween 10 = .ok (.iconst 1, 1) := by decide +kernel
theorem dX0_kindBetween_11 : decode cX0_kindBetween 11 = .ok (.goto 4, 3) := by decide +kernel
theorem dX0_kindBetween_14 : decode cX0_kindBetween 14 = .ok (.iconst 2, 1) := by decide +kernel
theorem dX0_kindBetween_15 : decode cX0_kindBetween 15 = .ok (.ireturn, 1) := by decide +kernel
theorem dX0_kindBetween_16 : decode cX0_kindBetween 16 = .ok (.iload_n 2, 1) := by decide +kernel
theorem dX0_kindBetween_17 : decode cX0_kindBetween 17 = .ok (.ifCond .eq 7, 3) := by decide +kernel
theorem dX0_kindBetween_20 : decode cX0_kindBetween 20 = .ok (.iconst 3, 1) := by decide +kernel
theorem dX0_kindBetween_21 : decode cX0_kindBetween 21 = .ok (.goto 4, 3) := by decide +kernel
theorem dX0_kindBetween_24 : decode cX0_kindBetween 24 = .ok (.iconst 0, 1) := by decide +kernel
theorem dX0_kindBetween_25 : decode cX0_kindBetween 25 = .ok (.ireturn, 1) := by decide +kernel
theorem dX0_returnsWithoutFeedback_0 : decode cX0_returnsWithoutFeedback 0 = .ok (.iconst 0, 1) := by decide +kernel
theorem dX0_returnsWithoutFeedback_1 : decode cX0_returnsWithoutFeedback 1 = .ok (.istore_n 2, 1) := by decide +kernel
theorem dX0_returnsWithoutFeedback_2 : decode cX0_returnsWithoutFeedback 2 = .ok (.iconst 0, 1) := by decide +kernel
theorem dX0_returnsWithoutFeedback_3 : decode cX0_returnsWithoutFeedback 3 = .ok (.istore_n 3, 1) := by decide +kernel
theorem dX0_returnsWithoutFeedback_4 : decode cX0_returnsWithoutFeedback 4 = .ok (.iload_n 3, 1) := by decide +kernel
theorem dX0_returnsWithoutFeedback_5 : decode cX0_returnsWithoutFeedback 5 = .ok (.aload_n 0, 1) := by decide +kernel
theorem dX0_returnsWithoutFeedback_6 : decode cX0_returnsWithoutFeedback 6 = .ok (.getfield 24, 3) := by decide +kernel
theorem dX0_returnsWithoutFeedback_9 : decode cX0_returnsWithoutFeedback 9 = .ok (.if_icmp .ge 91, 3) := by decide +kernel
theorem dX0_returnsWithoutFeedback_12 : decode cX0_returnsWithoutFeedback 12 = .ok (.iconst 0, 1) := by decide +kernel
theorem dX0_returnsWithoutFeedback_13 : decode cX0_returnsWithoutFeedback 13 = .ok (.istore 4, 2) := by decide +kernel
theorem dX0_returnsWithoutFeedback_15 : decode cX0_returnsWithoutFeedback 15 = .ok (.iload 4, 2) := by decide +kernel
theorem dX0_returnsWithoutFeedback_17 : decode cX0_returnsWithoutFeedback 17 = .ok (.aload_n 0, 1) := by decide +kernel
theorem dX0_returnsWithoutFeedback_18 : decode cX0_returnsWithoutFeedback 18 = .ok (.getfield 28, 3) := by decide +kernel
theorem dX0_returnsWithoutFeedback_21 : decode cX0_returnsWithoutFeedback 21 = .ok (.if_icmp .gt 73, 3) := by decide +kernel
theorem dX0_returnsWithoutFeedback_24 : decode cX0_returnsWithoutFeedback 24 = .ok (.aload_n 0, 1) := by decide +kernel
theorem dX0_returnsWithoutFeedback_25 : decode cX0_returnsWithoutFeedback 25 = .ok (.getfield 15, 3) := by decide +kernel
theorem dX0_returnsWithoutFeedback_28 : decode cX0_returnsWithoutFeedback 28 = .ok (.iload 4, 2) := by decide +kernel
theorem dX0_returnsWithoutFeedback_30 : decode cX0_returnsWithoutFeedback 30 = .ok (.iaload, 1) := by decide +kernel
theorem dX0_returnsWithoutFeedback_31 : decode cX0_returnsWithoutFeedback 31 = .ok (.iload_n 1, 1) := by decide +kernel
theorem dX0_returnsWithoutFeedback_32 : decode cX0_returnsWithoutFeedback 32 = .ok (.if_icmp .eq 17, 3) := by decide +kernel
theorem dX0_returnsWithoutFeedback_35 : decode cX0_returnsWithoutFeedback 35 = .ok (.iload_n 2, 1) := by decide +kernel
theorem dX0_returnsWithoutFeedback_36 : decode cX0_returnsWithoutFeedback 36 = .ok (.aload_n 0, 1) := by decide +kernel
theorem dX0_returnsWithoutFeedback_37 : decode cX0_returnsWithoutFeedback 37 = .ok (.getfield 15, 3) := by decide +kernel
theorem dX0_returnsWithoutFeedback_40 : decode cX0_returnsWithoutFeedback 40 = .ok (.iload 4, 2) := by decide +kernel
theorem dX0_returnsWithoutFeedback_42 : decode cX0_returnsWithoutFeedback 42 = .ok (.iaload, 1) := by decide +kernel
theorem dX0_returnsWithoutFeedback_43 : decode cX0_returnsWithoutFeedback 43 = .ok (.invokestatic 31, 3) := by decide +kernel
theorem dX0_returnsWithoutFeedback_46 : decode cX0_returnsWithoutFeedback 46 = .ok (.ifCond .eq 7, 3) := by decide +kernel
theorem dX0_returnsWithoutFeedback_49 : decode cX0_returnsWithoutFeedback 49 = .ok (.iconst 1, 1) := by decide +kernel
theorem dX0_returnsWithoutFeedback_50 : decode cX0_returnsWithoutFeedback 50 = .ok (.goto 4, 3) := by decide +kernel
theorem dX0_returnsWithoutFeedback_53 : decode cX0_returnsWithoutFeedback 53 = .ok (.iconst 0, 1) := by decide +kernel
theorem dX0_returnsWithoutFeedback_54 : decode cX0_returnsWithoutFeedback 54 = .ok (.istore 5, 2) := by decide +kernel
theorem dX0_returnsWithoutFeedback_56 : decode cX0_returnsWithoutFeedback 56 = .ok (.iload 5, 2) := by decide +kernel
theorem dX0_returnsWithoutFeedback_58 : decode cX0_returnsWithoutFeedback 58 = .ok (.ifCond .eq 30, 3) := by decide +kernel
theorem dX0_returnsWithoutFeedback_61 : decode cX0_returnsWithoutFeedback 61 = .ok (.aload_n 0, 1) := by decide +kernel
theorem dX0_returnsWithoutFeedback_62 : decode cX0_returnsWithoutFeedback 62 = .ok (.iload 4, 2) := by decide +kernel
theorem dX0_returnsWithoutFeedback_64 : decode cX0_returnsWithoutFeedback 64 = .ok (.aload_n 0, 1) := by decide +kernel
theorem dX0_returnsWithoutFeedback_65 : decode cX0_returnsWithoutFeedback 65 = .ok (.getfield 9, 3) := by decide +kernel
theorem dX0_returnsWithoutFeedback_68 : decode cX0_returnsWithoutFeedback 68 = .ok (.iload_n 1, 1) := by decide +kernel
theorem dX0_returnsWithoutFeedback_69 : decode cX0_returnsWithoutFeedback 69 = .ok (.iaload, 1) := by decide +kernel
theorem dX0_returnsWithoutFeedback_70 : decode cX0_returnsWithoutFeedback 70 = .ok (.invokevirtual 56, 3) := by decide +kernel
theorem dX0_returnsWithoutFeedback_73 : decode cX0_returnsWithoutFeedback 73 = .ok (.ifCond .eq 15, 3) := by decide +kernel
theorem dX0_returnsWithoutFeedback_76 : decode cX0_returnsWithoutFeedback 76 = .ok (.iload_n 2, 1) := by decide +kernel
theorem dX0_returnsWithoutFeedback_77 : decode cX0_returnsWithoutFeedback 77 = .ok (.iconst 1, 1) := by decide +kernel
theorem dX0_returnsWithoutFeedback_78 : decode cX0_returnsWithoutFeedback 78 = .ok (.aload_n 0, 1) := by decide +kernel
theorem dX0_returnsWithoutFeedback_79 : decode cX0_returnsWithoutFeedback 79 = .ok (.getfield 18, 3) := by decide +kernel
theorem dX0_returnsWithoutFeedback_82 : decode cX0_returnsWithoutFeedback 82 = .ok (.iload 4, 2) := by decide +kernel
theorem dX0_returnsWithoutFeedback_84 : decode cX0_returnsWithoutFeedback 84 = .ok (.iaload, 1) := by decide +kernel
theorem dX0_returnsWithoutFeedback_85 : decode cX0_returnsWithoutFeedback 85 = .ok (.ishl, 1) := by decide +kernel
theorem dX0_returnsWithoutFeedback_86 : decode cX0_returnsWithoutFeedback 86 = .ok (.ior, 1) := by decide +kernel
theorem dX0_returnsWithoutFeedback_87 : decode cX0_returnsWithoutFeedback 87 = .ok (.istore_n 2, 1) := by decide +kernel
theorem dX0_returnsWithoutFeedback_88 : decode cX0_returnsWithoutFeedback 88 = .ok (.iinc 4 1, 3) := by decide +kernel
theorem dX0_returnsWithoutFeedback_91 : decode cX0_returnsWithoutFeedback 91 = .ok (.goto (-76), 3) := by decide +kernel
theorem dX0_returnsWithoutFeedback_94 : decode cX0_returnsWithoutFeedback 94 = .ok (.iinc 3 1, 3) := by decide +kernel
theorem dX0_returnsWithoutFeedback_97 : decode cX0_returnsWithoutFeedback 97 = .ok (.goto (-93), 3) := by decide +kernel
theorem dX0_returnsWithoutFeedback_100 : decode cX0_returnsWithoutFeedback 100 = .ok (.iload_n 2, 1) := by decide +kernel
theorem dX0_returnsWithoutFeedback_101 : decode cX0_returnsWithoutFeedback 101 = .ok (.iload_n 1, 1) := by decide +kernel
theorem dX0_returnsWithoutFeedback_102 : decode cX0_returnsWithoutFeedback 102 = .ok (.invokestatic 31, 3) := by decide +kernel
theorem dX0_returnsWithoutFeedback_105 : decode cX0_returnsWithoutFeedback 105 = .ok (.ireturn, 1) := by decide +kernel
theorem dX0_staysWithoutFeedback_0 : decode cX0_staysWithoutFeedback 0 = .ok (.aload_n 0, 1) := by decide +kernel
theorem dX0_staysWithoutFeedback_1 : decode cX0_staysWithoutFeedback 1 = .ok (.getfield 9, 3) := by decide +kernel
theorem dX0_staysWithoutFeedback_4 : decode cX0_staysWithoutFeedback 4 = .ok (.aload_n 0, 1) := by decide +kernel
theorem dX0_staysWithoutFeedback_5 : decode cX0_staysWithoutFeedback 5 = .ok (.getfield 18, 3) := by decide +kernel
theorem dX0_staysWithoutFeedback_8 : decode cX0_staysWithoutFeedback 8 = .ok (.iload_n 1, 1) := by decide +kernel
theorem dX0_staysWithoutFeedback_9 : decode cX0_staysWithoutFeedback 9 = .ok (.iaload, 1) := by decide +kernel
theorem dX0_staysWithoutFeedback_10 : decode cX0_staysWithoutFeedback 10 = .ok (.iaload, 1) := by decide +kernel
theorem dX0_staysWithoutFeedback_11 : decode cX0_staysWithoutFeedback 11 = .ok (.istore_n 3, 1) := by decide +kernel
theorem dX0_staysWithoutFeedback_12 : decode cX0_staysWithoutFeedback 12 = .ok (.iload_n 3, 1) := by decide +kernel
theorem dX0_staysWithoutFeedback_13 : decode cX0_staysWithoutFeedback 13 = .ok (.iload_n 2, 1) := by decide +kernel
theorem dX0_staysWithoutFeedback_14 : decode cX0_staysWithoutFeedback 14 = .ok (.if_icmp .lt 22, 3) := by decide +kernel
theorem dX0_staysWithoutFeedback_17 : decode cX0_staysWithoutFeedback 17 = .ok (.aload_n 0, 1) := by decide +kernel
theorem dX0_staysWithoutFeedback_18 : decode cX0_staysWithoutFeedback 18 = .ok (.getfield 21, 3) := by decide +kernel
theorem dX0_staysWithoutFeedback_21 : decode cX0_staysWithoutFeedback 21 = .ok (.iload_n 1, 1) := by decide +kernel
theorem dX0_staysWithoutFeedback_22 : decode cX0_staysWithoutFeedback 22 = .ok (.iaload, 1) := by decide +kernel
theorem dX0_staysWithoutFeedback_23 : decode cX0_staysWithoutFeedback 23 = .ok (.iconst 3, 1) := by decide +kernel
theorem dX0_staysWithoutFeedback_24 : decode cX0_staysWithoutFeedback 24 = .ok (.if_icmp .ne 8, 3) := by decide +kernel
theorem dX0_staysWithoutFeedback_27 : decode cX0_staysWithoutFeedback 27 = .ok (.iload_n 3, 1) := by decide +kernel
theorem dX0_staysWithoutFeedback_28 : decode cX0_staysWithoutFeedback 28 = .ok (.iload_n 2, 1) := by decide +kernel
theorem dX0_staysWithoutFeedback_29 : decode cX0_staysWithoutFeedback 29 = .ok (.if_icmp .eq 7, 3) := by decide +kernel
theorem dX0_staysWithoutFeedback_32 : decode cX0_staysWithoutFeedback 32 = .ok (.iconst 1, 1) := by decide +kernel
theorem dX0_staysWithoutFeedback_33 : decode cX0_staysWithoutFeedback 33 = .ok (.goto 4, 3) := by decide +kernel
theorem dX0_staysWithoutFeedback_36 : decode cX0_staysWithoutFeedback 36 = .ok (.iconst 0, 1) := by decide +kernel
theorem dX0_staysWithoutFeedback_37 : decode cX0_staysWithoutFeedback 37 = .ok (.ireturn, 1) := by decide +kernel
theorem dX0_isAsLargeAs_0 : decode cX0_isAsLargeAs 0 = .ok (.aload_n 0, 1) := by decide +kernel
theorem dX0_isAsLargeAs_1 : decode cX0_isAsLargeAs 1 = .ok (.getfield 24, 3) := by decide +kernel
theorem dX0_isAsLargeAs_4 : decode cX0_isAsLargeAs 4 = .ok (.aload_n 1, 1) := by decide +kernel
theorem dX0_isAsLargeAs_5 : decode cX0_isAsLargeAs 5 = .ok (.getfield 24, 3) := by decide +kernel
theorem dX0_isAsLargeAs_8 : decode cX0_isAsLargeAs 8 = .ok (.if_icmp .ne 18, 3) := by decide +kernel
theorem dX0_isAsLargeAs_11 : decode cX0_isAsLargeAs 11 = .ok (.aload_n 0, 1) := by decide +kernel
theorem dX0_isAsLargeAs_12 : decode cX0_isAsLargeAs 12 = .ok (.getfield 28, 3) := by decide +kernel
theorem dX0_isAsLargeAs_15 : decode cX0_isAsLargeAs 15 = .ok (.aload_n 1, 1) := by decide +kernel
theorem dX0_isAsLargeAs_16 : decode cX0_isAsLargeAs 16 = .ok (.getfield 28, 3) := by decide +kernel
theorem dX0_isAsLargeAs_19 : decode cX0_isAsLargeAs 19 = .ok (.if_icmp .ne 7, 3) := by decide +kernel
theorem dX0_isAsLargeAs_22 : decode cX0_isAsLargeAs 22 = .ok (.iconst 1, 1) := by decide +kernel
theorem dX0_isAsLargeAs_23 : decode cX0_isAsLargeAs 23 = .ok (.goto 4, 3) := by decide +kernel
theorem dX0_isAsLargeAs_26 : decode cX0_isAsLargeAs 26 = .ok (.iconst 0, 1) := by decide +kernel
theorem dX0_isAsLargeAs_27 : decode cX0_isAsLargeAs 27 = .ok (.ireturn, 1) := by decide +kernel
theorem dX0_copyFrom_0 : decode cX0_copyFrom 0 = .ok (.aload_n 0, 1) := by decide +kernel
theorem dX0_copyFrom_1 : decode cX0_copyFrom 1 = .ok (.aload_n 1, 1) := by decide +kernel
theorem dX0_copyFrom_2 : decode cX0_copyFrom 2 = .ok (.getfield 24, 3) := by decide +kernel
theorem dX0_copyFrom_5 : decode cX0_copyFrom 5 = .ok (.putfield 24, 3) := by decide +kernel
theorem dX0_copyFrom_8 : decode cX0_copyFrom 8 = .ok (.aload_n 0, 1) := by decide +kernel
theorem dX0_copyFrom_9 : decode cX0_copyFrom 9 = .ok (.aload_n 1, 1) := by decide +kernel
theorem dX0_copyFrom_10 : decode cX0_copyFrom 10 = .ok (.getfield 28, 3) := by decide +kernel
theorem dX0_copyFrom_13 : decode cX0_copyFrom 13 = .ok (.putfield 28, 3) := by decide +kernel
theorem dX0_copyFrom_16 : decode cX0_copyFrom 16 = .ok (.aload_n 1, 1) := by decide +kernel
theorem dX0_copyFrom_17 : decode cX0_copyFrom 17 = .ok (.getfield 9, 3) := by decide +kernel
theorem dX0_copyFrom_20 : decode cX0_copyFrom 20 = .ok (.iconst 0, 1) := by decide +kernel
theorem dX0_copyFrom_21 : decode cX0_copyFrom 21 = .ok (.aload_n 0, 1) := by decide +kernel
theorem dX0_copyFrom_22 : decode cX0_copyFrom 22 = .ok (.getfield 9, 3) := by decide +kernel
theorem dX0_copyFrom_25 : decode cX0_copyFrom 25 = .ok (.iconst 0, 1) := by decide +kernel
theorem dX0_copyFrom_26 : decode cX0_copyFrom 26 = .ok (.bipush 6, 2) := by decide +kernel
theorem dX0_copyFrom_28 : decode cX0_copyFrom 28 = .ok (.invokestatic 59, 3) := by decide +kernel
theorem dX0_copyFrom_31 : decode cX0_copyFrom 31 = .ok (.aload_n 1, 1) := by decide +kernel
theorem dX0_copyFrom_32 : decode cX0_copyFrom 32 = .ok (.getfield 15, 3) := by decide +kernel
theorem dX0_copyFrom_35 : decode cX0_copyFrom 35 = .ok (.iconst 0, 1) := by decide +kernel
theorem dX0_copyFrom_36 : decode cX0_copyFrom 36 = .ok (.aload_n 0, 1) := by decide +kernel
theorem dX0_copyFrom_37 : decode cX0_copyFrom 37 = .ok (.getfield 15, 3) := by decide +kernel
theorem dX0_copyFrom_40 : decode cX0_copyFrom 40 = .ok (.iconst 0, 1) := by decide +kernel
theorem dX0_copyFrom_41 : decode cX0_copyFrom 41 = .ok (.bipush 10, 2) := by decide +kernel
theorem dX0_copyFrom_43 : decode cX0_copyFrom 43 = .ok (.invokestatic 59, 3) := by decide +kernel
theorem dX0_copyFrom_46 : decode cX0_copyFrom 46 = .ok (.aload_n 1, 1) := by decide +kernel
theorem dX0_copyFrom_47 : decode cX0_copyFrom 47 = .ok (.getfield 18, 3) := by decide +kernel
theorem dX0_copyFrom_50 : decode cX0_copyFrom 50 = .ok (.iconst 0, 1) := by decide +kernel
theorem dX0_copyFrom_51 : decode cX0_copyFrom 51 = .ok (.aload_n 0, 1) := by decide +kernel
theorem dX0_copyFrom_52 : decode cX0_copyFrom 52 = .ok (.getfield 18, 3) := by decide +kernel
theorem dX0_copyFrom_55 : decode cX0_copyFrom 55 = .ok (.iconst 0, 1) := by decide +kernel
theorem dX0_copyFrom_56 : decode cX0_copyFrom 56 = .ok (.bipush 10, 2) := by decide +kernel
theorem dX0_copyFrom_58 : decode cX0_copyFrom 58 = .ok (.invokestatic 59, 3) := by decide +kernel
theorem dX0_copyFrom_61 : decode cX0_copyFrom 61 = .ok (.aload_n 1, 1) := by decide +kernel
theorem dX0_copyFrom_62 : decode cX0_copyFrom 62 = .ok (.getfield 21, 3) := by decide +kernel
theorem dX0_copyFrom_65 : decode cX0_copyFrom 65 = .ok (.iconst 0, 1) := by decide +kernel
theorem dX0_copyFrom_66 : decode cX0_copyFrom 66 = .ok (.aload_n 0, 1) := by decide +kernel
theorem dX0_copyFrom_67 : decode cX0_copyFrom 67 = .ok (.getfield 21, 3) := by decide +kernel
theorem dX0_copyFrom_70 : decode cX0_copyFrom 70 = .ok (.iconst 0, 1) := by decide +kernel
theorem dX0_copyFrom_71 : decode cX0_copyFrom 71 = .ok (.bipush 10, 2) := by decide +kernel
theorem dX0_copyFrom_73 : decode cX0_copyFrom 73 = .ok (.invokestatic 59, 3) := by decide +kernel
theorem dX0_copyFrom_76 : decode cX0_copyFrom 76 = .ok (.return_, 1) := by decide +kernel
theorem dX0_contains_0 : decode cX0_contains 0 = .ok (.iload_n 0, 1) := by decide +kernel
theorem dX0_contains_1 : decode cX0_contains 1 = .ok (.iload_n 1, 1) := by decide +kernel
theorem dX0_contains_2 : decode cX0_contains 2 = .ok (.ishr, 1) := by decide +kernel
theorem dX0_contains_3 : decode cX0_contains 3 = .ok (.iconst 1, 1) := by decide +kernel
theorem dX0_contains_4 : decode cX0_contains 4 = .ok (.iand, 1) := by decide +kernel
theorem dX0_contains_5 : decode cX0_contains 5 = .ok (.iconst 1, 1) := by decide +kernel
theorem dX0_contains_6 : decode cX0_contains 6 = .ok (.if_icmp .ne 7, 3) := by decide +kernel
theorem dX0_contains_9 : decode cX0_contains 9 = .ok (.iconst 1, 1) := by decide +kernel
theorem dX0_contains_10 : decode cX0_contains 10 = .ok (.goto 4, 3) := by decide +kernel
theorem dX0_contains_13 : decode cX0_contains 13 = .ok (.iconst 0, 1) := by decide +kernel
theorem dX0_contains_14 : decode cX0_contains 14 = .ok (.ireturn, 1) := by decide +kernel
theorem dX1_init_0 : decode cX1_init 0 = .ok (.aload_n 0, 1) := by decide +kernel
theorem dX1_init_1 : decode cX1_init 1 = .ok (.invokespecial 3, 3) := by decide +kernel
theorem dX1_init_4 : decode cX1_init 4 = .ok (.aload_n 0, 1) := by decide +kernel
theorem dX1_init_5 : decode cX1_init 5 = .ok (.bipush 20, 2) := by decide +kernel
theorem dX1_init_7 : decode cX1_init 7 = .ok (.newarray .int, 2) := by decide +kernel
theorem dX1_init_9 : decode cX1_init 9 = .ok (.putfield 9, 3) := by decide +kernel
theorem dX1_init_12 : decode cX1_init 12 = .ok (.aload_n 0, 1) := by decide +kernel
theorem dX1_init_13 : decode cX1_init 13 = .ok (.sipush 240, 3) := by decide +kernel
theorem dX1_init_16 : decode cX1_init 16 = .ok (.newarray .int, 2) := by decide +kernel
theorem dX1_init_18 : decode cX1_init 18 = .ok (.putfield 15, 3) := by decide +kernel
theorem dX1_init_21 : decode cX1_init 21 = .ok (.return_, 1) := by decide +kernel
theorem dX1_sizeOf_0 : decode cX1_sizeOf 0 = .ok (.aload_n 0, 1) := by decide +kernel
theorem dX1_sizeOf_1 : decode cX1_sizeOf 1 = .ok (.getfield 9, 3) := by decide +kernel
theorem dX1_sizeOf_4 : decode cX1_sizeOf 4 = .ok (.iload_n 1, 1) := by decide +kernel
theorem dX1_sizeOf_5 : decode cX1_sizeOf 5 = .ok (.bipush 10, 2) := by decide +kernel
theorem dX1_sizeOf_7 : decode cX1_sizeOf 7 = .ok (.imul, 1) := by decide +kernel
theorem dX1_sizeOf_8 : decode cX1_sizeOf 8 = .ok (.iload_n 2, 1) := by decide +kernel
theorem dX1_sizeOf_9 : decode cX1_sizeOf 9 = .ok (.iadd, 1) := by decide +kernel
theorem dX1_sizeOf_10 : decode cX1_sizeOf 10 = .ok (.iaload, 1) := by decide +kernel
theorem dX1_sizeOf_11 : decode cX1_sizeOf 11 = .ok (.ireturn, 1) := by decide +kernel
theorem dX1_timeOf_0 : decode cX1_timeOf 0 = .ok (.aload_n 0, 1) := by decide +kernel
theorem dX1_timeOf_1 : decode cX1_timeOf 1 = .ok (.getfield 15, 3) := by decide +kernel
theorem dX1_timeOf_4 : decode cX1_timeOf 4 = .ok (.iload_n 1, 1) := by decide +kernel
theorem dX1_timeOf_5 : decode cX1_timeOf 5 = .ok (.bipush 10, 2) := by decide +kernel
theorem dX1_timeOf_7 : decode cX1_timeOf 7 = .ok (.imul, 1) := by decide +kernel
theorem dX1_timeOf_8 : decode cX1_timeOf 8 = .ok (.iload_n 2, 1) := by decide +kernel
theorem dX1_timeOf_9 : decode cX1_timeOf 9 = .ok (.iadd, 1) := by decide +kernel
theorem dX1_timeOf_10 : decode cX1_timeOf 10 = .ok (.bipush 12, 2) := by decide +kernel
theorem dX1_timeOf_12 : decode cX1_timeOf 12 = .ok (.imul, 1) := by decide +kernel
theorem dX1_timeOf_13 : decode cX1_timeOf 13 = .ok (.iload_n 3, 1) := by decide +kernel
theorem dX1_timeOf_14 : decode cX1_timeOf 14 = .ok (.iadd, 1) := by decide +kernel
theorem dX1_timeOf_15 : decode cX1_timeOf 15 = .ok (.iaload, 1) := by decide +kernel
theorem dX1_timeOf_16 : decode cX1_timeOf 16 = .ok (.ireturn, 1) := by decide +kernel
theorem dX1_isFull_0 : decode cX1_isFull 0 = .ok (.aload_n 0, 1) := by decide +kernel
theorem dX1_isFull_1 : decode cX1_isFull 1 = .ok (.iload_n 1, 1) := by decide +kernel
theorem dX1_isFull_2 : decode cX1_isFull 2 = .ok (.iload_n 2, 1) := by decide +kernel
theorem dX1_isFull_3 : decode cX1_isFull 3 = .ok (.invokevirtual 18, 3) := by decide +kernel
theorem dX1_isFull_6 : decode cX1_isFull 6 = .ok (.bipush 12, 2) := by decide +kernel
theorem dX1_isFull_8 : decode cX1_isFull 8 = .ok (.if_icmp .lt 7, 3) := by decide +kernel
theorem dX1_isFull_11 : decode cX1_isFull 11 = .ok (.iconst 1, 1) := by decide +kernel
theorem dX1_isFull_12 : decode cX1_isFull 12 = .ok (.goto 4, 3) := by decide +kernel
theorem dX1_isFull_15 : decode cX1_isFull 15 = .ok (.iconst 0, 1) := by decide +kernel
theorem dX1_isFull_16 : decode cX1_isFull 16 = .ok (.ireturn, 1) := by decide +kernel
theorem dX1_isAnyFull_0 : decode cX1_isAnyFull 0 = .ok (.iconst 0, 1) := by decide +kernel
theorem dX1_isAnyFull_1 : decode cX1_isAnyFull 1 = .ok (.istore_n 3, 1) := by decide +kernel
theorem dX1_isAnyFull_2 : decode cX1_isAnyFull 2 = .ok (.iload_n 3, 1) := by decide +kernel
theorem dX1_isAnyFull_3 : decode cX1_isAnyFull 3 = .ok (.bipush 10, 2) := by decide +kernel
theorem dX1_isAnyFull_5 : decode cX1_isAnyFull 5 = .ok (.if_icmp .ge 28, 3) := by decide +kernel
theorem dX1_isAnyFull_8 : decode cX1_isAnyFull 8 = .ok (.iload_n 2, 1) := by decide +kernel
theorem dX1_isAnyFull_9 : decode cX1_isAnyFull 9 = .ok (.iload_n 3, 1) := by decide +kernel
theorem dX1_isAnyFull_10 : decode cX1_isAnyFull 10 = .ok (.invokestatic 22, 3) := by decide +kernel
theorem dX1_isAnyFull_13 : decode cX1_isAnyFull 13 = .ok (.ifCond .eq 14, 3) := by decide +kernel
theorem dX1_isAnyFull_16 : decode cX1_isAnyFull 16 = .ok (.aload_n 0, 1) := by decide +kernel
theorem dX1_isAnyFull_17 : decode cX1_isAnyFull 17 = .ok (.iload_n 1, 1) := by decide +kernel
theorem dX1_isAnyFull_18 : decode cX1_isAnyFull 18 = .ok (.iload_n 3, 1) := by decide +kernel
theorem dX1_isAnyFull_19 : decode cX1_isAnyFull 19 = .ok (.invokevirtual 28, 3) := by decide +kernel
theorem dX1_isAnyFull_22 : decode cX1_isAnyFull 22 = .ok (.ifCond .eq 5, 3) := by decide +kernel
theorem dX1_isAnyFull_25 : decode cX1_isAnyFull 25 = .ok (.iconst 1, 1) := by decide +kernel
theorem dX1_isAnyFull_26 : decode cX1_isAnyFull 26 = .ok (.ireturn, 1) := by decide +kernel
theorem dX1_isAnyFull_27 : decode cX1_isAnyFull 27 = .ok (.iinc 3 1, 3) := by decide +kernel
theorem dX1_isAnyFull_30 : decode cX1_isAnyFull 30 = .ok (.goto (-28), 3) := by decide +kernel
theorem dX1_isAnyFull_33 : decode cX1_isAnyFull 33 = .ok (.iconst 0, 1) := by decide +kernel
theorem dX1_isAnyFull_34 : decode cX1_isAnyFull 34 = .ok (.ireturn, 1) := by decide +kernel
theorem dX1_put_0 : decode cX1_put 0 = .ok (.iload_n 1, 1) := by decide +kernel
theorem dX1_put_1 : decode cX1_put 1 = .ok (.bipush 10, 2) := by decide +kernel
theorem dX1_put_3 : decode cX1_put 3 = .ok (.imul, 1) := by decide +kernel
theorem dX1_put_4 : decode cX1_put 4 = .ok (.iload_n 2, 1) := by decide +kernel
theorem dX1_put_5 : decode cX1_put 5 = .ok (.iadd, 1) := by decide +kernel
theorem dX1_put_6 : decode cX1_put 6 = .ok (.istore 4, 2) := by decide +kernel
theorem dX1_put_8 : decode cX1_put 8 = .ok (.aload_n 0, 1) := by decide +kernel
theorem dX1_put_9 : decode cX1_put 9 = .ok (.getfield 15, 3) := by decide +kernel
theorem dX1_put_12 : decode cX1_put 12 = .ok (.iload 4, 2) := by decide +kernel
theorem dX1_put_14 : decode cX1_put 14 = .ok (.bipush 12, 2) := by decide +kernel
theorem dX1_put_16 : decode cX1_put 16 = .ok (.imul, 1) := by decide +kernel
theorem dX1_put_17 : decode cX1_put 17 = .ok (.aload_n 0, 1) := by decide +kernel
theorem dX1_put_18 : decode cX1_put 18 = .ok (.getfield 9, 3) := by decide +kernel
theorem dX1_put_21 : decode cX1_put 21 = .ok (.iload 4, 2) := by decide +kernel
theorem dX1_put_23 : decode cX1_put 23 = .ok (.iaload, 1) := by decide +kernel
theorem dX1_put_24 : decode cX1_put 24 = .ok (.iadd, 1) := by decide +kernel
theorem dX1_put_25 : decode cX1_put 25 = .ok (.iload_n 3, 1) := by decide +kernel
theorem dX1_put_26 : decode cX1_put 26 = .ok (.iastore, 1) := by decide +kernel
theorem dX1_put_27 : decode cX1_put 27 = .ok (.aload_n 0, 1) := by decide +kernel
theorem dX1_put_28 : decode cX1_put 28 = .ok (.getfield 9, 3) := by decide +kernel
theorem dX1_put_31 : decode cX1_put 31 = .ok (.iload 4, 2) := by decide +kernel
theorem dX1_put_33 : decode cX1_put 33 = .ok (.dup2, 1) := by decide +kernel
theorem dX1_put_34 : decode cX1_put 34 = .ok (.iaload, 1) := by decide +kernel
theorem dX1_put_35 : decode cX1_put 35 = .ok (.iconst 1, 1) := by decide +kernel
theorem dX1_put_36 : decode cX1_put 36 = .ok (.iadd, 1) := by decide +kernel
theorem dX1_put_37 : decode cX1_put 37 = .ok (.iastore, 1) := by decide +kernel
theorem dX1_put_38 : decode cX1_put 38 = .ok (.return_, 1) := by decide +kernel
theorem dX1_take_0 : decode cX1_take 0 = .ok (.iload_n 1, 1) := by decide +kernel
theorem dX1_take_1 : decode cX1_take 1 = .ok (.bipush 10, 2) := by decide +kernel
theorem dX1_take_3 : decode cX1_take 3 = .ok (.imul, 1) := by decide +kernel
theorem dX1_take_4 : decode cX1_take 4 = .ok (.iload_n 2, 1) := by decide +kernel
theorem dX1_take_5 : decode cX1_take 5 = .ok (.iadd, 1) := by decide +kernel
theorem dX1_take_6 : decode cX1_take 6 = .ok (.istore_n 3, 1) := by decide +kernel
theorem dX1_take_7 : decode cX1_take 7 = .ok (.iload_n 3, 1) := by decide +kernel
theorem dX1_take_8 : decode cX1_take 8 = .ok (.bipush 12, 2) := by decide +kernel
theorem dX1_take_10 : decode cX1_take 10 = .ok (.imul, 1) := by decide +kernel
theorem dX1_take_11 : decode cX1_take 11 = .ok (.istore 4, 2) := by decide +kernel
theorem dX1_take_13 : decode cX1_take 13 = .ok (.aload_n 0, 1) := by decide +kernel
theorem dX1_take_14 : decode cX1_take 14 = .ok (.getfield 15, 3) := by decide +kernel
theorem dX1_take_17 : decode cX1_take 17 = .ok (.iload 4, 2) := by decide +kernel
theorem dX1_take_19 : decode cX1_take 19 = .ok (.iaload, 1) := by decide +kernel
theorem dX1_take_20 : decode cX1_take 20 = .ok (.istore 5, 2) := by decide +kernel
theorem dX1_take_22 : decode cX1_take 22 = .ok (.aload_n 0, 1) := by decide +kernel
theorem dX1_take_23 : decode cX1_take 23 = .ok (.getfield 9, 3) := by decide +kernel
theorem dX1_take_26 : decode cX1_take 26 = .ok (.iload_n 3, 1) := by decide +kernel
theorem dX1_take_27 : decode cX1_take 27 = .ok (.dup2, 1) := by decide +kernel
theorem dX1_take_28 : decode cX1_take 28 = .ok (.iaload, 1) := by decide +kernel
theorem dX1_take_29 : decode cX1_take 29 = .ok (.iconst 1, 1) := by decide +kernel
theorem dX1_take_30 : decode cX1_take 30 = .ok (.isub, 1) := by decide +kernel
theorem dX1_take_31 : decode cX1_take 31 = .ok (.iastore, 1) := by decide +kernel
theorem dX1_take_32 : decode cX1_take 32 = .ok (.aload_n 0, 1) := by decide +kernel
theorem dX1_take_33 : decode cX1_take 33 = .ok (.getfield 15, 3) := by decide +kernel
theorem dX1_take_36 : decode cX1_take 36 = .ok (.iload 4, 2) := by decide +kernel
theorem dX1_take_38 : decode cX1_take 38 = .ok (.iconst 1, 1) := by decide +kernel
theorem dX1_take_39 : decode cX1_take 39 = .ok (.iadd, 1) := by decide +kernel
theorem dX1_take_40 : decode cX1_take 40 = .ok (.aload_n 0, 1) := by decide +kernel
theorem dX1_take_41 : decode cX1_take 41 = .ok (.getfield 15, 3) := by decide +kernel
theorem dX1_take_44 : decode cX1_take 44 = .ok (.iload 4, 2) := by decide +kernel
theorem dX1_take_46 : decode cX1_take 46 = .ok (.aload_n 0, 1) := by decide +kernel
theorem dX1_take_47 : decode cX1_take 47 = .ok (.getfield 9, 3) := by decide +kernel
theorem dX1_take_50 : decode cX1_take 50 = .ok (.iload_n 3, 1) := by decide +kernel
theorem dX1_take_51 : decode cX1_take 51 = .ok (.iaload, 1) := by decide +kernel
theorem dX1_take_52 : decode cX1_take 52 = .ok (.invokestatic 31, 3) := by decide +kernel
theorem dX1_take_55 : decode cX1_take 55 = .ok (.iload 5, 2) := by decide +kernel
theorem dX1_take_57 : decode cX1_take 57 = .ok (.ireturn, 1) := by decide +kernel
theorem dX1_copyFrom_0 : decode cX1_copyFrom 0 = .ok (.aload_n 1, 1) := by decide +kernel
theorem dX1_copyFrom_1 : decode cX1_copyFrom 1 = .ok (.getfield 9, 3) := by decide +kernel
theorem dX1_copyFrom_4 : decode cX1_copyFrom 4 = .ok (.iconst 0, 1) := by decide +kernel
theorem dX1_copyFrom_5 : decode cX1_copyFrom 5 = .ok (.aload_n 0, 1) := by decide +kernel
theorem dX1_copyFrom_6 : decode cX1_copyFrom 6 = .ok (.getfield 9, 3) := by decide +kernel
theorem dX1_copyFrom_9 : decode cX1_copyFrom 9 = .ok (.iconst 0, 1) := by decide +kernel
theorem dX1_copyFrom_10 : decode cX1_copyFrom 10 = .ok (.aload_n 0, 1) := by decide +kernel
theorem dX1_copyFrom_11 : decode cX1_copyFrom 11 = .ok (.getfield 9, 3) := by decide +kernel
theorem dX1_copyFrom_14 : decode cX1_copyFrom 14 = .ok (.arraylength, 1) := by decide +kernel
theorem dX1_copyFrom_15 : decode cX1_copyFrom 15 = .ok (.invokestatic 31, 3) := by decide +kernel
theorem dX1_copyFrom_18 : decode cX1_copyFrom 18 = .ok (.aload_n 1, 1) := by decide +kernel
theorem dX1_copyFrom_19 : decode cX1_copyFrom 19 = .ok (.getfield 15, 3) := by decide +kernel
theorem dX1_copyFrom_22 : decode cX1_copyFrom 22 = .ok (.iconst 0, 1) := by decide +kernel
theorem dX1_copyFrom_23 : decode cX1_copyFrom 23 = .ok (.aload_n 0, 1) := by decide +kernel
theorem dX1_copyFrom_24 : decode cX1_copyFrom 24 = .ok (.getfield 15, 3) := by decide +kernel
theorem dX1_copyFrom_27 : decode cX1_copyFrom 27 = .ok (.iconst 0, 1) := by decide +kernel
theorem dX1_copyFrom_28 : decode cX1_copyFrom 28 = .ok (.aload_n 0, 1) := by decide +kernel
theorem dX1_copyFrom_29 : decode cX1_copyFrom 29 = .ok (.getfield 15, 3) := by decide +kernel
theorem dX1_copyFrom_32 : decode cX1_copyFrom 32 = .ok (.arraylength, 1) := by decide +kernel
theorem dX1_copyFrom_33 : decode cX1_copyFrom 33 = .ok (.invokestatic 31, 3) := by decide +kernel
theorem dX1_copyFrom_36 : decode cX1_copyFrom 36 = .ok (.return_, 1) := by decide +kernel
theorem dX2_init_0 : decode cX2_init 0 = .ok (.aload_n 0, 1) := by decide +kernel
theorem dX2_init_1 : decode cX2_init 1 = .ok (.invokespecial 3, 3) := by decide +kernel
theorem dX2_init_4 : decode cX2_init 4 = .ok (.aload_n 0, 1) := by decide +kernel
theorem dX2_init_5 : decode cX2_init 5 = .ok (.new 9, 3) := by decide +kernel
theorem dX2_init_8 : decode cX2_init 8 = .ok (.dup, 1) := by decide +kernel
theorem dX2_init_9 : decode cX2_init 9 = .ok (.invokespecial 11, 3) := by decide +kernel
theorem dX2_init_12 : decode cX2_init 12 = .ok (.putfield 12, 3) := by decide +kernel
theorem dX2_init_15 : decode cX2_init 15 = .ok (.aload_n 0, 1) := by decide +kernel
theorem dX2_init_16 : decode cX2_init 16 = .ok (.new 18, 3) := by decide +kernel
theorem dX2_init_19 : decode cX2_init 19 = .ok (.dup, 1) := by decide +kernel
theorem dX2_init_20 : decode cX2_init 20 = .ok (.invokespecial 20, 3) := by decide +kernel
theorem dX2_init_23 : decode cX2_init 23 = .ok (.putfield 21, 3) := by decide +kernel
theorem dX2_init_26 : decode cX2_init 26 = .ok (.aload_n 0, 1) := by decide +kernel
theorem dX2_init_27 : decode cX2_init 27 = .ok (.new 25, 3) := by decide +kernel
theorem dX2_init_30 : decode cX2_init 30 = .ok (.dup, 1) := by decide +kernel
theorem dX2_init_31 : decode cX2_init 31 = .ok (.invokespecial 27, 3) := by decide +kernel
theorem dX2_init_34 : decode cX2_init 34 = .ok (.putfield 28, 3) := by decide +kernel
theorem dX2_init_37 : decode cX2_init 37 = .ok (.aload_n 0, 1) := by decide +kernel
theorem dX2_init_38 : decode cX2_init 38 = .ok (.iconst 2, 1) := by decide +kernel
theorem dX2_init_39 : decode cX2_init 39 = .ok (.anewarray 32, 3) := by decide +kernel
theorem dX2_init_42 : decode cX2_init 42 = .ok (.putfield 34, 3) := by decide +kernel
theorem dX2_init_45 : decode cX2_init 45 = .ok (.aload_n 0, 1) := by decide +kernel
theorem dX2_init_46 : decode cX2_init 46 = .ok (.iconst 2, 1) := by decide +kernel
theorem dX2_init_47 : decode cX2_init 47 = .ok (.anewarray 38, 3) := by decide +kernel
theorem dX2_init_50 : decode cX2_init 50 = .ok (.putfield 40, 3) := by decide +kernel
theorem dX2_init_53 : decode cX2_init 53 = .ok (.aload_n 0, 1) := by decide +kernel
theorem dX2_init_54 : decode cX2_init 54 = .ok (.bipush 6, 2) := by decide +kernel
theorem dX2_init_56 : decode cX2_init 56 = .ok (.newarray .int, 2) := by decide +kernel
theorem dX2_init_58 : decode cX2_init 58 = .ok (.putfield 44, 3) := by decide +kernel
theorem dX2_init_61 : decode cX2_init 61 = .ok (.aload_n 0, 1) := by decide +kernel
theorem dX2_init_62 : decode cX2_init 62 = .ok (.bipush 60, 2) := by decide +kernel
theorem dX2_init_64 : decode cX2_init 64 = .ok (.newarray .int, 2) := by decide +kernel
theorem dX2_init_66 : decode cX2_init 66 = .ok (.putfield 48, 3) := by decide +kernel
theorem dX2_init_69 : decode cX2_init 69 = .ok (.iconst 0, 1) := by decide +kernel
theorem dX2_init_70 : decode cX2_init 70 = .ok (.istore_n 1, 1) := by decide +kernel
theorem dX2_init_71 : decode cX2_init 71 = .ok (.iload_n 1, 1) := by decide +kernel
theorem dX2_init_72 : decode cX2_init 72 = .ok (.iconst 2, 1) := by decide +kernel
theorem dX2_init_73 : decode cX2_init 73 = .ok (.if_icmp .ge 35, 3) := by decide +kernel
theorem dX2_init_76 : decode cX2_init 76 = .ok (.aload_n 0, 1) := by decide +kernel
theorem dX2_init_77 : decode cX2_init 77 = .ok (.getfield 34, 3) := by decide +kernel
theorem dX2_init_80 : decode cX2_init 80 = .ok (.iload_n 1, 1) := by decide +kernel
theorem dX2_init_81 : decode cX2_init 81 = .ok (.new 32, 3) := by decide +kernel
theorem dX2_init_84 : decode cX2_init 84 = .ok (.dup, 1) := by decide +kernel
theorem dX2_init_85 : decode cX2_init 85 = .ok (.invokespecial 51, 3) := by decide +kernel
theorem dX2_init_88 : decode cX2_init 88 = .ok (.aastore, 1) := by decide +kernel
theorem dX2_init_89 : decode cX2_init 89 = .ok (.aload_n 0, 1) := by decide +kernel
theorem dX2_init_90 : decode cX2_init 90 = .ok (.getfield 40, 3) := by decide +kernel
theorem dX2_init_93 : decode cX2_init 93 = .ok (.iload_n 1, 1) := by decide +kernel
theorem dX2_init_94 : decode cX2_init 94 = .ok (.new 38, 3) := by decide +kernel
theorem dX2_init_97 : decode cX2_init 97 = .ok (.dup, 1) := by decide +kernel
theorem dX2_init_98 : decode cX2_init 98 = .ok (.invokespecial 52, 3) := by decide +kernel
theorem dX2_init_101 : decode cX2_init 101 = .ok (.aastore, 1) := by decide +kernel
theorem dX2_init_102 : decode cX2_init 102 = .ok (.iinc 1 1, 3) := by decide +kernel
theorem dX2_init_105 : decode cX2_init 105 = .ok (.goto (-34), 3) := by decide +kernel
theorem dX2_init_108 : decode cX2_init 108 = .ok (.aload_n 0, 1) := by decide +kernel
theorem dX2_init_109 : decode cX2_init 109 = .ok (.getfield 48, 3) := by decide +kernel
theorem dX2_init_112 : decode cX2_init 112 = .ok (.iconst (-1), 1) := by decide +kernel
theorem dX2_init_113 : decode cX2_init 113 = .ok (.invokestatic 53, 3) := by decide +kernel
theorem dX2_init_116 : decode cX2_init 116 = .ok (.return_, 1) := by decide +kernel
theorem dX2_isInput_0 : decode cX2_isInput 0 = .ok (.aload_n 0, 1) := by decide +kernel
theorem dX2_isInput_1 : decode cX2_isInput 1 = .ok (.getfield 44, 3) := by decide +kernel
theorem dX2_isInput_4 : decode cX2_isInput 4 = .ok (.iload_n 1, 1) := by decide +kernel
theorem dX2_isInput_5 : decode cX2_isInput 5 = .ok (.iaload, 1) := by decide +kernel
theorem dX2_isInput_6 : decode cX2_isInput 6 = .ok (.iconst (-1), 1) := by decide +kernel
theorem dX2_isInput_7 : decode cX2_isInput 7 = .ok (.if_icmp .eq 7, 3) := by decide +kernel
theorem dX2_isInput_10 : decode cX2_isInput 10 = .ok (.iconst 1, 1) := by decide +kernel
theorem dX2_isInput_11 : decode cX2_isInput 11 = .ok (.goto 4, 3) := by decide +kernel
theorem dX2_isInput_14 : decode cX2_isInput 14 = .ok (.iconst 0, 1) := by decide +kernel
theorem dX2_isInput_15 : decode cX2_isInput 15 = .ok (.ireturn, 1) := by decide +kernel
theorem dX2_appendNode_0 : decode cX2_appendNode 0 = .ok (.aload_n 0, 1) := by decide +kernel
theorem dX2_appendNode_1 : decode cX2_appendNode 1 = .ok (.getfield 12, 3) := by decide +kernel
theorem dX2_appendNode_4 : decode cX2_appendNode 4 = .ok (.iload_n 1, 1) := by decide +kernel
theorem dX2_appendNode_5 : decode cX2_appendNode 5 = .ok (.invokevirtual 59, 3) := by decide +kernel
theorem dX2_appendNode_8 : decode cX2_appendNode 8 = .ok (.istore_n 3, 1) := by decide +kernel
theorem dX2_appendNode_9 : decode cX2_appendNode 9 = .ok (.aload_n 0, 1) := by decide +kernel
theorem dX2_appendNode_10 : decode cX2_appendNode 10 = .ok (.getfield 44, 3) := by decide +kernel
theorem dX2_appendNode_13 : decode cX2_appendNode 13 = .ok (.iload_n 3, 1) := by decide +kernel
theorem dX2_appendNode_14 : decode cX2_appendNode 14 = .ok (.iload_n 2, 1) := by decide +kernel
theorem dX2_appendNode_15 : decode cX2_appendNode 15 = .ok (.ifCond .eq 7, 3) := by decide +kernel
theorem dX2_appendNode_18 : decode cX2_appendNode 18 = .ok (.iconst 0, 1) := by decide +kernel
theorem dX2_appendNode_19 : decode cX2_appendNode 19 = .ok (.goto 4, 3) := by decide +kernel
theorem dX2_appendNode_22 : decode cX2_appendNode 22 = .ok (.iconst (-1), 1) := by decide +kernel
theorem dX2_appendNode_23 : decode cX2_appendNode 23 = .ok (.iastore, 1) := by decide +kernel
theorem dX2_appendNode_24 : decode cX2_appendNode 24 = .ok (.iload_n 2, 1) := by decide +kernel
theorem dX2_appendNode_25 : decode cX2_appendNode 25 = .ok (.ifCond .eq 34, 3) := by decide +kernel
theorem dX2_appendNode_28 : decode cX2_appendNode 28 = .ok (.iconst 0, 1) := by decide +kernel
theorem dX2_appendNode_29 : decode cX2_appendNode 29 = .ok (.istore 4, 2) := by decide +kernel
theorem dX2_appendNode_31 : decode cX2_appendNode 31 = .ok (.iload 4, 2) := by decide +kernel
theorem dX2_appendNode_33 : decode cX2_appendNode 33 = .ok (.iconst 2, 1) := by decide +kernel
theorem dX2_appendNode_34 : decode cX2_appendNode 34 = .ok (.if_icmp .ge 25, 3) := by decide +kernel
theorem dX2_appendNode_37 : decode cX2_appendNode 37 = .ok (.aload_n 0, 1) := by decide +kernel
theorem dX2_appendNode_38 : decode cX2_appendNode 38 = .ok (.getfield 34, 3) := by decide +kernel
theorem dX2_appendNode_41 : decode cX2_appendNode 41 = .ok (.iload 4, 2) := by decide +kernel
theorem dX2_appendNode_43 : decode cX2_appendNode 43 = .ok (.aaload, 1) := by decide +kernel
theorem dX2_appendNode_44 : decode cX2_appendNode 44 = .ok (.iload_n 3, 1) := by decide +kernel
theorem dX2_appendNode_45 : decode cX2_appendNode 45 = .ok (.iconst 0, 1) := by decide +kernel
theorem dX2_appendNode_46 : decode cX2_appendNode 46 = .ok (.invokestatic 63, 3) := by decide +kernel
theorem dX2_appendNode_49 : decode cX2_appendNode 49 = .ok (.iconst 1, 1) := by decide +kernel
theorem dX2_appendNode_50 : decode cX2_appendNode 50 = .ok (.invokevirtual 67, 3) := by decide +kernel
theorem dX2_appendNode_53 : decode cX2_appendNode 53 = .ok (.iinc 4 1, 3) := by decide +kernel
theorem dX2_appendNode_56 : decode cX2_appendNode 56 = .ok (.goto (-25), 3) := by decide +kernel
theorem dX2_appendNode_59 : decode cX2_appendNode 59 = .ok (.iload_n 3, 1) := by decide +kernel
theorem dX2_appendNode_60 : decode cX2_appendNode 60 = .ok (.ireturn, 1) := by decide +kernel
theorem dX2_putMessages_0 : decode cX2_putMessages 0 = .ok (.iconst 0, 1) := by decide +kernel
theorem dX2_putMessages_1 : decode cX2_putMessages 1 = .ok (.istore 5, 2) := by decide +kernel
theorem dX2_putMessages_3 : decode cX2_putMessages 3 = .ok (.iload 5, 2) := by decide +kernel
theorem dX2_putMessages_5 : decode cX2_putMessages 5 = .ok (.aload_n 0, 1) := by decide +kernel
theorem dX2_putMessages_6 : decode cX2_putMessages 6 = .ok (.getfield 12, 3) := by decide +kernel
theorem dX2_putMessages_9 : decode cX2_putMessages 9 = .ok (.getfield 71, 3) := by decide +kernel
theorem dX2_putMessages_12 : decode cX2_putMessages 12 = .ok (.if_icmp .ge 28, 3) := by decide +kernel
theorem dX2_putMessages_15 : decode cX2_putMessages 15 = .ok (.iload_n 2, 1) := by decide +kernel
theorem dX2_putMessages_16 : decode cX2_putMessages 16 = .ok (.iload 5, 2) := by decide +kernel
theorem dX2_putMessages_18 : decode cX2_putMessages 18 = .ok (.invokestatic 75, 3) := by decide +kernel
theorem dX2_putMessages_21 : decode cX2_putMessages 21 = .ok (.ifCond .eq 13, 3) := by decide +kernel
theorem dX2_putMessages_24 : decode cX2_putMessages 24 = .ok (.aload_n 0, 1) := by decide +kernel
theorem dX2_putMessages_25 : decode cX2_putMessages 25 = .ok (.iload_n 1, 1) := by decide +kernel
theorem dX2_putMessages_26 : decode cX2_putMessages 26 = .ok (.iload 5, 2) := by decide +kernel
theorem dX2_putMessages_28 : decode cX2_putMessages 28 = .ok (.iload_n 3, 1) := by decide +kernel
theorem dX2_putMessages_29 : decode cX2_putMessages 29 = .ok (.iload 4, 2) := by decide +kernel
theorem dX2_putMessages_31 : decode cX2_putMessages 31 = .ok (.invokevirtual 79, 3) := by decide +kernel
theorem dX2_putMessages_34 : decode cX2_putMessages 34 = .ok (.iinc 5 1, 3) := by decide +kernel
theorem dX2_putMessages_37 : decode cX2_putMessages 37 = .ok (.goto (-34), 3) := by decide +kernel
theorem dX2_putMessages_40 : decode cX2_putMessages 40 = .ok (.return_, 1) := by decide +kernel
theorem dX2_putMessage_0 : decode cX2_putMessage 0 = .ok (.aload_n 0, 1) := by decide +kernel
theorem dX2_putMessage_1 : decode cX2_putMessage 1 = .ok (.getfield 21, 3) := by decide +kernel
theorem dX2_putMessage_4 : decode cX2_putMessage 4 = .ok (.iload_n 3, 1) := by decide +kernel
theorem dX2_putMessage_5 : decode cX2_putMessage 5 = .ok (.iload_n 2, 1) := by decide +kernel
theorem dX2_putMessage_6 : decode cX2_putMessage 6 = .ok (.iload 4, 2) := by decide +kernel
theorem dX2_putMessage_8 : decode cX2_putMessage 8 = .ok (.invokevirtual 83, 3) := by decide +kernel
theorem dX2_putMessage_11 : decode cX2_putMessage 11 = .ok (.aload_n 0, 1) := by decide +kernel
theorem dX2_putMessage_12 : decode cX2_putMessage 12 = .ok (.iload_n 1, 1) := by decide +kernel
theorem dX2_putMessage_13 : decode cX2_putMessage 13 = .ok (.bipush 6, 2) := by decide +kernel
theorem dX2_putMessage_15 : decode cX2_putMessage 15 = .ok (.iload_n 2, 1) := by decide +kernel
theorem dX2_putMessage_16 : decode cX2_putMessage 16 = .ok (.iadd, 1) := by decide +kernel
theorem dX2_putMessage_17 : decode cX2_putMessage 17 = .ok (.iload 4, 2) := by decide +kernel
theorem dX2_putMessage_19 : decode cX2_putMessage 19 = .ok (.invokestatic 63, 3) := by decide +kernel
theorem dX2_putMessage_22 : decode cX2_putMessage 22 = .ok (.iconst 1, 1) := by decide +kernel
theorem dX2_putMessage_23 : decode cX2_putMessage 23 = .ok (.invokevirtual 87, 3) := by decide +kernel
theorem dX2_putMessage_26 : decode cX2_putMessage 26 = .ok (.return_, 1) := by decide +kernel
theorem dX2_update_0 : decode cX2_update 0 = .ok (.aload_n 0, 1) := by decide +kernel
theorem dX2_update_1 : decode cX2_update 1 = .ok (.getfield 34, 3) := by decide +kernel
theorem dX2_update_4 : decode cX2_update 4 = .ok (.iload_n 1, 1) := by decide +kernel
theorem dX2_update_5 : decode cX2_update 5 = .ok (.aaload, 1) := by decide +kernel
theorem dX2_update_6 : decode cX2_update 6 = .ok (.iload_n 2, 1) := by decide +kernel
theorem dX2_update_7 : decode cX2_update 7 = .ok (.iload_n 3, 1) := by decide +kernel
theorem dX2_update_8 : decode cX2_update 8 = .ok (.invokevirtual 67, 3) := by decide +kernel
theorem dX2_update_11 : decode cX2_update 11 = .ok (.aload_n 0, 1) := by decide +kernel
theorem dX2_update_12 : decode cX2_update 12 = .ok (.getfield 40, 3) := by decide +kernel
theorem dX2_update_15 : decode cX2_update 15 = .ok (.iconst 1, 1) := by decide +kernel
theorem dX2_update_16 : decode cX2_update 16 = .ok (.iload_n 1, 1) := by decide +kernel
theorem dX2_update_17 : decode cX2_update 17 = .ok (.isub, 1) := by decide +kernel
theorem dX2_update_18 : decode cX2_update 18 = .ok (.aaload, 1) := by decide +kernel
theorem dX2_update_19 : decode cX2_update 19 = .ok (.iload_n 2, 1) := by decide +kernel
theorem dX2_update_20 : decode cX2_update 20 = .ok (.iload_n 3, 1) := by decide +kernel
theorem dX2_update_21 : decode cX2_update 21 = .ok (.invokevirtual 90, 3) := by decide +kernel
theorem dX2_update_24 : decode cX2_update 24 = .ok (.return_, 1) := by decide +kernel
theorem dX2_recordDelivery_0 : decode cX2_recordDelivery 0 = .ok (.iload_n 1, 1) := by decide +kernel
theorem dX2_recordDelivery_1 : decode cX2_recordDelivery 1 = .ok (.bipush 10, 2) := by decide +kernel
theorem dX2_recordDelivery_3 : decode cX2_recordDelivery 3 = .ok (.imul, 1) := by decide +kernel
theorem dX2_recordDelivery_4 : decode cX2_recordDelivery 4 = .ok (.iload_n 2, 1) := by decide +kernel
theorem dX2_recordDelivery_5 : decode cX2_recordDelivery 5 = .ok (.bipush 100, 2) := by decide +kernel
theorem dX2_recordDelivery_7 : decode cX2_recordDelivery 7 = .ok (.idiv, 1) := by decide +kernel
theorem dX2_recordDelivery_8 : decode cX2_recordDelivery 8 = .ok (.iadd, 1) := by decide +kernel
theorem dX2_recordDelivery_9 : decode cX2_recordDelivery 9 = .ok (.istore_n 3, 1) := by decide +kernel
theorem dX2_recordDelivery_10 : decode cX2_recordDelivery 10 = .ok (.aload_n 0, 1) := by decide +kernel
theorem dX2_recordDelivery_11 : decode cX2_recordDelivery 11 = .ok (.getfield 48, 3) := by decide +kernel
theorem dX2_recordDelivery_14 : decode cX2_recordDelivery 14 = .ok (.iload_n 3, 1) := by decide +kernel
theorem dX2_recordDelivery_15 : decode cX2_recordDelivery 15 = .ok (.aload_n 0, 1) := by decide +kernel
theorem dX2_recordDelivery_16 : decode cX2_recordDelivery 16 = .ok (.getfield 48, 3) := by decide +kernel
theorem dX2_recordDelivery_19 : decode cX2_recordDelivery 19 = .ok (.iload_n 3, 1) := by decide +kernel
theorem dX2_recordDelivery_20 : decode cX2_recordDelivery 20 = .ok (.iaload, 1) := by decide +kernel
theorem dX2_recordDelivery_21 : decode cX2_recordDelivery 21 = .ok (.iload_n 2, 1) := by decide +kernel
theorem dX2_recordDelivery_22 : decode cX2_recordDelivery 22 = .ok (.invokestatic 93, 3) := by decide +kernel
theorem dX2_recordDelivery_25 : decode cX2_recordDelivery 25 = .ok (.invokestatic 96, 3) := by decide +kernel
theorem dX2_recordDelivery_28 : decode cX2_recordDelivery 28 = .ok (.iastore, 1) := by decide +kernel
theorem dX2_recordDelivery_29 : decode cX2_recordDelivery 29 = .ok (.aload_n 0, 1) := by decide +kernel
theorem dX2_recordDelivery_30 : decode cX2_recordDelivery 30 = .ok (.dup, 1) := by decide +kernel
theorem dX2_recordDelivery_31 : decode cX2_recordDelivery 31 = .ok (.getfield 101, 3) := by decide +kernel
theorem dX2_recordDelivery_34 : decode cX2_recordDelivery 34 = .ok (.iconst 1, 1) := by decide +kernel
theorem dX2_recordDelivery_35 : decode cX2_recordDelivery 35 = .ok (.iadd, 1) := by decide +kernel
theorem dX2_recordDelivery_36 : decode cX2_recordDelivery 36 = .ok (.putfield 101, 3) := by decide +kernel
theorem dX2_recordDelivery_39 : decode cX2_recordDelivery 39 = .ok (.return_, 1) := by decide +kernel
theorem dX2_recordArrival_0 : decode cX2_recordArrival 0 = .ok (.iload_n 2, 1) := by decide +kernel
theorem dX2_recordArrival_1 : decode cX2_recordArrival 1 = .ok (.bipush 100, 2) := by decide +kernel
theorem dX2_recordArrival_3 : decode cX2_recordArrival 3 = .ok (.idiv, 1) := by decide +kernel
theorem dX2_recordArrival_4 : decode cX2_recordArrival 4 = .ok (.istore_n 3, 1) := by decide +kernel
theorem dX2_recordArrival_5 : decode cX2_recordArrival 5 = .ok (.iload_n 3, 1) := by decide +kernel
theorem dX2_recordArrival_6 : decode cX2_recordArrival 6 = .ok (.bipush 10, 2) := by decide +kernel
theorem dX2_recordArrival_8 : decode cX2_recordArrival 8 = .ok (.if_icmp .ge 38, 3) := by decide +kernel
theorem dX2_recordArrival_11 : decode cX2_recordArrival 11 = .ok (.aload_n 0, 1) := by decide +kernel
theorem dX2_recordArrival_12 : decode cX2_recordArrival 12 = .ok (.getfield 48, 3) := by decide +kernel
theorem dX2_recordArrival_15 : decode cX2_recordArrival 15 = .ok (.iload_n 1, 1) := by decide +kernel
theorem dX2_recordArrival_16 : decode cX2_recordArrival 16 = .ok (.bipush 10, 2) := by decide +kernel
theorem dX2_recordArrival_18 : decode cX2_recordArrival 18 = .ok (.imul, 1) := by decide +kernel
theorem dX2_recordArrival_19 : decode cX2_recordArrival 19 = .ok (.iload_n 3, 1) := by decide +kernel
theorem dX2_recordArrival_20 : decode cX2_recordArrival 20 = .ok (.iadd, 1) := by decide +kernel
theorem dX2_recordArrival_21 : decode cX2_recordArrival 21 = .ok (.iaload, 1) := by decide +kernel
theorem dX2_recordArrival_22 : decode cX2_recordArrival 22 = .ok (.iload_n 2, 1) := by decide +kernel
theorem dX2_recordArrival_23 : decode cX2_recordArrival 23 = .ok (.invokestatic 93, 3) := by decide +kernel
theorem dX2_recordArrival_26 : decode cX2_recordArrival 26 = .ok (.if_icmp .lt 14, 3) := by decide +kernel
theorem dX2_recordArrival_29 : decode cX2_recordArrival 29 = .ok (.aload_n 0, 1) := by decide +kernel
theorem dX2_recordArrival_30 : decode cX2_recordArrival 30 = .ok (.dup, 1) := by decide +kernel
theorem dX2_recordArrival_31 : decode cX2_recordArrival 31 = .ok (.getfield 104, 3) := by decide +kernel
theorem dX2_recordArrival_34 : decode cX2_recordArrival 34 = .ok (.iconst 1, 1) := by decide +kernel
theorem dX2_recordArrival_35 : decode cX2_recordArrival 35 = .ok (.iadd, 1) := by decide +kernel
theorem dX2_recordArrival_36 : decode cX2_recordArrival 36 = .ok (.putfield 104, 3) := by decide +kernel
theorem dX2_recordArrival_39 : decode cX2_recordArrival 39 = .ok (.return_, 1) := by decide +kernel
theorem dX2_recordArrival_40 : decode cX2_recordArrival 40 = .ok (.iinc 3 1, 3) := by decide +kernel
theorem dX2_recordArrival_43 : decode cX2_recordArrival 43 = .ok (.goto (-38), 3) := by decide +kernel
theorem dX2_recordArrival_46 : decode cX2_recordArrival 46 = .ok (.return_, 1) := by decide +kernel
theorem dX2_copyFrom_0 : decode cX2_copyFrom 0 = .ok (.aload_n 0, 1) := by decide +kernel
theorem dX2_copyFrom_1 : decode cX2_copyFrom 1 = .ok (.aload_n 1, 1) := by decide +kernel
theorem dX2_copyFrom_2 : decode cX2_copyFrom 2 = .ok (.getfield 107, 3) := by decide +kernel
theorem dX2_copyFrom_5 : decode cX2_copyFrom 5 = .ok (.putfield 107, 3) := by decide +kernel
theorem dX2_copyFrom_8 : decode cX2_copyFrom 8 = .ok (.aload_n 0, 1) := by decide +kernel
theorem dX2_copyFrom_9 : decode cX2_copyFrom 9 = .ok (.aload_n 1, 1) := by decide +kernel
theorem dX2_copyFrom_10 : decode cX2_copyFrom 10 = .ok (.getfield 101, 3) := by decide +kernel
theorem dX2_copyFrom_13 : decode cX2_copyFrom 13 = .ok (.putfield 101, 3) := by decide +kernel
theorem dX2_copyFrom_16 : decode cX2_copyFrom 16 = .ok (.aload_n 0, 1) := by decide +kernel
theorem dX2_copyFrom_17 : decode cX2_copyFrom 17 = .ok (.aload_n 1, 1) := by decide +kernel
theorem dX2_copyFrom_18 : decode cX2_copyFrom 18 = .ok (.getfield 104, 3) := by decide +kernel
theorem dX2_copyFrom_21 : decode cX2_copyFrom 21 = .ok (.putfield 104, 3) := by decide +kernel
theorem dX2_copyFrom_24 : decode cX2_copyFrom 24 = .ok (.aload_n 0, 1) := by decide +kernel
theorem dX2_copyFrom_25 : decode cX2_copyFrom 25 = .ok (.getfield 12, 3) := by decide +kernel
theorem dX2_copyFrom_28 : decode cX2_copyFrom 28 = .ok (.aload_n 1, 1) := by decide +kernel
theorem dX2_copyFrom_29 : decode cX2_copyFrom 29 = .ok (.getfield 12, 3) := by decide +kernel
theorem dX2_copyFrom_32 : decode cX2_copyFrom 32 = .ok (.invokevirtual 111, 3) := by decide +kernel
theorem dX2_copyFrom_35 : decode cX2_copyFrom 35 = .ok (.aload_n 0, 1) := by decide +kernel
theorem dX2_copyFrom_36 : decode cX2_copyFrom 36 = .ok (.getfield 21, 3) := by decide +kernel
theorem dX2_copyFrom_39 : decode cX2_copyFrom 39 = .ok (.aload_n 1, 1) := by decide +kernel
theorem dX2_copyFrom_40 : decode cX2_copyFrom 40 = .ok (.getfield 21, 3) := by decide +kernel
theorem dX2_copyFrom_43 : decode cX2_copyFrom 43 = .ok (.invokevirtual 115, 3) := by decide +kernel
theorem dX2_copyFrom_46 : decode cX2_copyFrom 46 = .ok (.aload_n 0, 1) := by decide +kernel
theorem dX2_copyFrom_47 : decode cX2_copyFrom 47 = .ok (.getfield 28, 3) := by decide +kernel
theorem dX2_copyFrom_50 : decode cX2_copyFrom 50 = .ok (.aload_n 1, 1) := by decide +kernel
theorem dX2_copyFrom_51 : decode cX2_copyFrom 51 = .ok (.getfield 28, 3) := by decide +kernel
theorem dX2_copyFrom_54 : decode cX2_copyFrom 54 = .ok (.invokevirtual 118, 3) := by decide +kernel
theorem dX2_copyFrom_57 : decode cX2_copyFrom 57 = .ok (.iconst 0, 1) := by decide +kernel
theorem dX2_copyFrom_58 : decode cX2_copyFrom 58 = .ok (.istore_n 2, 1) := by decide +kernel
theorem dX2_copyFrom_59 : decode cX2_copyFrom 59 = .ok (.iload_n 2, 1) := by decide +kernel
theorem dX2_copyFrom_60 : decode cX2_copyFrom 60 = .ok (.iconst 2, 1) := by decide +kernel
theorem dX2_copyFrom_61 : decode cX2_copyFrom 61 = .ok (.if_icmp .ge 39, 3) := by decide +kernel
theorem dX2_copyFrom_64 : decode cX2_copyFrom 64 = .ok (.aload_n 0, 1) := by decide +kernel
theorem dX2_copyFrom_65 : decode cX2_copyFrom 65 = .ok (.getfield 34, 3) := by decide +kernel
theorem dX2_copyFrom_68 : decode cX2_copyFrom 68 = .ok (.iload_n 2, 1) := by decide +kernel
theorem dX2_copyFrom_69 : decode cX2_copyFrom 69 = .ok (.aaload, 1) := by decide +kernel
theorem dX2_copyFrom_70 : decode cX2_copyFrom 70 = .ok (.aload_n 1, 1) := by decide +kernel
theorem dX2_copyFrom_71 : decode cX2_copyFrom 71 = .ok (.getfield 34, 3) := by decide +kernel
theorem dX2_copyFrom_74 : decode cX2_copyFrom 74 = .ok (.iload_n 2, 1) := by decide +kernel
theorem dX2_copyFrom_75 : decode cX2_copyFrom 75 = .ok (.aaload, 1) := by decide +kernel
theorem dX2_copyFrom_76 : decode cX2_copyFrom 76 = .ok (.invokevirtual 121, 3) := by decide +kernel
theorem dX2_copyFrom_79 : decode cX2_copyFrom 79 = .ok (.aload_n 0, 1) := by decide +kernel
theorem dX2_copyFrom_80 : decode cX2_copyFrom 80 = .ok (.getfield 40, 3) := by decide +kernel
theorem dX2_copyFrom_83 : decode cX2_copyFrom 83 = .ok (.iload_n 2, 1) := by decide +kernel
theorem dX2_copyFrom_84 : decode cX2_copyFrom 84 = .ok (.aaload, 1) := by decide +kernel
theorem dX2_copyFrom_85 : decode cX2_copyFrom 85 = .ok (.aload_n 1, 1) := by decide +kernel
theorem dX2_copyFrom_86 : decode cX2_copyFrom 86 = .ok (.getfield 40, 3) := by decide +kernel
theorem dX2_copyFrom_89 : decode cX2_copyFrom 89 = .ok (.iload_n 2, 1) := by decide +kernel
theorem dX2_copyFrom_90 : decode cX2_copyFrom 90 = .ok (.aaload, 1) := by decide +kernel
theorem dX2_copyFrom_91 : decode cX2_copyFrom 91 = .ok (.invokevirtual 124, 3) := by decide +kernel
theorem dX2_copyFrom_94 : decode cX2_copyFrom 94 = .ok (.iinc 2 1, 3) := by decide +kernel
theorem dX2_copyFrom_97 : decode cX2_copyFrom 97 = .ok (.goto (-38), 3) := by decide +kernel
theorem dX2_copyFrom_100 : decode cX2_copyFrom 100 = .ok (.aload_n 1, 1) := by decide +kernel
theorem dX2_copyFrom_101 : decode cX2_copyFrom 101 = .ok (.getfield 44, 3) := by decide +kernel
theorem dX2_copyFrom_104 : decode cX2_copyFrom 104 = .ok (.iconst 0, 1) := by decide +kernel
theorem dX2_copyFrom_105 : decode cX2_copyFrom 105 = .ok (.aload_n 0, 1) := by decide +kernel
theorem dX2_copyFrom_106 : decode cX2_copyFrom 106 = .ok (.getfield 44, 3) := by decide +kernel
theorem dX2_copyFrom_109 : decode cX2_copyFrom 109 = .ok (.iconst 0, 1) := by decide +kernel
theorem dX2_copyFrom_110 : decode cX2_copyFrom 110 = .ok (.bipush 6, 2) := by decide +kernel
theorem dX2_copyFrom_112 : decode cX2_copyFrom 112 = .ok (.invokestatic 127, 3) := by decide +kernel
theorem dX2_copyFrom_115 : decode cX2_copyFrom 115 = .ok (.aload_n 1, 1) := by decide +kernel
theorem dX2_copyFrom_116 : decode cX2_copyFrom 116 = .ok (.getfield 48, 3) := by decide +kernel
theorem dX2_copyFrom_119 : decode cX2_copyFrom 119 = .ok (.iconst 0, 1) := by decide +kernel
theorem dX2_copyFrom_120 : decode cX2_copyFrom 120 = .ok (.aload_n 0, 1) := by decide +kernel
theorem dX2_copyFrom_121 : decode cX2_copyFrom 121 = .ok (.getfield 48, 3) := by decide +kernel
theorem dX2_copyFrom_124 : decode cX2_copyFrom 124 = .ok (.iconst 0, 1) := by decide +kernel
theorem dX2_copyFrom_125 : decode cX2_copyFrom 125 = .ok (.aload_n 0, 1) := by decide +kernel
theorem dX2_copyFrom_126 : decode cX2_copyFrom 126 = .ok (.getfield 48, 3) := by decide +kernel
theorem dX2_copyFrom_129 : decode cX2_copyFrom 129 = .ok (.arraylength, 1) := by decide +kernel
theorem dX2_copyFrom_130 : decode cX2_copyFrom 130 = .ok (.invokestatic 127, 3) := by decide +kernel
theorem dX2_copyFrom_133 : decode cX2_copyFrom 133 = .ok (.return_, 1) := by decide +kernel
theorem dX3_init_0 : decode cX3_init 0 = .ok (.aload_n 0, 1) := by decide +kernel
theorem dX3_init_1 : decode cX3_init 1 = .ok (.invokespecial 1, 3) := by decide +kernel
theorem dX3_init_4 : decode cX3_init 4 = .ok (.aload_n 0, 1) := by decide +kernel
theorem dX3_init_5 : decode cX3_init 5 = .ok (.bipush 32, 2) := by decide +kernel
theorem dX3_init_7 : decode cX3_init 7 = .ok (.newarray .int, 2) := by decide +kernel
theorem dX3_init_9 : decode cX3_init 9 = .ok (.putfield 9, 3) := by decide +kernel
theorem dX3_init_12 : decode cX3_init 12 = .ok (.return_, 1) := by decide +kernel
theorem dX3_add_0 : decode cX3_add 0 = .ok (.aload_n 0, 1) := by decide +kernel
theorem dX3_add_1 : decode cX3_add 1 = .ok (.getfield 13, 3) := by decide +kernel
theorem dX3_add_4 : decode cX3_add 4 = .ok (.sipush 6144, 3) := by decide +kernel
theorem dX3_add_7 : decode cX3_add 7 = .ok (.if_icmp .lt 4, 3) := by decide +kernel
theorem dX3_add_10 : decode cX3_add 10 = .ok (.return_, 1) := by decide +kernel
theorem dX3_add_11 : decode cX3_add 11 = .ok (.aload_n 0, 1) := by decide +kernel
theorem dX3_add_12 : decode cX3_add 12 = .ok (.getfield 17, 3) := by decide +kernel
theorem dX3_add_15 : decode cX3_add 15 = .ok (.aload_n 0, 1) := by decide +kernel
theorem dX3_add_16 : decode cX3_add 16 = .ok (.getfield 13, 3) := by decide +kernel
theorem dX3_add_19 : decode cX3_add 19 = .ok (.iadd, 1) := by decide +kernel
theorem dX3_add_20 : decode cX3_add 20 = .ok (.aload_n 0, 1) := by decide +kernel
theorem dX3_add_21 : decode cX3_add 21 = .ok (.getfield 9, 3) := by decide +kernel
theorem dX3_add_24 : decode cX3_add 24 = .ok (.arraylength, 1) := by decide +kernel
theorem dX3_add_25 : decode cX3_add 25 = .ok (.if_icmp .ne 7, 3) := by decide +kernel
theorem dX3_add_28 : decode cX3_add 28 = .ok (.aload_n 0, 1) := by decide +kernel
theorem dX3_add_29 : decode cX3_add 29 = .ok (.invokevirtual 20, 3) := by decide +kernel
theorem dX3_add_32 : decode cX3_add 32 = .ok (.aload_n 0, 1) := by decide +kernel
theorem dX3_add_33 : decode cX3_add 33 = .ok (.getfield 9, 3) := by decide +kernel
theorem dX3_add_36 : decode cX3_add 36 = .ok (.aload_n 0, 1) := by decide +kernel
theorem dX3_add_37 : decode cX3_add 37 = .ok (.getfield 17, 3) := by decide +kernel
theorem dX3_add_40 : decode cX3_add 40 = .ok (.aload_n 0, 1) := by decide +kernel
theorem dX3_add_41 : decode cX3_add 41 = .ok (.getfield 13, 3) := by decide +kernel
theorem dX3_add_44 : decode cX3_add 44 = .ok (.iadd, 1) := by decide +kernel
theorem dX3_add_45 : decode cX3_add 45 = .ok (.iload_n 2, 1) := by decide +kernel
theorem dX3_add_46 : decode cX3_add 46 = .ok (.ifCond .le 7, 3) := by decide +kernel
theorem dX3_add_49 : decode cX3_add 49 = .ok (.iload_n 1, 1) := by decide +kernel
theorem dX3_add_50 : decode cX3_add 50 = .ok (.goto 6, 3) := by decide +kernel
theorem dX3_add_53 : decode cX3_add 53 = .ok (.iload_n 1, 1) := by decide +kernel
theorem dX3_add_54 : decode cX3_add 54 = .ok (.iconst (-1), 1) := by decide +kernel
theorem dX3_add_55 : decode cX3_add 55 = .ok (.ixor, 1) := by decide +kernel
theorem dX3_add_56 : decode cX3_add 56 = .ok (.iastore, 1) := by decide +kernel
theorem dX3_add_57 : decode cX3_add 57 = .ok (.aload_n 0, 1) := by decide +kernel
theorem dX3_add_58 : decode cX3_add 58 = .ok (.dup, 1) := by decide +kernel
theorem dX3_add_59 : decode cX3_add 59 = .ok (.getfield 13, 3) := by decide +kernel
theorem dX3_add_62 : decode cX3_add 62 = .ok (.iconst 1, 1) := by decide +kernel
theorem dX3_add_63 : decode cX3_add 63 = .ok (.iadd, 1) := by decide +kernel
theorem dX3_add_64 : decode cX3_add 64 = .ok (.putfield 13, 3) := by decide +kernel
theorem dX3_add_67 : decode cX3_add 67 = .ok (.return_, 1) := by decide +kernel
theorem dX3_moveTo_0 : decode cX3_moveTo 0 = .ok (.iload_n 2, 1) := by decide +kernel
theorem dX3_moveTo_1 : decode cX3_moveTo 1 = .ok (.aload_n 0, 1) := by decide +kernel
theorem dX3_moveTo_2 : decode cX3_moveTo 2 = .ok (.getfield 13, 3) := by decide +kernel
theorem dX3_moveTo_5 : decode cX3_moveTo 5 = .ok (.invokestatic 23, 3) := by decide +kernel
theorem dX3_moveTo_8 : decode cX3_moveTo 8 = .ok (.istore_n 3, 1) := by decide +kernel
theorem dX3_moveTo_9 : decode cX3_moveTo 9 = .ok (.iconst 0, 1) := by decide +kernel
theorem dX3_moveTo_10 : decode cX3_moveTo 10 = .ok (.istore 4, 2) := by decide +kernel
theorem dX3_moveTo_12 : decode cX3_moveTo 12 = .ok (.iload 4, 2) := by decide +kernel
theorem dX3_moveTo_14 : decode cX3_moveTo 14 = .ok (.iload_n 3, 1) := by decide +kernel
theorem dX3_moveTo_15 : decode cX3_moveTo 15 = .ok (.if_icmp .ge 47, 3) := by decide +kernel
theorem dX3_moveTo_18 : decode cX3_moveTo 18 = .ok (.aload_n 0, 1) := by decide +kernel
theorem dX3_moveTo_19 : decode cX3_moveTo 19 = .ok (.getfield 9, 3) := by decide +kernel
theorem dX3_moveTo_22 : decode cX3_moveTo 22 = .ok (.aload_n 0, 1) := by decide +kernel
theorem dX3_moveTo_23 : decode cX3_moveTo 23 = .ok (.getfield 17, 3) := by decide +kernel
theorem dX3_moveTo_26 : decode cX3_moveTo 26 = .ok (.iload 4, 2) := by decide +kernel
theorem dX3_moveTo_28 : decode cX3_moveTo 28 = .ok (.iadd, 1) := by decide +kernel
theorem dX3_moveTo_29 : decode cX3_moveTo 29 = .ok (.iaload, 1) := by decide +kernel
theorem dX3_moveTo_30 : decode cX3_moveTo 30 = .ok (.istore 5, 2) := by decide +kernel
theorem dX3_moveTo_32 : decode cX3_moveTo 32 = .ok (.iload 5, 2) := by decide +kernel
theorem dX3_moveTo_34 : decode cX3_moveTo 34 = .ok (.ifCond .lt 13, 3) := by decide +kernel
theorem dX3_moveTo_37 : decode cX3_moveTo 37 = .ok (.aload_n 1, 1) := by decide +kernel
theorem dX3_moveTo_38 : decode cX3_moveTo 38 = .ok (.iload 5, 2) := by decide +kernel
theorem dX3_moveTo_40 : decode cX3_moveTo 40 = .ok (.iconst 1, 1) := by decide +kernel
theorem dX3_moveTo_41 : decode cX3_moveTo 41 = .ok (.invokevirtual 29, 3) := by decide +kernel
theorem dX3_moveTo_44 : decode cX3_moveTo 44 = .ok (.goto 12, 3) := by decide +kernel
theorem dX3_moveTo_47 : decode cX3_moveTo 47 = .ok (.aload_n 1, 1) := by decide +kernel
theorem dX3_moveTo_48 : decode cX3_moveTo 48 = .ok (.iload 5, 2) := by decide +kernel
theorem dX3_moveTo_50 : decode cX3_moveTo 50 = .ok (.iconst (-1), 1) := by decide +kernel
theorem dX3_moveTo_51 : decode cX3_moveTo 51 = .ok (.ixor, 1) := by decide +kernel
theorem dX3_moveTo_52 : decode cX3_moveTo 52 = .ok (.iconst (-1), 1) := by decide +kernel
theorem dX3_moveTo_53 : decode cX3_moveTo 53 = .ok (.invokevirtual 29, 3) := by decide +kernel
theorem dX3_moveTo_56 : decode cX3_moveTo 56 = .ok (.iinc 4 1, 3) := by decide +kernel
theorem dX3_moveTo_59 : decode cX3_moveTo 59 = .ok (.goto (-47), 3) := by decide +kernel
theorem dX3_moveTo_62 : decode cX3_moveTo 62 = .ok (.aload_n 0, 1) := by decide +kernel
theorem dX3_moveTo_63 : decode cX3_moveTo 63 = .ok (.dup, 1) := by decide +kernel
theorem dX3_moveTo_64 : decode cX3_moveTo 64 = .ok (.getfield 17, 3) := by decide +kernel
theorem dX3_moveTo_67 : decode cX3_moveTo 67 = .ok (.iload_n 3, 1) := by decide +kernel
theorem dX3_moveTo_68 : decode cX3_moveTo 68 = .ok (.iadd, 1) := by decide +kernel
theorem dX3_moveTo_69 : decode cX3_moveTo 69 = .ok (.putfield 17, 3) := by decide +kernel
theorem dX3_moveTo_72 : decode cX3_moveTo 72 = .ok (.aload_n 0, 1) := by decide +kernel
theorem dX3_moveTo_73 : decode cX3_moveTo 73 = .ok (.dup, 1) := by decide +kernel
theorem dX3_moveTo_74 : decode cX3_moveTo 74 = .ok (.getfield 13, 3) := by decide +kernel
theorem dX3_moveTo_77 : decode cX3_moveTo 77 = .ok (.iload_n 3, 1) := by decide +kernel
theorem dX3_moveTo_78 : decode cX3_moveTo 78 = .ok (.isub, 1) := by decide +kernel
theorem dX3_moveTo_79 : decode cX3_moveTo 79 = .ok (.putfield 13, 3) := by decide +kernel
theorem dX3_moveTo_82 : decode cX3_moveTo 82 = .ok (.iload_n 3, 1) := by decide +kernel
theorem dX3_moveTo_83 : decode cX3_moveTo 83 = .ok (.ireturn, 1) := by decide +kernel
theorem dX3_copyFrom_0 : decode cX3_copyFrom 0 = .ok (.aload_n 1, 1) := by decide +kernel
theorem dX3_copyFrom_1 : decode cX3_copyFrom 1 = .ok (.getfield 13, 3) := by decide +kernel
theorem dX3_copyFrom_4 : decode cX3_copyFrom 4 = .ok (.aload_n 0, 1) := by decide +kernel
theorem dX3_copyFrom_5 : decode cX3_copyFrom 5 = .ok (.getfield 9, 3) := by decide +kernel
theorem dX3_copyFrom_8 : decode cX3_copyFrom 8 = .ok (.arraylength, 1) := by decide +kernel
theorem dX3_copyFrom_9 : decode cX3_copyFrom 9 = .ok (.if_icmp .le 14, 3) := by decide +kernel
theorem dX3_copyFrom_12 : decode cX3_copyFrom 12 = .ok (.aload_n 0, 1) := by decide +kernel
theorem dX3_copyFrom_13 : decode cX3_copyFrom 13 = .ok (.aload_n 1, 1) := by decide +kernel
theorem dX3_copyFrom_14 : decode cX3_copyFrom 14 = .ok (.getfield 9, 3) := by decide +kernel
theorem dX3_copyFrom_17 : decode cX3_copyFrom 17 = .ok (.arraylength, 1) := by decide +kernel
theorem dX3_copyFrom_18 : decode cX3_copyFrom 18 = .ok (.newarray .int, 2) := by decide +kernel
theorem dX3_copyFrom_20 : decode cX3_copyFrom 20 = .ok (.putfield 9, 3) := by decide +kernel
theorem dX3_copyFrom_23 : decode cX3_copyFrom 23 = .ok (.aload_n 0, 1) := by decide +kernel
theorem dX3_copyFrom_24 : decode cX3_copyFrom 24 = .ok (.iconst 0, 1) := by decide +kernel
theorem dX3_copyFrom_25 : decode cX3_copyFrom 25 = .ok (.putfield 17, 3) := by decide +kernel
theorem dX3_copyFrom_28 : decode cX3_copyFrom 28 = .ok (.aload_n 0, 1) := by decide +kernel
theorem dX3_copyFrom_29 : decode cX3_copyFrom 29 = .ok (.aload_n 1, 1) := by decide +kernel
theorem dX3_copyFrom_30 : decode cX3_copyFrom 30 = .ok (.getfield 13, 3) := by decide +kernel
theorem dX3_copyFrom_33 : decode cX3_copyFrom 33 = .ok (.putfield 13, 3) := by decide +kernel
theorem dX3_copyFrom_36 : decode cX3_copyFrom 36 = .ok (.aload_n 1, 1) := by decide +kernel
theorem dX3_copyFrom_37 : decode cX3_copyFrom 37 = .ok (.getfield 9, 3) := by decide +kernel
theorem dX3_copyFrom_40 : decode cX3_copyFrom 40 = .ok (.aload_n 1, 1) := by decide +kernel
theorem dX3_copyFrom_41 : decode cX3_copyFrom 41 = .ok (.getfield 17, 3) := by decide +kernel
theorem dX3_copyFrom_44 : decode cX3_copyFrom 44 = .ok (.aload_n 0, 1) := by decide +kernel
theorem dX3_copyFrom_45 : decode cX3_copyFrom 45 = .ok (.getfield 9, 3) := by decide +kernel
theorem dX3_copyFrom_48 : decode cX3_copyFrom 48 = .ok (.iconst 0, 1) := by decide +kernel
theorem dX3_copyFrom_49 : decode cX3_copyFrom 49 = .ok (.aload_n 0, 1) := by decide +kernel
theorem dX3_copyFrom_50 : decode cX3_copyFrom 50 = .ok (.getfield 13, 3) := by decide +kernel
theorem dX3_copyFrom_53 : decode cX3_copyFrom 53 = .ok (.invokestatic 35, 3) := by decide +kernel
theorem dX3_copyFrom_56 : decode cX3_copyFrom 56 = .ok (.return_, 1) := by decide +kernel
theorem dX3_makeRoomAtEnd_0 : decode cX3_makeRoomAtEnd 0 = .ok (.iconst 2, 1) := by decide +kernel
theorem dX3_makeRoomAtEnd_1 : decode cX3_makeRoomAtEnd 1 = .ok (.aload_n 0, 1) := by decide +kernel
theorem dX3_makeRoomAtEnd_2 : decode cX3_makeRoomAtEnd 2 = .ok (.getfield 13, 3) := by decide +kernel
theorem dX3_makeRoomAtEnd_5 : decode cX3_makeRoomAtEnd 5 = .ok (.imul, 1) := by decide +kernel
theorem dX3_makeRoomAtEnd_6 : decode cX3_makeRoomAtEnd 6 = .ok (.aload_n 0, 1) := by decide +kernel
theorem dX3_makeRoomAtEnd_7 : decode cX3_makeRoomAtEnd 7 = .ok (.getfield 9, 3) := by decide +kernel
theorem dX3_makeRoomAtEnd_10 : decode cX3_makeRoomAtEnd 10 = .ok (.arraylength, 1) := by decide +kernel
theorem dX3_makeRoomAtEnd_11 : decode cX3_makeRoomAtEnd 11 = .ok (.if_icmp .le 15, 3) := by decide +kernel
theorem dX3_makeRoomAtEnd_14 : decode cX3_makeRoomAtEnd 14 = .ok (.iconst 2, 1) := by decide +kernel
theorem dX3_makeRoomAtEnd_15 : decode cX3_makeRoomAtEnd 15 = .ok (.aload_n 0, 1) := by decide +kernel
theorem dX3_makeRoomAtEnd_16 : decode cX3_makeRoomAtEnd 16 = .ok (.getfield 9, 3) := by decide +kernel
theorem dX3_makeRoomAtEnd_19 : decode cX3_makeRoomAtEnd 19 = .ok (.arraylength, 1) := by decide +kernel
theorem dX3_makeRoomAtEnd_20 : decode cX3_makeRoomAtEnd 20 = .ok (.imul, 1) := by decide +kernel
theorem dX3_makeRoomAtEnd_21 : decode cX3_makeRoomAtEnd 21 = .ok (.newarray .int, 2) := by decide +kernel
theorem dX3_makeRoomAtEnd_23 : decode cX3_makeRoomAtEnd 23 = .ok (.goto 7, 3) := by decide +kernel
theorem dX3_makeRoomAtEnd_26 : decode cX3_makeRoomAtEnd 26 = .ok (.aload_n 0, 1) := by decide +kernel
theorem dX3_makeRoomAtEnd_27 : decode cX3_makeRoomAtEnd 27 = .ok (.getfield 9, 3) := by decide +kernel
theorem dX3_makeRoomAtEnd_30 : decode cX3_makeRoomAtEnd 30 = .ok (.astore_n 1, 1) := by decide +kernel
theorem dX3_makeRoomAtEnd_31 : decode cX3_makeRoomAtEnd 31 = .ok (.aload_n 0, 1) := by decide +kernel
theorem dX3_makeRoomAtEnd_32 : decode cX3_makeRoomAtEnd 32 = .ok (.getfield 9, 3) := by decide +kernel
theorem dX3_makeRoomAtEnd_35 : decode cX3_makeRoomAtEnd 35 = .ok (.aload_n 0, 1) := by decide +kernel
theorem dX3_makeRoomAtEnd_36 : decode cX3_makeRoomAtEnd 36 = .ok (.getfield 17, 3) := by decide +kernel
theorem dX3_makeRoomAtEnd_39 : decode cX3_makeRoomAtEnd 39 = .ok (.aload_n 1, 1) := by decide +kernel
theorem dX3_makeRoomAtEnd_40 : decode cX3_makeRoomAtEnd 40 = .ok (.iconst 0, 1) := by decide +kernel
theorem dX3_makeRoomAtEnd_41 : decode cX3_makeRoomAtEnd 41 = .ok (.aload_n 0, 1) := by decide +kernel
theorem dX3_makeRoomAtEnd_42 : decode cX3_makeRoomAtEnd 42 = .ok (.getfield 13, 3) := by decide +kernel
theorem dX3_makeRoomAtEnd_45 : decode cX3_makeRoomAtEnd 45 = .ok (.invokestatic 35, 3) := by decide +kernel
theorem dX3_makeRoomAtEnd_48 : decode cX3_makeRoomAtEnd 48 = .ok (.aload_n 0, 1) := by decide +kernel
theorem dX3_makeRoomAtEnd_49 : decode cX3_makeRoomAtEnd 49 = .ok (.aload_n 1, 1) := by decide +kernel
theorem dX3_makeRoomAtEnd_50 : decode cX3_makeRoomAtEnd 50 = .ok (.putfield 9, 3) := by decide +kernel
theorem dX3_makeRoomAtEnd_53 : decode cX3_makeRoomAtEnd 53 = .ok (.aload_n 0, 1) := by decide +kernel
theorem dX3_makeRoomAtEnd_54 : decode cX3_makeRoomAtEnd 54 = .ok (.iconst 0, 1) := by decide +kernel
theorem dX3_makeRoomAtEnd_55 : decode cX3_makeRoomAtEnd 55 = .ok (.putfield 17, 3) := by decide +kernel
theorem dX3_makeRoomAtEnd_58 : decode cX3_makeRoomAtEnd 58 = .ok (.return_, 1) := by decide +kernel
theorem dX4_init_0 : decode cX4_init 0 = .ok (.aload_n 0, 1) := by decide +kernel
theorem dX4_init_1 : decode cX4_init 1 = .ok (.invokespecial 3, 3) := by decide +kernel
theorem dX4_init_4 : decode cX4_init 4 = .ok (.aload_n 0, 1) := by decide +kernel
theorem dX4_init_5 : decode cX4_init 5 = .ok (.bipush 16, 2) := by decide +kernel
theorem dX4_init_7 : decode cX4_init 7 = .ok (.newarray .int, 2) := by decide +kernel
theorem dX4_init_9 : decode cX4_init 9 = .ok (.putfield 11, 3) := by decide +kernel
theorem dX4_init_12 : decode cX4_init 12 = .ok (.aload_n 0, 1) := by decide +kernel
theorem dX4_init_13 : decode cX4_init 13 = .ok (.bipush 16, 2) := by decide +kernel
theorem dX4_init_15 : decode cX4_init 15 = .ok (.newarray .int, 2) := by decide +kernel
theorem dX4_init_17 : decode cX4_init 17 = .ok (.putfield 15, 3) := by decide +kernel
theorem dX4_init_20 : decode cX4_init 20 = .ok (.aload_n 0, 1) := by decide +kernel
theorem dX4_init_21 : decode cX4_init 21 = .ok (.bipush 16, 2) := by decide +kernel
theorem dX4_init_23 : decode cX4_init 23 = .ok (.newarray .int, 2) := by decide +kernel
theorem dX4_init_25 : decode cX4_init 25 = .ok (.putfield 18, 3) := by decide +kernel
theorem dX4_init_28 : decode cX4_init 28 = .ok (.return_, 1) := by decide +kernel
theorem dX4_countOf_0 : decode cX4_countOf 0 = .ok (.aload_n 0, 1) := by decide +kernel
theorem dX4_countOf_1 : decode cX4_countOf 1 = .ok (.iload_n 1, 1) := by decide +kernel
theorem dX4_countOf_2 : decode cX4_countOf 2 = .ok (.invokevirtual 21, 3) := by decide +kernel
theorem dX4_countOf_5 : decode cX4_countOf 5 = .ok (.istore_n 2, 1) := by decide +kernel
theorem dX4_countOf_6 : decode cX4_countOf 6 = .ok (.iload_n 2, 1) := by decide +kernel
theorem dX4_countOf_7 : decode cX4_countOf 7 = .ok (.iconst (-1), 1) := by decide +kernel
theorem dX4_countOf_8 : decode cX4_countOf 8 = .ok (.if_icmp .ne 7, 3) := by decide +kernel
theorem dX4_countOf_11 : decode cX4_countOf 11 = .ok (.iconst 0, 1) := by decide +kernel
theorem dX4_countOf_12 : decode cX4_countOf 12 = .ok (.goto 9, 3) := by decide +kernel
theorem dX4_countOf_15 : decode cX4_countOf 15 = .ok (.aload_n 0, 1) := by decide +kernel
theorem dX4_countOf_16 : decode cX4_countOf 16 = .ok (.getfield 15, 3) := by decide +kernel
theorem dX4_countOf_19 : decode cX4_countOf 19 = .ok (.iload_n 2, 1) := by decide +kernel
theorem dX4_countOf_20 : decode cX4_countOf 20 = .ok (.iaload, 1) := by decide +kernel
theorem dX4_countOf_21 : decode cX4_countOf 21 = .ok (.ireturn, 1) := by decide +kernel
theorem dX4_rowOf_0 : decode cX4_rowOf 0 = .ok (.aload_n 0, 1) := by decide +kernel
theorem dX4_rowOf_1 : decode cX4_rowOf 1 = .ok (.iload_n 1, 1) := by decide +kernel
theorem dX4_rowOf_2 : decode cX4_rowOf 2 = .ok (.invokevirtual 25, 3) := by decide +kernel
theorem dX4_rowOf_5 : decode cX4_rowOf 5 = .ok (.istore_n 2, 1) := by decide +kernel
theorem dX4_rowOf_6 : decode cX4_rowOf 6 = .ok (.iload_n 2, 1) := by decide +kernel
theorem dX4_rowOf_7 : decode cX4_rowOf 7 = .ok (.aload_n 0, 1) := by decide +kernel
theorem dX4_rowOf_8 : decode cX4_rowOf 8 = .ok (.getfield 28, 3) := by decide +kernel
theorem dX4_rowOf_11 : decode cX4_rowOf 11 = .ok (.if_icmp .ge 17, 3) := by decide +kernel
theorem dX4_rowOf_14 : decode cX4_rowOf 14 = .ok (.aload_n 0, 1) := by decide +kernel
theorem dX4_rowOf_15 : decode cX4_rowOf 15 = .ok (.getfield 11, 3) := by decide +kernel
theorem dX4_rowOf_18 : decode cX4_rowOf 18 = .ok (.iload_n 2, 1) := by decide +kernel
theorem dX4_rowOf_19 : decode cX4_rowOf 19 = .ok (.iaload, 1) := by decide +kernel
theorem dX4_rowOf_20 : decode cX4_rowOf 20 = .ok (.iload_n 1, 1) := by decide +kernel
theorem dX4_rowOf_21 : decode cX4_rowOf 21 = .ok (.if_icmp .ne 7, 3) := by decide +kernel
theorem dX4_rowOf_24 : decode cX4_rowOf 24 = .ok (.iload_n 2, 1) := by decide +kernel
theorem dX4_rowOf_25 : decode cX4_rowOf 25 = .ok (.goto 4, 3) := by decide +kernel
theorem dX4_rowOf_28 : decode cX4_rowOf 28 = .ok (.iconst (-1), 1) := by decide +kernel
theorem dX4_rowOf_29 : decode cX4_rowOf 29 = .ok (.ireturn, 1) := by decide +kernel
theorem dX4_countActive_0 : decode cX4_countActive 0 = .ok (.iconst 0, 1) := by decide +kernel
theorem dX4_countActive_1 : decode cX4_countActive 1 = .ok (.istore_n 1, 1) := by decide +kernel
theorem dX4_countActive_2 : decode cX4_countActive 2 = .ok (.iconst 0, 1) := by decide +kernel
theorem dX4_countActive_3 : decode cX4_countActive 3 = .ok (.istore_n 2, 1) := by decide +kernel
theorem dX4_countActive_4 : decode cX4_countActive 4 = .ok (.iload_n 2, 1) := by decide +kernel
theorem dX4_countActive_5 : decode cX4_countActive 5 = .ok (.aload_n 0, 1) := by decide +kernel
theorem dX4_countActive_6 : decode cX4_countActive 6 = .ok (.getfield 28, 3) := by decide +kernel
theorem dX4_countActive_9 : decode cX4_countActive 9 = .ok (.if_icmp .ge 21, 3) := by decide +kernel
theorem dX4_countActive_12 : decode cX4_countActive 12 = .ok (.aload_n 0, 1) := by decide +kernel
theorem dX4_countActive_13 : decode cX4_countActive 13 = .ok (.getfield 15, 3) := by decide +kernel
theorem dX4_countActive_16 : decode cX4_countActive 16 = .ok (.iload_n 2, 1) := by decide +kernel
theorem dX4_countActive_17 : decode cX4_countActive 17 = .ok (.iaload, 1) := by decide +kernel
theorem dX4_countActive_18 : decode cX4_countActive 18 = .ok (.ifCond .le 6, 3) := by decide +kernel
theorem dX4_countActive_21 : decode cX4_countActive 21 = .ok (.iinc 1 1, 3) := by decide +kernel
theorem dX4_countActive_24 : decode cX4_countActive 24 = .ok (.iinc 2 1, 3) := by decide +kernel
theorem dX4_countActive_27 : decode cX4_countActive 27 = .ok (.goto (-23), 3) := by decide +kernel
theorem dX4_countActive_30 : decode cX4_countActive 30 = .ok (.iload_n 1, 1) := by decide +kernel
theorem dX4_countActive_31 : decode cX4_countActive 31 = .ok (.ireturn, 1) := by decide +kernel
theorem dX4_change_0 : decode cX4_change 0 = .ok (.aload_n 0, 1) := by decide +kernel
theorem dX4_change_1 : decode cX4_change 1 = .ok (.iload_n 1, 1) := by decide +kernel
theorem dX4_change_2 : decode cX4_change 2 = .ok (.invokevirtual 25, 3) := by decide +kernel
theorem dX4_change_5 : decode cX4_change 5 = .ok (.istore_n 3, 1) := by decide +kernel
theorem dX4_change_6 : decode cX4_change 6 = .ok (.iload_n 3, 1) := by decide +kernel
theorem dX4_change_7 : decode cX4_change 7 = .ok (.aload_n 0, 1) := by decide +kernel
theorem dX4_change_8 : decode cX4_change 8 = .ok (.getfield 28, 3) := by decide +kernel
theorem dX4_change_11 : decode cX4_change 11 = .ok (.if_icmp .eq 13, 3) := by decide +kernel
theorem dX4_change_14 : decode cX4_change 14 = .ok (.aload_n 0, 1) := by decide +kernel
theorem dX4_change_15 : decode cX4_change 15 = .ok (.getfield 11, 3) := by decide +kernel
theorem dX4_change_18 : decode cX4_change 18 = .ok (.iload_n 3, 1) := by decide +kernel
theorem dX4_change_19 : decode cX4_change 19 = .ok (.iaload, 1) := by decide +kernel
theorem dX4_change_20 : decode cX4_change 20 = .ok (.iload_n 1, 1) := by decide +kernel
theorem dX4_change_21 : decode cX4_change 21 = .ok (.if_icmp .eq 13, 3) := by decide +kernel
theorem dX4_change_24 : decode cX4_change 24 = .ok (.aload_n 0, 1) := by decide +kernel
theorem dX4_change_25 : decode cX4_change 25 = .ok (.iload_n 3, 1) := by decide +kernel
theorem dX4_change_26 : decode cX4_change 26 = .ok (.iload_n 1, 1) := by decide +kernel
theorem dX4_change_27 : decode cX4_change 27 = .ok (.iload_n 2, 1) := by decide +kernel
theorem dX4_change_28 : decode cX4_change 28 = .ok (.invokevirtual 32, 3) := by decide +kernel
theorem dX4_change_31 : decode cX4_change 31 = .ok (.goto 32, 3) := by decide +kernel
theorem dX4_change_34 : decode cX4_change 34 = .ok (.aload_n 0, 1) := by decide +kernel
theorem dX4_change_35 : decode cX4_change 35 = .ok (.getfield 15, 3) := by decide +kernel
theorem dX4_change_38 : decode cX4_change 38 = .ok (.iload_n 3, 1) := by decide +kernel
theorem dX4_change_39 : decode cX4_change 39 = .ok (.iaload, 1) := by decide +kernel
theorem dX4_change_40 : decode cX4_change 40 = .ok (.iload_n 2, 1) := by decide +kernel
theorem dX4_change_41 : decode cX4_change 41 = .ok (.iadd, 1) := by decide +kernel
theorem dX4_change_42 : decode cX4_change 42 = .ok (.ifCond .ne 11, 3) := by decide +kernel
theorem dX4_change_45 : decode cX4_change 45 = .ok (.aload_n 0, 1) := by decide +kernel
theorem dX4_change_46 : decode cX4_change 46 = .ok (.iload_n 3, 1) := by decide +kernel
theorem dX4_change_47 : decode cX4_change 47 = .ok (.invokevirtual 36, 3) := by decide +kernel
theorem dX4_change_50 : decode cX4_change 50 = .ok (.goto 13, 3) := by decide +kernel
theorem dX4_change_53 : decode cX4_change 53 = .ok (.aload_n 0, 1) := by decide +kernel
theorem dX4_change_54 : decode cX4_change 54 = .ok (.getfield 15, 3) := by decide +kernel
theorem dX4_change_57 : decode cX4_change 57 = .ok (.iload_n 3, 1) := by decide +kernel
theorem dX4_change_58 : decode cX4_change 58 = .ok (.dup2, 1) := by decide +kernel
theorem dX4_change_59 : decode cX4_change 59 = .ok (.iaload, 1) := by decide +kernel
theorem dX4_change_60 : decode cX4_change 60 = .ok (.iload_n 2, 1) := by decide +kernel
theorem dX4_change_61 : decode cX4_change 61 = .ok (.iadd, 1) := by decide +kernel
theorem dX4_change_62 : decode cX4_change 62 = .ok (.iastore, 1) := by decide +kernel
theorem dX4_change_63 : decode cX4_change 63 = .ok (.return_, 1) := by decide +kernel
theorem dX4_copyFrom_0 : decode cX4_copyFrom 0 = .ok (.aload_n 0, 1) := by decide +kernel
theorem dX4_copyFrom_1 : decode cX4_copyFrom 1 = .ok (.aload_n 1, 1) := by decide +kernel
theorem dX4_copyFrom_2 : decode cX4_copyFrom 2 = .ok (.getfield 28, 3) := by decide +kernel
theorem dX4_copyFrom_5 : decode cX4_copyFrom 5 = .ok (.invokevirtual 40, 3) := by decide +kernel
theorem dX4_copyFrom_8 : decode cX4_copyFrom 8 = .ok (.aload_n 0, 1) := by decide +kernel
theorem dX4_copyFrom_9 : decode cX4_copyFrom 9 = .ok (.aload_n 1, 1) := by decide +kernel
theorem dX4_copyFrom_10 : decode cX4_copyFrom 10 = .ok (.getfield 28, 3) := by decide +kernel
theorem dX4_copyFrom_13 : decode cX4_copyFrom 13 = .ok (.putfield 28, 3) := by decide +kernel
theorem dX4_copyFrom_16 : decode cX4_copyFrom 16 = .ok (.aload_n 1, 1) := by decide +kernel
theorem dX4_copyFrom_17 : decode cX4_copyFrom 17 = .ok (.getfield 11, 3) := by decide +kernel
theorem dX4_copyFrom_20 : decode cX4_copyFrom 20 = .ok (.iconst 0, 1) := by decide +kernel
theorem dX4_copyFrom_21 : decode cX4_copyFrom 21 = .ok (.aload_n 0, 1) := by decide +kernel
theorem dX4_copyFrom_22 : decode cX4_copyFrom 22 = .ok (.getfield 11, 3) := by decide +kernel
theorem dX4_copyFrom_25 : decode cX4_copyFrom 25 = .ok (.iconst 0, 1) := by decide +kernel
theorem dX4_copyFrom_26 : decode cX4_copyFrom 26 = .ok (.aload_n 0, 1) := by decide +kernel
theorem dX4_copyFrom_27 : decode cX4_copyFrom 27 = .ok (.getfield 28, 3) := by decide +kernel
theorem dX4_copyFrom_30 : decode cX4_copyFrom 30 = .ok (.invokestatic 43, 3) := by decide +kernel
theorem dX4_copyFrom_33 : decode cX4_copyFrom 33 = .ok (.aload_n 1, 1) := by decide +kernel
theorem dX4_copyFrom_34 : decode cX4_copyFrom 34 = .ok (.getfield 15, 3) := by decide +kernel
theorem dX4_copyFrom_37 : decode cX4_copyFrom 37 = .ok (.iconst 0, 1) := by decide +kernel
theorem dX4_copyFrom_38 : decode cX4_copyFrom 38 = .ok (.aload_n 0, 1) := by decide +kernel
theorem dX4_copyFrom_39 : decode cX4_copyFrom 39 = .ok (.getfield 15, 3) := by decide +kernel
theorem dX4_copyFrom_42 : decode cX4_copyFrom 42 = .ok (.iconst 0, 1) := by decide +kernel
theorem dX4_copyFrom_43 : decode cX4_copyFrom 43 = .ok (.aload_n 0, 1) := by decide +kernel
theorem dX4_copyFrom_44 : decode cX4_copyFrom 44 = .ok (.getfield 28, 3) := by decide +kernel
theorem dX4_copyFrom_47 : decode cX4_copyFrom 47 = .ok (.invokestatic 43, 3) := by decide +kernel
theorem dX4_copyFrom_50 : decode cX4_copyFrom 50 = .ok (.return_, 1) := by decide +kernel
theorem dX4_firstRowFrom_0 : decode cX4_firstRowFrom 0 = .ok (.iconst 0, 1) := by decide +kernel
theorem dX4_firstRowFrom_1 : decode cX4_firstRowFrom 1 = .ok (.istore_n 2, 1) := by decide +kernel
theorem dX4_firstRowFrom_2 : decode cX4_firstRowFrom 2 = .ok (.iload_n 2, 1) := by decide +kernel
theorem dX4_firstRowFrom_3 : decode cX4_firstRowFrom 3 = .ok (.aload_n 0, 1) := by decide +kernel
theorem dX4_firstRowFrom_4 : decode cX4_firstRowFrom 4 = .ok (.getfield 28, 3) := by decide +kernel
theorem dX4_firstRowFrom_7 : decode cX4_firstRowFrom 7 = .ok (.if_icmp .ge 21, 3) := by decide +kernel
theorem dX4_firstRowFrom_10 : decode cX4_firstRowFrom 10 = .ok (.aload_n 0, 1) := by decide +kernel
theorem dX4_firstRowFrom_11 : decode cX4_firstRowFrom 11 = .ok (.getfield 11, 3) := by decide +kernel
theorem dX4_firstRowFrom_14 : decode cX4_firstRowFrom 14 = .ok (.iload_n 2, 1) := by decide +kernel
theorem dX4_firstRowFrom_15 : decode cX4_firstRowFrom 15 = .ok (.iaload, 1) := by decide +kernel
theorem dX4_firstRowFrom_16 : decode cX4_firstRowFrom 16 = .ok (.iload_n 1, 1) := by decide +kernel
theorem dX4_firstRowFrom_17 : decode cX4_firstRowFrom 17 = .ok (.if_icmp .lt 5, 3) := by decide +kernel
theorem dX4_firstRowFrom_20 : decode cX4_firstRowFrom 20 = .ok (.iload_n 2, 1) := by decide +kernel
theorem dX4_firstRowFrom_21 : decode cX4_firstRowFrom 21 = .ok (.ireturn, 1) := by decide +kernel
theorem dX4_firstRowFrom_22 : decode cX4_firstRowFrom 22 = .ok (.iinc 2 1, 3) := by decide +kernel
theorem dX4_firstRowFrom_25 : decode cX4_firstRowFrom 25 = .ok (.goto (-23), 3) := by decide +kernel
theorem dX4_firstRowFrom_28 : decode cX4_firstRowFrom 28 = .ok (.aload_n 0, 1) := by decide +kernel
theorem dX4_firstRowFrom_29 : decode cX4_firstRowFrom 29 = .ok (.getfield 28, 3) := by decide +kernel
theorem dX4_firstRowFrom_32 : decode cX4_firstRowFrom 32 = .ok (.ireturn, 1) := by decide +kernel
theorem dX4_insert_0 : decode cX4_insert 0 = .ok (.aload_n 0, 1) := by decide +kernel
theorem dX4_insert_1 : decode cX4_insert 1 = .ok (.aload_n 0, 1) := by decide +kernel
theorem dX4_insert_2 : decode cX4_insert 2 = .ok (.getfield 28, 3) := by decide +kernel
theorem dX4_insert_5 : decode cX4_insert 5 = .ok (.iconst 1, 1) := by decide +kernel
theorem dX4_insert_6 : decode cX4_insert 6 = .ok (.iadd, 1) := by decide +kernel
theorem dX4_insert_7 : decode cX4_insert 7 = .ok (.invokevirtual 40, 3) := by decide +kernel
theorem dX4_insert_10 : decode cX4_insert 10 = .ok (.aload_n 0, 1) := by decide +kernel
theorem dX4_insert_11 : decode cX4_insert 11 = .ok (.getfield 11, 3) := by decide +kernel
theorem dX4_insert_14 : decode cX4_insert 14 = .ok (.iload_n 1, 1) := by decide +kernel
theorem dX4_insert_15 : decode cX4_insert 15 = .ok (.aload_n 0, 1) := by decide +kernel
theorem dX4_insert_16 : decode cX4_insert 16 = .ok (.getfield 11, 3) := by decide +kernel
theorem dX4_insert_19 : decode cX4_insert 19 = .ok (.iload_n 1, 1) := by decide +kernel
theorem dX4_insert_20 : decode cX4_insert 20 = .ok (.iconst 1, 1) := by decide +kernel
theorem dX4_insert_21 : decode cX4_insert 21 = .ok (.iadd, 1) := by decide +kernel
theorem dX4_insert_22 : decode cX4_insert 22 = .ok (.aload_n 0, 1) := by decide +kernel
theorem dX4_insert_23 : decode cX4_insert 23 = .ok (.getfield 28, 3) := by decide +kernel
theorem dX4_insert_26 : decode cX4_insert 26 = .ok (.iload_n 1, 1) := by decide +kernel
theorem dX4_insert_27 : decode cX4_insert 27 = .ok (.isub, 1) := by decide +kernel
theorem dX4_insert_28 : decode cX4_insert 28 = .ok (.invokestatic 43, 3) := by decide +kernel
theorem dX4_insert_31 : decode cX4_insert 31 = .ok (.aload_n 0, 1) := by decide +kernel
theorem dX4_insert_32 : decode cX4_insert 32 = .ok (.getfield 15, 3) := by decide +kernel
theorem dX4_insert_35 : decode cX4_insert 35 = .ok (.iload_n 1, 1) := by decide +kernel
theorem dX4_insert_36 : decode cX4_insert 36 = .ok (.aload_n 0, 1) := by decide +kernel
theorem dX4_insert_37 : decode cX4_insert 37 = .ok (.getfield 15, 3) := by decide +kernel
theorem dX4_insert_40 : decode cX4_insert 40 = .ok (.iload_n 1, 1) := by decide +kernel
theorem dX4_insert_41 : decode cX4_insert 41 = .ok (.iconst 1, 1) := by decide +kernel
theorem dX4_insert_42 : decode cX4_insert 42 = .ok (.iadd, 1) := by decide +kernel
theorem dX4_insert_43 : decode cX4_insert 43 = .ok (.aload_n 0, 1) := by decide +kernel
theorem dX4_insert_44 : decode cX4_insert 44 = .ok (.getfield 28, 3) := by decide +kernel
theorem dX4_insert_47 : decode cX4_insert 47 = .ok (.iload_n 1, 1) := by decide +kernel
theorem dX4_insert_48 : decode cX4_insert 48 = .ok (.isub, 1) := by decide +kernel
theorem dX4_insert_49 : decode cX4_insert 49 = .ok (.invokestatic 43, 3) := by decide +kernel
theorem dX4_insert_52 : decode cX4_insert 52 = .ok (.aload_n 0, 1) := by decide +kernel
theorem dX4_insert_53 : decode cX4_insert 53 = .ok (.getfield 11, 3) := by decide +kernel
theorem dX4_insert_56 : decode cX4_insert 56 = .ok (.iload_n 1, 1) := by decide +kernel
theorem dX4_insert_57 : decode cX4_insert 57 = .ok (.iload_n 2, 1) := by decide +kernel
theorem dX4_insert_58 : decode cX4_insert 58 = .ok (.iastore, 1) := by decide +kernel
theorem dX4_insert_59 : decode cX4_insert 59 = .ok (.aload_n 0, 1) := by decide +kernel
theorem dX4_insert_60 : decode cX4_insert 60 = .ok (.getfield 15, 3) := by decide +kernel
theorem dX4_insert_63 : decode cX4_insert 63 = .ok (.iload_n 1, 1) := by decide +kernel
theorem dX4_insert_64 : decode cX4_insert 64 = .ok (.iload_n 3, 1) := by decide +kernel
theorem dX4_insert_65 : decode cX4_insert 65 = .ok (.iastore, 1) := by decide +kernel
theorem dX4_insert_66 : decode cX4_insert 66 = .ok (.aload_n 0, 1) := by decide +kernel
theorem dX4_insert_67 : decode cX4_insert 67 = .ok (.dup, 1) := by decide +kernel
theorem dX4_insert_68 : decode cX4_insert 68 = .ok (.getfield 28, 3) := by decide +kernel
theorem dX4_insert_71 : decode cX4_insert 71 = .ok (.iconst 1, 1) := by decide +kernel
theorem dX4_insert_72 : decode cX4_insert 72 = .ok (.iadd, 1) := by decide +kernel
theorem dX4_insert_73 : decode cX4_insert 73 = .ok (.putfield 28, 3) := by decide +kernel
theorem dX4_insert_76 : decode cX4_insert 76 = .ok (.return_, 1) := by decide +kernel
theorem dX4_remove_0 : decode cX4_remove 0 = .ok (.aload_n 0, 1) := by decide +kernel
theorem dX4_remove_1 : decode cX4_remove 1 = .ok (.dup, 1) := by decide +kernel
theorem dX4_remove_2 : decode cX4_remove 2 = .ok (.getfield 28, 3) := by decide +kernel
theorem dX4_remove_5 : decode cX4_remove 5 = .ok (.iconst 1, 1) := by decide +kernel
theorem dX4_remove_6 : decode cX4_remove 6 = .ok (.isub, 1) := by decide +kernel
theorem dX4_remove_7 : decode cX4_remove 7 = .ok (.putfield 28, 3) := by decide +kernel
theorem dX4_remove_10 : decode cX4_remove 10 = .ok (.aload_n 0, 1) := by decide +kernel
theorem dX4_remove_11 : decode cX4_remove 11 = .ok (.getfield 11, 3) := by decide +kernel
theorem dX4_remove_14 : decode cX4_remove 14 = .ok (.iload_n 1, 1) := by decide +kernel
theorem dX4_remove_15 : decode cX4_remove 15 = .ok (.iconst 1, 1) := by decide +kernel
theorem dX4_remove_16 : decode cX4_remove 16 = .ok (.iadd, 1) := by decide +kernel
theorem dX4_remove_17 : decode cX4_remove 17 = .ok (.aload_n 0, 1) := by decide +kernel
theorem dX4_remove_18 : decode cX4_remove 18 = .ok (.getfield 11, 3) := by decide +kernel
theorem dX4_remove_21 : decode cX4_remove 21 = .ok (.iload_n 1, 1) := by decide +kernel
theorem dX4_remove_22 : decode cX4_remove 22 = .ok (.aload_n 0, 1) := by decide +kernel
theorem dX4_remove_23 : decode cX4_remove 23 = .ok (.getfield 28, 3) := by decide +kernel
theorem dX4_remove_26 : decode cX4_remove 26 = .ok (.iload_n 1, 1) := by decide +kernel
theorem dX4_remove_27 : decode cX4_remove 27 = .ok (.isub, 1) := by decide +kernel
theorem dX4_remove_28 : decode cX4_remove 28 = .ok (.invokestatic 43, 3) := by decide +kernel
theorem dX4_remove_31 : decode cX4_remove 31 = .ok (.aload_n 0, 1) := by decide +kernel
theorem dX4_remove_32 : decode cX4_remove 32 = .ok (.getfield 15, 3) := by decide +kernel
theorem dX4_remove_35 : decode cX4_remove 35 = .ok (.iload_n 1, 1) := by decide +kernel
theorem dX4_remove_36 : decode cX4_remove 36 = .ok (.iconst 1, 1) := by decide +kernel
theorem dX4_remove_37 : decode cX4_remove 37 = .ok (.iadd, 1) := by decide +kernel
theorem dX4_remove_38 : decode cX4_remove 38 = .ok (.aload_n 0, 1) := by decide +kernel
theorem dX4_remove_39 : decode cX4_remove 39 = .ok (.getfield 15, 3) := by decide +kernel
theorem dX4_remove_42 : decode cX4_remove 42 = .ok (.iload_n 1, 1) := by decide +kernel
theorem dX4_remove_43 : decode cX4_remove 43 = .ok (.aload_n 0, 1) := by decide +kernel
theorem dX4_remove_44 : decode cX4_remove 44 = .ok (.getfield 28, 3) := by decide +kernel
theorem dX4_remove_47 : decode cX4_remove 47 = .ok (.iload_n 1, 1) := by decide +kernel
theorem dX4_remove_48 : decode cX4_remove 48 = .ok (.isub, 1) := by decide +kernel
theorem dX4_remove_49 : decode cX4_remove 49 = .ok (.invokestatic 43, 3) := by decide +kernel
theorem dX4_remove_52 : decode cX4_remove 52 = .ok (.return_, 1) := by decide +kernel
theorem dX4_makeRoom_0 : decode cX4_makeRoom 0 = .ok (.iload_n 1, 1) := by decide +kernel
theorem dX4_makeRoom_1 : decode cX4_makeRoom 1 = .ok (.aload_n 0, 1) := by decide +kernel
theorem dX4_makeRoom_2 : decode cX4_makeRoom 2 = .ok (.getfield 11, 3) := by decide +kernel
theorem dX4_makeRoom_5 : decode cX4_makeRoom 5 = .ok (.arraylength, 1) := by decide +kernel
theorem dX4_makeRoom_6 : decode cX4_makeRoom 6 = .ok (.if_icmp .le 38, 3) := by decide +kernel
theorem dX4_makeRoom_9 : decode cX4_makeRoom 9 = .ok (.iconst 2, 1) := by decide +kernel
theorem dX4_makeRoom_10 : decode cX4_makeRoom 10 = .ok (.iload_n 1, 1) := by decide +kernel
theorem dX4_makeRoom_11 : decode cX4_makeRoom 11 = .ok (.imul, 1) := by decide +kernel
theorem dX4_makeRoom_12 : decode cX4_makeRoom 12 = .ok (.istore_n 2, 1) := by decide +kernel
theorem dX4_makeRoom_13 : decode cX4_makeRoom 13 = .ok (.aload_n 0, 1) := by decide +kernel
theorem dX4_makeRoom_14 : decode cX4_makeRoom 14 = .ok (.aload_n 0, 1) := by decide +kernel
theorem dX4_makeRoom_15 : decode cX4_makeRoom 15 = .ok (.getfield 11, 3) := by decide +kernel
theorem dX4_makeRoom_18 : decode cX4_makeRoom 18 = .ok (.iload_n 2, 1) := by decide +kernel
theorem dX4_makeRoom_19 : decode cX4_makeRoom 19 = .ok (.invokestatic 49, 3) := by decide +kernel
theorem dX4_makeRoom_22 : decode cX4_makeRoom 22 = .ok (.putfield 11, 3) := by decide +kernel
theorem dX4_makeRoom_25 : decode cX4_makeRoom 25 = .ok (.aload_n 0, 1) := by decide +kernel
theorem dX4_makeRoom_26 : decode cX4_makeRoom 26 = .ok (.aload_n 0, 1) := by decide +kernel
theorem dX4_makeRoom_27 : decode cX4_makeRoom 27 = .ok (.getfield 15, 3) := by decide +kernel
theorem dX4_makeRoom_30 : decode cX4_makeRoom 30 = .ok (.iload_n 2, 1) := by decide +kernel
theorem dX4_makeRoom_31 : decode cX4_makeRoom 31 = .ok (.invokestatic 49, 3) := by decide +kernel
theorem dX4_makeRoom_34 : decode cX4_makeRoom 34 = .ok (.putfield 15, 3) := by decide +kernel
theorem dX4_makeRoom_37 : decode cX4_makeRoom 37 = .ok (.aload_n 0, 1) := by decide +kernel
theorem dX4_makeRoom_38 : decode cX4_makeRoom 38 = .ok (.iload_n 2, 1) := by decide +kernel
theorem dX4_makeRoom_39 : decode cX4_makeRoom 39 = .ok (.newarray .int, 2) := by decide +kernel
theorem dX4_makeRoom_41 : decode cX4_makeRoom 41 = .ok (.putfield 18, 3) := by decide +kernel
theorem dX4_makeRoom_44 : decode cX4_makeRoom 44 = .ok (.return_, 1) := by decide +kernel
theorem dX5_init_0 : decode cX5_init 0 = .ok (.aload_n 0, 1) := by decide +kernel
theorem dX5_init_1 : decode cX5_init 1 = .ok (.invokespecial 5, 3) := by decide +kernel
theorem dX5_init_4 : decode cX5_init 4 = .ok (.aload_n 0, 1) := by decide +kernel
theorem dX5_init_5 : decode cX5_init 5 = .ok (.iconst 0, 1) := by decide +kernel
theorem dX5_init_6 : decode cX5_init 6 = .ok (.newarray .int, 2) := by decide +kernel
theorem dX5_init_8 : decode cX5_init 8 = .ok (.putfield 11, 3) := by decide +kernel
theorem dX5_init_11 : decode cX5_init 11 = .ok (.aload_n 0, 1) := by decide +kernel
theorem dX5_init_12 : decode cX5_init 12 = .ok (.iconst 0, 1) := by decide +kernel
theorem dX5_init_13 : decode cX5_init 13 = .ok (.newarray .int, 2) := by decide +kernel
theorem dX5_init_15 : decode cX5_init 15 = .ok (.putfield 15, 3) := by decide +kernel
theorem dX5_init_18 : decode cX5_init 18 = .ok (.aload_n 0, 1) := by decide +kernel
theorem dX5_init_19 : decode cX5_init 19 = .ok (.iconst 0, 1) := by decide +kernel
theorem dX5_init_20 : decode cX5_init 20 = .ok (.newarray .int, 2) := by decide +kernel
theorem dX5_init_22 : decode cX5_init 22 = .ok (.putfield 18, 3) := by decide +kernel
theorem dX5_init_25 : decode cX5_init 25 = .ok (.aload_n 0, 1) := by decide +kernel
theorem dX5_init_26 : decode cX5_init 26 = .ok (.iconst 0, 1) := by decide +kernel
theorem dX5_init_27 : decode cX5_init 27 = .ok (.newarray .int, 2) := by decide +kernel
theorem dX5_init_29 : decode cX5_init 29 = .ok (.putfield 21, 3) := by decide +kernel
theorem dX5_init_32 : decode cX5_init 32 = .ok (.aload_n 0, 1) := by decide +kernel
theorem dX5_init_33 : decode cX5_init 33 = .ok (.iconst 1, 1) := by decide +kernel
theorem dX5_init_34 : decode cX5_init 34 = .ok (.putfield 24, 3) := by decide +kernel
theorem dX5_init_37 : decode cX5_init 37 = .ok (.return_, 1) := by decide +kernel
theorem dX5_forget_0 : decode cX5_forget 0 = .ok (.aload_n 0, 1) := by decide +kernel
theorem dX5_forget_1 : decode cX5_forget 1 = .ok (.dup, 1) := by decide +kernel
theorem dX5_forget_2 : decode cX5_forget 2 = .ok (.getfield 24, 3) := by decide +kernel
theorem dX5_forget_5 : decode cX5_forget 5 = .ok (.iconst 1, 1) := by decide +kernel
theorem dX5_forget_6 : decode cX5_forget 6 = .ok (.iadd, 1) := by decide +kernel
theorem dX5_forget_7 : decode cX5_forget 7 = .ok (.putfield 24, 3) := by decide +kernel
theorem dX5_forget_10 : decode cX5_forget 10 = .ok (.return_, 1) := by decide +kernel
theorem dX5_lead_0 : decode cX5_lead 0 = .ok (.iload_n 3, 1) := by decide +kernel
theorem dX5_lead_1 : decode cX5_lead 1 = .ok (.sipush 1000, 3) := by decide +kernel
theorem dX5_lead_4 : decode cX5_lead 4 = .ok (.irem, 1) := by decide +kernel
theorem dX5_lead_5 : decode cX5_lead 5 = .ok (.istore 4, 2) := by decide +kernel
theorem dX5_lead_7 : decode cX5_lead 7 = .ok (.iload_n 2, 1) := by decide +kernel
theorem dX5_lead_8 : decode cX5_lead 8 = .ok (.sipush 1000, 3) := by decide +kernel
theorem dX5_lead_11 : decode cX5_lead 11 = .ok (.irem, 1) := by decide +kernel
theorem dX5_lead_12 : decode cX5_lead 12 = .ok (.bipush 100, 2) := by decide +kernel
theorem dX5_lead_14 : decode cX5_lead 14 = .ok (.idiv, 1) := by decide +kernel
theorem dX5_lead_15 : decode cX5_lead 15 = .ok (.iload 4, 2) := by decide +kernel
theorem dX5_lead_17 : decode cX5_lead 17 = .ok (.bipush 100, 2) := by decide +kernel
theorem dX5_lead_19 : decode cX5_lead 19 = .ok (.idiv, 1) := by decide +kernel
theorem dX5_lead_20 : decode cX5_lead 20 = .ok (.if_icmp .le 5, 3) := by decide +kernel
theorem dX5_lead_23 : decode cX5_lead 23 = .ok (.iconst 0, 1) := by decide +kernel
theorem dX5_lead_24 : decode cX5_lead 24 = .ok (.ireturn, 1) := by decide +kernel
theorem dX5_lead_25 : decode cX5_lead 25 = .ok (.aload_n 0, 1) := by decide +kernel
theorem dX5_lead_26 : decode cX5_lead 26 = .ok (.aload_n 1, 1) := by decide +kernel
theorem dX5_lead_27 : decode cX5_lead 27 = .ok (.iload_n 2, 1) := by decide +kernel
theorem dX5_lead_28 : decode cX5_lead 28 = .ok (.iload_n 3, 1) := by decide +kernel
theorem dX5_lead_29 : decode cX5_lead 29 = .ok (.sipush 1000, 3) := by decide +kernel
theorem dX5_lead_32 : decode cX5_lead 32 = .ok (.idiv, 1) := by decide +kernel
theorem dX5_lead_33 : decode cX5_lead 33 = .ok (.invokevirtual 28, 3) := by decide +kernel
theorem dX5_lead_36 : decode cX5_lead 36 = .ok (.istore 5, 2) := by decide +kernel
theorem dX5_lead_38 : decode cX5_lead 38 = .ok (.iload 5, 2) := by decide +kernel
theorem dX5_lead_40 : decode cX5_lead 40 = .ok (.iconst (-1), 1) := by decide +kernel
theorem dX5_lead_41 : decode cX5_lead 41 = .ok (.if_icmp .eq 17, 3) := by decide +kernel
theorem dX5_lead_44 : decode cX5_lead 44 = .ok (.iload 5, 2) := by decide +kernel
theorem dX5_lead_46 : decode cX5_lead 46 = .ok (.iload 4, 2) := by decide +kernel
theorem dX5_lead_48 : decode cX5_lead 48 = .ok (.invokestatic 32, 3) := by decide +kernel
theorem dX5_lead_51 : decode cX5_lead 51 = .ok (.if_icmp .gt 7, 3) := by decide +kernel
theorem dX5_lead_54 : decode cX5_lead 54 = .ok (.iconst 1, 1) := by decide +kernel
theorem dX5_lead_55 : decode cX5_lead 55 = .ok (.goto 4, 3) := by decide +kernel
theorem dX5_lead_58 : decode cX5_lead 58 = .ok (.iconst 0, 1) := by decide +kernel
theorem dX5_lead_59 : decode cX5_lead 59 = .ok (.ireturn, 1) := by decide +kernel
theorem dX5_leastCounters_0 : decode cX5_leastCounters 0 = .ok (.iload_n 2, 1) := by decide +kernel
theorem dX5_leastCounters_1 : decode cX5_leastCounters 1 = .ok (.sipush 1000, 3) := by decide +kernel
theorem dX5_leastCounters_4 : decode cX5_leastCounters 4 = .ok (.idiv, 1) := by decide +kernel
theorem dX5_leastCounters_5 : decode cX5_leastCounters 5 = .ok (.bipush 100, 2) := by decide +kernel
theorem dX5_leastCounters_7 : decode cX5_leastCounters 7 = .ok (.imul, 1) := by decide +kernel
theorem dX5_leastCounters_8 : decode cX5_leastCounters 8 = .ok (.iload_n 2, 1) := by decide +kernel
theorem dX5_leastCounters_9 : decode cX5_leastCounters 9 = .ok (.invokestatic 32, 3) := by decide +kernel
theorem dX5_leastCounters_12 : decode cX5_leastCounters 12 = .ok (.iadd, 1) := by decide +kernel
theorem dX5_leastCounters_13 : decode cX5_leastCounters 13 = .ok (.istore 4, 2) := by decide +kernel
theorem dX5_leastCounters_15 : decode cX5_leastCounters 15 = .ok (.aload_n 0, 1) := by decide +kernel
theorem dX5_leastCounters_16 : decode cX5_leastCounters 16 = .ok (.getfield 11, 3) := by decide +kernel
theorem dX5_leastCounters_19 : decode cX5_leastCounters 19 = .ok (.arraylength, 1) := by decide +kernel
theorem dX5_leastCounters_20 : decode cX5_leastCounters 20 = .ok (.ifCond .ne 7, 3) := by decide +kernel
theorem dX5_leastCounters_23 : decode cX5_leastCounters 23 = .ok (.aload_n 0, 1) := by decide +kernel
theorem dX5_leastCounters_24 : decode cX5_leastCounters 24 = .ok (.invokevirtual 36, 3) := by decide +kernel
theorem dX5_leastCounters_27 : decode cX5_leastCounters 27 = .ok (.aload_n 0, 1) := by decide +kernel
theorem dX5_leastCounters_28 : decode cX5_leastCounters 28 = .ok (.getfield 15, 3) := by decide +kernel
theorem dX5_leastCounters_31 : decode cX5_leastCounters 31 = .ok (.iload 4, 2) := by decide +kernel
theorem dX5_leastCounters_33 : decode cX5_leastCounters 33 = .ok (.iaload, 1) := by decide +kernel
theorem dX5_leastCounters_34 : decode cX5_leastCounters 34 = .ok (.aload_n 0, 1) := by decide +kernel
theorem dX5_leastCounters_35 : decode cX5_leastCounters 35 = .ok (.getfield 24, 3) := by decide +kernel
theorem dX5_leastCounters_38 : decode cX5_leastCounters 38 = .ok (.if_icmp .eq 21, 3) := by decide +kernel
theorem dX5_leastCounters_41 : decode cX5_leastCounters 41 = .ok (.aload_n 0, 1) := by decide +kernel
theorem dX5_leastCounters_42 : decode cX5_leastCounters 42 = .ok (.aload_n 1, 1) := by decide +kernel
theorem dX5_leastCounters_43 : decode cX5_leastCounters 43 = .ok (.iload 4, 2) := by decide +kernel
theorem dX5_leastCounters_45 : decode cX5_leastCounters 45 = .ok (.invokevirtual 39, 3) := by decide +kernel
theorem dX5_leastCounters_48 : decode cX5_leastCounters 48 = .ok (.aload_n 0, 1) := by decide +kernel
theorem dX5_leastCounters_49 : decode cX5_leastCounters 49 = .ok (.getfield 15, 3) := by decide +kernel
theorem dX5_leastCounters_52 : decode cX5_leastCounters 52 = .ok (.iload 4, 2) := by decide +kernel
