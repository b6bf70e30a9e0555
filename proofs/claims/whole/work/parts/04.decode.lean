theorem dX5_catchPointsWell_110 : decode cX5_catchPointsWell 110 = .ok (.iadd, 1) := by decide +kernel
theorem dX5_catchPointsWell_111 : decode cX5_catchPointsWell 111 = .ok (.invokevirtual 81, 3) := by decide +kernel
theorem dX5_catchPointsWell_114 : decode cX5_catchPointsWell 114 = .ok (.invokestatic 184, 3) := by decide +kernel
theorem dX5_catchPointsWell_117 : decode cX5_catchPointsWell 117 = .ok (.ifCond .eq 7, 3) := by decide +kernel
theorem dX5_catchPointsWell_120 : decode cX5_catchPointsWell 120 = .ok (.iconst 1, 1) := by decide +kernel
theorem dX5_catchPointsWell_121 : decode cX5_catchPointsWell 121 = .ok (.goto 4, 3) := by decide +kernel
theorem dX5_catchPointsWell_124 : decode cX5_catchPointsWell 124 = .ok (.iconst 0, 1) := by decide +kernel
theorem dX5_catchPointsWell_125 : decode cX5_catchPointsWell 125 = .ok (.ireturn, 1) := by decide +kernel
theorem dX5_isError_0 : decode cX5_isError 0 = .ok (.iload_n 1, 1) := by decide +kernel
theorem dX5_isError_1 : decode cX5_isError 1 = .ok (.ifCond .ne 5, 3) := by decide +kernel
theorem dX5_isError_4 : decode cX5_isError 4 = .ok (.iconst 1, 1) := by decide +kernel
theorem dX5_isError_5 : decode cX5_isError 5 = .ok (.ireturn, 1) := by decide +kernel
theorem dX5_isError_6 : decode cX5_isError 6 = .ok (.aload_n 0, 1) := by decide +kernel
theorem dX5_isError_7 : decode cX5_isError 7 = .ok (.bipush 7, 2) := by decide +kernel
theorem dX5_isError_9 : decode cX5_isError 9 = .ok (.iload_n 1, 1) := by decide +kernel
theorem dX5_isError_10 : decode cX5_isError 10 = .ok (.invokevirtual 96, 3) := by decide +kernel
theorem dX5_isError_13 : decode cX5_isError 13 = .ok (.ifCond .ne 5, 3) := by decide +kernel
theorem dX5_isError_16 : decode cX5_isError 16 = .ok (.iconst 0, 1) := by decide +kernel
theorem dX5_isError_17 : decode cX5_isError 17 = .ok (.ireturn, 1) := by decide +kernel
theorem dX5_isError_18 : decode cX5_isError 18 = .ok (.aload_n 0, 1) := by decide +kernel
theorem dX5_isError_19 : decode cX5_isError 19 = .ok (.iload_n 1, 1) := by decide +kernel
theorem dX5_isError_20 : decode cX5_isError 20 = .ok (.iconst 0, 1) := by decide +kernel
theorem dX5_isError_21 : decode cX5_isError 21 = .ok (.invokevirtual 87, 3) := by decide +kernel
theorem dX5_isError_24 : decode cX5_isError 24 = .ok (.istore_n 2, 1) := by decide +kernel
theorem dX5_isError_25 : decode cX5_isError 25 = .ok (.aload_n 0, 1) := by decide +kernel
theorem dX5_isError_26 : decode cX5_isError 26 = .ok (.iload_n 2, 1) := by decide +kernel
theorem dX5_isError_27 : decode cX5_isError 27 = .ok (.ldc 188, 2) := by decide +kernel
theorem dX5_isError_29 : decode cX5_isError 29 = .ok (.invokevirtual 190, 3) := by decide +kernel
theorem dX5_isError_32 : decode cX5_isError 32 = .ok (.ifCond .ne 33, 3) := by decide +kernel
theorem dX5_isError_35 : decode cX5_isError 35 = .ok (.aload_n 0, 1) := by decide +kernel
theorem dX5_isError_36 : decode cX5_isError 36 = .ok (.iload_n 2, 1) := by decide +kernel
theorem dX5_isError_37 : decode cX5_isError 37 = .ok (.ldc 194, 2) := by decide +kernel
theorem dX5_isError_39 : decode cX5_isError 39 = .ok (.invokevirtual 190, 3) := by decide +kernel
theorem dX5_isError_42 : decode cX5_isError 42 = .ok (.ifCond .ne 23, 3) := by decide +kernel
theorem dX5_isError_45 : decode cX5_isError 45 = .ok (.aload_n 0, 1) := by decide +kernel
theorem dX5_isError_46 : decode cX5_isError 46 = .ok (.iload_n 2, 1) := by decide +kernel
theorem dX5_isError_47 : decode cX5_isError 47 = .ok (.ldc 196, 2) := by decide +kernel
theorem dX5_isError_49 : decode cX5_isError 49 = .ok (.invokevirtual 190, 3) := by decide +kernel
theorem dX5_isError_52 : decode cX5_isError 52 = .ok (.ifCond .ne 13, 3) := by decide +kernel
theorem dX5_isError_55 : decode cX5_isError 55 = .ok (.aload_n 0, 1) := by decide +kernel
theorem dX5_isError_56 : decode cX5_isError 56 = .ok (.iload_n 2, 1) := by decide +kernel
theorem dX5_isError_57 : decode cX5_isError 57 = .ok (.ldc 198, 2) := by decide +kernel
theorem dX5_isError_59 : decode cX5_isError 59 = .ok (.invokevirtual 190, 3) := by decide +kernel
theorem dX5_isError_62 : decode cX5_isError 62 = .ok (.ifCond .eq 7, 3) := by decide +kernel
theorem dX5_isError_65 : decode cX5_isError 65 = .ok (.iconst 1, 1) := by decide +kernel
theorem dX5_isError_66 : decode cX5_isError 66 = .ok (.goto 4, 3) := by decide +kernel
theorem dX5_isError_69 : decode cX5_isError 69 = .ok (.iconst 0, 1) := by decide +kernel
theorem dX5_isError_70 : decode cX5_isError 70 = .ok (.ireturn, 1) := by decide +kernel
theorem dX5_firstNumber_0 : decode cX5_firstNumber 0 = .ok (.aload_n 0, 1) := by decide +kernel
theorem dX5_firstNumber_1 : decode cX5_firstNumber 1 = .ok (.getfield 47, 3) := by decide +kernel
theorem dX5_firstNumber_4 : decode cX5_firstNumber 4 = .ok (.iload_n 2, 1) := by decide +kernel
theorem dX5_firstNumber_5 : decode cX5_firstNumber 5 = .ok (.invokestatic 126, 3) := by decide +kernel
theorem dX5_firstNumber_8 : decode cX5_firstNumber 8 = .ok (.istore_n 3, 1) := by decide +kernel
theorem dX5_firstNumber_9 : decode cX5_firstNumber 9 = .ok (.iload_n 3, 1) := by decide +kernel
theorem dX5_firstNumber_10 : decode cX5_firstNumber 10 = .ok (.sipush 300, 3) := by decide +kernel
theorem dX5_firstNumber_13 : decode cX5_firstNumber 13 = .ok (.if_icmp .ne 9, 3) := by decide +kernel
theorem dX5_firstNumber_16 : decode cX5_firstNumber 16 = .ok (.aload_n 0, 1) := by decide +kernel
theorem dX5_firstNumber_17 : decode cX5_firstNumber 17 = .ok (.iload_n 2, 1) := by decide +kernel
theorem dX5_firstNumber_18 : decode cX5_firstNumber 18 = .ok (.invokestatic 200, 3) := by decide +kernel
theorem dX5_firstNumber_21 : decode cX5_firstNumber 21 = .ok (.ireturn, 1) := by decide +kernel
theorem dX5_firstNumber_22 : decode cX5_firstNumber 22 = .ok (.iload_n 3, 1) := by decide +kernel
theorem dX5_firstNumber_23 : decode cX5_firstNumber 23 = .ok (.sipush 301, 3) := by decide +kernel
theorem dX5_firstNumber_26 : decode cX5_firstNumber 26 = .ok (.if_icmp .ne 9, 3) := by decide +kernel
theorem dX5_firstNumber_29 : decode cX5_firstNumber 29 = .ok (.aload_n 0, 1) := by decide +kernel
theorem dX5_firstNumber_30 : decode cX5_firstNumber 30 = .ok (.iload_n 2, 1) := by decide +kernel
theorem dX5_firstNumber_31 : decode cX5_firstNumber 31 = .ok (.invokestatic 204, 3) := by decide +kernel
theorem dX5_firstNumber_34 : decode cX5_firstNumber 34 = .ok (.ireturn, 1) := by decide +kernel
theorem dX5_firstNumber_35 : decode cX5_firstNumber 35 = .ok (.iload_n 3, 1) := by decide +kernel
theorem dX5_firstNumber_36 : decode cX5_firstNumber 36 = .ok (.invokestatic 133, 3) := by decide +kernel
theorem dX5_firstNumber_39 : decode cX5_firstNumber 39 = .ok (.ifCond .eq 12, 3) := by decide +kernel
theorem dX5_firstNumber_42 : decode cX5_firstNumber 42 = .ok (.aload_n 0, 1) := by decide +kernel
theorem dX5_firstNumber_43 : decode cX5_firstNumber 43 = .ok (.getfield 47, 3) := by decide +kernel
theorem dX5_firstNumber_46 : decode cX5_firstNumber 46 = .ok (.iload_n 2, 1) := by decide +kernel
theorem dX5_firstNumber_47 : decode cX5_firstNumber 47 = .ok (.invokestatic 137, 3) := by decide +kernel
theorem dX5_firstNumber_50 : decode cX5_firstNumber 50 = .ok (.ireturn, 1) := by decide +kernel
theorem dX5_firstNumber_51 : decode cX5_firstNumber 51 = .ok (.iload_n 3, 1) := by decide +kernel
theorem dX5_firstNumber_52 : decode cX5_firstNumber 52 = .ok (.invokestatic 146, 3) := by decide +kernel
theorem dX5_firstNumber_55 : decode cX5_firstNumber 55 = .ok (.ifCond .eq 17, 3) := by decide +kernel
theorem dX5_firstNumber_58 : decode cX5_firstNumber 58 = .ok (.aload_n 0, 1) := by decide +kernel
theorem dX5_firstNumber_59 : decode cX5_firstNumber 59 = .ok (.aload_n 1, 1) := by decide +kernel
theorem dX5_firstNumber_60 : decode cX5_firstNumber 60 = .ok (.aload_n 0, 1) := by decide +kernel
theorem dX5_firstNumber_61 : decode cX5_firstNumber 61 = .ok (.getfield 47, 3) := by decide +kernel
theorem dX5_firstNumber_64 : decode cX5_firstNumber 64 = .ok (.iload_n 2, 1) := by decide +kernel
theorem dX5_firstNumber_65 : decode cX5_firstNumber 65 = .ok (.invokestatic 149, 3) := by decide +kernel
theorem dX5_firstNumber_68 : decode cX5_firstNumber 68 = .ok (.invokevirtual 152, 3) := by decide +kernel
theorem dX5_firstNumber_71 : decode cX5_firstNumber 71 = .ok (.ireturn, 1) := by decide +kernel
theorem dX5_firstNumber_72 : decode cX5_firstNumber 72 = .ok (.iload_n 3, 1) := by decide +kernel
theorem dX5_firstNumber_73 : decode cX5_firstNumber 73 = .ok (.invokestatic 156, 3) := by decide +kernel
theorem dX5_firstNumber_76 : decode cX5_firstNumber 76 = .ok (.ifCond .eq 22, 3) := by decide +kernel
theorem dX5_firstNumber_79 : decode cX5_firstNumber 79 = .ok (.aload_n 0, 1) := by decide +kernel
theorem dX5_firstNumber_80 : decode cX5_firstNumber 80 = .ok (.aload_n 1, 1) := by decide +kernel
theorem dX5_firstNumber_81 : decode cX5_firstNumber 81 = .ok (.aload_n 0, 1) := by decide +kernel
theorem dX5_firstNumber_82 : decode cX5_firstNumber 82 = .ok (.getfield 47, 3) := by decide +kernel
theorem dX5_firstNumber_85 : decode cX5_firstNumber 85 = .ok (.iload_n 2, 1) := by decide +kernel
theorem dX5_firstNumber_86 : decode cX5_firstNumber 86 = .ok (.aload_n 1, 1) := by decide +kernel
theorem dX5_firstNumber_87 : decode cX5_firstNumber 87 = .ok (.getfield 41, 3) := by decide +kernel
theorem dX5_firstNumber_90 : decode cX5_firstNumber 90 = .ok (.iconst 0, 1) := by decide +kernel
theorem dX5_firstNumber_91 : decode cX5_firstNumber 91 = .ok (.invokestatic 171, 3) := by decide +kernel
theorem dX5_firstNumber_94 : decode cX5_firstNumber 94 = .ok (.invokevirtual 152, 3) := by decide +kernel
theorem dX5_firstNumber_97 : decode cX5_firstNumber 97 = .ok (.ireturn, 1) := by decide +kernel
theorem dX5_firstNumber_98 : decode cX5_firstNumber 98 = .ok (.iload_n 3, 1) := by decide +kernel
theorem dX5_firstNumber_99 : decode cX5_firstNumber 99 = .ok (.invokestatic 162, 3) := by decide +kernel
theorem dX5_firstNumber_102 : decode cX5_firstNumber 102 = .ok (.ifCond .ne 10, 3) := by decide +kernel
theorem dX5_firstNumber_105 : decode cX5_firstNumber 105 = .ok (.iload_n 3, 1) := by decide +kernel
theorem dX5_firstNumber_106 : decode cX5_firstNumber 106 = .ok (.sipush 184, 3) := by decide +kernel
theorem dX5_firstNumber_109 : decode cX5_firstNumber 109 = .ok (.if_icmp .ne 22, 3) := by decide +kernel
theorem dX5_firstNumber_112 : decode cX5_firstNumber 112 = .ok (.aload_n 0, 1) := by decide +kernel
theorem dX5_firstNumber_113 : decode cX5_firstNumber 113 = .ok (.getfield 74, 3) := by decide +kernel
theorem dX5_firstNumber_116 : decode cX5_firstNumber 116 = .ok (.getfield 110, 3) := by decide +kernel
theorem dX5_firstNumber_119 : decode cX5_firstNumber 119 = .ok (.aload_n 0, 1) := by decide +kernel
theorem dX5_firstNumber_120 : decode cX5_firstNumber 120 = .ok (.getfield 47, 3) := by decide +kernel
theorem dX5_firstNumber_123 : decode cX5_firstNumber 123 = .ok (.iload_n 2, 1) := by decide +kernel
theorem dX5_firstNumber_124 : decode cX5_firstNumber 124 = .ok (.invokestatic 130, 3) := by decide +kernel
theorem dX5_firstNumber_127 : decode cX5_firstNumber 127 = .ok (.invokestatic 23, 3) := by decide +kernel
theorem dX5_firstNumber_130 : decode cX5_firstNumber 130 = .ok (.ireturn, 1) := by decide +kernel
theorem dX5_firstNumber_131 : decode cX5_firstNumber 131 = .ok (.iconst 0, 1) := by decide +kernel
theorem dX5_firstNumber_132 : decode cX5_firstNumber 132 = .ok (.ireturn, 1) := by decide +kernel
theorem dX5_pushedInt_0 : decode cX5_pushedInt 0 = .ok (.aload_n 0, 1) := by decide +kernel
theorem dX5_pushedInt_1 : decode cX5_pushedInt 1 = .ok (.getfield 47, 3) := by decide +kernel
theorem dX5_pushedInt_4 : decode cX5_pushedInt 4 = .ok (.iload_n 1, 1) := by decide +kernel
theorem dX5_pushedInt_5 : decode cX5_pushedInt 5 = .ok (.invokevirtual 165, 3) := by decide +kernel
theorem dX5_pushedInt_8 : decode cX5_pushedInt 8 = .ok (.istore_n 2, 1) := by decide +kernel
theorem dX5_pushedInt_9 : decode cX5_pushedInt 9 = .ok (.iload_n 2, 1) := by decide +kernel
theorem dX5_pushedInt_10 : decode cX5_pushedInt 10 = .ok (.tableswitch 80 16 19 #[30, 41, 52, 52], 30) := by decide +kernel
theorem dX5_pushedInt_40 : decode cX5_pushedInt 40 = .ok (.aload_n 0, 1) := by decide +kernel
theorem dX5_pushedInt_41 : decode cX5_pushedInt 41 = .ok (.getfield 47, 3) := by decide +kernel
theorem dX5_pushedInt_44 : decode cX5_pushedInt 44 = .ok (.iload_n 1, 1) := by decide +kernel
theorem dX5_pushedInt_45 : decode cX5_pushedInt 45 = .ok (.iconst 1, 1) := by decide +kernel
theorem dX5_pushedInt_46 : decode cX5_pushedInt 46 = .ok (.iadd, 1) := by decide +kernel
theorem dX5_pushedInt_47 : decode cX5_pushedInt 47 = .ok (.invokevirtual 207, 3) := by decide +kernel
theorem dX5_pushedInt_50 : decode cX5_pushedInt 50 = .ok (.ireturn, 1) := by decide +kernel
theorem dX5_pushedInt_51 : decode cX5_pushedInt 51 = .ok (.aload_n 0, 1) := by decide +kernel
theorem dX5_pushedInt_52 : decode cX5_pushedInt 52 = .ok (.getfield 47, 3) := by decide +kernel
theorem dX5_pushedInt_55 : decode cX5_pushedInt 55 = .ok (.iload_n 1, 1) := by decide +kernel
theorem dX5_pushedInt_56 : decode cX5_pushedInt 56 = .ok (.iconst 1, 1) := by decide +kernel
theorem dX5_pushedInt_57 : decode cX5_pushedInt 57 = .ok (.iadd, 1) := by decide +kernel
theorem dX5_pushedInt_58 : decode cX5_pushedInt 58 = .ok (.invokevirtual 210, 3) := by decide +kernel
theorem dX5_pushedInt_61 : decode cX5_pushedInt 61 = .ok (.ireturn, 1) := by decide +kernel
theorem dX5_pushedInt_62 : decode cX5_pushedInt 62 = .ok (.aload_n 0, 1) := by decide +kernel
theorem dX5_pushedInt_63 : decode cX5_pushedInt 63 = .ok (.getfield 47, 3) := by decide +kernel
theorem dX5_pushedInt_66 : decode cX5_pushedInt 66 = .ok (.aload_n 0, 1) := by decide +kernel
theorem dX5_pushedInt_67 : decode cX5_pushedInt 67 = .ok (.getfield 74, 3) := by decide +kernel
theorem dX5_pushedInt_70 : decode cX5_pushedInt 70 = .ok (.getfield 213, 3) := by decide +kernel
theorem dX5_pushedInt_73 : decode cX5_pushedInt 73 = .ok (.aload_n 0, 1) := by decide +kernel
theorem dX5_pushedInt_74 : decode cX5_pushedInt 74 = .ok (.getfield 47, 3) := by decide +kernel
theorem dX5_pushedInt_77 : decode cX5_pushedInt 77 = .ok (.iload_n 1, 1) := by decide +kernel
theorem dX5_pushedInt_78 : decode cX5_pushedInt 78 = .ok (.invokestatic 130, 3) := by decide +kernel
theorem dX5_pushedInt_81 : decode cX5_pushedInt 81 = .ok (.invokestatic 23, 3) := by decide +kernel
theorem dX5_pushedInt_84 : decode cX5_pushedInt 84 = .ok (.iconst 1, 1) := by decide +kernel
theorem dX5_pushedInt_85 : decode cX5_pushedInt 85 = .ok (.iadd, 1) := by decide +kernel
theorem dX5_pushedInt_86 : decode cX5_pushedInt 86 = .ok (.invokevirtual 216, 3) := by decide +kernel
theorem dX5_pushedInt_89 : decode cX5_pushedInt 89 = .ok (.ireturn, 1) := by decide +kernel
theorem dX5_pushedInt_90 : decode cX5_pushedInt 90 = .ok (.iload_n 2, 1) := by decide +kernel
theorem dX5_pushedInt_91 : decode cX5_pushedInt 91 = .ok (.iconst 3, 1) := by decide +kernel
theorem dX5_pushedInt_92 : decode cX5_pushedInt 92 = .ok (.isub, 1) := by decide +kernel
theorem dX5_pushedInt_93 : decode cX5_pushedInt 93 = .ok (.ireturn, 1) := by decide +kernel
theorem dX5_pushedLongLow_0 : decode cX5_pushedLongLow 0 = .ok (.aload_n 0, 1) := by decide +kernel
theorem dX5_pushedLongLow_1 : decode cX5_pushedLongLow 1 = .ok (.getfield 47, 3) := by decide +kernel
theorem dX5_pushedLongLow_4 : decode cX5_pushedLongLow 4 = .ok (.iload_n 1, 1) := by decide +kernel
theorem dX5_pushedLongLow_5 : decode cX5_pushedLongLow 5 = .ok (.invokevirtual 165, 3) := by decide +kernel
theorem dX5_pushedLongLow_8 : decode cX5_pushedLongLow 8 = .ok (.istore_n 2, 1) := by decide +kernel
theorem dX5_pushedLongLow_9 : decode cX5_pushedLongLow 9 = .ok (.iload_n 2, 1) := by decide +kernel
theorem dX5_pushedLongLow_10 : decode cX5_pushedLongLow 10 = .ok (.bipush 20, 2) := by decide +kernel
theorem dX5_pushedLongLow_12 : decode cX5_pushedLongLow 12 = .ok (.if_icmp .ne 31, 3) := by decide +kernel
theorem dX5_pushedLongLow_15 : decode cX5_pushedLongLow 15 = .ok (.aload_n 0, 1) := by decide +kernel
theorem dX5_pushedLongLow_16 : decode cX5_pushedLongLow 16 = .ok (.getfield 47, 3) := by decide +kernel
theorem dX5_pushedLongLow_19 : decode cX5_pushedLongLow 19 = .ok (.aload_n 0, 1) := by decide +kernel
theorem dX5_pushedLongLow_20 : decode cX5_pushedLongLow 20 = .ok (.getfield 74, 3) := by decide +kernel
theorem dX5_pushedLongLow_23 : decode cX5_pushedLongLow 23 = .ok (.getfield 213, 3) := by decide +kernel
theorem dX5_pushedLongLow_26 : decode cX5_pushedLongLow 26 = .ok (.aload_n 0, 1) := by decide +kernel
theorem dX5_pushedLongLow_27 : decode cX5_pushedLongLow 27 = .ok (.getfield 47, 3) := by decide +kernel
theorem dX5_pushedLongLow_30 : decode cX5_pushedLongLow 30 = .ok (.iload_n 1, 1) := by decide +kernel
theorem dX5_pushedLongLow_31 : decode cX5_pushedLongLow 31 = .ok (.invokestatic 130, 3) := by decide +kernel
theorem dX5_pushedLongLow_34 : decode cX5_pushedLongLow 34 = .ok (.invokestatic 23, 3) := by decide +kernel
theorem dX5_pushedLongLow_37 : decode cX5_pushedLongLow 37 = .ok (.iconst 5, 1) := by decide +kernel
theorem dX5_pushedLongLow_38 : decode cX5_pushedLongLow 38 = .ok (.iadd, 1) := by decide +kernel
theorem dX5_pushedLongLow_39 : decode cX5_pushedLongLow 39 = .ok (.invokevirtual 216, 3) := by decide +kernel
theorem dX5_pushedLongLow_42 : decode cX5_pushedLongLow 42 = .ok (.ireturn, 1) := by decide +kernel
theorem dX5_pushedLongLow_43 : decode cX5_pushedLongLow 43 = .ok (.iload_n 2, 1) := by decide +kernel
theorem dX5_pushedLongLow_44 : decode cX5_pushedLongLow 44 = .ok (.bipush 9, 2) := by decide +kernel
theorem dX5_pushedLongLow_46 : decode cX5_pushedLongLow 46 = .ok (.isub, 1) := by decide +kernel
theorem dX5_pushedLongLow_47 : decode cX5_pushedLongLow 47 = .ok (.ireturn, 1) := by decide +kernel
theorem dX6_wrongEntry_0 : decode cX6_wrongEntry 0 = .ok (.iconst 1, 1) := by decide +kernel
theorem dX6_wrongEntry_1 : decode cX6_wrongEntry 1 = .ok (.istore_n 1, 1) := by decide +kernel
theorem dX6_wrongEntry_2 : decode cX6_wrongEntry 2 = .ok (.iload_n 1, 1) := by decide +kernel
theorem dX6_wrongEntry_3 : decode cX6_wrongEntry 3 = .ok (.aload_n 0, 1) := by decide +kernel
theorem dX6_wrongEntry_4 : decode cX6_wrongEntry 4 = .ok (.getfield 9, 3) := by decide +kernel
theorem dX6_wrongEntry_7 : decode cX6_wrongEntry 7 = .ok (.if_icmp .ge 26, 3) := by decide +kernel
theorem dX6_wrongEntry_10 : decode cX6_wrongEntry 10 = .ok (.aload_n 0, 1) := by decide +kernel
theorem dX6_wrongEntry_11 : decode cX6_wrongEntry 11 = .ok (.iload_n 1, 1) := by decide +kernel
theorem dX6_wrongEntry_12 : decode cX6_wrongEntry 12 = .ok (.invokestatic 15, 3) := by decide +kernel
theorem dX6_wrongEntry_15 : decode cX6_wrongEntry 15 = .ok (.ifCond .ne 12, 3) := by decide +kernel
theorem dX6_wrongEntry_18 : decode cX6_wrongEntry 18 = .ok (.aload_n 0, 1) := by decide +kernel
theorem dX6_wrongEntry_19 : decode cX6_wrongEntry 19 = .ok (.getfield 21, 3) := by decide +kernel
theorem dX6_wrongEntry_22 : decode cX6_wrongEntry 22 = .ok (.iload_n 1, 1) := by decide +kernel
theorem dX6_wrongEntry_23 : decode cX6_wrongEntry 23 = .ok (.invokestatic 25, 3) := by decide +kernel
theorem dX6_wrongEntry_26 : decode cX6_wrongEntry 26 = .ok (.ireturn, 1) := by decide +kernel
theorem dX6_wrongEntry_27 : decode cX6_wrongEntry 27 = .ok (.iinc 1 1, 3) := by decide +kernel
theorem dX6_wrongEntry_30 : decode cX6_wrongEntry 30 = .ok (.goto (-28), 3) := by decide +kernel
theorem dX6_wrongEntry_33 : decode cX6_wrongEntry 33 = .ok (.iconst (-1), 1) := by decide +kernel
theorem dX6_wrongEntry_34 : decode cX6_wrongEntry 34 = .ok (.ireturn, 1) := by decide +kernel
theorem dX6_pointsToItsSorts_0 : decode cX6_pointsToItsSorts 0 = .ok (.aload_n 0, 1) := by decide +kernel
theorem dX6_pointsToItsSorts_1 : decode cX6_pointsToItsSorts 1 = .ok (.getfield 29, 3) := by decide +kernel
theorem dX6_pointsToItsSorts_4 : decode cX6_pointsToItsSorts 4 = .ok (.iload_n 1, 1) := by decide +kernel
theorem dX6_pointsToItsSorts_5 : decode cX6_pointsToItsSorts 5 = .ok (.invokestatic 25, 3) := by decide +kernel
theorem dX6_pointsToItsSorts_8 : decode cX6_pointsToItsSorts 8 = .ok (.tableswitch 122 7 12 #[40, 122, 86, 86, 122, 52], 40) := by decide +kernel
theorem dX6_pointsToItsSorts_48 : decode cX6_pointsToItsSorts 48 = .ok (.aload_n 0, 1) := by decide +kernel
theorem dX6_pointsToItsSorts_49 : decode cX6_pointsToItsSorts 49 = .ok (.iconst 1, 1) := by decide +kernel
theorem dX6_pointsToItsSorts_50 : decode cX6_pointsToItsSorts 50 = .ok (.aload_n 0, 1) := by decide +kernel
theorem dX6_pointsToItsSorts_51 : decode cX6_pointsToItsSorts 51 = .ok (.iload_n 1, 1) := by decide +kernel
theorem dX6_pointsToItsSorts_52 : decode cX6_pointsToItsSorts 52 = .ok (.iconst 0, 1) := by decide +kernel
theorem dX6_pointsToItsSorts_53 : decode cX6_pointsToItsSorts 53 = .ok (.invokevirtual 32, 3) := by decide +kernel
theorem dX6_pointsToItsSorts_56 : decode cX6_pointsToItsSorts 56 = .ok (.invokevirtual 36, 3) := by decide +kernel
theorem dX6_pointsToItsSorts_59 : decode cX6_pointsToItsSorts 59 = .ok (.ireturn, 1) := by decide +kernel
theorem dX6_pointsToItsSorts_60 : decode cX6_pointsToItsSorts 60 = .ok (.aload_n 0, 1) := by decide +kernel
theorem dX6_pointsToItsSorts_61 : decode cX6_pointsToItsSorts 61 = .ok (.iconst 1, 1) := by decide +kernel
theorem dX6_pointsToItsSorts_62 : decode cX6_pointsToItsSorts 62 = .ok (.aload_n 0, 1) := by decide +kernel
theorem dX6_pointsToItsSorts_63 : decode cX6_pointsToItsSorts 63 = .ok (.iload_n 1, 1) := by decide +kernel
theorem dX6_pointsToItsSorts_64 : decode cX6_pointsToItsSorts 64 = .ok (.iconst 0, 1) := by decide +kernel
theorem dX6_pointsToItsSorts_65 : decode cX6_pointsToItsSorts 65 = .ok (.invokevirtual 32, 3) := by decide +kernel
theorem dX6_pointsToItsSorts_68 : decode cX6_pointsToItsSorts 68 = .ok (.invokevirtual 36, 3) := by decide +kernel
theorem dX6_pointsToItsSorts_71 : decode cX6_pointsToItsSorts 71 = .ok (.ifCond .eq 21, 3) := by decide +kernel
theorem dX6_pointsToItsSorts_74 : decode cX6_pointsToItsSorts 74 = .ok (.aload_n 0, 1) := by decide +kernel
theorem dX6_pointsToItsSorts_75 : decode cX6_pointsToItsSorts 75 = .ok (.iconst 1, 1) := by decide +kernel
theorem dX6_pointsToItsSorts_76 : decode cX6_pointsToItsSorts 76 = .ok (.aload_n 0, 1) := by decide +kernel
theorem dX6_pointsToItsSorts_77 : decode cX6_pointsToItsSorts 77 = .ok (.iload_n 1, 1) := by decide +kernel
theorem dX6_pointsToItsSorts_78 : decode cX6_pointsToItsSorts 78 = .ok (.iconst 1, 1) := by decide +kernel
theorem dX6_pointsToItsSorts_79 : decode cX6_pointsToItsSorts 79 = .ok (.invokevirtual 32, 3) := by decide +kernel
theorem dX6_pointsToItsSorts_82 : decode cX6_pointsToItsSorts 82 = .ok (.invokevirtual 36, 3) := by decide +kernel
theorem dX6_pointsToItsSorts_85 : decode cX6_pointsToItsSorts 85 = .ok (.ifCond .eq 7, 3) := by decide +kernel
theorem dX6_pointsToItsSorts_88 : decode cX6_pointsToItsSorts 88 = .ok (.iconst 1, 1) := by decide +kernel
theorem dX6_pointsToItsSorts_89 : decode cX6_pointsToItsSorts 89 = .ok (.goto 4, 3) := by decide +kernel
theorem dX6_pointsToItsSorts_92 : decode cX6_pointsToItsSorts 92 = .ok (.iconst 0, 1) := by decide +kernel
theorem dX6_pointsToItsSorts_93 : decode cX6_pointsToItsSorts 93 = .ok (.ireturn, 1) := by decide +kernel
theorem dX6_pointsToItsSorts_94 : decode cX6_pointsToItsSorts 94 = .ok (.aload_n 0, 1) := by decide +kernel
theorem dX6_pointsToItsSorts_95 : decode cX6_pointsToItsSorts 95 = .ok (.bipush 7, 2) := by decide +kernel
theorem dX6_pointsToItsSorts_97 : decode cX6_pointsToItsSorts 97 = .ok (.aload_n 0, 1) := by decide +kernel
theorem dX6_pointsToItsSorts_98 : decode cX6_pointsToItsSorts 98 = .ok (.iload_n 1, 1) := by decide +kernel
theorem dX6_pointsToItsSorts_99 : decode cX6_pointsToItsSorts 99 = .ok (.iconst 0, 1) := by decide +kernel
theorem dX6_pointsToItsSorts_100 : decode cX6_pointsToItsSorts 100 = .ok (.invokevirtual 32, 3) := by decide +kernel
theorem dX6_pointsToItsSorts_103 : decode cX6_pointsToItsSorts 103 = .ok (.invokevirtual 36, 3) := by decide +kernel
theorem dX6_pointsToItsSorts_106 : decode cX6_pointsToItsSorts 106 = .ok (.ifCond .eq 22, 3) := by decide +kernel
theorem dX6_pointsToItsSorts_109 : decode cX6_pointsToItsSorts 109 = .ok (.aload_n 0, 1) := by decide +kernel
theorem dX6_pointsToItsSorts_110 : decode cX6_pointsToItsSorts 110 = .ok (.bipush 12, 2) := by decide +kernel
theorem dX6_pointsToItsSorts_112 : decode cX6_pointsToItsSorts 112 = .ok (.aload_n 0, 1) := by decide +kernel
theorem dX6_pointsToItsSorts_113 : decode cX6_pointsToItsSorts 113 = .ok (.iload_n 1, 1) := by decide +kernel
theorem dX6_pointsToItsSorts_114 : decode cX6_pointsToItsSorts 114 = .ok (.iconst 1, 1) := by decide +kernel
theorem dX6_pointsToItsSorts_115 : decode cX6_pointsToItsSorts 115 = .ok (.invokevirtual 32, 3) := by decide +kernel
theorem dX6_pointsToItsSorts_118 : decode cX6_pointsToItsSorts 118 = .ok (.invokevirtual 36, 3) := by decide +kernel
theorem dX6_pointsToItsSorts_121 : decode cX6_pointsToItsSorts 121 = .ok (.ifCond .eq 7, 3) := by decide +kernel
theorem dX6_pointsToItsSorts_124 : decode cX6_pointsToItsSorts 124 = .ok (.iconst 1, 1) := by decide +kernel
theorem dX6_pointsToItsSorts_125 : decode cX6_pointsToItsSorts 125 = .ok (.goto 4, 3) := by decide +kernel
theorem dX6_pointsToItsSorts_128 : decode cX6_pointsToItsSorts 128 = .ok (.iconst 0, 1) := by decide +kernel
theorem dX6_pointsToItsSorts_129 : decode cX6_pointsToItsSorts 129 = .ok (.ireturn, 1) := by decide +kernel
theorem dX6_pointsToItsSorts_130 : decode cX6_pointsToItsSorts 130 = .ok (.iconst 1, 1) := by decide +kernel
theorem dX6_pointsToItsSorts_131 : decode cX6_pointsToItsSorts 131 = .ok (.ireturn, 1) := by decide +kernel
theorem dX6_wrongFlags_0 : decode cX6_wrongFlags 0 = .ok (.aload_n 0, 1) := by decide +kernel
theorem dX6_wrongFlags_1 : decode cX6_wrongFlags 1 = .ok (.getfield 40, 3) := by decide +kernel
theorem dX6_wrongFlags_4 : decode cX6_wrongFlags 4 = .ok (.aload_n 0, 1) := by decide +kernel
theorem dX6_wrongFlags_5 : decode cX6_wrongFlags 5 = .ok (.getfield 46, 3) := by decide +kernel
theorem dX6_wrongFlags_8 : decode cX6_wrongFlags 8 = .ok (.invokevirtual 49, 3) := by decide +kernel
theorem dX6_wrongFlags_11 : decode cX6_wrongFlags 11 = .ok (.bipush 33, 2) := by decide +kernel
theorem dX6_wrongFlags_13 : decode cX6_wrongFlags 13 = .ok (.if_icmp .eq 8, 3) := by decide +kernel
theorem dX6_wrongFlags_16 : decode cX6_wrongFlags 16 = .ok (.aload_n 0, 1) := by decide +kernel
theorem dX6_wrongFlags_17 : decode cX6_wrongFlags 17 = .ok (.getfield 46, 3) := by decide +kernel
theorem dX6_wrongFlags_20 : decode cX6_wrongFlags 20 = .ok (.ireturn, 1) := by decide +kernel
theorem dX6_wrongFlags_21 : decode cX6_wrongFlags 21 = .ok (.aload_n 0, 1) := by decide +kernel
theorem dX6_wrongFlags_22 : decode cX6_wrongFlags 22 = .ok (.getfield 40, 3) := by decide +kernel
theorem dX6_wrongFlags_25 : decode cX6_wrongFlags 25 = .ok (.aload_n 0, 1) := by decide +kernel
theorem dX6_wrongFlags_26 : decode cX6_wrongFlags 26 = .ok (.getfield 55, 3) := by decide +kernel
theorem dX6_wrongFlags_29 : decode cX6_wrongFlags 29 = .ok (.aload_n 0, 1) := by decide +kernel
theorem dX6_wrongFlags_30 : decode cX6_wrongFlags 30 = .ok (.getfield 58, 3) := by decide +kernel
theorem dX6_wrongFlags_33 : decode cX6_wrongFlags 33 = .ok (.invokestatic 61, 3) := by decide +kernel
theorem dX6_wrongFlags_36 : decode cX6_wrongFlags 36 = .ok (.istore_n 1, 1) := by decide +kernel
theorem dX6_wrongFlags_37 : decode cX6_wrongFlags 37 = .ok (.iload_n 1, 1) := by decide +kernel
theorem dX6_wrongFlags_38 : decode cX6_wrongFlags 38 = .ok (.iconst (-1), 1) := by decide +kernel
theorem dX6_wrongFlags_39 : decode cX6_wrongFlags 39 = .ok (.if_icmp .eq 7, 3) := by decide +kernel
theorem dX6_wrongFlags_42 : decode cX6_wrongFlags 42 = .ok (.iload_n 1, 1) := by decide +kernel
theorem dX6_wrongFlags_43 : decode cX6_wrongFlags 43 = .ok (.goto 18, 3) := by decide +kernel
theorem dX6_wrongFlags_46 : decode cX6_wrongFlags 46 = .ok (.aload_n 0, 1) := by decide +kernel
theorem dX6_wrongFlags_47 : decode cX6_wrongFlags 47 = .ok (.getfield 40, 3) := by decide +kernel
theorem dX6_wrongFlags_50 : decode cX6_wrongFlags 50 = .ok (.aload_n 0, 1) := by decide +kernel
theorem dX6_wrongFlags_51 : decode cX6_wrongFlags 51 = .ok (.getfield 65, 3) := by decide +kernel
theorem dX6_wrongFlags_54 : decode cX6_wrongFlags 54 = .ok (.aload_n 0, 1) := by decide +kernel
theorem dX6_wrongFlags_55 : decode cX6_wrongFlags 55 = .ok (.getfield 68, 3) := by decide +kernel
theorem dX6_wrongFlags_58 : decode cX6_wrongFlags 58 = .ok (.invokestatic 61, 3) := by decide +kernel
theorem dX6_wrongFlags_61 : decode cX6_wrongFlags 61 = .ok (.ireturn, 1) := by decide +kernel
theorem dX6_wrongMemberFlags_0 : decode cX6_wrongMemberFlags 0 = .ok (.iconst 0, 1) := by decide +kernel
theorem dX6_wrongMemberFlags_1 : decode cX6_wrongMemberFlags 1 = .ok (.istore_n 3, 1) := by decide +kernel
theorem dX6_wrongMemberFlags_2 : decode cX6_wrongMemberFlags 2 = .ok (.iload_n 3, 1) := by decide +kernel
theorem dX6_wrongMemberFlags_3 : decode cX6_wrongMemberFlags 3 = .ok (.iload_n 2, 1) := by decide +kernel
theorem dX6_wrongMemberFlags_4 : decode cX6_wrongMemberFlags 4 = .ok (.if_icmp .ge 29, 3) := by decide +kernel
theorem dX6_wrongMemberFlags_7 : decode cX6_wrongMemberFlags 7 = .ok (.aload_n 0, 1) := by decide +kernel
theorem dX6_wrongMemberFlags_8 : decode cX6_wrongMemberFlags 8 = .ok (.aload_n 1, 1) := by decide +kernel
theorem dX6_wrongMemberFlags_9 : decode cX6_wrongMemberFlags 9 = .ok (.iload_n 3, 1) := by decide +kernel
theorem dX6_wrongMemberFlags_10 : decode cX6_wrongMemberFlags 10 = .ok (.invokestatic 25, 3) := by decide +kernel
theorem dX6_wrongMemberFlags_13 : decode cX6_wrongMemberFlags 13 = .ok (.invokevirtual 49, 3) := by decide +kernel
theorem dX6_wrongMemberFlags_16 : decode cX6_wrongMemberFlags 16 = .ok (.bipush 9, 2) := by decide +kernel
theorem dX6_wrongMemberFlags_18 : decode cX6_wrongMemberFlags 18 = .ok (.if_icmp .eq 9, 3) := by decide +kernel
theorem dX6_wrongMemberFlags_21 : decode cX6_wrongMemberFlags 21 = .ok (.aload_n 1, 1) := by decide +kernel
theorem dX6_wrongMemberFlags_22 : decode cX6_wrongMemberFlags 22 = .ok (.iload_n 3, 1) := by decide +kernel
theorem dX6_wrongMemberFlags_23 : decode cX6_wrongMemberFlags 23 = .ok (.invokestatic 25, 3) := by decide +kernel
theorem dX6_wrongMemberFlags_26 : decode cX6_wrongMemberFlags 26 = .ok (.ireturn, 1) := by decide +kernel
theorem dX6_wrongMemberFlags_27 : decode cX6_wrongMemberFlags 27 = .ok (.iinc 3 1, 3) := by decide +kernel
theorem dX6_wrongMemberFlags_30 : decode cX6_wrongMemberFlags 30 = .ok (.goto (-28), 3) := by decide +kernel
theorem dX6_wrongMemberFlags_33 : decode cX6_wrongMemberFlags 33 = .ok (.iconst (-1), 1) := by decide +kernel
theorem dX6_wrongMemberFlags_34 : decode cX6_wrongMemberFlags 34 = .ok (.ireturn, 1) := by decide +kernel
theorem dX6_wrongClass_0 : decode cX6_wrongClass 0 = .ok (.aload_n 0, 1) := by decide +kernel
theorem dX6_wrongClass_1 : decode cX6_wrongClass 1 = .ok (.getfield 46, 3) := by decide +kernel
theorem dX6_wrongClass_4 : decode cX6_wrongClass 4 = .ok (.iconst 2, 1) := by decide +kernel
theorem dX6_wrongClass_5 : decode cX6_wrongClass 5 = .ok (.iadd, 1) := by decide +kernel
theorem dX6_wrongClass_6 : decode cX6_wrongClass 6 = .ok (.istore_n 1, 1) := by decide +kernel
theorem dX6_wrongClass_7 : decode cX6_wrongClass 7 = .ok (.aload_n 0, 1) := by decide +kernel
theorem dX6_wrongClass_8 : decode cX6_wrongClass 8 = .ok (.getfield 71, 3) := by decide +kernel
theorem dX6_wrongClass_11 : decode cX6_wrongClass 11 = .ok (.bipush 7, 2) := by decide +kernel
theorem dX6_wrongClass_13 : decode cX6_wrongClass 13 = .ok (.aload_n 0, 1) := by decide +kernel
theorem dX6_wrongClass_14 : decode cX6_wrongClass 14 = .ok (.getfield 40, 3) := by decide +kernel
theorem dX6_wrongClass_17 : decode cX6_wrongClass 17 = .ok (.iload_n 1, 1) := by decide +kernel
theorem dX6_wrongClass_18 : decode cX6_wrongClass 18 = .ok (.invokevirtual 49, 3) := by decide +kernel
theorem dX6_wrongClass_21 : decode cX6_wrongClass 21 = .ok (.invokevirtual 36, 3) := by decide +kernel
theorem dX6_wrongClass_24 : decode cX6_wrongClass 24 = .ok (.ifCond .ne 5, 3) := by decide +kernel
theorem dX6_wrongClass_27 : decode cX6_wrongClass 27 = .ok (.iload_n 1, 1) := by decide +kernel
theorem dX6_wrongClass_28 : decode cX6_wrongClass 28 = .ok (.ireturn, 1) := by decide +kernel
theorem dX6_wrongClass_29 : decode cX6_wrongClass 29 = .ok (.aload_n 0, 1) := by decide +kernel
theorem dX6_wrongClass_30 : decode cX6_wrongClass 30 = .ok (.getfield 71, 3) := by decide +kernel
theorem dX6_wrongClass_33 : decode cX6_wrongClass 33 = .ok (.bipush 7, 2) := by decide +kernel
theorem dX6_wrongClass_35 : decode cX6_wrongClass 35 = .ok (.aload_n 0, 1) := by decide +kernel
theorem dX6_wrongClass_36 : decode cX6_wrongClass 36 = .ok (.getfield 40, 3) := by decide +kernel
theorem dX6_wrongClass_39 : decode cX6_wrongClass 39 = .ok (.iload_n 1, 1) := by decide +kernel
theorem dX6_wrongClass_40 : decode cX6_wrongClass 40 = .ok (.iconst 2, 1) := by decide +kernel
theorem dX6_wrongClass_41 : decode cX6_wrongClass 41 = .ok (.iadd, 1) := by decide +kernel
theorem dX6_wrongClass_42 : decode cX6_wrongClass 42 = .ok (.invokevirtual 49, 3) := by decide +kernel
theorem dX6_wrongClass_45 : decode cX6_wrongClass 45 = .ok (.invokevirtual 36, 3) := by decide +kernel
theorem dX6_wrongClass_48 : decode cX6_wrongClass 48 = .ok (.ifCond .ne 7, 3) := by decide +kernel
theorem dX6_wrongClass_51 : decode cX6_wrongClass 51 = .ok (.iload_n 1, 1) := by decide +kernel
theorem dX6_wrongClass_52 : decode cX6_wrongClass 52 = .ok (.iconst 2, 1) := by decide +kernel
theorem dX6_wrongClass_53 : decode cX6_wrongClass 53 = .ok (.iadd, 1) := by decide +kernel
theorem dX6_wrongClass_54 : decode cX6_wrongClass 54 = .ok (.ireturn, 1) := by decide +kernel
theorem dX6_wrongClass_55 : decode cX6_wrongClass 55 = .ok (.aload_n 0, 1) := by decide +kernel
theorem dX6_wrongClass_56 : decode cX6_wrongClass 56 = .ok (.getfield 40, 3) := by decide +kernel
theorem dX6_wrongClass_59 : decode cX6_wrongClass 59 = .ok (.iload_n 1, 1) := by decide +kernel
theorem dX6_wrongClass_60 : decode cX6_wrongClass 60 = .ok (.iconst 4, 1) := by decide +kernel
theorem dX6_wrongClass_61 : decode cX6_wrongClass 61 = .ok (.iadd, 1) := by decide +kernel
theorem dX6_wrongClass_62 : decode cX6_wrongClass 62 = .ok (.invokevirtual 49, 3) := by decide +kernel
theorem dX6_wrongClass_65 : decode cX6_wrongClass 65 = .ok (.ifCond .ne 7, 3) := by decide +kernel
theorem dX6_wrongClass_68 : decode cX6_wrongClass 68 = .ok (.iconst (-1), 1) := by decide +kernel
theorem dX6_wrongClass_69 : decode cX6_wrongClass 69 = .ok (.goto 6, 3) := by decide +kernel
theorem dX6_wrongClass_72 : decode cX6_wrongClass 72 = .ok (.iload_n 1, 1) := by decide +kernel
theorem dX6_wrongClass_73 : decode cX6_wrongClass 73 = .ok (.iconst 4, 1) := by decide +kernel
theorem dX6_wrongClass_74 : decode cX6_wrongClass 74 = .ok (.iadd, 1) := by decide +kernel
theorem dX6_wrongClass_75 : decode cX6_wrongClass 75 = .ok (.ireturn, 1) := by decide +kernel
theorem dX6_wrongName_0 : decode cX6_wrongName 0 = .ok (.aload_n 0, 1) := by decide +kernel
theorem dX6_wrongName_1 : decode cX6_wrongName 1 = .ok (.aload_n 0, 1) := by decide +kernel
theorem dX6_wrongName_2 : decode cX6_wrongName 2 = .ok (.getfield 55, 3) := by decide +kernel
theorem dX6_wrongName_5 : decode cX6_wrongName 5 = .ok (.aload_n 0, 1) := by decide +kernel
theorem dX6_wrongName_6 : decode cX6_wrongName 6 = .ok (.getfield 58, 3) := by decide +kernel
theorem dX6_wrongName_9 : decode cX6_wrongName 9 = .ok (.invokestatic 75, 3) := by decide +kernel
theorem dX6_wrongName_12 : decode cX6_wrongName 12 = .ok (.istore_n 1, 1) := by decide +kernel
theorem dX6_wrongName_13 : decode cX6_wrongName 13 = .ok (.iload_n 1, 1) := by decide +kernel
theorem dX6_wrongName_14 : decode cX6_wrongName 14 = .ok (.iconst (-1), 1) := by decide +kernel
theorem dX6_wrongName_15 : decode cX6_wrongName 15 = .ok (.if_icmp .ne 16, 3) := by decide +kernel
theorem dX6_wrongName_18 : decode cX6_wrongName 18 = .ok (.aload_n 0, 1) := by decide +kernel
theorem dX6_wrongName_19 : decode cX6_wrongName 19 = .ok (.aload_n 0, 1) := by decide +kernel
theorem dX6_wrongName_20 : decode cX6_wrongName 20 = .ok (.getfield 65, 3) := by decide +kernel
theorem dX6_wrongName_23 : decode cX6_wrongName 23 = .ok (.aload_n 0, 1) := by decide +kernel
theorem dX6_wrongName_24 : decode cX6_wrongName 24 = .ok (.getfield 68, 3) := by decide +kernel
theorem dX6_wrongName_27 : decode cX6_wrongName 27 = .ok (.invokestatic 75, 3) := by decide +kernel
theorem dX6_wrongName_30 : decode cX6_wrongName 30 = .ok (.istore_n 1, 1) := by decide +kernel
theorem dX6_wrongName_31 : decode cX6_wrongName 31 = .ok (.iload_n 1, 1) := by decide +kernel
theorem dX6_wrongName_32 : decode cX6_wrongName 32 = .ok (.iconst (-1), 1) := by decide +kernel
theorem dX6_wrongName_33 : decode cX6_wrongName 33 = .ok (.if_icmp .eq 7, 3) := by decide +kernel
theorem dX6_wrongName_36 : decode cX6_wrongName 36 = .ok (.iload_n 1, 1) := by decide +kernel
theorem dX6_wrongName_37 : decode cX6_wrongName 37 = .ok (.goto 11, 3) := by decide +kernel
theorem dX6_wrongName_40 : decode cX6_wrongName 40 = .ok (.aload_n 0, 1) := by decide +kernel
theorem dX6_wrongName_41 : decode cX6_wrongName 41 = .ok (.aload_n 0, 1) := by decide +kernel
theorem dX6_wrongName_42 : decode cX6_wrongName 42 = .ok (.getfield 79, 3) := by decide +kernel
theorem dX6_wrongName_45 : decode cX6_wrongName 45 = .ok (.invokestatic 82, 3) := by decide +kernel
theorem dX6_wrongName_48 : decode cX6_wrongName 48 = .ok (.ireturn, 1) := by decide +kernel
theorem dX6_wrongMemberName_0 : decode cX6_wrongMemberName 0 = .ok (.iconst 0, 1) := by decide +kernel
theorem dX6_wrongMemberName_1 : decode cX6_wrongMemberName 1 = .ok (.istore_n 3, 1) := by decide +kernel
theorem dX6_wrongMemberName_2 : decode cX6_wrongMemberName 2 = .ok (.iload_n 3, 1) := by decide +kernel
theorem dX6_wrongMemberName_3 : decode cX6_wrongMemberName 3 = .ok (.iload_n 2, 1) := by decide +kernel
theorem dX6_wrongMemberName_4 : decode cX6_wrongMemberName 4 = .ok (.if_icmp .ge 80, 3) := by decide +kernel
theorem dX6_wrongMemberName_7 : decode cX6_wrongMemberName 7 = .ok (.aload_n 1, 1) := by decide +kernel
theorem dX6_wrongMemberName_8 : decode cX6_wrongMemberName 8 = .ok (.iload_n 3, 1) := by decide +kernel
theorem dX6_wrongMemberName_9 : decode cX6_wrongMemberName 9 = .ok (.invokestatic 25, 3) := by decide +kernel
theorem dX6_wrongMemberName_12 : decode cX6_wrongMemberName 12 = .ok (.istore 4, 2) := by decide +kernel
theorem dX6_wrongMemberName_14 : decode cX6_wrongMemberName 14 = .ok (.aload_n 0, 1) := by decide +kernel
theorem dX6_wrongMemberName_15 : decode cX6_wrongMemberName 15 = .ok (.getfield 71, 3) := by decide +kernel
theorem dX6_wrongMemberName_18 : decode cX6_wrongMemberName 18 = .ok (.iconst 1, 1) := by decide +kernel
theorem dX6_wrongMemberName_19 : decode cX6_wrongMemberName 19 = .ok (.aload_n 0, 1) := by decide +kernel
theorem dX6_wrongMemberName_20 : decode cX6_wrongMemberName 20 = .ok (.iload 4, 2) := by decide +kernel
theorem dX6_wrongMemberName_22 : decode cX6_wrongMemberName 22 = .ok (.invokevirtual 86, 3) := by decide +kernel
theorem dX6_wrongMemberName_25 : decode cX6_wrongMemberName 25 = .ok (.invokevirtual 36, 3) := by decide +kernel
theorem dX6_wrongMemberName_28 : decode cX6_wrongMemberName 28 = .ok (.ifCond .ne 8, 3) := by decide +kernel
theorem dX6_wrongMemberName_31 : decode cX6_wrongMemberName 31 = .ok (.iload 4, 2) := by decide +kernel
theorem dX6_wrongMemberName_33 : decode cX6_wrongMemberName 33 = .ok (.iconst 2, 1) := by decide +kernel
theorem dX6_wrongMemberName_34 : decode cX6_wrongMemberName 34 = .ok (.iadd, 1) := by decide +kernel
theorem dX6_wrongMemberName_35 : decode cX6_wrongMemberName 35 = .ok (.ireturn, 1) := by decide +kernel
theorem dX6_wrongMemberName_36 : decode cX6_wrongMemberName 36 = .ok (.aload_n 0, 1) := by decide +kernel
theorem dX6_wrongMemberName_37 : decode cX6_wrongMemberName 37 = .ok (.getfield 71, 3) := by decide +kernel
theorem dX6_wrongMemberName_40 : decode cX6_wrongMemberName 40 = .ok (.iconst 1, 1) := by decide +kernel
theorem dX6_wrongMemberName_41 : decode cX6_wrongMemberName 41 = .ok (.aload_n 0, 1) := by decide +kernel
theorem dX6_wrongMemberName_42 : decode cX6_wrongMemberName 42 = .ok (.iload 4, 2) := by decide +kernel
theorem dX6_wrongMemberName_44 : decode cX6_wrongMemberName 44 = .ok (.invokevirtual 89, 3) := by decide +kernel
theorem dX6_wrongMemberName_47 : decode cX6_wrongMemberName 47 = .ok (.invokevirtual 36, 3) := by decide +kernel
theorem dX6_wrongMemberName_50 : decode cX6_wrongMemberName 50 = .ok (.ifCond .ne 8, 3) := by decide +kernel
theorem dX6_wrongMemberName_53 : decode cX6_wrongMemberName 53 = .ok (.iload 4, 2) := by decide +kernel
theorem dX6_wrongMemberName_55 : decode cX6_wrongMemberName 55 = .ok (.iconst 4, 1) := by decide +kernel
theorem dX6_wrongMemberName_56 : decode cX6_wrongMemberName 56 = .ok (.iadd, 1) := by decide +kernel
theorem dX6_wrongMemberName_57 : decode cX6_wrongMemberName 57 = .ok (.ireturn, 1) := by decide +kernel
theorem dX6_wrongMemberName_58 : decode cX6_wrongMemberName 58 = .ok (.aload_n 0, 1) := by decide +kernel
theorem dX6_wrongMemberName_59 : decode cX6_wrongMemberName 59 = .ok (.iload 4, 2) := by decide +kernel
theorem dX6_wrongMemberName_61 : decode cX6_wrongMemberName 61 = .ok (.bipush 6, 2) := by decide +kernel
theorem dX6_wrongMemberName_63 : decode cX6_wrongMemberName 63 = .ok (.iadd, 1) := by decide +kernel
theorem dX6_wrongMemberName_64 : decode cX6_wrongMemberName 64 = .ok (.invokestatic 82, 3) := by decide +kernel
theorem dX6_wrongMemberName_67 : decode cX6_wrongMemberName 67 = .ok (.istore 5, 2) := by decide +kernel
theorem dX6_wrongMemberName_69 : decode cX6_wrongMemberName 69 = .ok (.iload 5, 2) := by decide +kernel
theorem dX6_wrongMemberName_71 : decode cX6_wrongMemberName 71 = .ok (.iconst (-1), 1) := by decide +kernel
theorem dX6_wrongMemberName_72 : decode cX6_wrongMemberName 72 = .ok (.if_icmp .eq 6, 3) := by decide +kernel
theorem dX6_wrongMemberName_75 : decode cX6_wrongMemberName 75 = .ok (.iload 5, 2) := by decide +kernel
theorem dX6_wrongMemberName_77 : decode cX6_wrongMemberName 77 = .ok (.ireturn, 1) := by decide +kernel
theorem dX6_wrongMemberName_78 : decode cX6_wrongMemberName 78 = .ok (.iinc 3 1, 3) := by decide +kernel
theorem dX6_wrongMemberName_81 : decode cX6_wrongMemberName 81 = .ok (.goto (-79), 3) := by decide +kernel
theorem dX6_wrongMemberName_84 : decode cX6_wrongMemberName 84 = .ok (.iconst (-1), 1) := by decide +kernel
theorem dX6_wrongMemberName_85 : decode cX6_wrongMemberName 85 = .ok (.ireturn, 1) := by decide +kernel
theorem dX6_wrongAttributeName_0 : decode cX6_wrongAttributeName 0 = .ok (.aload_n 0, 1) := by decide +kernel
theorem dX6_wrongAttributeName_1 : decode cX6_wrongAttributeName 1 = .ok (.getfield 40, 3) := by decide +kernel
theorem dX6_wrongAttributeName_4 : decode cX6_wrongAttributeName 4 = .ok (.iload_n 1, 1) := by decide +kernel
theorem dX6_wrongAttributeName_5 : decode cX6_wrongAttributeName 5 = .ok (.invokevirtual 49, 3) := by decide +kernel
theorem dX6_wrongAttributeName_8 : decode cX6_wrongAttributeName 8 = .ok (.istore_n 2, 1) := by decide +kernel
theorem dX6_wrongAttributeName_9 : decode cX6_wrongAttributeName 9 = .ok (.iload_n 1, 1) := by decide +kernel
theorem dX6_wrongAttributeName_10 : decode cX6_wrongAttributeName 10 = .ok (.iconst 2, 1) := by decide +kernel
theorem dX6_wrongAttributeName_11 : decode cX6_wrongAttributeName 11 = .ok (.iadd, 1) := by decide +kernel
theorem dX6_wrongAttributeName_12 : decode cX6_wrongAttributeName 12 = .ok (.istore_n 3, 1) := by decide +kernel
theorem dX6_wrongAttributeName_13 : decode cX6_wrongAttributeName 13 = .ok (.iconst 0, 1) := by decide +kernel
theorem dX6_wrongAttributeName_14 : decode cX6_wrongAttributeName 14 = .ok (.istore 4, 2) := by decide +kernel
theorem dX6_wrongAttributeName_16 : decode cX6_wrongAttributeName 16 = .ok (.iload 4, 2) := by decide +kernel
theorem dX6_wrongAttributeName_18 : decode cX6_wrongAttributeName 18 = .ok (.iload_n 2, 1) := by decide +kernel
theorem dX6_wrongAttributeName_19 : decode cX6_wrongAttributeName 19 = .ok (.if_icmp .ge 46, 3) := by decide +kernel
theorem dX6_wrongAttributeName_22 : decode cX6_wrongAttributeName 22 = .ok (.aload_n 0, 1) := by decide +kernel
theorem dX6_wrongAttributeName_23 : decode cX6_wrongAttributeName 23 = .ok (.getfield 71, 3) := by decide +kernel
theorem dX6_wrongAttributeName_26 : decode cX6_wrongAttributeName 26 = .ok (.iconst 1, 1) := by decide +kernel
theorem dX6_wrongAttributeName_27 : decode cX6_wrongAttributeName 27 = .ok (.aload_n 0, 1) := by decide +kernel
theorem dX6_wrongAttributeName_28 : decode cX6_wrongAttributeName 28 = .ok (.getfield 40, 3) := by decide +kernel
theorem dX6_wrongAttributeName_31 : decode cX6_wrongAttributeName 31 = .ok (.iload_n 3, 1) := by decide +kernel
theorem dX6_wrongAttributeName_32 : decode cX6_wrongAttributeName 32 = .ok (.invokevirtual 49, 3) := by decide +kernel
theorem dX6_wrongAttributeName_35 : decode cX6_wrongAttributeName 35 = .ok (.invokevirtual 36, 3) := by decide +kernel
theorem dX6_wrongAttributeName_38 : decode cX6_wrongAttributeName 38 = .ok (.ifCond .ne 5, 3) := by decide +kernel
theorem dX6_wrongAttributeName_41 : decode cX6_wrongAttributeName 41 = .ok (.iload_n 3, 1) := by decide +kernel
theorem dX6_wrongAttributeName_42 : decode cX6_wrongAttributeName 42 = .ok (.ireturn, 1) := by decide +kernel
theorem dX6_wrongAttributeName_43 : decode cX6_wrongAttributeName 43 = .ok (.iload_n 3, 1) := by decide +kernel
theorem dX6_wrongAttributeName_44 : decode cX6_wrongAttributeName 44 = .ok (.bipush 6, 2) := by decide +kernel
theorem dX6_wrongAttributeName_46 : decode cX6_wrongAttributeName 46 = .ok (.aload_n 0, 1) := by decide +kernel
theorem dX6_wrongAttributeName_47 : decode cX6_wrongAttributeName 47 = .ok (.getfield 40, 3) := by decide +kernel
theorem dX6_wrongAttributeName_50 : decode cX6_wrongAttributeName 50 = .ok (.iload_n 3, 1) := by decide +kernel
theorem dX6_wrongAttributeName_51 : decode cX6_wrongAttributeName 51 = .ok (.iconst 2, 1) := by decide +kernel
theorem dX6_wrongAttributeName_52 : decode cX6_wrongAttributeName 52 = .ok (.iadd, 1) := by decide +kernel
theorem dX6_wrongAttributeName_53 : decode cX6_wrongAttributeName 53 = .ok (.invokevirtual 92, 3) := by decide +kernel
theorem dX6_wrongAttributeName_56 : decode cX6_wrongAttributeName 56 = .ok (.iadd, 1) := by decide +kernel
theorem dX6_wrongAttributeName_57 : decode cX6_wrongAttributeName 57 = .ok (.iadd, 1) := by decide +kernel
theorem dX6_wrongAttributeName_58 : decode cX6_wrongAttributeName 58 = .ok (.istore_n 3, 1) := by decide +kernel
theorem dX6_wrongAttributeName_59 : decode cX6_wrongAttributeName 59 = .ok (.iinc 4 1, 3) := by decide +kernel
theorem dX6_wrongAttributeName_62 : decode cX6_wrongAttributeName 62 = .ok (.goto (-46), 3) := by decide +kernel
theorem dX6_wrongAttributeName_65 : decode cX6_wrongAttributeName 65 = .ok (.iconst (-1), 1) := by decide +kernel
theorem dX6_wrongAttributeName_66 : decode cX6_wrongAttributeName 66 = .ok (.ireturn, 1) := by decide +kernel
theorem dX6_wrongType_0 : decode cX6_wrongType 0 = .ok (.aload_n 0, 1) := by decide +kernel
theorem dX6_wrongType_1 : decode cX6_wrongType 1 = .ok (.getfield 71, 3) := by decide +kernel
theorem dX6_wrongType_4 : decode cX6_wrongType 4 = .ok (.astore_n 1, 1) := by decide +kernel
theorem dX6_wrongType_5 : decode cX6_wrongType 5 = .ok (.iconst 1, 1) := by decide +kernel
theorem dX6_wrongType_6 : decode cX6_wrongType 6 = .ok (.istore_n 2, 1) := by decide +kernel
theorem dX6_wrongType_7 : decode cX6_wrongType 7 = .ok (.iload_n 2, 1) := by decide +kernel
theorem dX6_wrongType_8 : decode cX6_wrongType 8 = .ok (.aload_n 1, 1) := by decide +kernel
theorem dX6_wrongType_9 : decode cX6_wrongType 9 = .ok (.getfield 9, 3) := by decide +kernel
theorem dX6_wrongType_12 : decode cX6_wrongType 12 = .ok (.if_icmp .ge 26, 3) := by decide +kernel
theorem dX6_wrongType_15 : decode cX6_wrongType 15 = .ok (.aload_n 1, 1) := by decide +kernel
theorem dX6_wrongType_16 : decode cX6_wrongType 16 = .ok (.iload_n 2, 1) := by decide +kernel
theorem dX6_wrongType_17 : decode cX6_wrongType 17 = .ok (.invokestatic 95, 3) := by decide +kernel
theorem dX6_wrongType_20 : decode cX6_wrongType 20 = .ok (.ifCond .ne 12, 3) := by decide +kernel
theorem dX6_wrongType_23 : decode cX6_wrongType 23 = .ok (.aload_n 1, 1) := by decide +kernel
theorem dX6_wrongType_24 : decode cX6_wrongType 24 = .ok (.getfield 21, 3) := by decide +kernel
theorem dX6_wrongType_27 : decode cX6_wrongType 27 = .ok (.iload_n 2, 1) := by decide +kernel
theorem dX6_wrongType_28 : decode cX6_wrongType 28 = .ok (.invokestatic 25, 3) := by decide +kernel
theorem dX6_wrongType_31 : decode cX6_wrongType 31 = .ok (.ireturn, 1) := by decide +kernel
theorem dX6_wrongType_32 : decode cX6_wrongType 32 = .ok (.iinc 2 1, 3) := by decide +kernel
theorem dX6_wrongType_35 : decode cX6_wrongType 35 = .ok (.goto (-28), 3) := by decide +kernel
theorem dX6_wrongType_38 : decode cX6_wrongType 38 = .ok (.iconst 0, 1) := by decide +kernel
theorem dX6_wrongType_39 : decode cX6_wrongType 39 = .ok (.istore_n 2, 1) := by decide +kernel
theorem dX6_wrongType_40 : decode cX6_wrongType 40 = .ok (.iload_n 2, 1) := by decide +kernel
theorem dX6_wrongType_41 : decode cX6_wrongType 41 = .ok (.aload_n 0, 1) := by decide +kernel
theorem dX6_wrongType_42 : decode cX6_wrongType 42 = .ok (.getfield 58, 3) := by decide +kernel
theorem dX6_wrongType_45 : decode cX6_wrongType 45 = .ok (.if_icmp .ge 37, 3) := by decide +kernel
theorem dX6_wrongType_48 : decode cX6_wrongType 48 = .ok (.aload_n 0, 1) := by decide +kernel
theorem dX6_wrongType_49 : decode cX6_wrongType 49 = .ok (.getfield 55, 3) := by decide +kernel
theorem dX6_wrongType_52 : decode cX6_wrongType 52 = .ok (.iload_n 2, 1) := by decide +kernel
theorem dX6_wrongType_53 : decode cX6_wrongType 53 = .ok (.invokestatic 25, 3) := by decide +kernel
theorem dX6_wrongType_56 : decode cX6_wrongType 56 = .ok (.istore_n 3, 1) := by decide +kernel
theorem dX6_wrongType_57 : decode cX6_wrongType 57 = .ok (.aload_n 1, 1) := by decide +kernel
theorem dX6_wrongType_58 : decode cX6_wrongType 58 = .ok (.getfield 98, 3) := by decide +kernel
theorem dX6_wrongType_61 : decode cX6_wrongType 61 = .ok (.aload_n 0, 1) := by decide +kernel
theorem dX6_wrongType_62 : decode cX6_wrongType 62 = .ok (.iload_n 3, 1) := by decide +kernel
theorem dX6_wrongType_63 : decode cX6_wrongType 63 = .ok (.invokevirtual 89, 3) := by decide +kernel
theorem dX6_wrongType_66 : decode cX6_wrongType 66 = .ok (.invokestatic 25, 3) := by decide +kernel
theorem dX6_wrongType_69 : decode cX6_wrongType 69 = .ok (.ifCond .ne 7, 3) := by decide +kernel
theorem dX6_wrongType_72 : decode cX6_wrongType 72 = .ok (.iload_n 3, 1) := by decide +kernel
theorem dX6_wrongType_73 : decode cX6_wrongType 73 = .ok (.iconst 4, 1) := by decide +kernel
theorem dX6_wrongType_74 : decode cX6_wrongType 74 = .ok (.iadd, 1) := by decide +kernel
theorem dX6_wrongType_75 : decode cX6_wrongType 75 = .ok (.ireturn, 1) := by decide +kernel
theorem dX6_wrongType_76 : decode cX6_wrongType 76 = .ok (.iinc 2 1, 3) := by decide +kernel
theorem dX6_wrongType_79 : decode cX6_wrongType 79 = .ok (.goto (-39), 3) := by decide +kernel
theorem dX6_wrongType_82 : decode cX6_wrongType 82 = .ok (.iconst 0, 1) := by decide +kernel
theorem dX6_wrongType_83 : decode cX6_wrongType 83 = .ok (.istore_n 2, 1) := by decide +kernel
theorem dX6_wrongType_84 : decode cX6_wrongType 84 = .ok (.iload_n 2, 1) := by decide +kernel
theorem dX6_wrongType_85 : decode cX6_wrongType 85 = .ok (.aload_n 0, 1) := by decide +kernel
theorem dX6_wrongType_86 : decode cX6_wrongType 86 = .ok (.getfield 68, 3) := by decide +kernel
theorem dX6_wrongType_89 : decode cX6_wrongType 89 = .ok (.if_icmp .ge 55, 3) := by decide +kernel
theorem dX6_wrongType_92 : decode cX6_wrongType 92 = .ok (.aload_n 0, 1) := by decide +kernel
theorem dX6_wrongType_93 : decode cX6_wrongType 93 = .ok (.getfield 65, 3) := by decide +kernel
theorem dX6_wrongType_96 : decode cX6_wrongType 96 = .ok (.iload_n 2, 1) := by decide +kernel
theorem dX6_wrongType_97 : decode cX6_wrongType 97 = .ok (.invokestatic 25, 3) := by decide +kernel
theorem dX6_wrongType_100 : decode cX6_wrongType 100 = .ok (.istore_n 3, 1) := by decide +kernel
theorem dX6_wrongType_101 : decode cX6_wrongType 101 = .ok (.aload_n 0, 1) := by decide +kernel
theorem dX6_wrongType_102 : decode cX6_wrongType 102 = .ok (.iload_n 3, 1) := by decide +kernel
theorem dX6_wrongType_103 : decode cX6_wrongType 103 = .ok (.invokevirtual 89, 3) := by decide +kernel
theorem dX6_wrongType_106 : decode cX6_wrongType 106 = .ok (.istore 4, 2) := by decide +kernel
theorem dX6_wrongType_108 : decode cX6_wrongType 108 = .ok (.aload_n 1, 1) := by decide +kernel
theorem dX6_wrongType_109 : decode cX6_wrongType 109 = .ok (.getfield 101, 3) := by decide +kernel
theorem dX6_wrongType_112 : decode cX6_wrongType 112 = .ok (.iload 4, 2) := by decide +kernel
theorem dX6_wrongType_114 : decode cX6_wrongType 114 = .ok (.invokestatic 25, 3) := by decide +kernel
theorem dX6_wrongType_117 : decode cX6_wrongType 117 = .ok (.ifCond .eq 17, 3) := by decide +kernel
theorem dX6_wrongType_120 : decode cX6_wrongType 120 = .ok (.aload_n 1, 1) := by decide +kernel
theorem dX6_wrongType_121 : decode cX6_wrongType 121 = .ok (.getfield 104, 3) := by decide +kernel
theorem dX6_wrongType_124 : decode cX6_wrongType 124 = .ok (.iload 4, 2) := by decide +kernel
theorem dX6_wrongType_126 : decode cX6_wrongType 126 = .ok (.invokestatic 25, 3) := by decide +kernel
theorem dX6_wrongType_129 : decode cX6_wrongType 129 = .ok (.bipush 8, 2) := by decide +kernel
theorem dX6_wrongType_131 : decode cX6_wrongType 131 = .ok (.if_icmp .le 7, 3) := by decide +kernel
theorem dX6_wrongType_134 : decode cX6_wrongType 134 = .ok (.iload_n 3, 1) := by decide +kernel
theorem dX6_wrongType_135 : decode cX6_wrongType 135 = .ok (.iconst 4, 1) := by decide +kernel
theorem dX6_wrongType_136 : decode cX6_wrongType 136 = .ok (.iadd, 1) := by decide +kernel
theorem dX6_wrongType_137 : decode cX6_wrongType 137 = .ok (.ireturn, 1) := by decide +kernel
theorem dX6_wrongType_138 : decode cX6_wrongType 138 = .ok (.iinc 2 1, 3) := by decide +kernel
theorem dX6_wrongType_141 : decode cX6_wrongType 141 = .ok (.goto (-57), 3) := by decide +kernel
theorem dX6_wrongType_144 : decode cX6_wrongType 144 = .ok (.iconst (-1), 1) := by decide +kernel
theorem dX6_wrongType_145 : decode cX6_wrongType 145 = .ok (.ireturn, 1) := by decide +kernel
theorem dX6_pairSuits_0 : decode cX6_pairSuits 0 = .ok (.aload_n 0, 1) := by decide +kernel
theorem dX6_pairSuits_1 : decode cX6_pairSuits 1 = .ok (.bipush 9, 2) := by decide +kernel
theorem dX6_pairSuits_3 : decode cX6_pairSuits 3 = .ok (.iload_n 1, 1) := by decide +kernel
theorem dX6_pairSuits_4 : decode cX6_pairSuits 4 = .ok (.invokevirtual 36, 3) := by decide +kernel
theorem dX6_pairSuits_7 : decode cX6_pairSuits 7 = .ok (.ifCond .eq 30, 3) := by decide +kernel
theorem dX6_pairSuits_10 : decode cX6_pairSuits 10 = .ok (.aload_n 0, 1) := by decide +kernel
theorem dX6_pairSuits_11 : decode cX6_pairSuits 11 = .ok (.getfield 98, 3) := by decide +kernel
theorem dX6_pairSuits_14 : decode cX6_pairSuits 14 = .ok (.aload_n 0, 1) := by decide +kernel
theorem dX6_pairSuits_15 : decode cX6_pairSuits 15 = .ok (.aload_n 0, 1) := by decide +kernel
theorem dX6_pairSuits_16 : decode cX6_pairSuits 16 = .ok (.iload_n 1, 1) := by decide +kernel
theorem dX6_pairSuits_17 : decode cX6_pairSuits 17 = .ok (.iconst 1, 1) := by decide +kernel
theorem dX6_pairSuits_18 : decode cX6_pairSuits 18 = .ok (.invokevirtual 32, 3) := by decide +kernel
theorem dX6_pairSuits_21 : decode cX6_pairSuits 21 = .ok (.iconst 1, 1) := by decide +kernel
theorem dX6_pairSuits_22 : decode cX6_pairSuits 22 = .ok (.invokevirtual 32, 3) := by decide +kernel
theorem dX6_pairSuits_25 : decode cX6_pairSuits 25 = .ok (.invokestatic 25, 3) := by decide +kernel
theorem dX6_pairSuits_28 : decode cX6_pairSuits 28 = .ok (.ifCond .eq 7, 3) := by decide +kernel
theorem dX6_pairSuits_31 : decode cX6_pairSuits 31 = .ok (.iconst 1, 1) := by decide +kernel
theorem dX6_pairSuits_32 : decode cX6_pairSuits 32 = .ok (.goto 4, 3) := by decide +kernel
theorem dX6_pairSuits_35 : decode cX6_pairSuits 35 = .ok (.iconst 0, 1) := by decide +kernel
theorem dX6_pairSuits_36 : decode cX6_pairSuits 36 = .ok (.ireturn, 1) := by decide +kernel
theorem dX6_pairSuits_37 : decode cX6_pairSuits 37 = .ok (.aload_n 0, 1) := by decide +kernel
theorem dX6_pairSuits_38 : decode cX6_pairSuits 38 = .ok (.bipush 10, 2) := by decide +kernel
theorem dX6_pairSuits_40 : decode cX6_pairSuits 40 = .ok (.iload_n 1, 1) := by decide +kernel
theorem dX6_pairSuits_41 : decode cX6_pairSuits 41 = .ok (.invokevirtual 36, 3) := by decide +kernel
theorem dX6_pairSuits_44 : decode cX6_pairSuits 44 = .ok (.ifCond .eq 30, 3) := by decide +kernel
theorem dX6_pairSuits_47 : decode cX6_pairSuits 47 = .ok (.aload_n 0, 1) := by decide +kernel
theorem dX6_pairSuits_48 : decode cX6_pairSuits 48 = .ok (.getfield 101, 3) := by decide +kernel
theorem dX6_pairSuits_51 : decode cX6_pairSuits 51 = .ok (.aload_n 0, 1) := by decide +kernel
theorem dX6_pairSuits_52 : decode cX6_pairSuits 52 = .ok (.aload_n 0, 1) := by decide +kernel
theorem dX6_pairSuits_53 : decode cX6_pairSuits 53 = .ok (.iload_n 1, 1) := by decide +kernel
theorem dX6_pairSuits_54 : decode cX6_pairSuits 54 = .ok (.iconst 1, 1) := by decide +kernel
theorem dX6_pairSuits_55 : decode cX6_pairSuits 55 = .ok (.invokevirtual 32, 3) := by decide +kernel
theorem dX6_pairSuits_58 : decode cX6_pairSuits 58 = .ok (.iconst 1, 1) := by decide +kernel
theorem dX6_pairSuits_59 : decode cX6_pairSuits 59 = .ok (.invokevirtual 32, 3) := by decide +kernel
theorem dX6_pairSuits_62 : decode cX6_pairSuits 62 = .ok (.invokestatic 25, 3) := by decide +kernel
theorem dX6_pairSuits_65 : decode cX6_pairSuits 65 = .ok (.ifCond .eq 7, 3) := by decide +kernel
theorem dX6_pairSuits_68 : decode cX6_pairSuits 68 = .ok (.iconst 1, 1) := by decide +kernel
theorem dX6_pairSuits_69 : decode cX6_pairSuits 69 = .ok (.goto 4, 3) := by decide +kernel
theorem dX6_pairSuits_72 : decode cX6_pairSuits 72 = .ok (.iconst 0, 1) := by decide +kernel
theorem dX6_pairSuits_73 : decode cX6_pairSuits 73 = .ok (.ireturn, 1) := by decide +kernel
theorem dX6_pairSuits_74 : decode cX6_pairSuits 74 = .ok (.iconst 1, 1) := by decide +kernel
theorem dX6_pairSuits_75 : decode cX6_pairSuits 75 = .ok (.ireturn, 1) := by decide +kernel
theorem dX6_repeatedName_0 : decode cX6_repeatedName 0 = .ok (.aload_n 0, 1) := by decide +kernel
theorem dX6_repeatedName_1 : decode cX6_repeatedName 1 = .ok (.aload_n 0, 1) := by decide +kernel
theorem dX6_repeatedName_2 : decode cX6_repeatedName 2 = .ok (.getfield 55, 3) := by decide +kernel
theorem dX6_repeatedName_5 : decode cX6_repeatedName 5 = .ok (.aload_n 0, 1) := by decide +kernel
theorem dX6_repeatedName_6 : decode cX6_repeatedName 6 = .ok (.getfield 58, 3) := by decide +kernel
theorem dX6_repeatedName_9 : decode cX6_repeatedName 9 = .ok (.invokestatic 107, 3) := by decide +kernel
theorem dX6_repeatedName_12 : decode cX6_repeatedName 12 = .ok (.istore_n 1, 1) := by decide +kernel
theorem dX6_repeatedName_13 : decode cX6_repeatedName 13 = .ok (.iload_n 1, 1) := by decide +kernel
theorem dX6_repeatedName_14 : decode cX6_repeatedName 14 = .ok (.iconst (-1), 1) := by decide +kernel
theorem dX6_repeatedName_15 : decode cX6_repeatedName 15 = .ok (.if_icmp .eq 7, 3) := by decide +kernel
theorem dX6_repeatedName_18 : decode cX6_repeatedName 18 = .ok (.iload_n 1, 1) := by decide +kernel
theorem dX6_repeatedName_19 : decode cX6_repeatedName 19 = .ok (.goto 15, 3) := by decide +kernel
theorem dX6_repeatedName_22 : decode cX6_repeatedName 22 = .ok (.aload_n 0, 1) := by decide +kernel
theorem dX6_repeatedName_23 : decode cX6_repeatedName 23 = .ok (.aload_n 0, 1) := by decide +kernel
theorem dX6_repeatedName_24 : decode cX6_repeatedName 24 = .ok (.getfield 65, 3) := by decide +kernel
theorem dX6_repeatedName_27 : decode cX6_repeatedName 27 = .ok (.aload_n 0, 1) := by decide +kernel
theorem dX6_repeatedName_28 : decode cX6_repeatedName 28 = .ok (.getfield 68, 3) := by decide +kernel
theorem dX6_repeatedName_31 : decode cX6_repeatedName 31 = .ok (.invokestatic 107, 3) := by decide +kernel
theorem dX6_repeatedName_34 : decode cX6_repeatedName 34 = .ok (.ireturn, 1) := by decide +kernel
theorem dX6_repeatedMemberName_0 : decode cX6_repeatedMemberName 0 = .ok (.iconst 0, 1) := by decide +kernel
theorem dX6_repeatedMemberName_1 : decode cX6_repeatedMemberName 1 = .ok (.istore_n 3, 1) := by decide +kernel
theorem dX6_repeatedMemberName_2 : decode cX6_repeatedMemberName 2 = .ok (.iload_n 3, 1) := by decide +kernel
theorem dX6_repeatedMemberName_3 : decode cX6_repeatedMemberName 3 = .ok (.iload_n 2, 1) := by decide +kernel
theorem dX6_repeatedMemberName_4 : decode cX6_repeatedMemberName 4 = .ok (.if_icmp .ge 61, 3) := by decide +kernel
theorem dX6_repeatedMemberName_7 : decode cX6_repeatedMemberName 7 = .ok (.iconst 0, 1) := by decide +kernel
theorem dX6_repeatedMemberName_8 : decode cX6_repeatedMemberName 8 = .ok (.istore 4, 2) := by decide +kernel
theorem dX6_repeatedMemberName_10 : decode cX6_repeatedMemberName 10 = .ok (.iload 4, 2) := by decide +kernel
theorem dX6_repeatedMemberName_12 : decode cX6_repeatedMemberName 12 = .ok (.iload_n 3, 1) := by decide +kernel
theorem dX6_repeatedMemberName_13 : decode cX6_repeatedMemberName 13 = .ok (.if_icmp .ge 46, 3) := by decide +kernel
theorem dX6_repeatedMemberName_16 : decode cX6_repeatedMemberName 16 = .ok (.aload_n 0, 1) := by decide +kernel
theorem dX6_repeatedMemberName_17 : decode cX6_repeatedMemberName 17 = .ok (.getfield 71, 3) := by decide +kernel
theorem dX6_repeatedMemberName_20 : decode cX6_repeatedMemberName 20 = .ok (.aload_n 0, 1) := by decide +kernel
theorem dX6_repeatedMemberName_21 : decode cX6_repeatedMemberName 21 = .ok (.aload_n 1, 1) := by decide +kernel
theorem dX6_repeatedMemberName_22 : decode cX6_repeatedMemberName 22 = .ok (.iload_n 3, 1) := by decide +kernel
theorem dX6_repeatedMemberName_23 : decode cX6_repeatedMemberName 23 = .ok (.invokestatic 25, 3) := by decide +kernel
theorem dX6_repeatedMemberName_26 : decode cX6_repeatedMemberName 26 = .ok (.invokevirtual 86, 3) := by decide +kernel
theorem dX6_repeatedMemberName_29 : decode cX6_repeatedMemberName 29 = .ok (.aload_n 0, 1) := by decide +kernel
theorem dX6_repeatedMemberName_30 : decode cX6_repeatedMemberName 30 = .ok (.aload_n 1, 1) := by decide +kernel
theorem dX6_repeatedMemberName_31 : decode cX6_repeatedMemberName 31 = .ok (.iload 4, 2) := by decide +kernel
theorem dX6_repeatedMemberName_33 : decode cX6_repeatedMemberName 33 = .ok (.invokestatic 25, 3) := by decide +kernel
theorem dX6_repeatedMemberName_36 : decode cX6_repeatedMemberName 36 = .ok (.invokevirtual 86, 3) := by decide +kernel
theorem dX6_repeatedMemberName_39 : decode cX6_repeatedMemberName 39 = .ok (.invokevirtual 110, 3) := by decide +kernel
theorem dX6_repeatedMemberName_42 : decode cX6_repeatedMemberName 42 = .ok (.ifCond .eq 11, 3) := by decide +kernel
theorem dX6_repeatedMemberName_45 : decode cX6_repeatedMemberName 45 = .ok (.aload_n 1, 1) := by decide +kernel
theorem dX6_repeatedMemberName_46 : decode cX6_repeatedMemberName 46 = .ok (.iload_n 3, 1) := by decide +kernel
theorem dX6_repeatedMemberName_47 : decode cX6_repeatedMemberName 47 = .ok (.invokestatic 25, 3) := by decide +kernel
theorem dX6_repeatedMemberName_50 : decode cX6_repeatedMemberName 50 = .ok (.iconst 2, 1) := by decide +kernel
theorem dX6_repeatedMemberName_51 : decode cX6_repeatedMemberName 51 = .ok (.iadd, 1) := by decide +kernel
theorem dX6_repeatedMemberName_52 : decode cX6_repeatedMemberName 52 = .ok (.ireturn, 1) := by decide +kernel
theorem dX6_repeatedMemberName_53 : decode cX6_repeatedMemberName 53 = .ok (.iinc 4 1, 3) := by decide +kernel
theorem dX6_repeatedMemberName_56 : decode cX6_repeatedMemberName 56 = .ok (.goto (-46), 3) := by decide +kernel
theorem dX6_repeatedMemberName_59 : decode cX6_repeatedMemberName 59 = .ok (.iinc 3 1, 3) := by decide +kernel
theorem dX6_repeatedMemberName_62 : decode cX6_repeatedMemberName 62 = .ok (.goto (-60), 3) := by decide +kernel
theorem dX6_repeatedMemberName_65 : decode cX6_repeatedMemberName 65 = .ok (.iconst (-1), 1) := by decide +kernel
theorem dX6_repeatedMemberName_66 : decode cX6_repeatedMemberName 66 = .ok (.ireturn, 1) := by decide +kernel
theorem dX6_wrongCode_0 : decode cX6_wrongCode 0 = .ok (.iconst 0, 1) := by decide +kernel
theorem dX6_wrongCode_1 : decode cX6_wrongCode 1 = .ok (.istore_n 1, 1) := by decide +kernel
theorem dX6_wrongCode_2 : decode cX6_wrongCode 2 = .ok (.iload_n 1, 1) := by decide +kernel
theorem dX6_wrongCode_3 : decode cX6_wrongCode 3 = .ok (.aload_n 0, 1) := by decide +kernel
theorem dX6_wrongCode_4 : decode cX6_wrongCode 4 = .ok (.getfield 68, 3) := by decide +kernel
theorem dX6_wrongCode_7 : decode cX6_wrongCode 7 = .ok (.if_icmp .ge 42, 3) := by decide +kernel
theorem dX6_wrongCode_10 : decode cX6_wrongCode 10 = .ok (.aload_n 0, 1) := by decide +kernel
theorem dX6_wrongCode_11 : decode cX6_wrongCode 11 = .ok (.iload_n 1, 1) := by decide +kernel
theorem dX6_wrongCode_12 : decode cX6_wrongCode 12 = .ok (.invokevirtual 113, 3) := by decide +kernel
theorem dX6_wrongCode_15 : decode cX6_wrongCode 15 = .ok (.astore_n 2, 1) := by decide +kernel
theorem dX6_wrongCode_16 : decode cX6_wrongCode 16 = .ok (.aload_n 0, 1) := by decide +kernel
theorem dX6_wrongCode_17 : decode cX6_wrongCode 17 = .ok (.getfield 65, 3) := by decide +kernel
theorem dX6_wrongCode_20 : decode cX6_wrongCode 20 = .ok (.iload_n 1, 1) := by decide +kernel
theorem dX6_wrongCode_21 : decode cX6_wrongCode 21 = .ok (.invokestatic 25, 3) := by decide +kernel
theorem dX6_wrongCode_24 : decode cX6_wrongCode 24 = .ok (.istore_n 3, 1) := by decide +kernel
theorem dX6_wrongCode_25 : decode cX6_wrongCode 25 = .ok (.aload_n 2, 1) := by decide +kernel
theorem dX6_wrongCode_26 : decode cX6_wrongCode 26 = .ok (.ifnull 15, 3) := by decide +kernel
theorem dX6_wrongCode_29 : decode cX6_wrongCode 29 = .ok (.aload_n 0, 1) := by decide +kernel
theorem dX6_wrongCode_30 : decode cX6_wrongCode 30 = .ok (.aload_n 2, 1) := by decide +kernel
theorem dX6_wrongCode_31 : decode cX6_wrongCode 31 = .ok (.iload_n 3, 1) := by decide +kernel
theorem dX6_wrongCode_32 : decode cX6_wrongCode 32 = .ok (.bipush 6, 2) := by decide +kernel
theorem dX6_wrongCode_34 : decode cX6_wrongCode 34 = .ok (.iadd, 1) := by decide +kernel
theorem dX6_wrongCode_35 : decode cX6_wrongCode 35 = .ok (.invokestatic 117, 3) := by decide +kernel
theorem dX6_wrongCode_38 : decode cX6_wrongCode 38 = .ok (.ifCond .ne 5, 3) := by decide +kernel
theorem dX6_wrongCode_41 : decode cX6_wrongCode 41 = .ok (.iload_n 3, 1) := by decide +kernel
theorem dX6_wrongCode_42 : decode cX6_wrongCode 42 = .ok (.ireturn, 1) := by decide +kernel
theorem dX6_wrongCode_43 : decode cX6_wrongCode 43 = .ok (.iinc 1 1, 3) := by decide +kernel
theorem dX6_wrongCode_46 : decode cX6_wrongCode 46 = .ok (.goto (-44), 3) := by decide +kernel
theorem dX6_wrongCode_49 : decode cX6_wrongCode 49 = .ok (.iconst (-1), 1) := by decide +kernel
theorem dX6_wrongCode_50 : decode cX6_wrongCode 50 = .ok (.ireturn, 1) := by decide +kernel
theorem dX6_findsOneCode_0 : decode cX6_findsOneCode 0 = .ok (.iconst 0, 1) := by decide +kernel
theorem dX6_findsOneCode_1 : decode cX6_findsOneCode 1 = .ok (.istore_n 3, 1) := by decide +kernel
theorem dX6_findsOneCode_2 : decode cX6_findsOneCode 2 = .ok (.aload_n 0, 1) := by decide +kernel
theorem dX6_findsOneCode_3 : decode cX6_findsOneCode 3 = .ok (.getfield 40, 3) := by decide +kernel
theorem dX6_findsOneCode_6 : decode cX6_findsOneCode 6 = .ok (.iload_n 2, 1) := by decide +kernel
theorem dX6_findsOneCode_7 : decode cX6_findsOneCode 7 = .ok (.invokevirtual 49, 3) := by decide +kernel
theorem dX6_findsOneCode_10 : decode cX6_findsOneCode 10 = .ok (.istore 4, 2) := by decide +kernel
theorem dX6_findsOneCode_12 : decode cX6_findsOneCode 12 = .ok (.iload_n 2, 1) := by decide +kernel
theorem dX6_findsOneCode_13 : decode cX6_findsOneCode 13 = .ok (.iconst 2, 1) := by decide +kernel
theorem dX6_findsOneCode_14 : decode cX6_findsOneCode 14 = .ok (.iadd, 1) := by decide +kernel
theorem dX6_findsOneCode_15 : decode cX6_findsOneCode 15 = .ok (.istore 5, 2) := by decide +kernel
theorem dX6_findsOneCode_17 : decode cX6_findsOneCode 17 = .ok (.iconst 0, 1) := by decide +kernel
theorem dX6_findsOneCode_18 : decode cX6_findsOneCode 18 = .ok (.istore 6, 2) := by decide +kernel
theorem dX6_findsOneCode_20 : decode cX6_findsOneCode 20 = .ok (.iload 6, 2) := by decide +kernel
theorem dX6_findsOneCode_22 : decode cX6_findsOneCode 22 = .ok (.iload 4, 2) := by decide +kernel
theorem dX6_findsOneCode_24 : decode cX6_findsOneCode 24 = .ok (.if_icmp .ge 58, 3) := by decide +kernel
theorem dX6_findsOneCode_27 : decode cX6_findsOneCode 27 = .ok (.aload_n 0, 1) := by decide +kernel
theorem dX6_findsOneCode_28 : decode cX6_findsOneCode 28 = .ok (.getfield 71, 3) := by decide +kernel
theorem dX6_findsOneCode_31 : decode cX6_findsOneCode 31 = .ok (.aload_n 0, 1) := by decide +kernel
theorem dX6_findsOneCode_32 : decode cX6_findsOneCode 32 = .ok (.getfield 40, 3) := by decide +kernel
theorem dX6_findsOneCode_35 : decode cX6_findsOneCode 35 = .ok (.iload 5, 2) := by decide +kernel
theorem dX6_findsOneCode_37 : decode cX6_findsOneCode 37 = .ok (.invokevirtual 49, 3) := by decide +kernel
theorem dX6_findsOneCode_40 : decode cX6_findsOneCode 40 = .ok (.ldc 121, 2) := by decide +kernel
theorem dX6_findsOneCode_42 : decode cX6_findsOneCode 42 = .ok (.invokevirtual 123, 3) := by decide +kernel
theorem dX6_findsOneCode_45 : decode cX6_findsOneCode 45 = .ok (.ifCond .eq 12, 3) := by decide +kernel
theorem dX6_findsOneCode_48 : decode cX6_findsOneCode 48 = .ok (.aload_n 1, 1) := by decide +kernel
theorem dX6_findsOneCode_49 : decode cX6_findsOneCode 49 = .ok (.iload 5, 2) := by decide +kernel
theorem dX6_findsOneCode_51 : decode cX6_findsOneCode 51 = .ok (.putfield 127, 3) := by decide +kernel
theorem dX6_findsOneCode_54 : decode cX6_findsOneCode 54 = .ok (.iinc 3 1, 3) := by decide +kernel
theorem dX6_findsOneCode_57 : decode cX6_findsOneCode 57 = .ok (.iload 5, 2) := by decide +kernel
theorem dX6_findsOneCode_59 : decode cX6_findsOneCode 59 = .ok (.bipush 6, 2) := by decide +kernel
theorem dX6_findsOneCode_61 : decode cX6_findsOneCode 61 = .ok (.aload_n 0, 1) := by decide +kernel
theorem dX6_findsOneCode_62 : decode cX6_findsOneCode 62 = .ok (.getfield 40, 3) := by decide +kernel
theorem dX6_findsOneCode_65 : decode cX6_findsOneCode 65 = .ok (.iload 5, 2) := by decide +kernel
theorem dX6_findsOneCode_67 : decode cX6_findsOneCode 67 = .ok (.iconst 2, 1) := by decide +kernel
theorem dX6_findsOneCode_68 : decode cX6_findsOneCode 68 = .ok (.iadd, 1) := by decide +kernel
theorem dX6_findsOneCode_69 : decode cX6_findsOneCode 69 = .ok (.invokevirtual 92, 3) := by decide +kernel
theorem dX6_findsOneCode_72 : decode cX6_findsOneCode 72 = .ok (.iadd, 1) := by decide +kernel
theorem dX6_findsOneCode_73 : decode cX6_findsOneCode 73 = .ok (.iadd, 1) := by decide +kernel
theorem dX6_findsOneCode_74 : decode cX6_findsOneCode 74 = .ok (.istore 5, 2) := by decide +kernel
theorem dX6_findsOneCode_76 : decode cX6_findsOneCode 76 = .ok (.iinc 6 1, 3) := by decide +kernel
theorem dX6_findsOneCode_79 : decode cX6_findsOneCode 79 = .ok (.goto (-59), 3) := by decide +kernel
theorem dX6_findsOneCode_82 : decode cX6_findsOneCode 82 = .ok (.iload_n 3, 1) := by decide +kernel
theorem dX6_findsOneCode_83 : decode cX6_findsOneCode 83 = .ok (.iconst 1, 1) := by decide +kernel
theorem dX6_findsOneCode_84 : decode cX6_findsOneCode 84 = .ok (.if_icmp .ne 7, 3) := by decide +kernel
theorem dX6_findsOneCode_87 : decode cX6_findsOneCode 87 = .ok (.iconst 1, 1) := by decide +kernel
theorem dX6_findsOneCode_88 : decode cX6_findsOneCode 88 = .ok (.goto 4, 3) := by decide +kernel
theorem dX6_findsOneCode_91 : decode cX6_findsOneCode 91 = .ok (.iconst 0, 1) := by decide +kernel
theorem dX6_findsOneCode_92 : decode cX6_findsOneCode 92 = .ok (.ireturn, 1) := by decide +kernel
theorem dX7_init_0 : decode cX7_init 0 = .ok (.aload_n 0, 1) := by decide +kernel
theorem dX7_init_1 : decode cX7_init 1 = .ok (.invokespecial 3, 3) := by decide +kernel
theorem dX7_init_4 : decode cX7_init 4 = .ok (.aload_n 0, 1) := by decide +kernel
theorem dX7_init_5 : decode cX7_init 5 = .ok (.aload_n 1, 1) := by decide +kernel
theorem dX7_init_6 : decode cX7_init 6 = .ok (.putfield 9, 3) := by decide +kernel
theorem dX7_init_9 : decode cX7_init 9 = .ok (.aload_n 0, 1) := by decide +kernel
theorem dX7_init_10 : decode cX7_init 10 = .ok (.sipush 500, 3) := by decide +kernel
theorem dX7_init_13 : decode cX7_init 13 = .ok (.newarray .int, 2) := by decide +kernel
theorem dX7_init_15 : decode cX7_init 15 = .ok (.putfield 15, 3) := by decide +kernel
theorem dX7_init_18 : decode cX7_init 18 = .ok (.aload_n 0, 1) := by decide +kernel
theorem dX7_init_19 : decode cX7_init 19 = .ok (.sipush 500, 3) := by decide +kernel
theorem dX7_init_22 : decode cX7_init 22 = .ok (.newarray .int, 2) := by decide +kernel
theorem dX7_init_24 : decode cX7_init 24 = .ok (.putfield 19, 3) := by decide +kernel
theorem dX7_init_27 : decode cX7_init 27 = .ok (.aload_n 0, 1) := by decide +kernel
theorem dX7_init_28 : decode cX7_init 28 = .ok (.sipush 500, 3) := by decide +kernel
theorem dX7_init_31 : decode cX7_init 31 = .ok (.newarray .int, 2) := by decide +kernel
theorem dX7_init_33 : decode cX7_init 33 = .ok (.putfield 22, 3) := by decide +kernel
theorem dX7_init_36 : decode cX7_init 36 = .ok (.aload_n 0, 1) := by decide +kernel
theorem dX7_init_37 : decode cX7_init 37 = .ok (.sipush 500, 3) := by decide +kernel
theorem dX7_init_40 : decode cX7_init 40 = .ok (.newarray .int, 2) := by decide +kernel
theorem dX7_init_42 : decode cX7_init 42 = .ok (.putfield 25, 3) := by decide +kernel
theorem dX7_init_45 : decode cX7_init 45 = .ok (.aload_n 0, 1) := by decide +kernel
theorem dX7_init_46 : decode cX7_init 46 = .ok (.sipush 500, 3) := by decide +kernel
theorem dX7_init_49 : decode cX7_init 49 = .ok (.newarray .int, 2) := by decide +kernel
theorem dX7_init_51 : decode cX7_init 51 = .ok (.putfield 28, 3) := by decide +kernel
theorem dX7_init_54 : decode cX7_init 54 = .ok (.aload_n 0, 1) := by decide +kernel
theorem dX7_init_55 : decode cX7_init 55 = .ok (.sipush 500, 3) := by decide +kernel
theorem dX7_init_58 : decode cX7_init 58 = .ok (.newarray .int, 2) := by decide +kernel
theorem dX7_init_60 : decode cX7_init 60 = .ok (.putfield 31, 3) := by decide +kernel
theorem dX7_init_63 : decode cX7_init 63 = .ok (.aload_n 0, 1) := by decide +kernel
theorem dX7_init_64 : decode cX7_init 64 = .ok (.sipush 500, 3) := by decide +kernel
theorem dX7_init_67 : decode cX7_init 67 = .ok (.newarray .int, 2) := by decide +kernel
theorem dX7_init_69 : decode cX7_init 69 = .ok (.putfield 34, 3) := by decide +kernel
theorem dX7_init_72 : decode cX7_init 72 = .ok (.aload_n 0, 1) := by decide +kernel
theorem dX7_init_73 : decode cX7_init 73 = .ok (.iconst 0, 1) := by decide +kernel
theorem dX7_init_74 : decode cX7_init 74 = .ok (.putfield 37, 3) := by decide +kernel
theorem dX7_init_77 : decode cX7_init 77 = .ok (.return_, 1) := by decide +kernel
theorem dX7_clear_0 : decode cX7_clear 0 = .ok (.aload_n 0, 1) := by decide +kernel
theorem dX7_clear_1 : decode cX7_clear 1 = .ok (.iload_n 1, 1) := by decide +kernel
theorem dX7_clear_2 : decode cX7_clear 2 = .ok (.putfield 37, 3) := by decide +kernel
theorem dX7_clear_5 : decode cX7_clear 5 = .ok (.iconst 0, 1) := by decide +kernel
theorem dX7_clear_6 : decode cX7_clear 6 = .ok (.istore_n 2, 1) := by decide +kernel
theorem dX7_clear_7 : decode cX7_clear 7 = .ok (.iload_n 2, 1) := by decide +kernel
theorem dX7_clear_8 : decode cX7_clear 8 = .ok (.iload_n 1, 1) := by decide +kernel
theorem dX7_clear_9 : decode cX7_clear 9 = .ok (.if_icmp .ge 72, 3) := by decide +kernel
theorem dX7_clear_12 : decode cX7_clear 12 = .ok (.aload_n 0, 1) := by decide +kernel
theorem dX7_clear_13 : decode cX7_clear 13 = .ok (.getfield 15, 3) := by decide +kernel
theorem dX7_clear_16 : decode cX7_clear 16 = .ok (.iload_n 2, 1) := by decide +kernel
theorem dX7_clear_17 : decode cX7_clear 17 = .ok (.iconst 0, 1) := by decide +kernel
theorem dX7_clear_18 : decode cX7_clear 18 = .ok (.invokestatic 41, 3) := by decide +kernel
theorem dX7_clear_21 : decode cX7_clear 21 = .ok (.aload_n 0, 1) := by decide +kernel
theorem dX7_clear_22 : decode cX7_clear 22 = .ok (.getfield 19, 3) := by decide +kernel
theorem dX7_clear_25 : decode cX7_clear 25 = .ok (.iload_n 2, 1) := by decide +kernel
theorem dX7_clear_26 : decode cX7_clear 26 = .ok (.iconst 0, 1) := by decide +kernel
theorem dX7_clear_27 : decode cX7_clear 27 = .ok (.invokestatic 41, 3) := by decide +kernel
theorem dX7_clear_30 : decode cX7_clear 30 = .ok (.aload_n 0, 1) := by decide +kernel
theorem dX7_clear_31 : decode cX7_clear 31 = .ok (.getfield 22, 3) := by decide +kernel
theorem dX7_clear_34 : decode cX7_clear 34 = .ok (.iload_n 2, 1) := by decide +kernel
theorem dX7_clear_35 : decode cX7_clear 35 = .ok (.iconst 0, 1) := by decide +kernel
theorem dX7_clear_36 : decode cX7_clear 36 = .ok (.invokestatic 41, 3) := by decide +kernel
theorem dX7_clear_39 : decode cX7_clear 39 = .ok (.aload_n 0, 1) := by decide +kernel
theorem dX7_clear_40 : decode cX7_clear 40 = .ok (.getfield 25, 3) := by decide +kernel
theorem dX7_clear_43 : decode cX7_clear 43 = .ok (.iload_n 2, 1) := by decide +kernel
theorem dX7_clear_44 : decode cX7_clear 44 = .ok (.iconst 0, 1) := by decide +kernel
theorem dX7_clear_45 : decode cX7_clear 45 = .ok (.invokestatic 41, 3) := by decide +kernel
theorem dX7_clear_48 : decode cX7_clear 48 = .ok (.aload_n 0, 1) := by decide +kernel
theorem dX7_clear_49 : decode cX7_clear 49 = .ok (.getfield 28, 3) := by decide +kernel
theorem dX7_clear_52 : decode cX7_clear 52 = .ok (.iload_n 2, 1) := by decide +kernel
theorem dX7_clear_53 : decode cX7_clear 53 = .ok (.iconst 0, 1) := by decide +kernel
theorem dX7_clear_54 : decode cX7_clear 54 = .ok (.invokestatic 41, 3) := by decide +kernel
theorem dX7_clear_57 : decode cX7_clear 57 = .ok (.aload_n 0, 1) := by decide +kernel
theorem dX7_clear_58 : decode cX7_clear 58 = .ok (.getfield 31, 3) := by decide +kernel
theorem dX7_clear_61 : decode cX7_clear 61 = .ok (.iload_n 2, 1) := by decide +kernel
theorem dX7_clear_62 : decode cX7_clear 62 = .ok (.iconst 0, 1) := by decide +kernel
theorem dX7_clear_63 : decode cX7_clear 63 = .ok (.invokestatic 41, 3) := by decide +kernel
theorem dX7_clear_66 : decode cX7_clear 66 = .ok (.aload_n 0, 1) := by decide +kernel
theorem dX7_clear_67 : decode cX7_clear 67 = .ok (.getfield 34, 3) := by decide +kernel
theorem dX7_clear_70 : decode cX7_clear 70 = .ok (.iload_n 2, 1) := by decide +kernel
theorem dX7_clear_71 : decode cX7_clear 71 = .ok (.iconst (-1), 1) := by decide +kernel
theorem dX7_clear_72 : decode cX7_clear 72 = .ok (.invokestatic 41, 3) := by decide +kernel
theorem dX7_clear_75 : decode cX7_clear 75 = .ok (.iinc 2 1, 3) := by decide +kernel
theorem dX7_clear_78 : decode cX7_clear 78 = .ok (.goto (-71), 3) := by decide +kernel
theorem dX7_clear_81 : decode cX7_clear 81 = .ok (.return_, 1) := by decide +kernel
theorem dX7_add_0 : decode cX7_add 0 = .ok (.aload_n 0, 1) := by decide +kernel
theorem dX7_add_1 : decode cX7_add 1 = .ok (.getfield 9, 3) := by decide +kernel
theorem dX7_add_4 : decode cX7_add 4 = .ok (.iload_n 2, 1) := by decide +kernel
theorem dX7_add_5 : decode cX7_add 5 = .ok (.invokevirtual 45, 3) := by decide +kernel
theorem dX7_add_8 : decode cX7_add 8 = .ok (.istore_n 3, 1) := by decide +kernel
theorem dX7_add_9 : decode cX7_add 9 = .ok (.aload_n 0, 1) := by decide +kernel
theorem dX7_add_10 : decode cX7_add 10 = .ok (.getfield 15, 3) := by decide +kernel
theorem dX7_add_13 : decode cX7_add 13 = .ok (.iload_n 1, 1) := by decide +kernel
theorem dX7_add_14 : decode cX7_add 14 = .ok (.iload_n 2, 1) := by decide +kernel
theorem dX7_add_15 : decode cX7_add 15 = .ok (.invokestatic 41, 3) := by decide +kernel
theorem dX7_add_18 : decode cX7_add 18 = .ok (.aload_n 0, 1) := by decide +kernel
theorem dX7_add_19 : decode cX7_add 19 = .ok (.getfield 19, 3) := by decide +kernel
theorem dX7_add_22 : decode cX7_add 22 = .ok (.iload_n 1, 1) := by decide +kernel
theorem dX7_add_23 : decode cX7_add 23 = .ok (.iload_n 3, 1) := by decide +kernel
theorem dX7_add_24 : decode cX7_add 24 = .ok (.invokestatic 41, 3) := by decide +kernel
theorem dX7_add_27 : decode cX7_add 27 = .ok (.aload_n 0, 1) := by decide +kernel
theorem dX7_add_28 : decode cX7_add 28 = .ok (.getfield 22, 3) := by decide +kernel
theorem dX7_add_31 : decode cX7_add 31 = .ok (.iload_n 1, 1) := by decide +kernel
theorem dX7_add_32 : decode cX7_add 32 = .ok (.iload_n 3, 1) := by decide +kernel
theorem dX7_add_33 : decode cX7_add 33 = .ok (.iconst 1, 1) := by decide +kernel
theorem dX7_add_34 : decode cX7_add 34 = .ok (.if_icmp .ne 16, 3) := by decide +kernel
theorem dX7_add_37 : decode cX7_add 37 = .ok (.aload_n 0, 1) := by decide +kernel
theorem dX7_add_38 : decode cX7_add 38 = .ok (.getfield 9, 3) := by decide +kernel
theorem dX7_add_41 : decode cX7_add 41 = .ok (.iload_n 2, 1) := by decide +kernel
theorem dX7_add_42 : decode cX7_add 42 = .ok (.iconst 1, 1) := by decide +kernel
theorem dX7_add_43 : decode cX7_add 43 = .ok (.iadd, 1) := by decide +kernel
theorem dX7_add_44 : decode cX7_add 44 = .ok (.invokevirtual 51, 3) := by decide +kernel
theorem dX7_add_47 : decode cX7_add 47 = .ok (.goto 4, 3) := by decide +kernel
theorem dX7_add_50 : decode cX7_add 50 = .ok (.iconst 0, 1) := by decide +kernel
theorem dX7_add_51 : decode cX7_add 51 = .ok (.invokestatic 41, 3) := by decide +kernel
theorem dX7_add_54 : decode cX7_add 54 = .ok (.return_, 1) := by decide +kernel
theorem dX7_is_0 : decode cX7_is 0 = .ok (.iload_n 2, 1) := by decide +kernel
theorem dX7_is_1 : decode cX7_is 1 = .ok (.ifCond .le 27, 3) := by decide +kernel
theorem dX7_is_4 : decode cX7_is 4 = .ok (.iload_n 2, 1) := by decide +kernel
theorem dX7_is_5 : decode cX7_is 5 = .ok (.aload_n 0, 1) := by decide +kernel
theorem dX7_is_6 : decode cX7_is 6 = .ok (.getfield 37, 3) := by decide +kernel
theorem dX7_is_9 : decode cX7_is 9 = .ok (.if_icmp .ge 19, 3) := by decide +kernel
theorem dX7_is_12 : decode cX7_is 12 = .ok (.aload_n 0, 1) := by decide +kernel
theorem dX7_is_13 : decode cX7_is 13 = .ok (.getfield 19, 3) := by decide +kernel
theorem dX7_is_16 : decode cX7_is 16 = .ok (.iload_n 2, 1) := by decide +kernel
theorem dX7_is_17 : decode cX7_is 17 = .ok (.invokestatic 54, 3) := by decide +kernel
theorem dX7_is_20 : decode cX7_is 20 = .ok (.iload_n 1, 1) := by decide +kernel
theorem dX7_is_21 : decode cX7_is 21 = .ok (.if_icmp .ne 7, 3) := by decide +kernel
theorem dX7_is_24 : decode cX7_is 24 = .ok (.iconst 1, 1) := by decide +kernel
theorem dX7_is_25 : decode cX7_is 25 = .ok (.goto 4, 3) := by decide +kernel
theorem dX7_is_28 : decode cX7_is 28 = .ok (.iconst 0, 1) := by decide +kernel
theorem dX7_is_29 : decode cX7_is 29 = .ok (.ireturn, 1) := by decide +kernel
theorem dX7_part_0 : decode cX7_part 0 = .ok (.aload_n 0, 1) := by decide +kernel
theorem dX7_part_1 : decode cX7_part 1 = .ok (.getfield 9, 3) := by decide +kernel
theorem dX7_part_4 : decode cX7_part 4 = .ok (.aload_n 0, 1) := by decide +kernel
theorem dX7_part_5 : decode cX7_part 5 = .ok (.getfield 15, 3) := by decide +kernel
theorem dX7_part_8 : decode cX7_part 8 = .ok (.iload_n 1, 1) := by decide +kernel
theorem dX7_part_9 : decode cX7_part 9 = .ok (.invokestatic 54, 3) := by decide +kernel
theorem dX7_part_12 : decode cX7_part 12 = .ok (.iconst 1, 1) := by decide +kernel
theorem dX7_part_13 : decode cX7_part 13 = .ok (.iadd, 1) := by decide +kernel
theorem dX7_part_14 : decode cX7_part 14 = .ok (.iconst 2, 1) := by decide +kernel
theorem dX7_part_15 : decode cX7_part 15 = .ok (.iload_n 2, 1) := by decide +kernel
theorem dX7_part_16 : decode cX7_part 16 = .ok (.imul, 1) := by decide +kernel
theorem dX7_part_17 : decode cX7_part 17 = .ok (.iadd, 1) := by decide +kernel
theorem dX7_part_18 : decode cX7_part 18 = .ok (.invokevirtual 51, 3) := by decide +kernel
theorem dX7_part_21 : decode cX7_part 21 = .ok (.ireturn, 1) := by decide +kernel
theorem dX7_same_0 : decode cX7_same 0 = .ok (.aload_n 0, 1) := by decide +kernel
theorem dX7_same_1 : decode cX7_same 1 = .ok (.getfield 22, 3) := by decide +kernel
theorem dX7_same_4 : decode cX7_same 4 = .ok (.iload_n 1, 1) := by decide +kernel
theorem dX7_same_5 : decode cX7_same 5 = .ok (.invokestatic 54, 3) := by decide +kernel
theorem dX7_same_8 : decode cX7_same 8 = .ok (.istore_n 3, 1) := by decide +kernel
theorem dX7_same_9 : decode cX7_same 9 = .ok (.iload_n 3, 1) := by decide +kernel
theorem dX7_same_10 : decode cX7_same 10 = .ok (.iconst 1, 1) := by decide +kernel
theorem dX7_same_11 : decode cX7_same 11 = .ok (.if_icmp .lt 15, 3) := by decide +kernel
theorem dX7_same_14 : decode cX7_same 14 = .ok (.iload_n 3, 1) := by decide +kernel
theorem dX7_same_15 : decode cX7_same 15 = .ok (.aload_n 0, 1) := by decide +kernel
theorem dX7_same_16 : decode cX7_same 16 = .ok (.getfield 22, 3) := by decide +kernel
theorem dX7_same_19 : decode cX7_same 19 = .ok (.iload_n 2, 1) := by decide +kernel
theorem dX7_same_20 : decode cX7_same 20 = .ok (.invokestatic 54, 3) := by decide +kernel
theorem dX7_same_23 : decode cX7_same 23 = .ok (.if_icmp .eq 5, 3) := by decide +kernel
theorem dX7_same_26 : decode cX7_same 26 = .ok (.iconst 0, 1) := by decide +kernel
theorem dX7_same_27 : decode cX7_same 27 = .ok (.ireturn, 1) := by decide +kernel
theorem dX7_same_28 : decode cX7_same 28 = .ok (.iconst 0, 1) := by decide +kernel
theorem dX7_same_29 : decode cX7_same 29 = .ok (.istore 4, 2) := by decide +kernel
theorem dX7_same_31 : decode cX7_same 31 = .ok (.iload 4, 2) := by decide +kernel
theorem dX7_same_33 : decode cX7_same 33 = .ok (.iload_n 3, 1) := by decide +kernel
theorem dX7_same_34 : decode cX7_same 34 = .ok (.if_icmp .ge 54, 3) := by decide +kernel
theorem dX7_same_37 : decode cX7_same 37 = .ok (.aload_n 0, 1) := by decide +kernel
theorem dX7_same_38 : decode cX7_same 38 = .ok (.getfield 9, 3) := by decide +kernel
theorem dX7_same_41 : decode cX7_same 41 = .ok (.aload_n 0, 1) := by decide +kernel
theorem dX7_same_42 : decode cX7_same 42 = .ok (.getfield 15, 3) := by decide +kernel
theorem dX7_same_45 : decode cX7_same 45 = .ok (.iload_n 1, 1) := by decide +kernel
theorem dX7_same_46 : decode cX7_same 46 = .ok (.invokestatic 54, 3) := by decide +kernel
theorem dX7_same_49 : decode cX7_same 49 = .ok (.iconst 3, 1) := by decide +kernel
theorem dX7_same_50 : decode cX7_same 50 = .ok (.iadd, 1) := by decide +kernel
theorem dX7_same_51 : decode cX7_same 51 = .ok (.iload 4, 2) := by decide +kernel
theorem dX7_same_53 : decode cX7_same 53 = .ok (.iadd, 1) := by decide +kernel
theorem dX7_same_54 : decode cX7_same 54 = .ok (.invokevirtual 45, 3) := by decide +kernel
theorem dX7_same_57 : decode cX7_same 57 = .ok (.aload_n 0, 1) := by decide +kernel
theorem dX7_same_58 : decode cX7_same 58 = .ok (.getfield 9, 3) := by decide +kernel
theorem dX7_same_61 : decode cX7_same 61 = .ok (.aload_n 0, 1) := by decide +kernel
theorem dX7_same_62 : decode cX7_same 62 = .ok (.getfield 15, 3) := by decide +kernel
theorem dX7_same_65 : decode cX7_same 65 = .ok (.iload_n 2, 1) := by decide +kernel
theorem dX7_same_66 : decode cX7_same 66 = .ok (.invokestatic 54, 3) := by decide +kernel
theorem dX7_same_69 : decode cX7_same 69 = .ok (.iconst 3, 1) := by decide +kernel
theorem dX7_same_70 : decode cX7_same 70 = .ok (.iadd, 1) := by decide +kernel
theorem dX7_same_71 : decode cX7_same 71 = .ok (.iload 4, 2) := by decide +kernel
theorem dX7_same_73 : decode cX7_same 73 = .ok (.iadd, 1) := by decide +kernel
theorem dX7_same_74 : decode cX7_same 74 = .ok (.invokevirtual 45, 3) := by decide +kernel
theorem dX7_same_77 : decode cX7_same 77 = .ok (.if_icmp .eq 5, 3) := by decide +kernel
theorem dX7_same_80 : decode cX7_same 80 = .ok (.iconst 0, 1) := by decide +kernel
theorem dX7_same_81 : decode cX7_same 81 = .ok (.ireturn, 1) := by decide +kernel
theorem dX7_same_82 : decode cX7_same 82 = .ok (.iinc 4 1, 3) := by decide +kernel
theorem dX7_same_85 : decode cX7_same 85 = .ok (.goto (-54), 3) := by decide +kernel
theorem dX7_same_88 : decode cX7_same 88 = .ok (.iconst 1, 1) := by decide +kernel
theorem dX7_same_89 : decode cX7_same 89 = .ok (.ireturn, 1) := by decide +kernel
theorem dX7_says_0 : decode cX7_says 0 = .ok (.aload_n 0, 1) := by decide +kernel
theorem dX7_says_1 : decode cX7_says 1 = .ok (.getfield 22, 3) := by decide +kernel
theorem dX7_says_4 : decode cX7_says 4 = .ok (.iload_n 1, 1) := by decide +kernel
theorem dX7_says_5 : decode cX7_says 5 = .ok (.invokestatic 54, 3) := by decide +kernel
theorem dX7_says_8 : decode cX7_says 8 = .ok (.aload_n 2, 1) := by decide +kernel
theorem dX7_says_9 : decode cX7_says 9 = .ok (.invokevirtual 58, 3) := by decide +kernel
theorem dX7_says_12 : decode cX7_says 12 = .ok (.if_icmp .eq 5, 3) := by decide +kernel
theorem dX7_says_15 : decode cX7_says 15 = .ok (.iconst 0, 1) := by decide +kernel
theorem dX7_says_16 : decode cX7_says 16 = .ok (.ireturn, 1) := by decide +kernel
theorem dX7_says_17 : decode cX7_says 17 = .ok (.iconst 0, 1) := by decide +kernel
theorem dX7_says_18 : decode cX7_says 18 = .ok (.istore_n 3, 1) := by decide +kernel
theorem dX7_says_19 : decode cX7_says 19 = .ok (.iload_n 3, 1) := by decide +kernel
theorem dX7_says_20 : decode cX7_says 20 = .ok (.aload_n 2, 1) := by decide +kernel
theorem dX7_says_21 : decode cX7_says 21 = .ok (.invokevirtual 58, 3) := by decide +kernel
theorem dX7_says_24 : decode cX7_says 24 = .ok (.if_icmp .ge 38, 3) := by decide +kernel
theorem dX7_says_27 : decode cX7_says 27 = .ok (.aload_n 0, 1) := by decide +kernel
theorem dX7_says_28 : decode cX7_says 28 = .ok (.getfield 9, 3) := by decide +kernel
theorem dX7_says_31 : decode cX7_says 31 = .ok (.aload_n 0, 1) := by decide +kernel
theorem dX7_says_32 : decode cX7_says 32 = .ok (.getfield 15, 3) := by decide +kernel
theorem dX7_says_35 : decode cX7_says 35 = .ok (.iload_n 1, 1) := by decide +kernel
theorem dX7_says_36 : decode cX7_says 36 = .ok (.invokestatic 54, 3) := by decide +kernel
theorem dX7_says_39 : decode cX7_says 39 = .ok (.iconst 3, 1) := by decide +kernel
theorem dX7_says_40 : decode cX7_says 40 = .ok (.iadd, 1) := by decide +kernel
theorem dX7_says_41 : decode cX7_says 41 = .ok (.iload_n 3, 1) := by decide +kernel
theorem dX7_says_42 : decode cX7_says 42 = .ok (.iadd, 1) := by decide +kernel
theorem dX7_says_43 : decode cX7_says 43 = .ok (.invokevirtual 45, 3) := by decide +kernel
theorem dX7_says_46 : decode cX7_says 46 = .ok (.aload_n 2, 1) := by decide +kernel
theorem dX7_says_47 : decode cX7_says 47 = .ok (.iload_n 3, 1) := by decide +kernel
theorem dX7_says_48 : decode cX7_says 48 = .ok (.invokevirtual 64, 3) := by decide +kernel
theorem dX7_says_51 : decode cX7_says 51 = .ok (.if_icmp .eq 5, 3) := by decide +kernel
theorem dX7_says_54 : decode cX7_says 54 = .ok (.iconst 0, 1) := by decide +kernel
theorem dX7_says_55 : decode cX7_says 55 = .ok (.ireturn, 1) := by decide +kernel
theorem dX7_says_56 : decode cX7_says 56 = .ok (.iinc 3 1, 3) := by decide +kernel
theorem dX7_says_59 : decode cX7_says 59 = .ok (.goto (-40), 3) := by decide +kernel
theorem dX7_says_62 : decode cX7_says 62 = .ok (.iconst 1, 1) := by decide +kernel
theorem dX7_says_63 : decode cX7_says 63 = .ok (.ireturn, 1) := by decide +kernel
theorem dX8_init_0 : decode cX8_init 0 = .ok (.aload_n 0, 1) := by decide +kernel
theorem dX8_init_1 : decode cX8_init 1 = .ok (.invokespecial 3, 3) := by decide +kernel
theorem dX8_init_4 : decode cX8_init 4 = .ok (.aload_n 0, 1) := by decide +kernel
theorem dX8_init_5 : decode cX8_init 5 = .ok (.aload_n 1, 1) := by decide +kernel
theorem dX8_init_6 : decode cX8_init 6 = .ok (.putfield 9, 3) := by decide +kernel
theorem dX8_init_9 : decode cX8_init 9 = .ok (.aload_n 0, 1) := by decide +kernel
theorem dX8_init_10 : decode cX8_init 10 = .ok (.aload_n 2, 1) := by decide +kernel
theorem dX8_init_11 : decode cX8_init 11 = .ok (.putfield 15, 3) := by decide +kernel
theorem dX8_init_14 : decode cX8_init 14 = .ok (.aload_n 0, 1) := by decide +kernel
theorem dX8_init_15 : decode cX8_init 15 = .ok (.iload_n 3, 1) := by decide +kernel
theorem dX8_init_16 : decode cX8_init 16 = .ok (.putfield 19, 3) := by decide +kernel
theorem dX8_init_19 : decode cX8_init 19 = .ok (.aload_n 0, 1) := by decide +kernel
theorem dX8_init_20 : decode cX8_init 20 = .ok (.iload 4, 2) := by decide +kernel
theorem dX8_init_22 : decode cX8_init 22 = .ok (.putfield 23, 3) := by decide +kernel
theorem dX8_init_25 : decode cX8_init 25 = .ok (.return_, 1) := by decide +kernel
theorem dX8_behind_0 : decode cX8_behind 0 = .ok (.iload_n 2, 1) := by decide +kernel
theorem dX8_behind_1 : decode cX8_behind 1 = .ok (.ifCond .lt 13, 3) := by decide +kernel
theorem dX8_behind_4 : decode cX8_behind 4 = .ok (.iload_n 2, 1) := by decide +kernel
theorem dX8_behind_5 : decode cX8_behind 5 = .ok (.aload_n 0, 1) := by decide +kernel
theorem dX8_behind_6 : decode cX8_behind 6 = .ok (.getfield 19, 3) := by decide +kernel
theorem dX8_behind_9 : decode cX8_behind 9 = .ok (.iload_n 1, 1) := by decide +kernel
theorem dX8_behind_10 : decode cX8_behind 10 = .ok (.isub, 1) := by decide +kernel
theorem dX8_behind_11 : decode cX8_behind 11 = .ok (.if_icmp .le 19, 3) := by decide +kernel
theorem dX8_behind_14 : decode cX8_behind 14 = .ok (.aload_n 0, 1) := by decide +kernel
theorem dX8_behind_15 : decode cX8_behind 15 = .ok (.getfield 15, 3) := by decide +kernel
theorem dX8_behind_18 : decode cX8_behind 18 = .ok (.aload_n 0, 1) := by decide +kernel
theorem dX8_behind_19 : decode cX8_behind 19 = .ok (.getfield 23, 3) := by decide +kernel
theorem dX8_behind_22 : decode cX8_behind 22 = .ok (.aload_n 0, 1) := by decide +kernel
theorem dX8_behind_23 : decode cX8_behind 23 = .ok (.getfield 19, 3) := by decide +kernel
theorem dX8_behind_26 : decode cX8_behind 26 = .ok (.invokevirtual 26, 3) := by decide +kernel
theorem dX8_behind_29 : decode cX8_behind 29 = .ok (.ireturn, 1) := by decide +kernel
theorem dX8_behind_30 : decode cX8_behind 30 = .ok (.iload_n 1, 1) := by decide +kernel
theorem dX8_behind_31 : decode cX8_behind 31 = .ok (.iload_n 2, 1) := by decide +kernel
theorem dX8_behind_32 : decode cX8_behind 32 = .ok (.iadd, 1) := by decide +kernel
theorem dX8_behind_33 : decode cX8_behind 33 = .ok (.ireturn, 1) := by decide +kernel
theorem dX8_behindU2_0 : decode cX8_behindU2 0 = .ok (.aload_n 0, 1) := by decide +kernel
theorem dX8_behindU2_1 : decode cX8_behindU2 1 = .ok (.iload_n 1, 1) := by decide +kernel
theorem dX8_behindU2_2 : decode cX8_behindU2 2 = .ok (.iconst 2, 1) := by decide +kernel
theorem dX8_behindU2_3 : decode cX8_behindU2 3 = .ok (.invokevirtual 32, 3) := by decide +kernel
theorem dX8_behindU2_6 : decode cX8_behindU2 6 = .ok (.istore 5, 2) := by decide +kernel
theorem dX8_behindU2_8 : decode cX8_behindU2 8 = .ok (.iload 5, 2) := by decide +kernel
theorem dX8_behindU2_10 : decode cX8_behindU2 10 = .ok (.iconst (-1), 1) := by decide +kernel
theorem dX8_behindU2_11 : decode cX8_behindU2 11 = .ok (.if_icmp .eq 38, 3) := by decide +kernel
theorem dX8_behindU2_14 : decode cX8_behindU2 14 = .ok (.aload_n 0, 1) := by decide +kernel
theorem dX8_behindU2_15 : decode cX8_behindU2 15 = .ok (.getfield 9, 3) := by decide +kernel
theorem dX8_behindU2_18 : decode cX8_behindU2 18 = .ok (.iload_n 1, 1) := by decide +kernel
theorem dX8_behindU2_19 : decode cX8_behindU2 19 = .ok (.invokevirtual 35, 3) := by decide +kernel
theorem dX8_behindU2_22 : decode cX8_behindU2 22 = .ok (.iload_n 2, 1) := by decide +kernel
theorem dX8_behindU2_23 : decode cX8_behindU2 23 = .ok (.if_icmp .lt 15, 3) := by decide +kernel
theorem dX8_behindU2_26 : decode cX8_behindU2 26 = .ok (.aload_n 0, 1) := by decide +kernel
theorem dX8_behindU2_27 : decode cX8_behindU2 27 = .ok (.getfield 9, 3) := by decide +kernel
theorem dX8_behindU2_30 : decode cX8_behindU2 30 = .ok (.iload_n 1, 1) := by decide +kernel
theorem dX8_behindU2_31 : decode cX8_behindU2 31 = .ok (.invokevirtual 35, 3) := by decide +kernel
theorem dX8_behindU2_34 : decode cX8_behindU2 34 = .ok (.iload_n 3, 1) := by decide +kernel
theorem dX8_behindU2_35 : decode cX8_behindU2 35 = .ok (.if_icmp .le 14, 3) := by decide +kernel
theorem dX8_behindU2_38 : decode cX8_behindU2 38 = .ok (.aload_n 0, 1) := by decide +kernel
theorem dX8_behindU2_39 : decode cX8_behindU2 39 = .ok (.getfield 15, 3) := by decide +kernel
theorem dX8_behindU2_42 : decode cX8_behindU2 42 = .ok (.iload 4, 2) := by decide +kernel
theorem dX8_behindU2_44 : decode cX8_behindU2 44 = .ok (.iload_n 1, 1) := by decide +kernel
theorem dX8_behindU2_45 : decode cX8_behindU2 45 = .ok (.invokevirtual 26, 3) := by decide +kernel
theorem dX8_behindU2_48 : decode cX8_behindU2 48 = .ok (.ireturn, 1) := by decide +kernel
theorem dX8_behindU2_49 : decode cX8_behindU2 49 = .ok (.iload 5, 2) := by decide +kernel
theorem dX8_behindU2_51 : decode cX8_behindU2 51 = .ok (.ireturn, 1) := by decide +kernel
theorem dX8_behindAttributes_0 : decode cX8_behindAttributes 0 = .ok (.aload_n 0, 1) := by decide +kernel
theorem dX8_behindAttributes_1 : decode cX8_behindAttributes 1 = .ok (.iload_n 1, 1) := by decide +kernel
theorem dX8_behindAttributes_2 : decode cX8_behindAttributes 2 = .ok (.iconst 2, 1) := by decide +kernel
theorem dX8_behindAttributes_3 : decode cX8_behindAttributes 3 = .ok (.invokevirtual 32, 3) := by decide +kernel
theorem dX8_behindAttributes_6 : decode cX8_behindAttributes 6 = .ok (.istore_n 2, 1) := by decide +kernel
theorem dX8_behindAttributes_7 : decode cX8_behindAttributes 7 = .ok (.iload_n 2, 1) := by decide +kernel
theorem dX8_behindAttributes_8 : decode cX8_behindAttributes 8 = .ok (.iconst (-1), 1) := by decide +kernel
theorem dX8_behindAttributes_9 : decode cX8_behindAttributes 9 = .ok (.if_icmp .ne 7, 3) := by decide +kernel
theorem dX8_behindAttributes_12 : decode cX8_behindAttributes 12 = .ok (.iconst 0, 1) := by decide +kernel
theorem dX8_behindAttributes_13 : decode cX8_behindAttributes 13 = .ok (.goto 11, 3) := by decide +kernel
theorem dX8_behindAttributes_16 : decode cX8_behindAttributes 16 = .ok (.aload_n 0, 1) := by decide +kernel
theorem dX8_behindAttributes_17 : decode cX8_behindAttributes 17 = .ok (.getfield 9, 3) := by decide +kernel
theorem dX8_behindAttributes_20 : decode cX8_behindAttributes 20 = .ok (.iload_n 1, 1) := by decide +kernel
theorem dX8_behindAttributes_21 : decode cX8_behindAttributes 21 = .ok (.invokevirtual 35, 3) := by decide +kernel
theorem dX8_behindAttributes_24 : decode cX8_behindAttributes 24 = .ok (.istore_n 3, 1) := by decide +kernel
theorem dX8_behindAttributes_25 : decode cX8_behindAttributes 25 = .ok (.iconst 0, 1) := by decide +kernel
theorem dX8_behindAttributes_26 : decode cX8_behindAttributes 26 = .ok (.istore 4, 2) := by decide +kernel
theorem dX8_behindAttributes_28 : decode cX8_behindAttributes 28 = .ok (.iload 4, 2) := by decide +kernel
theorem dX8_behindAttributes_30 : decode cX8_behindAttributes 30 = .ok (.iload_n 3, 1) := by decide +kernel
theorem dX8_behindAttributes_31 : decode cX8_behindAttributes 31 = .ok (.if_icmp .ge 48, 3) := by decide +kernel
theorem dX8_behindAttributes_34 : decode cX8_behindAttributes 34 = .ok (.iload_n 2, 1) := by decide +kernel
theorem dX8_behindAttributes_35 : decode cX8_behindAttributes 35 = .ok (.iconst (-1), 1) := by decide +kernel
theorem dX8_behindAttributes_36 : decode cX8_behindAttributes 36 = .ok (.if_icmp .eq 43, 3) := by decide +kernel
theorem dX8_behindAttributes_39 : decode cX8_behindAttributes 39 = .ok (.iload_n 2, 1) := by decide +kernel
theorem dX8_behindAttributes_40 : decode cX8_behindAttributes 40 = .ok (.istore 5, 2) := by decide +kernel
theorem dX8_behindAttributes_42 : decode cX8_behindAttributes 42 = .ok (.aload_n 0, 1) := by decide +kernel
theorem dX8_behindAttributes_43 : decode cX8_behindAttributes 43 = .ok (.iload 5, 2) := by decide +kernel
theorem dX8_behindAttributes_45 : decode cX8_behindAttributes 45 = .ok (.bipush 6, 2) := by decide +kernel
theorem dX8_behindAttributes_47 : decode cX8_behindAttributes 47 = .ok (.invokevirtual 32, 3) := by decide +kernel
theorem dX8_behindAttributes_50 : decode cX8_behindAttributes 50 = .ok (.istore_n 2, 1) := by decide +kernel
theorem dX8_behindAttributes_51 : decode cX8_behindAttributes 51 = .ok (.iload_n 2, 1) := by decide +kernel
theorem dX8_behindAttributes_52 : decode cX8_behindAttributes 52 = .ok (.iconst (-1), 1) := by decide +kernel
theorem dX8_behindAttributes_53 : decode cX8_behindAttributes 53 = .ok (.if_icmp .eq 20, 3) := by decide +kernel
theorem dX8_behindAttributes_56 : decode cX8_behindAttributes 56 = .ok (.aload_n 0, 1) := by decide +kernel
theorem dX8_behindAttributes_57 : decode cX8_behindAttributes 57 = .ok (.iload_n 2, 1) := by decide +kernel
theorem dX8_behindAttributes_58 : decode cX8_behindAttributes 58 = .ok (.aload_n 0, 1) := by decide +kernel
theorem dX8_behindAttributes_59 : decode cX8_behindAttributes 59 = .ok (.getfield 9, 3) := by decide +kernel
theorem dX8_behindAttributes_62 : decode cX8_behindAttributes 62 = .ok (.iload 5, 2) := by decide +kernel
theorem dX8_behindAttributes_64 : decode cX8_behindAttributes 64 = .ok (.iconst 2, 1) := by decide +kernel
theorem dX8_behindAttributes_65 : decode cX8_behindAttributes 65 = .ok (.iadd, 1) := by decide +kernel
theorem dX8_behindAttributes_66 : decode cX8_behindAttributes 66 = .ok (.invokevirtual 41, 3) := by decide +kernel
theorem dX8_behindAttributes_69 : decode cX8_behindAttributes 69 = .ok (.invokevirtual 32, 3) := by decide +kernel
theorem dX8_behindAttributes_72 : decode cX8_behindAttributes 72 = .ok (.istore_n 2, 1) := by decide +kernel
theorem dX8_behindAttributes_73 : decode cX8_behindAttributes 73 = .ok (.iinc 4 1, 3) := by decide +kernel
theorem dX8_behindAttributes_76 : decode cX8_behindAttributes 76 = .ok (.goto (-48), 3) := by decide +kernel
theorem dX8_behindAttributes_79 : decode cX8_behindAttributes 79 = .ok (.iload_n 2, 1) := by decide +kernel
theorem dX8_behindAttributes_80 : decode cX8_behindAttributes 80 = .ok (.ireturn, 1) := by decide +kernel
theorem dX9_learn_0 : decode cX9_learn 0 = .ok (.iconst 1, 1) := by decide +kernel
theorem dX9_learn_1 : decode cX9_learn 1 = .ok (.istore_n 1, 1) := by decide +kernel
theorem dX9_learn_2 : decode cX9_learn 2 = .ok (.iload_n 1, 1) := by decide +kernel
theorem dX9_learn_3 : decode cX9_learn 3 = .ok (.aload_n 0, 1) := by decide +kernel
theorem dX9_learn_4 : decode cX9_learn 4 = .ok (.getfield 9, 3) := by decide +kernel
theorem dX9_learn_7 : decode cX9_learn 7 = .ok (.if_icmp .ge 79, 3) := by decide +kernel
theorem dX9_learn_10 : decode cX9_learn 10 = .ok (.aload_n 0, 1) := by decide +kernel
theorem dX9_learn_11 : decode cX9_learn 11 = .ok (.iconst 1, 1) := by decide +kernel
theorem dX9_learn_12 : decode cX9_learn 12 = .ok (.iload_n 1, 1) := by decide +kernel
theorem dX9_learn_13 : decode cX9_learn 13 = .ok (.invokevirtual 15, 3) := by decide +kernel
theorem dX9_learn_16 : decode cX9_learn 16 = .ok (.ifCond .eq 64, 3) := by decide +kernel
theorem dX9_learn_19 : decode cX9_learn 19 = .ok (.aload_n 0, 1) := by decide +kernel
theorem dX9_learn_20 : decode cX9_learn 20 = .ok (.getfield 19, 3) := by decide +kernel
theorem dX9_learn_23 : decode cX9_learn 23 = .ok (.iload_n 1, 1) := by decide +kernel
theorem dX9_learn_24 : decode cX9_learn 24 = .ok (.invokestatic 23, 3) := by decide +kernel
theorem dX9_learn_27 : decode cX9_learn 27 = .ok (.iconst 3, 1) := by decide +kernel
theorem dX9_learn_28 : decode cX9_learn 28 = .ok (.iadd, 1) := by decide +kernel
theorem dX9_learn_29 : decode cX9_learn 29 = .ok (.istore_n 2, 1) := by decide +kernel
theorem dX9_learn_30 : decode cX9_learn 30 = .ok (.iload_n 2, 1) := by decide +kernel
theorem dX9_learn_31 : decode cX9_learn 31 = .ok (.aload_n 0, 1) := by decide +kernel
theorem dX9_learn_32 : decode cX9_learn 32 = .ok (.getfield 27, 3) := by decide +kernel
theorem dX9_learn_35 : decode cX9_learn 35 = .ok (.iload_n 1, 1) := by decide +kernel
theorem dX9_learn_36 : decode cX9_learn 36 = .ok (.invokestatic 23, 3) := by decide +kernel
theorem dX9_learn_39 : decode cX9_learn 39 = .ok (.iadd, 1) := by decide +kernel
theorem dX9_learn_40 : decode cX9_learn 40 = .ok (.istore_n 3, 1) := by decide +kernel
theorem dX9_learn_41 : decode cX9_learn 41 = .ok (.aload_n 0, 1) := by decide +kernel
theorem dX9_learn_42 : decode cX9_learn 42 = .ok (.getfield 30, 3) := by decide +kernel
theorem dX9_learn_45 : decode cX9_learn 45 = .ok (.iload_n 1, 1) := by decide +kernel
theorem dX9_learn_46 : decode cX9_learn 46 = .ok (.aload_n 0, 1) := by decide +kernel
theorem dX9_learn_47 : decode cX9_learn 47 = .ok (.getfield 33, 3) := by decide +kernel
theorem dX9_learn_50 : decode cX9_learn 50 = .ok (.iload_n 2, 1) := by decide +kernel
theorem dX9_learn_51 : decode cX9_learn 51 = .ok (.iload_n 3, 1) := by decide +kernel
theorem dX9_learn_52 : decode cX9_learn 52 = .ok (.invokestatic 37, 3) := by decide +kernel
theorem dX9_learn_55 : decode cX9_learn 55 = .ok (.invokestatic 43, 3) := by decide +kernel
theorem dX9_learn_58 : decode cX9_learn 58 = .ok (.aload_n 0, 1) := by decide +kernel
theorem dX9_learn_59 : decode cX9_learn 59 = .ok (.getfield 33, 3) := by decide +kernel
theorem dX9_learn_62 : decode cX9_learn 62 = .ok (.iload_n 2, 1) := by decide +kernel
theorem dX9_learn_63 : decode cX9_learn 63 = .ok (.invokevirtual 47, 3) := by decide +kernel
theorem dX9_learn_66 : decode cX9_learn 66 = .ok (.bipush 40, 2) := by decide +kernel
theorem dX9_learn_68 : decode cX9_learn 68 = .ok (.if_icmp .ne 12, 3) := by decide +kernel
theorem dX9_learn_71 : decode cX9_learn 71 = .ok (.aload_n 0, 1) := by decide +kernel
theorem dX9_learn_72 : decode cX9_learn 72 = .ok (.iload_n 1, 1) := by decide +kernel
theorem dX9_learn_73 : decode cX9_learn 73 = .ok (.iload_n 2, 1) := by decide +kernel
theorem dX9_learn_74 : decode cX9_learn 74 = .ok (.iconst 1, 1) := by decide +kernel
theorem dX9_learn_75 : decode cX9_learn 75 = .ok (.iadd, 1) := by decide +kernel
theorem dX9_learn_76 : decode cX9_learn 76 = .ok (.iload_n 3, 1) := by decide +kernel
theorem dX9_learn_77 : decode cX9_learn 77 = .ok (.invokestatic 53, 3) := by decide +kernel
theorem dX9_learn_80 : decode cX9_learn 80 = .ok (.iinc 1 1, 3) := by decide +kernel
theorem dX9_learn_83 : decode cX9_learn 83 = .ok (.goto (-81), 3) := by decide +kernel
theorem dX9_learn_86 : decode cX9_learn 86 = .ok (.return_, 1) := by decide +kernel
theorem dX9_learnMethod_0 : decode cX9_learnMethod 0 = .ok (.iload_n 2, 1) := by decide +kernel
theorem dX9_learnMethod_1 : decode cX9_learnMethod 1 = .ok (.istore 4, 2) := by decide +kernel
theorem dX9_learnMethod_3 : decode cX9_learnMethod 3 = .ok (.iconst 0, 1) := by decide +kernel
theorem dX9_learnMethod_4 : decode cX9_learnMethod 4 = .ok (.istore 5, 2) := by decide +kernel
theorem dX9_learnMethod_6 : decode cX9_learnMethod 6 = .ok (.aload_n 0, 1) := by decide +kernel
theorem dX9_learnMethod_7 : decode cX9_learnMethod 7 = .ok (.getfield 33, 3) := by decide +kernel
theorem dX9_learnMethod_10 : decode cX9_learnMethod 10 = .ok (.iload 4, 2) := by decide +kernel
theorem dX9_learnMethod_12 : decode cX9_learnMethod 12 = .ok (.iload_n 3, 1) := by decide +kernel
theorem dX9_learnMethod_13 : decode cX9_learnMethod 13 = .ok (.invokestatic 57, 3) := by decide +kernel
theorem dX9_learnMethod_16 : decode cX9_learnMethod 16 = .ok (.istore 6, 2) := by decide +kernel
theorem dX9_learnMethod_18 : decode cX9_learnMethod 18 = .ok (.iload 4, 2) := by decide +kernel
theorem dX9_learnMethod_20 : decode cX9_learnMethod 20 = .ok (.iload_n 3, 1) := by decide +kernel
theorem dX9_learnMethod_21 : decode cX9_learnMethod 21 = .ok (.if_icmp .ge 49, 3) := by decide +kernel
theorem dX9_learnMethod_24 : decode cX9_learnMethod 24 = .ok (.iload 6, 2) := by decide +kernel
theorem dX9_learnMethod_26 : decode cX9_learnMethod 26 = .ok (.ifCond .eq 44, 3) := by decide +kernel
theorem dX9_learnMethod_29 : decode cX9_learnMethod 29 = .ok (.iload 5, 2) := by decide +kernel
theorem dX9_learnMethod_31 : decode cX9_learnMethod 31 = .ok (.iload 6, 2) := by decide +kernel
theorem dX9_learnMethod_33 : decode cX9_learnMethod 33 = .ok (.iconst 2, 1) := by decide +kernel
theorem dX9_learnMethod_34 : decode cX9_learnMethod 34 = .ok (.if_icmp .ne 7, 3) := by decide +kernel
theorem dX9_learnMethod_37 : decode cX9_learnMethod 37 = .ok (.iconst 2, 1) := by decide +kernel
theorem dX9_learnMethod_38 : decode cX9_learnMethod 38 = .ok (.goto 4, 3) := by decide +kernel
theorem dX9_learnMethod_41 : decode cX9_learnMethod 41 = .ok (.iconst 1, 1) := by decide +kernel
theorem dX9_learnMethod_42 : decode cX9_learnMethod 42 = .ok (.iadd, 1) := by decide +kernel
theorem dX9_learnMethod_43 : decode cX9_learnMethod 43 = .ok (.istore 5, 2) := by decide +kernel
theorem dX9_learnMethod_45 : decode cX9_learnMethod 45 = .ok (.iload 4, 2) := by decide +kernel
theorem dX9_learnMethod_47 : decode cX9_learnMethod 47 = .ok (.iload 6, 2) := by decide +kernel
theorem dX9_learnMethod_49 : decode cX9_learnMethod 49 = .ok (.invokestatic 60, 3) := by decide +kernel
theorem dX9_learnMethod_52 : decode cX9_learnMethod 52 = .ok (.iadd, 1) := by decide +kernel
theorem dX9_learnMethod_53 : decode cX9_learnMethod 53 = .ok (.istore 4, 2) := by decide +kernel
theorem dX9_learnMethod_55 : decode cX9_learnMethod 55 = .ok (.aload_n 0, 1) := by decide +kernel
theorem dX9_learnMethod_56 : decode cX9_learnMethod 56 = .ok (.getfield 33, 3) := by decide +kernel
theorem dX9_learnMethod_59 : decode cX9_learnMethod 59 = .ok (.iload 4, 2) := by decide +kernel
theorem dX9_learnMethod_61 : decode cX9_learnMethod 61 = .ok (.iload_n 3, 1) := by decide +kernel
theorem dX9_learnMethod_62 : decode cX9_learnMethod 62 = .ok (.invokestatic 57, 3) := by decide +kernel
theorem dX9_learnMethod_65 : decode cX9_learnMethod 65 = .ok (.istore 6, 2) := by decide +kernel
theorem dX9_learnMethod_67 : decode cX9_learnMethod 67 = .ok (.goto (-49), 3) := by decide +kernel
theorem dX9_learnMethod_70 : decode cX9_learnMethod 70 = .ok (.iload 4, 2) := by decide +kernel
theorem dX9_learnMethod_72 : decode cX9_learnMethod 72 = .ok (.iload_n 3, 1) := by decide +kernel
theorem dX9_learnMethod_73 : decode cX9_learnMethod 73 = .ok (.if_icmp .ge 17, 3) := by decide +kernel
theorem dX9_learnMethod_76 : decode cX9_learnMethod 76 = .ok (.aload_n 0, 1) := by decide +kernel
theorem dX9_learnMethod_77 : decode cX9_learnMethod 77 = .ok (.getfield 33, 3) := by decide +kernel
theorem dX9_learnMethod_80 : decode cX9_learnMethod 80 = .ok (.iload 4, 2) := by decide +kernel
theorem dX9_learnMethod_82 : decode cX9_learnMethod 82 = .ok (.invokevirtual 47, 3) := by decide +kernel
theorem dX9_learnMethod_85 : decode cX9_learnMethod 85 = .ok (.bipush 41, 2) := by decide +kernel
theorem dX9_learnMethod_87 : decode cX9_learnMethod 87 = .ok (.if_icmp .eq 4, 3) := by decide +kernel
theorem dX9_learnMethod_90 : decode cX9_learnMethod 90 = .ok (.return_, 1) := by decide +kernel
theorem dX9_learnMethod_91 : decode cX9_learnMethod 91 = .ok (.aload_n 0, 1) := by decide +kernel
theorem dX9_learnMethod_92 : decode cX9_learnMethod 92 = .ok (.getfield 63, 3) := by decide +kernel
theorem dX9_learnMethod_95 : decode cX9_learnMethod 95 = .ok (.iload_n 1, 1) := by decide +kernel
theorem dX9_learnMethod_96 : decode cX9_learnMethod 96 = .ok (.iload 5, 2) := by decide +kernel
theorem dX9_learnMethod_98 : decode cX9_learnMethod 98 = .ok (.invokestatic 43, 3) := by decide +kernel
theorem dX9_learnMethod_101 : decode cX9_learnMethod 101 = .ok (.iload 4, 2) := by decide +kernel
theorem dX9_learnMethod_103 : decode cX9_learnMethod 103 = .ok (.iconst 2, 1) := by decide +kernel
theorem dX9_learnMethod_104 : decode cX9_learnMethod 104 = .ok (.iadd, 1) := by decide +kernel
theorem dX9_learnMethod_105 : decode cX9_learnMethod 105 = .ok (.iload_n 3, 1) := by decide +kernel
theorem dX9_learnMethod_106 : decode cX9_learnMethod 106 = .ok (.if_icmp .ne 32, 3) := by decide +kernel
theorem dX9_learnMethod_109 : decode cX9_learnMethod 109 = .ok (.aload_n 0, 1) := by decide +kernel
theorem dX9_learnMethod_110 : decode cX9_learnMethod 110 = .ok (.getfield 33, 3) := by decide +kernel
theorem dX9_learnMethod_113 : decode cX9_learnMethod 113 = .ok (.iload 4, 2) := by decide +kernel
theorem dX9_learnMethod_115 : decode cX9_learnMethod 115 = .ok (.iconst 1, 1) := by decide +kernel
theorem dX9_learnMethod_116 : decode cX9_learnMethod 116 = .ok (.iadd, 1) := by decide +kernel
theorem dX9_learnMethod_117 : decode cX9_learnMethod 117 = .ok (.invokevirtual 47, 3) := by decide +kernel
theorem dX9_learnMethod_120 : decode cX9_learnMethod 120 = .ok (.bipush 86, 2) := by decide +kernel
theorem dX9_learnMethod_122 : decode cX9_learnMethod 122 = .ok (.if_icmp .ne 16, 3) := by decide +kernel
theorem dX9_learnMethod_125 : decode cX9_learnMethod 125 = .ok (.aload_n 0, 1) := by decide +kernel
theorem dX9_learnMethod_126 : decode cX9_learnMethod 126 = .ok (.getfield 66, 3) := by decide +kernel
theorem dX9_learnMethod_129 : decode cX9_learnMethod 129 = .ok (.iload_n 1, 1) := by decide +kernel
theorem dX9_learnMethod_130 : decode cX9_learnMethod 130 = .ok (.bipush 7, 2) := by decide +kernel
theorem dX9_learnMethod_132 : decode cX9_learnMethod 132 = .ok (.invokestatic 43, 3) := by decide +kernel
theorem dX9_learnMethod_135 : decode cX9_learnMethod 135 = .ok (.goto 23, 3) := by decide +kernel
theorem dX9_learnMethod_138 : decode cX9_learnMethod 138 = .ok (.aload_n 0, 1) := by decide +kernel
theorem dX9_learnMethod_139 : decode cX9_learnMethod 139 = .ok (.getfield 66, 3) := by decide +kernel
theorem dX9_learnMethod_142 : decode cX9_learnMethod 142 = .ok (.iload_n 1, 1) := by decide +kernel
theorem dX9_learnMethod_143 : decode cX9_learnMethod 143 = .ok (.aload_n 0, 1) := by decide +kernel
theorem dX9_learnMethod_144 : decode cX9_learnMethod 144 = .ok (.getfield 33, 3) := by decide +kernel
theorem dX9_learnMethod_147 : decode cX9_learnMethod 147 = .ok (.iload 4, 2) := by decide +kernel
theorem dX9_learnMethod_149 : decode cX9_learnMethod 149 = .ok (.iconst 1, 1) := by decide +kernel
theorem dX9_learnMethod_150 : decode cX9_learnMethod 150 = .ok (.iadd, 1) := by decide +kernel
theorem dX9_learnMethod_151 : decode cX9_learnMethod 151 = .ok (.iload_n 3, 1) := by decide +kernel
theorem dX9_learnMethod_152 : decode cX9_learnMethod 152 = .ok (.invokestatic 37, 3) := by decide +kernel
theorem dX9_learnMethod_155 : decode cX9_learnMethod 155 = .ok (.invokestatic 43, 3) := by decide +kernel
theorem dX9_learnMethod_158 : decode cX9_learnMethod 158 = .ok (.return_, 1) := by decide +kernel
theorem dX9_wholeFrom_0 : decode cX9_wholeFrom 0 = .ok (.aload_n 0, 1) := by decide +kernel
theorem dX9_wholeFrom_1 : decode cX9_wholeFrom 1 = .ok (.iload_n 1, 1) := by decide +kernel
theorem dX9_wholeFrom_2 : decode cX9_wholeFrom 2 = .ok (.iload_n 2, 1) := by decide +kernel
theorem dX9_wholeFrom_3 : decode cX9_wholeFrom 3 = .ok (.invokestatic 57, 3) := by decide +kernel
theorem dX9_wholeFrom_6 : decode cX9_wholeFrom 6 = .ok (.istore_n 3, 1) := by decide +kernel
theorem dX9_wholeFrom_7 : decode cX9_wholeFrom 7 = .ok (.iload_n 3, 1) := by decide +kernel
theorem dX9_wholeFrom_8 : decode cX9_wholeFrom 8 = .ok (.ifCond .eq 17, 3) := by decide +kernel
theorem dX9_wholeFrom_11 : decode cX9_wholeFrom 11 = .ok (.iload_n 1, 1) := by decide +kernel
theorem dX9_wholeFrom_12 : decode cX9_wholeFrom 12 = .ok (.iload_n 3, 1) := by decide +kernel
theorem dX9_wholeFrom_13 : decode cX9_wholeFrom 13 = .ok (.invokestatic 60, 3) := by decide +kernel
theorem dX9_wholeFrom_16 : decode cX9_wholeFrom 16 = .ok (.iadd, 1) := by decide +kernel
theorem dX9_wholeFrom_17 : decode cX9_wholeFrom 17 = .ok (.iload_n 2, 1) := by decide +kernel
theorem dX9_wholeFrom_18 : decode cX9_wholeFrom 18 = .ok (.if_icmp .ne 7, 3) := by decide +kernel
theorem dX9_wholeFrom_21 : decode cX9_wholeFrom 21 = .ok (.iload_n 3, 1) := by decide +kernel
theorem dX9_wholeFrom_22 : decode cX9_wholeFrom 22 = .ok (.goto 4, 3) := by decide +kernel
theorem dX9_wholeFrom_25 : decode cX9_wholeFrom 25 = .ok (.iconst 0, 1) := by decide +kernel
theorem dX9_wholeFrom_26 : decode cX9_wholeFrom 26 = .ok (.ireturn, 1) := by decide +kernel
theorem dX9_kindAt_0 : decode cX9_kindAt 0 = .ok (.iload_n 1, 1) := by decide +kernel
theorem dX9_kindAt_1 : decode cX9_kindAt 1 = .ok (.iload_n 2, 1) := by decide +kernel
theorem dX9_kindAt_2 : decode cX9_kindAt 2 = .ok (.if_icmp .ge 15, 3) := by decide +kernel
theorem dX9_kindAt_5 : decode cX9_kindAt 5 = .ok (.aload_n 0, 1) := by decide +kernel
theorem dX9_kindAt_6 : decode cX9_kindAt 6 = .ok (.iload_n 1, 1) := by decide +kernel
theorem dX9_kindAt_7 : decode cX9_kindAt 7 = .ok (.invokevirtual 47, 3) := by decide +kernel
theorem dX9_kindAt_10 : decode cX9_kindAt 10 = .ok (.bipush 73, 2) := by decide +kernel
theorem dX9_kindAt_12 : decode cX9_kindAt 12 = .ok (.if_icmp .ne 5, 3) := by decide +kernel
theorem dX9_kindAt_15 : decode cX9_kindAt 15 = .ok (.iconst 1, 1) := by decide +kernel
theorem dX9_kindAt_16 : decode cX9_kindAt 16 = .ok (.ireturn, 1) := by decide +kernel
theorem dX9_kindAt_17 : decode cX9_kindAt 17 = .ok (.iload_n 1, 1) := by decide +kernel
theorem dX9_kindAt_18 : decode cX9_kindAt 18 = .ok (.iload_n 2, 1) := by decide +kernel
theorem dX9_kindAt_19 : decode cX9_kindAt 19 = .ok (.if_icmp .ge 15, 3) := by decide +kernel
theorem dX9_kindAt_22 : decode cX9_kindAt 22 = .ok (.aload_n 0, 1) := by decide +kernel
theorem dX9_kindAt_23 : decode cX9_kindAt 23 = .ok (.iload_n 1, 1) := by decide +kernel
theorem dX9_kindAt_24 : decode cX9_kindAt 24 = .ok (.invokevirtual 47, 3) := by decide +kernel
theorem dX9_kindAt_27 : decode cX9_kindAt 27 = .ok (.bipush 74, 2) := by decide +kernel
theorem dX9_kindAt_29 : decode cX9_kindAt 29 = .ok (.if_icmp .ne 5, 3) := by decide +kernel
theorem dX9_kindAt_32 : decode cX9_kindAt 32 = .ok (.iconst 2, 1) := by decide +kernel
theorem dX9_kindAt_33 : decode cX9_kindAt 33 = .ok (.ireturn, 1) := by decide +kernel
theorem dX9_kindAt_34 : decode cX9_kindAt 34 = .ok (.iload_n 1, 1) := by decide +kernel
theorem dX9_kindAt_35 : decode cX9_kindAt 35 = .ok (.iconst 1, 1) := by decide +kernel
theorem dX9_kindAt_36 : decode cX9_kindAt 36 = .ok (.iadd, 1) := by decide +kernel
theorem dX9_kindAt_37 : decode cX9_kindAt 37 = .ok (.iload_n 2, 1) := by decide +kernel
theorem dX9_kindAt_38 : decode cX9_kindAt 38 = .ok (.if_icmp .ge 29, 3) := by decide +kernel
theorem dX9_kindAt_41 : decode cX9_kindAt 41 = .ok (.aload_n 0, 1) := by decide +kernel
theorem dX9_kindAt_42 : decode cX9_kindAt 42 = .ok (.iload_n 1, 1) := by decide +kernel
theorem dX9_kindAt_43 : decode cX9_kindAt 43 = .ok (.invokevirtual 47, 3) := by decide +kernel
theorem dX9_kindAt_46 : decode cX9_kindAt 46 = .ok (.bipush 91, 2) := by decide +kernel
theorem dX9_kindAt_48 : decode cX9_kindAt 48 = .ok (.if_icmp .ne 19, 3) := by decide +kernel
theorem dX9_kindAt_51 : decode cX9_kindAt 51 = .ok (.aload_n 0, 1) := by decide +kernel
theorem dX9_kindAt_52 : decode cX9_kindAt 52 = .ok (.iload_n 1, 1) := by decide +kernel
theorem dX9_kindAt_53 : decode cX9_kindAt 53 = .ok (.iconst 1, 1) := by decide +kernel
theorem dX9_kindAt_54 : decode cX9_kindAt 54 = .ok (.iadd, 1) := by decide +kernel
theorem dX9_kindAt_55 : decode cX9_kindAt 55 = .ok (.invokevirtual 47, 3) := by decide +kernel
theorem dX9_kindAt_58 : decode cX9_kindAt 58 = .ok (.bipush 73, 2) := by decide +kernel
theorem dX9_kindAt_60 : decode cX9_kindAt 60 = .ok (.if_icmp .ne 7, 3) := by decide +kernel
theorem dX9_kindAt_63 : decode cX9_kindAt 63 = .ok (.iconst 4, 1) := by decide +kernel
theorem dX9_kindAt_64 : decode cX9_kindAt 64 = .ok (.goto 4, 3) := by decide +kernel
theorem dX9_kindAt_67 : decode cX9_kindAt 67 = .ok (.iconst 0, 1) := by decide +kernel
theorem dX9_kindAt_68 : decode cX9_kindAt 68 = .ok (.ireturn, 1) := by decide +kernel
theorem dX9_lettersOf_0 : decode cX9_lettersOf 0 = .ok (.iload_n 0, 1) := by decide +kernel
theorem dX9_lettersOf_1 : decode cX9_lettersOf 1 = .ok (.iconst 4, 1) := by decide +kernel
theorem dX9_lettersOf_2 : decode cX9_lettersOf 2 = .ok (.if_icmp .ne 7, 3) := by decide +kernel
theorem dX9_lettersOf_5 : decode cX9_lettersOf 5 = .ok (.iconst 2, 1) := by decide +kernel
theorem dX9_lettersOf_6 : decode cX9_lettersOf 6 = .ok (.goto 4, 3) := by decide +kernel
theorem dX9_lettersOf_9 : decode cX9_lettersOf 9 = .ok (.iconst 1, 1) := by decide +kernel
theorem dX9_lettersOf_10 : decode cX9_lettersOf 10 = .ok (.ireturn, 1) := by decide +kernel
theorem dX10_init_0 : decode cX10_init 0 = .ok (.aload_n 0, 1) := by decide +kernel
theorem dX10_init_1 : decode cX10_init 1 = .ok (.invokespecial 3, 3) := by decide +kernel
theorem dX10_init_4 : decode cX10_init 4 = .ok (.aload_n 0, 1) := by decide +kernel
theorem dX10_init_5 : decode cX10_init 5 = .ok (.invokevirtual 9, 3) := by decide +kernel
theorem dX10_init_8 : decode cX10_init 8 = .ok (.return_, 1) := by decide +kernel
theorem dX10_clear_0 : decode cX10_clear 0 = .ok (.aload_n 0, 1) := by decide +kernel
theorem dX10_clear_1 : decode cX10_clear 1 = .ok (.iconst 0, 1) := by decide +kernel
theorem dX10_clear_2 : decode cX10_clear 2 = .ok (.putfield 14, 3) := by decide +kernel
theorem dX10_clear_5 : decode cX10_clear 5 = .ok (.aload_n 0, 1) := by decide +kernel
theorem dX10_clear_6 : decode cX10_clear 6 = .ok (.iconst (-1), 1) := by decide +kernel
theorem dX10_clear_7 : decode cX10_clear 7 = .ok (.putfield 18, 3) := by decide +kernel
theorem dX10_clear_10 : decode cX10_clear 10 = .ok (.return_, 1) := by decide +kernel
theorem dX10_broken_0 : decode cX10_broken 0 = .ok (.aload_n 0, 1) := by decide +kernel
theorem dX10_broken_1 : decode cX10_broken 1 = .ok (.iload_n 1, 1) := by decide +kernel
theorem dX10_broken_2 : decode cX10_broken 2 = .ok (.putfield 14, 3) := by decide +kernel
theorem dX10_broken_5 : decode cX10_broken 5 = .ok (.aload_n 0, 1) := by decide +kernel
theorem dX10_broken_6 : decode cX10_broken 6 = .ok (.iload_n 2, 1) := by decide +kernel
theorem dX10_broken_7 : decode cX10_broken 7 = .ok (.putfield 18, 3) := by decide +kernel
theorem dX10_broken_10 : decode cX10_broken 10 = .ok (.iconst (-1), 1) := by decide +kernel
theorem dX10_broken_11 : decode cX10_broken 11 = .ok (.ireturn, 1) := by decide +kernel
theorem dX10_keeps_0 : decode cX10_keeps 0 = .ok (.iload_n 2, 1) := by decide +kernel
theorem dX10_keeps_1 : decode cX10_keeps 1 = .ok (.iconst (-1), 1) := by decide +kernel
theorem dX10_keeps_2 : decode cX10_keeps 2 = .ok (.if_icmp .ne 5, 3) := by decide +kernel
theorem dX10_keeps_5 : decode cX10_keeps 5 = .ok (.iconst 1, 1) := by decide +kernel
theorem dX10_keeps_6 : decode cX10_keeps 6 = .ok (.ireturn, 1) := by decide +kernel
theorem dX10_keeps_7 : decode cX10_keeps 7 = .ok (.aload_n 0, 1) := by decide +kernel
theorem dX10_keeps_8 : decode cX10_keeps 8 = .ok (.iload_n 1, 1) := by decide +kernel
theorem dX10_keeps_9 : decode cX10_keeps 9 = .ok (.iload_n 2, 1) := by decide +kernel
theorem dX10_keeps_10 : decode cX10_keeps 10 = .ok (.invokevirtual 21, 3) := by decide +kernel
theorem dX10_keeps_13 : decode cX10_keeps 13 = .ok (.pop, 1) := by decide +kernel
theorem dX10_keeps_14 : decode cX10_keeps 14 = .ok (.iconst 0, 1) := by decide +kernel
theorem dX10_keeps_15 : decode cX10_keeps 15 = .ok (.ireturn, 1) := by decide +kernel
theorem dX11_init_0 : decode cX11_init 0 = .ok (.aload_n 0, 1) := by decide +kernel
theorem dX11_init_1 : decode cX11_init 1 = .ok (.invokespecial 1, 3) := by decide +kernel
theorem dX11_init_4 : decode cX11_init 4 = .ok (.aload_n 0, 1) := by decide +kernel
theorem dX11_init_5 : decode cX11_init 5 = .ok (.new 7, 3) := by decide +kernel
theorem dX11_init_8 : decode cX11_init 8 = .ok (.dup, 1) := by decide +kernel
theorem dX11_init_9 : decode cX11_init 9 = .ok (.invokespecial 9, 3) := by decide +kernel
theorem dX11_init_12 : decode cX11_init 12 = .ok (.putfield 10, 3) := by decide +kernel
theorem dX11_init_15 : decode cX11_init 15 = .ok (.aload_n 0, 1) := by decide +kernel
theorem dX11_init_16 : decode cX11_init 16 = .ok (.new 16, 3) := by decide +kernel
theorem dX11_init_19 : decode cX11_init 19 = .ok (.dup, 1) := by decide +kernel
theorem dX11_init_20 : decode cX11_init 20 = .ok (.invokespecial 18, 3) := by decide +kernel
theorem dX11_init_23 : decode cX11_init 23 = .ok (.putfield 19, 3) := by decide +kernel
theorem dX11_init_26 : decode cX11_init 26 = .ok (.aload_n 0, 1) := by decide +kernel
theorem dX11_init_27 : decode cX11_init 27 = .ok (.new 16, 3) := by decide +kernel
theorem dX11_init_30 : decode cX11_init 30 = .ok (.dup, 1) := by decide +kernel
theorem dX11_init_31 : decode cX11_init 31 = .ok (.invokespecial 18, 3) := by decide +kernel
theorem dX11_init_34 : decode cX11_init 34 = .ok (.putfield 23, 3) := by decide +kernel
theorem dX11_init_37 : decode cX11_init 37 = .ok (.aload_n 0, 1) := by decide +kernel
theorem dX11_init_38 : decode cX11_init 38 = .ok (.iconst 0, 1) := by decide +kernel
theorem dX11_init_39 : decode cX11_init 39 = .ok (.putfield 26, 3) := by decide +kernel
theorem dX11_init_42 : decode cX11_init 42 = .ok (.aload_n 0, 1) := by decide +kernel
theorem dX11_init_43 : decode cX11_init 43 = .ok (.iconst 0, 1) := by decide +kernel
theorem dX11_init_44 : decode cX11_init 44 = .ok (.putfield 30, 3) := by decide +kernel
theorem dX11_init_47 : decode cX11_init 47 = .ok (.return_, 1) := by decide +kernel
theorem dX11_feed_0 : decode cX11_feed 0 = .ok (.aload_n 0, 1) := by decide +kernel
theorem dX11_feed_1 : decode cX11_feed 1 = .ok (.getfield 19, 3) := by decide +kernel
theorem dX11_feed_4 : decode cX11_feed 4 = .ok (.getfield 34, 3) := by decide +kernel
theorem dX11_feed_7 : decode cX11_feed 7 = .ok (.getfield 38, 3) := by decide +kernel
theorem dX11_feed_10 : decode cX11_feed 10 = .ok (.sipush 15980, 3) := by decide +kernel
theorem dX11_feed_13 : decode cX11_feed 13 = .ok (.if_icmp .gt 12, 3) := by decide +kernel
theorem dX11_feed_16 : decode cX11_feed 16 = .ok (.aload_n 0, 1) := by decide +kernel
theorem dX11_feed_17 : decode cX11_feed 17 = .ok (.getfield 30, 3) := by decide +kernel
theorem dX11_feed_20 : decode cX11_feed 20 = .ok (.ldc 43, 2) := by decide +kernel
theorem dX11_feed_22 : decode cX11_feed 22 = .ok (.if_icmp .le 5, 3) := by decide +kernel
theorem dX11_feed_25 : decode cX11_feed 25 = .ok (.iconst (-1), 1) := by decide +kernel
theorem dX11_feed_26 : decode cX11_feed 26 = .ok (.ireturn, 1) := by decide +kernel
theorem dX11_feed_27 : decode cX11_feed 27 = .ok (.aload_n 0, 1) := by decide +kernel
theorem dX11_feed_28 : decode cX11_feed 28 = .ok (.dup, 1) := by decide +kernel
theorem dX11_feed_29 : decode cX11_feed 29 = .ok (.getfield 30, 3) := by decide +kernel
theorem dX11_feed_32 : decode cX11_feed 32 = .ok (.bipush 20, 2) := by decide +kernel
theorem dX11_feed_34 : decode cX11_feed 34 = .ok (.iadd, 1) := by decide +kernel
theorem dX11_feed_35 : decode cX11_feed 35 = .ok (.putfield 30, 3) := by decide +kernel
theorem dX11_feed_38 : decode cX11_feed 38 = .ok (.aload_n 0, 1) := by decide +kernel
theorem dX11_feed_39 : decode cX11_feed 39 = .ok (.getfield 19, 3) := by decide +kernel
theorem dX11_feed_42 : decode cX11_feed 42 = .ok (.getfield 34, 3) := by decide +kernel
theorem dX11_feed_45 : decode cX11_feed 45 = .ok (.iload_n 1, 1) := by decide +kernel
theorem dX11_feed_46 : decode cX11_feed 46 = .ok (.invokevirtual 44, 3) := by decide +kernel
theorem dX11_feed_49 : decode cX11_feed 49 = .ok (.aload_n 0, 1) := by decide +kernel
theorem dX11_feed_50 : decode cX11_feed 50 = .ok (.getfield 19, 3) := by decide +kernel
theorem dX11_feed_53 : decode cX11_feed 53 = .ok (.getfield 34, 3) := by decide +kernel
theorem dX11_feed_56 : decode cX11_feed 56 = .ok (.iload_n 2, 1) := by decide +kernel
theorem dX11_feed_57 : decode cX11_feed 57 = .ok (.invokevirtual 44, 3) := by decide +kernel
theorem dX11_feed_60 : decode cX11_feed 60 = .ok (.aload_n 0, 1) := by decide +kernel
theorem dX11_feed_61 : decode cX11_feed 61 = .ok (.getfield 19, 3) := by decide +kernel
theorem dX11_feed_64 : decode cX11_feed 64 = .ok (.getfield 34, 3) := by decide +kernel
theorem dX11_feed_67 : decode cX11_feed 67 = .ok (.iload_n 3, 1) := by decide +kernel
theorem dX11_feed_68 : decode cX11_feed 68 = .ok (.invokevirtual 44, 3) := by decide +kernel
theorem dX11_feed_71 : decode cX11_feed 71 = .ok (.aload_n 0, 1) := by decide +kernel
theorem dX11_feed_72 : decode cX11_feed 72 = .ok (.getfield 19, 3) := by decide +kernel
theorem dX11_feed_75 : decode cX11_feed 75 = .ok (.getfield 34, 3) := by decide +kernel
theorem dX11_feed_78 : decode cX11_feed 78 = .ok (.iload 4, 2) := by decide +kernel
theorem dX11_feed_80 : decode cX11_feed 80 = .ok (.invokevirtual 44, 3) := by decide +kernel
theorem dX11_feed_83 : decode cX11_feed 83 = .ok (.aload_n 0, 1) := by decide +kernel
theorem dX11_feed_84 : decode cX11_feed 84 = .ok (.getfield 19, 3) := by decide +kernel
theorem dX11_feed_87 : decode cX11_feed 87 = .ok (.getfield 34, 3) := by decide +kernel
theorem dX11_feed_90 : decode cX11_feed 90 = .ok (.iload 5, 2) := by decide +kernel
theorem dX11_feed_92 : decode cX11_feed 92 = .ok (.invokevirtual 44, 3) := by decide +kernel
theorem dX11_feed_95 : decode cX11_feed 95 = .ok (.aload_n 0, 1) := by decide +kernel
theorem dX11_feed_96 : decode cX11_feed 96 = .ok (.getfield 19, 3) := by decide +kernel
theorem dX11_feed_99 : decode cX11_feed 99 = .ok (.getfield 34, 3) := by decide +kernel
theorem dX11_feed_102 : decode cX11_feed 102 = .ok (.getfield 38, 3) := by decide +kernel
theorem dX11_feed_105 : decode cX11_feed 105 = .ok (.ireturn, 1) := by decide +kernel
theorem dX11_end_0 : decode cX11_end 0 = .ok (.iload_n 1, 1) := by decide +kernel
theorem dX11_end_1 : decode cX11_end 1 = .ok (.ifCond .lt 17, 3) := by decide +kernel
theorem dX11_end_4 : decode cX11_end 4 = .ok (.iload_n 1, 1) := by decide +kernel
theorem dX11_end_5 : decode cX11_end 5 = .ok (.aload_n 0, 1) := by decide +kernel
theorem dX11_end_6 : decode cX11_end 6 = .ok (.getfield 19, 3) := by decide +kernel
theorem dX11_end_9 : decode cX11_end 9 = .ok (.getfield 34, 3) := by decide +kernel
theorem dX11_end_12 : decode cX11_end 12 = .ok (.getfield 38, 3) := by decide +kernel
theorem dX11_end_15 : decode cX11_end 15 = .ok (.if_icmp .le 5, 3) := by decide +kernel
theorem dX11_end_18 : decode cX11_end 18 = .ok (.iconst 0, 1) := by decide +kernel
theorem dX11_end_19 : decode cX11_end 19 = .ok (.ireturn, 1) := by decide +kernel
theorem dX11_end_20 : decode cX11_end 20 = .ok (.aload_n 0, 1) := by decide +kernel
theorem dX11_end_21 : decode cX11_end 21 = .ok (.getfield 19, 3) := by decide +kernel
theorem dX11_end_24 : decode cX11_end 24 = .ok (.getfield 34, 3) := by decide +kernel
theorem dX11_end_27 : decode cX11_end 27 = .ok (.iload_n 1, 1) := by decide +kernel
theorem dX11_end_28 : decode cX11_end 28 = .ok (.putfield 38, 3) := by decide +kernel
theorem dX11_end_31 : decode cX11_end 31 = .ok (.iconst 1, 1) := by decide +kernel
theorem dX11_end_32 : decode cX11_end 32 = .ok (.ireturn, 1) := by decide +kernel
theorem dX11_read_0 : decode cX11_read 0 = .ok (.aload_n 0, 1) := by decide +kernel
theorem dX11_read_1 : decode cX11_read 1 = .ok (.getfield 10, 3) := by decide +kernel
theorem dX11_read_4 : decode cX11_read 4 = .ok (.invokevirtual 48, 3) := by decide +kernel
theorem dX11_read_7 : decode cX11_read 7 = .ok (.aload_n 0, 1) := by decide +kernel
theorem dX11_read_8 : decode cX11_read 8 = .ok (.aload_n 0, 1) := by decide +kernel
theorem dX11_read_9 : decode cX11_read 9 = .ok (.getfield 19, 3) := by decide +kernel
theorem dX11_read_12 : decode cX11_read 12 = .ok (.invokevirtual 51, 3) := by decide +kernel
theorem dX11_read_15 : decode cX11_read 15 = .ok (.ifCond .eq 26, 3) := by decide +kernel
theorem dX11_read_18 : decode cX11_read 18 = .ok (.aload_n 0, 1) := by decide +kernel
theorem dX11_read_19 : decode cX11_read 19 = .ok (.getfield 23, 3) := by decide +kernel
theorem dX11_read_22 : decode cX11_read 22 = .ok (.astore_n 1, 1) := by decide +kernel
theorem dX11_read_23 : decode cX11_read 23 = .ok (.aload_n 0, 1) := by decide +kernel
theorem dX11_read_24 : decode cX11_read 24 = .ok (.aload_n 0, 1) := by decide +kernel
theorem dX11_read_25 : decode cX11_read 25 = .ok (.getfield 19, 3) := by decide +kernel
theorem dX11_read_28 : decode cX11_read 28 = .ok (.putfield 23, 3) := by decide +kernel
theorem dX11_read_31 : decode cX11_read 31 = .ok (.aload_n 0, 1) := by decide +kernel
theorem dX11_read_32 : decode cX11_read 32 = .ok (.aload_n 1, 1) := by decide +kernel
theorem dX11_read_33 : decode cX11_read 33 = .ok (.putfield 19, 3) := by decide +kernel
theorem dX11_read_36 : decode cX11_read 36 = .ok (.aload_n 0, 1) := by decide +kernel
theorem dX11_read_37 : decode cX11_read 37 = .ok (.iconst 1, 1) := by decide +kernel
theorem dX11_read_38 : decode cX11_read 38 = .ok (.putfield 26, 3) := by decide +kernel
theorem dX11_read_41 : decode cX11_read 41 = .ok (.aload_n 0, 1) := by decide +kernel
theorem dX11_read_42 : decode cX11_read 42 = .ok (.getfield 19, 3) := by decide +kernel
theorem dX11_read_45 : decode cX11_read 45 = .ok (.getfield 34, 3) := by decide +kernel
theorem dX11_read_48 : decode cX11_read 48 = .ok (.iconst 0, 1) := by decide +kernel
theorem dX11_read_49 : decode cX11_read 49 = .ok (.putfield 38, 3) := by decide +kernel
theorem dX11_read_52 : decode cX11_read 52 = .ok (.aload_n 0, 1) := by decide +kernel
theorem dX11_read_53 : decode cX11_read 53 = .ok (.getfield 10, 3) := by decide +kernel
theorem dX11_read_56 : decode cX11_read 56 = .ok (.getfield 55, 3) := by decide +kernel
theorem dX11_read_59 : decode cX11_read 59 = .ok (.ireturn, 1) := by decide +kernel
theorem dX11_place_0 : decode cX11_place 0 = .ok (.aload_n 0, 1) := by decide +kernel
theorem dX11_place_1 : decode cX11_place 1 = .ok (.getfield 10, 3) := by decide +kernel
theorem dX11_place_4 : decode cX11_place 4 = .ok (.getfield 58, 3) := by decide +kernel
theorem dX11_place_7 : decode cX11_place 7 = .ok (.ireturn, 1) := by decide +kernel
theorem dX11_size_0 : decode cX11_size 0 = .ok (.aload_n 0, 1) := by decide +kernel
theorem dX11_size_1 : decode cX11_size 1 = .ok (.getfield 26, 3) := by decide +kernel
theorem dX11_size_4 : decode cX11_size 4 = .ok (.ifCond .ne 5, 3) := by decide +kernel
theorem dX11_size_7 : decode cX11_size 7 = .ok (.iconst (-1), 1) := by decide +kernel
theorem dX11_size_8 : decode cX11_size 8 = .ok (.ireturn, 1) := by decide +kernel
theorem dX11_size_9 : decode cX11_size 9 = .ok (.iload_n 1, 1) := by decide +kernel
theorem dX11_size_10 : decode cX11_size 10 = .ok (.tableswitch 53 0 2 #[26, 34, 42], 26) := by decide +kernel
theorem dX11_size_36 : decode cX11_size 36 = .ok (.aload_n 0, 1) := by decide +kernel
theorem dX11_size_37 : decode cX11_size 37 = .ok (.getfield 23, 3) := by decide +kernel
theorem dX11_size_40 : decode cX11_size 40 = .ok (.getfield 61, 3) := by decide +kernel
theorem dX11_size_43 : decode cX11_size 43 = .ok (.ireturn, 1) := by decide +kernel
theorem dX11_size_44 : decode cX11_size 44 = .ok (.aload_n 0, 1) := by decide +kernel
theorem dX11_size_45 : decode cX11_size 45 = .ok (.getfield 23, 3) := by decide +kernel
theorem dX11_size_48 : decode cX11_size 48 = .ok (.getfield 64, 3) := by decide +kernel
theorem dX11_size_51 : decode cX11_size 51 = .ok (.ireturn, 1) := by decide +kernel
theorem dX11_size_52 : decode cX11_size 52 = .ok (.aload_n 0, 1) := by decide +kernel
theorem dX11_size_53 : decode cX11_size 53 = .ok (.getfield 23, 3) := by decide +kernel
theorem dX11_size_56 : decode cX11_size 56 = .ok (.getfield 67, 3) := by decide +kernel
theorem dX11_size_59 : decode cX11_size 59 = .ok (.getfield 71, 3) := by decide +kernel
theorem dX11_size_62 : decode cX11_size 62 = .ok (.ireturn, 1) := by decide +kernel
theorem dX11_size_63 : decode cX11_size 63 = .ok (.iconst (-1), 1) := by decide +kernel
theorem dX11_size_64 : decode cX11_size 64 = .ok (.ireturn, 1) := by decide +kernel
theorem dX11_field_0 : decode cX11_field 0 = .ok (.iload_n 1, 1) := by decide +kernel
theorem dX11_field_1 : decode cX11_field 1 = .ok (.ifCond .lt 14, 3) := by decide +kernel
theorem dX11_field_4 : decode cX11_field 4 = .ok (.iload_n 1, 1) := by decide +kernel
theorem dX11_field_5 : decode cX11_field 5 = .ok (.aload_n 0, 1) := by decide +kernel
theorem dX11_field_6 : decode cX11_field 6 = .ok (.getfield 23, 3) := by decide +kernel
theorem dX11_field_9 : decode cX11_field 9 = .ok (.getfield 61, 3) := by decide +kernel
theorem dX11_field_12 : decode cX11_field 12 = .ok (.if_icmp .lt 5, 3) := by decide +kernel
theorem dX11_field_15 : decode cX11_field 15 = .ok (.iconst (-1), 1) := by decide +kernel
theorem dX11_field_16 : decode cX11_field 16 = .ok (.ireturn, 1) := by decide +kernel
theorem dX11_field_17 : decode cX11_field 17 = .ok (.aload_n 0, 1) := by decide +kernel
theorem dX11_field_18 : decode cX11_field 18 = .ok (.getfield 23, 3) := by decide +kernel
theorem dX11_field_21 : decode cX11_field 21 = .ok (.getfield 67, 3) := by decide +kernel
theorem dX11_field_24 : decode cX11_field 24 = .ok (.getfield 74, 3) := by decide +kernel
theorem dX11_field_27 : decode cX11_field 27 = .ok (.aload_n 0, 1) := by decide +kernel
theorem dX11_field_28 : decode cX11_field 28 = .ok (.getfield 23, 3) := by decide +kernel
theorem dX11_field_31 : decode cX11_field 31 = .ok (.aload_n 0, 1) := by decide +kernel
theorem dX11_field_32 : decode cX11_field 32 = .ok (.getfield 23, 3) := by decide +kernel
theorem dX11_field_35 : decode cX11_field 35 = .ok (.getfield 78, 3) := by decide +kernel
theorem dX11_field_38 : decode cX11_field 38 = .ok (.iload_n 1, 1) := by decide +kernel
theorem dX11_field_39 : decode cX11_field 39 = .ok (.invokestatic 81, 3) := by decide +kernel
theorem dX11_field_42 : decode cX11_field 42 = .ok (.invokevirtual 85, 3) := by decide +kernel
theorem dX11_field_45 : decode cX11_field 45 = .ok (.invokestatic 81, 3) := by decide +kernel
theorem dX11_field_48 : decode cX11_field 48 = .ok (.ireturn, 1) := by decide +kernel
theorem dX11_method_0 : decode cX11_method 0 = .ok (.aload_n 0, 1) := by decide +kernel
theorem dX11_method_1 : decode cX11_method 1 = .ok (.getfield 23, 3) := by decide +kernel
theorem dX11_method_4 : decode cX11_method 4 = .ok (.iload_n 1, 1) := by decide +kernel
theorem dX11_method_5 : decode cX11_method 5 = .ok (.invokevirtual 89, 3) := by decide +kernel
theorem dX11_method_8 : decode cX11_method 8 = .ok (.astore_n 3, 1) := by decide +kernel
theorem dX11_method_9 : decode cX11_method 9 = .ok (.aload_n 3, 1) := by decide +kernel
theorem dX11_method_10 : decode cX11_method 10 = .ok (.ifnonnull 5, 3) := by decide +kernel
theorem dX11_method_13 : decode cX11_method 13 = .ok (.iconst (-1), 1) := by decide +kernel
theorem dX11_method_14 : decode cX11_method 14 = .ok (.ireturn, 1) := by decide +kernel
theorem dX11_method_15 : decode cX11_method 15 = .ok (.iload_n 2, 1) := by decide +kernel
theorem dX11_method_16 : decode cX11_method 16 = .ok (.tableswitch 97 0 5 #[40, 45, 50, 55, 60, 65], 40) := by decide +kernel
theorem dX11_method_56 : decode cX11_method 56 = .ok (.aload_n 3, 1) := by decide +kernel
theorem dX11_method_57 : decode cX11_method 57 = .ok (.getfield 93, 3) := by decide +kernel
theorem dX11_method_60 : decode cX11_method 60 = .ok (.ireturn, 1) := by decide +kernel
theorem dX11_method_61 : decode cX11_method 61 = .ok (.aload_n 3, 1) := by decide +kernel
theorem dX11_method_62 : decode cX11_method 62 = .ok (.getfield 98, 3) := by decide +kernel
theorem dX11_method_65 : decode cX11_method 65 = .ok (.ireturn, 1) := by decide +kernel
theorem dX11_method_66 : decode cX11_method 66 = .ok (.aload_n 3, 1) := by decide +kernel
theorem dX11_method_67 : decode cX11_method 67 = .ok (.getfield 101, 3) := by decide +kernel
theorem dX11_method_70 : decode cX11_method 70 = .ok (.ireturn, 1) := by decide +kernel
theorem dX11_method_71 : decode cX11_method 71 = .ok (.aload_n 3, 1) := by decide +kernel
theorem dX11_method_72 : decode cX11_method 72 = .ok (.getfield 104, 3) := by decide +kernel
theorem dX11_method_75 : decode cX11_method 75 = .ok (.ireturn, 1) := by decide +kernel
theorem dX11_method_76 : decode cX11_method 76 = .ok (.aload_n 3, 1) := by decide +kernel
theorem dX11_method_77 : decode cX11_method 77 = .ok (.getfield 107, 3) := by decide +kernel
theorem dX11_method_80 : decode cX11_method 80 = .ok (.ireturn, 1) := by decide +kernel
theorem dX11_method_81 : decode cX11_method 81 = .ok (.aload_n 0, 1) := by decide +kernel
theorem dX11_method_82 : decode cX11_method 82 = .ok (.getfield 23, 3) := by decide +kernel
theorem dX11_method_85 : decode cX11_method 85 = .ok (.getfield 67, 3) := by decide +kernel
theorem dX11_method_88 : decode cX11_method 88 = .ok (.getfield 110, 3) := by decide +kernel
theorem dX11_method_91 : decode cX11_method 91 = .ok (.aload_n 0, 1) := by decide +kernel
theorem dX11_method_92 : decode cX11_method 92 = .ok (.getfield 23, 3) := by decide +kernel
theorem dX11_method_95 : decode cX11_method 95 = .ok (.aload_n 0, 1) := by decide +kernel
theorem dX11_method_96 : decode cX11_method 96 = .ok (.getfield 23, 3) := by decide +kernel
theorem dX11_method_99 : decode cX11_method 99 = .ok (.getfield 113, 3) := by decide +kernel
theorem dX11_method_102 : decode cX11_method 102 = .ok (.iload_n 1, 1) := by decide +kernel
theorem dX11_method_103 : decode cX11_method 103 = .ok (.invokestatic 81, 3) := by decide +kernel
theorem dX11_method_106 : decode cX11_method 106 = .ok (.invokevirtual 85, 3) := by decide +kernel
theorem dX11_method_109 : decode cX11_method 109 = .ok (.invokestatic 81, 3) := by decide +kernel
theorem dX11_method_112 : decode cX11_method 112 = .ok (.ireturn, 1) := by decide +kernel
theorem dX11_method_113 : decode cX11_method 113 = .ok (.iconst (-1), 1) := by decide +kernel
theorem dX11_method_114 : decode cX11_method 114 = .ok (.ireturn, 1) := by decide +kernel
theorem dX11_code_0 : decode cX11_code 0 = .ok (.aload_n 0, 1) := by decide +kernel
theorem dX11_code_1 : decode cX11_code 1 = .ok (.getfield 23, 3) := by decide +kernel
theorem dX11_code_4 : decode cX11_code 4 = .ok (.iload_n 1, 1) := by decide +kernel
theorem dX11_code_5 : decode cX11_code 5 = .ok (.iload_n 2, 1) := by decide +kernel
theorem dX11_code_6 : decode cX11_code 6 = .ok (.invokevirtual 116, 3) := by decide +kernel
theorem dX11_code_9 : decode cX11_code 9 = .ok (.istore_n 3, 1) := by decide +kernel
theorem dX11_code_10 : decode cX11_code 10 = .ok (.iload_n 3, 1) := by decide +kernel
theorem dX11_code_11 : decode cX11_code 11 = .ok (.iconst (-1), 1) := by decide +kernel
theorem dX11_code_12 : decode cX11_code 12 = .ok (.if_icmp .ne 7, 3) := by decide +kernel
theorem dX11_code_15 : decode cX11_code 15 = .ok (.iconst (-1), 1) := by decide +kernel
theorem dX11_code_16 : decode cX11_code 16 = .ok (.goto 14, 3) := by decide +kernel
theorem dX11_code_19 : decode cX11_code 19 = .ok (.aload_n 0, 1) := by decide +kernel
theorem dX11_code_20 : decode cX11_code 20 = .ok (.getfield 23, 3) := by decide +kernel
theorem dX11_code_23 : decode cX11_code 23 = .ok (.getfield 34, 3) := by decide +kernel
theorem dX11_code_26 : decode cX11_code 26 = .ok (.iload_n 3, 1) := by decide +kernel
theorem dX11_code_27 : decode cX11_code 27 = .ok (.invokestatic 120, 3) := by decide +kernel
theorem dX11_code_30 : decode cX11_code 30 = .ok (.ireturn, 1) := by decide +kernel
theorem dX11_first_0 : decode cX11_first 0 = .ok (.aload_n 0, 1) := by decide +kernel
theorem dX11_first_1 : decode cX11_first 1 = .ok (.getfield 23, 3) := by decide +kernel
theorem dX11_first_4 : decode cX11_first 4 = .ok (.iload_n 1, 1) := by decide +kernel
theorem dX11_first_5 : decode cX11_first 5 = .ok (.invokevirtual 89, 3) := by decide +kernel
theorem dX11_first_8 : decode cX11_first 8 = .ok (.astore_n 3, 1) := by decide +kernel
theorem dX11_first_9 : decode cX11_first 9 = .ok (.aload_n 0, 1) := by decide +kernel
theorem dX11_first_10 : decode cX11_first 10 = .ok (.getfield 23, 3) := by decide +kernel
theorem dX11_first_13 : decode cX11_first 13 = .ok (.iload_n 1, 1) := by decide +kernel
theorem dX11_first_14 : decode cX11_first 14 = .ok (.iload_n 2, 1) := by decide +kernel
theorem dX11_first_15 : decode cX11_first 15 = .ok (.invokevirtual 116, 3) := by decide +kernel
theorem dX11_first_18 : decode cX11_first 18 = .ok (.istore 4, 2) := by decide +kernel
theorem dX11_first_20 : decode cX11_first 20 = .ok (.aload_n 3, 1) := by decide +kernel
theorem dX11_first_21 : decode cX11_first 21 = .ok (.ifnull 9, 3) := by decide +kernel
theorem dX11_first_24 : decode cX11_first 24 = .ok (.iload 4, 2) := by decide +kernel
theorem dX11_first_26 : decode cX11_first 26 = .ok (.iconst (-1), 1) := by decide +kernel
theorem dX11_first_27 : decode cX11_first 27 = .ok (.if_icmp .ne 5, 3) := by decide +kernel
theorem dX11_first_30 : decode cX11_first 30 = .ok (.iconst 0, 1) := by decide +kernel
theorem dX11_first_31 : decode cX11_first 31 = .ok (.ireturn, 1) := by decide +kernel
theorem dX11_first_32 : decode cX11_first 32 = .ok (.aload_n 0, 1) := by decide +kernel
theorem dX11_first_33 : decode cX11_first 33 = .ok (.getfield 23, 3) := by decide +kernel
theorem dX11_first_36 : decode cX11_first 36 = .ok (.aload_n 3, 1) := by decide +kernel
theorem dX11_first_37 : decode cX11_first 37 = .ok (.iload 4, 2) := by decide +kernel
theorem dX11_first_39 : decode cX11_first 39 = .ok (.invokestatic 126, 3) := by decide +kernel
theorem dX11_first_42 : decode cX11_first 42 = .ok (.ireturn, 1) := by decide +kernel
theorem dX11_target_0 : decode cX11_target 0 = .ok (.aload_n 0, 1) := by decide +kernel
theorem dX11_target_1 : decode cX11_target 1 = .ok (.getfield 23, 3) := by decide +kernel
theorem dX11_target_4 : decode cX11_target 4 = .ok (.iload_n 1, 1) := by decide +kernel
theorem dX11_target_5 : decode cX11_target 5 = .ok (.invokevirtual 89, 3) := by decide +kernel
theorem dX11_target_8 : decode cX11_target 8 = .ok (.astore 4, 2) := by decide +kernel
theorem dX11_target_10 : decode cX11_target 10 = .ok (.aload_n 0, 1) := by decide +kernel
theorem dX11_target_11 : decode cX11_target 11 = .ok (.getfield 23, 3) := by decide +kernel
theorem dX11_target_14 : decode cX11_target 14 = .ok (.iload_n 1, 1) := by decide +kernel
theorem dX11_target_15 : decode cX11_target 15 = .ok (.iload_n 2, 1) := by decide +kernel
theorem dX11_target_16 : decode cX11_target 16 = .ok (.invokevirtual 116, 3) := by decide +kernel
theorem dX11_target_19 : decode cX11_target 19 = .ok (.istore 5, 2) := by decide +kernel
theorem dX11_target_21 : decode cX11_target 21 = .ok (.aload 4, 2) := by decide +kernel
theorem dX11_target_23 : decode cX11_target 23 = .ok (.ifnull 9, 3) := by decide +kernel
theorem dX11_target_26 : decode cX11_target 26 = .ok (.iload 5, 2) := by decide +kernel
theorem dX11_target_28 : decode cX11_target 28 = .ok (.iconst (-1), 1) := by decide +kernel
theorem dX11_target_29 : decode cX11_target 29 = .ok (.if_icmp .ne 5, 3) := by decide +kernel
theorem dX11_target_32 : decode cX11_target 32 = .ok (.iconst (-1), 1) := by decide +kernel
theorem dX11_target_33 : decode cX11_target 33 = .ok (.ireturn, 1) := by decide +kernel
theorem dX11_target_34 : decode cX11_target 34 = .ok (.iload_n 3, 1) := by decide +kernel
theorem dX11_target_35 : decode cX11_target 35 = .ok (.ifCond .lt 24, 3) := by decide +kernel
theorem dX11_target_38 : decode cX11_target 38 = .ok (.iload_n 3, 1) := by decide +kernel
theorem dX11_target_39 : decode cX11_target 39 = .ok (.aload_n 0, 1) := by decide +kernel
theorem dX11_target_40 : decode cX11_target 40 = .ok (.getfield 23, 3) := by decide +kernel
theorem dX11_target_43 : decode cX11_target 43 = .ok (.getfield 34, 3) := by decide +kernel
theorem dX11_target_46 : decode cX11_target 46 = .ok (.iload 5, 2) := by decide +kernel
theorem dX11_target_48 : decode cX11_target 48 = .ok (.aload 4, 2) := by decide +kernel
theorem dX11_target_50 : decode cX11_target 50 = .ok (.getfield 132, 3) := by decide +kernel
theorem dX11_target_53 : decode cX11_target 53 = .ok (.invokestatic 135, 3) := by decide +kernel
theorem dX11_target_56 : decode cX11_target 56 = .ok (.if_icmp .lt 5, 3) := by decide +kernel
theorem dX11_target_59 : decode cX11_target 59 = .ok (.iconst (-1), 1) := by decide +kernel
theorem dX11_target_60 : decode cX11_target 60 = .ok (.ireturn, 1) := by decide +kernel
theorem dX11_target_61 : decode cX11_target 61 = .ok (.aload_n 0, 1) := by decide +kernel
theorem dX11_target_62 : decode cX11_target 62 = .ok (.getfield 23, 3) := by decide +kernel
theorem dX11_target_65 : decode cX11_target 65 = .ok (.aload 4, 2) := by decide +kernel
theorem dX11_target_67 : decode cX11_target 67 = .ok (.aload_n 0, 1) := by decide +kernel
theorem dX11_target_68 : decode cX11_target 68 = .ok (.getfield 23, 3) := by decide +kernel
theorem dX11_target_71 : decode cX11_target 71 = .ok (.getfield 34, 3) := by decide +kernel
theorem dX11_target_74 : decode cX11_target 74 = .ok (.iload 5, 2) := by decide +kernel
theorem dX11_target_76 : decode cX11_target 76 = .ok (.aload 4, 2) := by decide +kernel
theorem dX11_target_78 : decode cX11_target 78 = .ok (.getfield 132, 3) := by decide +kernel
theorem dX11_target_81 : decode cX11_target 81 = .ok (.iload_n 3, 1) := by decide +kernel
theorem dX11_target_82 : decode cX11_target 82 = .ok (.invokestatic 139, 3) := by decide +kernel
theorem dX11_target_85 : decode cX11_target 85 = .ok (.invokevirtual 143, 3) := by decide +kernel
theorem dX11_target_88 : decode cX11_target 88 = .ok (.ireturn, 1) := by decide +kernel
theorem dX11_keepsAllRules_0 : decode cX11_keepsAllRules 0 = .ok (.aload_n 1, 1) := by decide +kernel
theorem dX11_keepsAllRules_1 : decode cX11_keepsAllRules 1 = .ok (.aload_n 0, 1) := by decide +kernel
theorem dX11_keepsAllRules_2 : decode cX11_keepsAllRules 2 = .ok (.getfield 10, 3) := by decide +kernel
theorem dX11_keepsAllRules_5 : decode cX11_keepsAllRules 5 = .ok (.invokestatic 147, 3) := by decide +kernel
theorem dX11_keepsAllRules_8 : decode cX11_keepsAllRules 8 = .ok (.ifCond .eq 58, 3) := by decide +kernel
theorem dX11_keepsAllRules_11 : decode cX11_keepsAllRules 11 = .ok (.aload_n 0, 1) := by decide +kernel
theorem dX11_keepsAllRules_12 : decode cX11_keepsAllRules 12 = .ok (.aload_n 1, 1) := by decide +kernel
theorem dX11_keepsAllRules_13 : decode cX11_keepsAllRules 13 = .ok (.invokevirtual 153, 3) := by decide +kernel
theorem dX11_keepsAllRules_16 : decode cX11_keepsAllRules 16 = .ok (.ifCond .eq 50, 3) := by decide +kernel
theorem dX11_keepsAllRules_19 : decode cX11_keepsAllRules 19 = .ok (.aload_n 1, 1) := by decide +kernel
theorem dX11_keepsAllRules_20 : decode cX11_keepsAllRules 20 = .ok (.aload_n 0, 1) := by decide +kernel
theorem dX11_keepsAllRules_21 : decode cX11_keepsAllRules 21 = .ok (.getfield 10, 3) := by decide +kernel
theorem dX11_keepsAllRules_24 : decode cX11_keepsAllRules 24 = .ok (.invokestatic 156, 3) := by decide +kernel
theorem dX11_keepsAllRules_27 : decode cX11_keepsAllRules 27 = .ok (.ifCond .eq 39, 3) := by decide +kernel
theorem dX11_keepsAllRules_30 : decode cX11_keepsAllRules 30 = .ok (.aload_n 0, 1) := by decide +kernel
theorem dX11_keepsAllRules_31 : decode cX11_keepsAllRules 31 = .ok (.getfield 10, 3) := by decide +kernel
theorem dX11_keepsAllRules_34 : decode cX11_keepsAllRules 34 = .ok (.bipush 15, 2) := by decide +kernel
theorem dX11_keepsAllRules_36 : decode cX11_keepsAllRules 36 = .ok (.aload_n 1, 1) := by decide +kernel
theorem dX11_keepsAllRules_37 : decode cX11_keepsAllRules 37 = .ok (.invokestatic 159, 3) := by decide +kernel
theorem dX11_keepsAllRules_40 : decode cX11_keepsAllRules 40 = .ok (.invokevirtual 163, 3) := by decide +kernel
theorem dX11_keepsAllRules_43 : decode cX11_keepsAllRules 43 = .ok (.ifCond .eq 23, 3) := by decide +kernel
theorem dX11_keepsAllRules_46 : decode cX11_keepsAllRules 46 = .ok (.aload_n 0, 1) := by decide +kernel
theorem dX11_keepsAllRules_47 : decode cX11_keepsAllRules 47 = .ok (.getfield 10, 3) := by decide +kernel
theorem dX11_keepsAllRules_50 : decode cX11_keepsAllRules 50 = .ok (.bipush 16, 2) := by decide +kernel
theorem dX11_keepsAllRules_52 : decode cX11_keepsAllRules 52 = .ok (.aload_n 1, 1) := by decide +kernel
theorem dX11_keepsAllRules_53 : decode cX11_keepsAllRules 53 = .ok (.invokestatic 166, 3) := by decide +kernel
theorem dX11_keepsAllRules_56 : decode cX11_keepsAllRules 56 = .ok (.invokevirtual 163, 3) := by decide +kernel
theorem dX11_keepsAllRules_59 : decode cX11_keepsAllRules 59 = .ok (.ifCond .eq 7, 3) := by decide +kernel
theorem dX11_keepsAllRules_62 : decode cX11_keepsAllRules 62 = .ok (.iconst 1, 1) := by decide +kernel
theorem dX11_keepsAllRules_63 : decode cX11_keepsAllRules 63 = .ok (.goto 4, 3) := by decide +kernel
theorem dX11_keepsAllRules_66 : decode cX11_keepsAllRules 66 = .ok (.iconst 0, 1) := by decide +kernel
theorem dX11_keepsAllRules_67 : decode cX11_keepsAllRules 67 = .ok (.ireturn, 1) := by decide +kernel
theorem dX11_keepsNameRules_0 : decode cX11_keepsNameRules 0 = .ok (.aload_n 0, 1) := by decide +kernel
theorem dX11_keepsNameRules_1 : decode cX11_keepsNameRules 1 = .ok (.getfield 10, 3) := by decide +kernel
theorem dX11_keepsNameRules_4 : decode cX11_keepsNameRules 4 = .ok (.bipush 6, 2) := by decide +kernel
theorem dX11_keepsNameRules_6 : decode cX11_keepsNameRules 6 = .ok (.aload_n 1, 1) := by decide +kernel
theorem dX11_keepsNameRules_7 : decode cX11_keepsNameRules 7 = .ok (.getfield 67, 3) := by decide +kernel
theorem dX11_keepsNameRules_10 : decode cX11_keepsNameRules 10 = .ok (.invokestatic 169, 3) := by decide +kernel
theorem dX11_keepsNameRules_13 : decode cX11_keepsNameRules 13 = .ok (.invokevirtual 163, 3) := by decide +kernel
theorem dX11_keepsNameRules_16 : decode cX11_keepsNameRules 16 = .ok (.ifCond .eq 137, 3) := by decide +kernel
theorem dX11_keepsNameRules_19 : decode cX11_keepsNameRules 19 = .ok (.aload_n 0, 1) := by decide +kernel
theorem dX11_keepsNameRules_20 : decode cX11_keepsNameRules 20 = .ok (.getfield 10, 3) := by decide +kernel
theorem dX11_keepsNameRules_23 : decode cX11_keepsNameRules 23 = .ok (.bipush 7, 2) := by decide +kernel
theorem dX11_keepsNameRules_25 : decode cX11_keepsNameRules 25 = .ok (.aload_n 1, 1) := by decide +kernel
theorem dX11_keepsNameRules_26 : decode cX11_keepsNameRules 26 = .ok (.invokestatic 175, 3) := by decide +kernel
theorem dX11_keepsNameRules_29 : decode cX11_keepsNameRules 29 = .ok (.invokevirtual 163, 3) := by decide +kernel
theorem dX11_keepsNameRules_32 : decode cX11_keepsNameRules 32 = .ok (.ifCond .eq 121, 3) := by decide +kernel
theorem dX11_keepsNameRules_35 : decode cX11_keepsNameRules 35 = .ok (.aload_n 0, 1) := by decide +kernel
theorem dX11_keepsNameRules_36 : decode cX11_keepsNameRules 36 = .ok (.getfield 10, 3) := by decide +kernel
theorem dX11_keepsNameRules_39 : decode cX11_keepsNameRules 39 = .ok (.bipush 8, 2) := by decide +kernel
theorem dX11_keepsNameRules_41 : decode cX11_keepsNameRules 41 = .ok (.aload_n 1, 1) := by decide +kernel
theorem dX11_keepsNameRules_42 : decode cX11_keepsNameRules 42 = .ok (.invokestatic 178, 3) := by decide +kernel
theorem dX11_keepsNameRules_45 : decode cX11_keepsNameRules 45 = .ok (.invokevirtual 163, 3) := by decide +kernel
theorem dX11_keepsNameRules_48 : decode cX11_keepsNameRules 48 = .ok (.ifCond .eq 105, 3) := by decide +kernel
theorem dX11_keepsNameRules_51 : decode cX11_keepsNameRules 51 = .ok (.aload_n 0, 1) := by decide +kernel
theorem dX11_keepsNameRules_52 : decode cX11_keepsNameRules 52 = .ok (.getfield 10, 3) := by decide +kernel
theorem dX11_keepsNameRules_55 : decode cX11_keepsNameRules 55 = .ok (.bipush 9, 2) := by decide +kernel
theorem dX11_keepsNameRules_57 : decode cX11_keepsNameRules 57 = .ok (.aload_n 1, 1) := by decide +kernel
theorem dX11_keepsNameRules_58 : decode cX11_keepsNameRules 58 = .ok (.invokestatic 181, 3) := by decide +kernel
theorem dX11_keepsNameRules_61 : decode cX11_keepsNameRules 61 = .ok (.invokevirtual 163, 3) := by decide +kernel
theorem dX11_keepsNameRules_64 : decode cX11_keepsNameRules 64 = .ok (.ifCond .eq 89, 3) := by decide +kernel
theorem dX11_keepsNameRules_67 : decode cX11_keepsNameRules 67 = .ok (.aload_n 0, 1) := by decide +kernel
theorem dX11_keepsNameRules_68 : decode cX11_keepsNameRules 68 = .ok (.getfield 10, 3) := by decide +kernel
theorem dX11_keepsNameRules_71 : decode cX11_keepsNameRules 71 = .ok (.bipush 10, 2) := by decide +kernel
theorem dX11_keepsNameRules_73 : decode cX11_keepsNameRules 73 = .ok (.aload_n 1, 1) := by decide +kernel
theorem dX11_keepsNameRules_74 : decode cX11_keepsNameRules 74 = .ok (.invokestatic 184, 3) := by decide +kernel
theorem dX11_keepsNameRules_77 : decode cX11_keepsNameRules 77 = .ok (.invokevirtual 163, 3) := by decide +kernel
theorem dX11_keepsNameRules_80 : decode cX11_keepsNameRules 80 = .ok (.ifCond .eq 73, 3) := by decide +kernel
theorem dX11_keepsNameRules_83 : decode cX11_keepsNameRules 83 = .ok (.aload_n 0, 1) := by decide +kernel
theorem dX11_keepsNameRules_84 : decode cX11_keepsNameRules 84 = .ok (.getfield 10, 3) := by decide +kernel
theorem dX11_keepsNameRules_87 : decode cX11_keepsNameRules 87 = .ok (.bipush 11, 2) := by decide +kernel
theorem dX11_keepsNameRules_89 : decode cX11_keepsNameRules 89 = .ok (.aload_n 1, 1) := by decide +kernel
theorem dX11_keepsNameRules_90 : decode cX11_keepsNameRules 90 = .ok (.invokestatic 187, 3) := by decide +kernel
theorem dX11_keepsNameRules_93 : decode cX11_keepsNameRules 93 = .ok (.invokevirtual 163, 3) := by decide +kernel
theorem dX11_keepsNameRules_96 : decode cX11_keepsNameRules 96 = .ok (.ifCond .eq 57, 3) := by decide +kernel
theorem dX11_keepsNameRules_99 : decode cX11_keepsNameRules 99 = .ok (.aload_n 0, 1) := by decide +kernel
theorem dX11_keepsNameRules_100 : decode cX11_keepsNameRules 100 = .ok (.getfield 10, 3) := by decide +kernel
theorem dX11_keepsNameRules_103 : decode cX11_keepsNameRules 103 = .ok (.bipush 12, 2) := by decide +kernel
theorem dX11_keepsNameRules_105 : decode cX11_keepsNameRules 105 = .ok (.aload_n 1, 1) := by decide +kernel
theorem dX11_keepsNameRules_106 : decode cX11_keepsNameRules 106 = .ok (.invokestatic 190, 3) := by decide +kernel
theorem dX11_keepsNameRules_109 : decode cX11_keepsNameRules 109 = .ok (.invokevirtual 163, 3) := by decide +kernel
theorem dX11_keepsNameRules_112 : decode cX11_keepsNameRules 112 = .ok (.ifCond .eq 41, 3) := by decide +kernel
theorem dX11_keepsNameRules_115 : decode cX11_keepsNameRules 115 = .ok (.aload_n 0, 1) := by decide +kernel
theorem dX11_keepsNameRules_116 : decode cX11_keepsNameRules 116 = .ok (.getfield 10, 3) := by decide +kernel
theorem dX11_keepsNameRules_119 : decode cX11_keepsNameRules 119 = .ok (.bipush 17, 2) := by decide +kernel
theorem dX11_keepsNameRules_121 : decode cX11_keepsNameRules 121 = .ok (.aload_n 1, 1) := by decide +kernel
theorem dX11_keepsNameRules_122 : decode cX11_keepsNameRules 122 = .ok (.getfield 193, 3) := by decide +kernel
theorem dX11_keepsNameRules_125 : decode cX11_keepsNameRules 125 = .ok (.aload_n 1, 1) := by decide +kernel
theorem dX11_keepsNameRules_126 : decode cX11_keepsNameRules 126 = .ok (.getfield 34, 3) := by decide +kernel
theorem dX11_keepsNameRules_129 : decode cX11_keepsNameRules 129 = .ok (.getfield 38, 3) := by decide +kernel
theorem dX11_keepsNameRules_132 : decode cX11_keepsNameRules 132 = .ok (.if_icmp .ne 7, 3) := by decide +kernel
theorem dX11_keepsNameRules_135 : decode cX11_keepsNameRules 135 = .ok (.iconst (-1), 1) := by decide +kernel
theorem dX11_keepsNameRules_136 : decode cX11_keepsNameRules 136 = .ok (.goto 7, 3) := by decide +kernel
theorem dX11_keepsNameRules_139 : decode cX11_keepsNameRules 139 = .ok (.aload_n 1, 1) := by decide +kernel
theorem dX11_keepsNameRules_140 : decode cX11_keepsNameRules 140 = .ok (.getfield 193, 3) := by decide +kernel
theorem dX11_keepsNameRules_143 : decode cX11_keepsNameRules 143 = .ok (.invokevirtual 163, 3) := by decide +kernel
theorem dX11_keepsNameRules_146 : decode cX11_keepsNameRules 146 = .ok (.ifCond .eq 7, 3) := by decide +kernel
theorem dX11_keepsNameRules_149 : decode cX11_keepsNameRules 149 = .ok (.iconst 1, 1) := by decide +kernel
theorem dX11_keepsNameRules_150 : decode cX11_keepsNameRules 150 = .ok (.goto 4, 3) := by decide +kernel
theorem dX11_keepsNameRules_153 : decode cX11_keepsNameRules 153 = .ok (.iconst 0, 1) := by decide +kernel
theorem dX11_keepsNameRules_154 : decode cX11_keepsNameRules 154 = .ok (.ireturn, 1) := by decide +kernel
theorem dX11_at_0 : decode cX11_at 0 = .ok (.iload_n 1, 1) := by decide +kernel
theorem dX11_at_1 : decode cX11_at 1 = .ok (.ifCond .lt 15, 3) := by decide +kernel
theorem dX11_at_4 : decode cX11_at 4 = .ok (.iload_n 1, 1) := by decide +kernel
theorem dX11_at_5 : decode cX11_at 5 = .ok (.aload_n 0, 1) := by decide +kernel
theorem dX11_at_6 : decode cX11_at 6 = .ok (.arraylength, 1) := by decide +kernel
theorem dX11_at_7 : decode cX11_at 7 = .ok (.if_icmp .ge 9, 3) := by decide +kernel
theorem dX11_at_10 : decode cX11_at 10 = .ok (.aload_n 0, 1) := by decide +kernel
theorem dX11_at_11 : decode cX11_at 11 = .ok (.iload_n 1, 1) := by decide +kernel
theorem dX11_at_12 : decode cX11_at 12 = .ok (.iaload, 1) := by decide +kernel
theorem dX11_at_13 : decode cX11_at 13 = .ok (.goto 4, 3) := by decide +kernel
theorem dX11_at_16 : decode cX11_at 16 = .ok (.iconst (-1), 1) := by decide +kernel
theorem dX11_at_17 : decode cX11_at 17 = .ok (.ireturn, 1) := by decide +kernel
theorem dX11_put_0 : decode cX11_put 0 = .ok (.iload_n 1, 1) := by decide +kernel
theorem dX11_put_1 : decode cX11_put 1 = .ok (.ifCond .lt 13, 3) := by decide +kernel
theorem dX11_put_4 : decode cX11_put 4 = .ok (.iload_n 1, 1) := by decide +kernel
theorem dX11_put_5 : decode cX11_put 5 = .ok (.aload_n 0, 1) := by decide +kernel
theorem dX11_put_6 : decode cX11_put 6 = .ok (.arraylength, 1) := by decide +kernel
theorem dX11_put_7 : decode cX11_put 7 = .ok (.if_icmp .ge 7, 3) := by decide +kernel
theorem dX11_put_10 : decode cX11_put 10 = .ok (.aload_n 0, 1) := by decide +kernel
theorem dX11_put_11 : decode cX11_put 11 = .ok (.iload_n 1, 1) := by decide +kernel
theorem dX11_put_12 : decode cX11_put 12 = .ok (.iload_n 2, 1) := by decide +kernel
theorem dX11_put_13 : decode cX11_put 13 = .ok (.iastore, 1) := by decide +kernel
theorem dX11_put_14 : decode cX11_put 14 = .ok (.return_, 1) := by decide +kernel
theorem dX12_init_0 : decode cX12_init 0 = .ok (.aload_n 0, 1) := by decide +kernel
theorem dX12_init_1 : decode cX12_init 1 = .ok (.invokespecial 1, 3) := by decide +kernel
theorem dX12_init_4 : decode cX12_init 4 = .ok (.aload_n 0, 1) := by decide +kernel
theorem dX12_init_5 : decode cX12_init 5 = .ok (.sipush 16000, 3) := by decide +kernel
theorem dX12_init_8 : decode cX12_init 8 = .ok (.newarray .byte, 2) := by decide +kernel
theorem dX12_init_10 : decode cX12_init 10 = .ok (.putfield 9, 3) := by decide +kernel
theorem dX12_init_13 : decode cX12_init 13 = .ok (.aload_n 0, 1) := by decide +kernel
theorem dX12_init_14 : decode cX12_init 14 = .ok (.new 13, 3) := by decide +kernel
theorem dX12_init_17 : decode cX12_init 17 = .ok (.dup, 1) := by decide +kernel
theorem dX12_init_18 : decode cX12_init 18 = .ok (.invokespecial 15, 3) := by decide +kernel
theorem dX12_init_21 : decode cX12_init 21 = .ok (.putfield 16, 3) := by decide +kernel
theorem dX12_init_24 : decode cX12_init 24 = .ok (.aload_n 0, 1) := by decide +kernel
theorem dX12_init_25 : decode cX12_init 25 = .ok (.iconst (-1), 1) := by decide +kernel
theorem dX12_init_26 : decode cX12_init 26 = .ok (.putfield 20, 3) := by decide +kernel
theorem dX12_init_29 : decode cX12_init 29 = .ok (.aload_n 0, 1) := by decide +kernel
theorem dX12_init_30 : decode cX12_init 30 = .ok (.sipush 502, 3) := by decide +kernel
theorem dX12_init_33 : decode cX12_init 33 = .ok (.newarray .int, 2) := by decide +kernel
theorem dX12_init_35 : decode cX12_init 35 = .ok (.putfield 24, 3) := by decide +kernel
theorem dX12_init_38 : decode cX12_init 38 = .ok (.aload_n 0, 1) := by decide +kernel
theorem dX12_init_39 : decode cX12_init 39 = .ok (.sipush 502, 3) := by decide +kernel
theorem dX12_init_42 : decode cX12_init 42 = .ok (.newarray .int, 2) := by decide +kernel
theorem dX12_init_44 : decode cX12_init 44 = .ok (.putfield 28, 3) := by decide +kernel
theorem dX12_init_47 : decode cX12_init 47 = .ok (.aload_n 0, 1) := by decide +kernel
theorem dX12_init_48 : decode cX12_init 48 = .ok (.sipush 502, 3) := by decide +kernel
theorem dX12_init_51 : decode cX12_init 51 = .ok (.newarray .int, 2) := by decide +kernel
theorem dX12_init_53 : decode cX12_init 53 = .ok (.putfield 31, 3) := by decide +kernel
theorem dX12_init_56 : decode cX12_init 56 = .ok (.aload_n 0, 1) := by decide +kernel
theorem dX12_init_57 : decode cX12_init 57 = .ok (.sipush 502, 3) := by decide +kernel
theorem dX12_init_60 : decode cX12_init 60 = .ok (.newarray .int, 2) := by decide +kernel
theorem dX12_init_62 : decode cX12_init 62 = .ok (.putfield 34, 3) := by decide +kernel
theorem dX12_init_65 : decode cX12_init 65 = .ok (.aload_n 0, 1) := by decide +kernel
theorem dX12_init_66 : decode cX12_init 66 = .ok (.sipush 502, 3) := by decide +kernel
theorem dX12_init_69 : decode cX12_init 69 = .ok (.newarray .long, 2) := by decide +kernel
theorem dX12_init_71 : decode cX12_init 71 = .ok (.putfield 37, 3) := by decide +kernel
theorem dX12_init_74 : decode cX12_init 74 = .ok (.aload_n 0, 1) := by decide +kernel
theorem dX12_init_75 : decode cX12_init 75 = .ok (.bipush 48, 2) := by decide +kernel
theorem dX12_init_77 : decode cX12_init 77 = .ok (.newarray .int, 2) := by decide +kernel
theorem dX12_init_79 : decode cX12_init 79 = .ok (.putfield 41, 3) := by decide +kernel
theorem dX12_init_82 : decode cX12_init 82 = .ok (.aload_n 0, 1) := by decide +kernel
theorem dX12_init_83 : decode cX12_init 83 = .ok (.sipush 3000, 3) := by decide +kernel
theorem dX12_init_86 : decode cX12_init 86 = .ok (.newarray .int, 2) := by decide +kernel
theorem dX12_init_88 : decode cX12_init 88 = .ok (.putfield 44, 3) := by decide +kernel
theorem dX12_init_91 : decode cX12_init 91 = .ok (.aload_n 0, 1) := by decide +kernel
theorem dX12_init_92 : decode cX12_init 92 = .ok (.sipush 3000, 3) := by decide +kernel
theorem dX12_init_95 : decode cX12_init 95 = .ok (.newarray .int, 2) := by decide +kernel
theorem dX12_init_97 : decode cX12_init 97 = .ok (.putfield 47, 3) := by decide +kernel
theorem dX12_init_100 : decode cX12_init 100 = .ok (.aload_n 0, 1) := by decide +kernel
theorem dX12_init_101 : decode cX12_init 101 = .ok (.bipush 24, 2) := by decide +kernel
theorem dX12_init_103 : decode cX12_init 103 = .ok (.newarray .int, 2) := by decide +kernel
theorem dX12_init_105 : decode cX12_init 105 = .ok (.putfield 50, 3) := by decide +kernel
theorem dX12_init_108 : decode cX12_init 108 = .ok (.aload_n 0, 1) := by decide +kernel
theorem dX12_init_109 : decode cX12_init 109 = .ok (.bipush 24, 2) := by decide +kernel
theorem dX12_init_111 : decode cX12_init 111 = .ok (.newarray .int, 2) := by decide +kernel
theorem dX12_init_113 : decode cX12_init 113 = .ok (.putfield 53, 3) := by decide +kernel
theorem dX12_init_116 : decode cX12_init 116 = .ok (.aload_n 0, 1) := by decide +kernel
theorem dX12_init_117 : decode cX12_init 117 = .ok (.bipush 24, 2) := by decide +kernel
theorem dX12_init_119 : decode cX12_init 119 = .ok (.newarray .int, 2) := by decide +kernel
theorem dX12_init_121 : decode cX12_init 121 = .ok (.putfield 56, 3) := by decide +kernel
theorem dX12_init_124 : decode cX12_init 124 = .ok (.aload_n 0, 1) := by decide +kernel
theorem dX12_init_125 : decode cX12_init 125 = .ok (.bipush 24, 2) := by decide +kernel
theorem dX12_init_127 : decode cX12_init 127 = .ok (.newarray .int, 2) := by decide +kernel
theorem dX12_init_129 : decode cX12_init 129 = .ok (.putfield 59, 3) := by decide +kernel
theorem dX12_init_132 : decode cX12_init 132 = .ok (.aload_n 0, 1) := by decide +kernel
theorem dX12_init_133 : decode cX12_init 133 = .ok (.bipush 24, 2) := by decide +kernel
theorem dX12_init_135 : decode cX12_init 135 = .ok (.newarray .int, 2) := by decide +kernel
theorem dX12_init_137 : decode cX12_init 137 = .ok (.putfield 62, 3) := by decide +kernel
theorem dX12_init_140 : decode cX12_init 140 = .ok (.aload_n 0, 1) := by decide +kernel
theorem dX12_init_141 : decode cX12_init 141 = .ok (.bipush 24, 2) := by decide +kernel
theorem dX12_init_143 : decode cX12_init 143 = .ok (.newarray .int, 2) := by decide +kernel
theorem dX12_init_145 : decode cX12_init 145 = .ok (.putfield 65, 3) := by decide +kernel
theorem dX12_init_148 : decode cX12_init 148 = .ok (.aload_n 0, 1) := by decide +kernel
theorem dX12_init_149 : decode cX12_init 149 = .ok (.sipush 1201, 3) := by decide +kernel
theorem dX12_init_152 : decode cX12_init 152 = .ok (.newarray .int, 2) := by decide +kernel
theorem dX12_init_154 : decode cX12_init 154 = .ok (.putfield 68, 3) := by decide +kernel
theorem dX12_init_157 : decode cX12_init 157 = .ok (.aload_n 0, 1) := by decide +kernel
theorem dX12_init_158 : decode cX12_init 158 = .ok (.ldc 71, 2) := by decide +kernel
theorem dX12_init_160 : decode cX12_init 160 = .ok (.newarray .int, 2) := by decide +kernel
theorem dX12_init_162 : decode cX12_init 162 = .ok (.putfield 72, 3) := by decide +kernel
theorem dX12_init_165 : decode cX12_init 165 = .ok (.aload_n 0, 1) := by decide +kernel
theorem dX12_init_166 : decode cX12_init 166 = .ok (.ldc 75, 2) := by decide +kernel
theorem dX12_init_168 : decode cX12_init 168 = .ok (.newarray .int, 2) := by decide +kernel
theorem dX12_init_170 : decode cX12_init 170 = .ok (.putfield 76, 3) := by decide +kernel
theorem dX12_init_173 : decode cX12_init 173 = .ok (.aload_n 0, 1) := by decide +kernel
theorem dX12_init_174 : decode cX12_init 174 = .ok (.bipush 24, 2) := by decide +kernel
theorem dX12_init_176 : decode cX12_init 176 = .ok (.newarray .int, 2) := by decide +kernel
theorem dX12_init_178 : decode cX12_init 178 = .ok (.putfield 79, 3) := by decide +kernel
theorem dX12_init_181 : decode cX12_init 181 = .ok (.aload_n 0, 1) := by decide +kernel
theorem dX12_init_182 : decode cX12_init 182 = .ok (.bipush 24, 2) := by decide +kernel
theorem dX12_init_184 : decode cX12_init 184 = .ok (.newarray .int, 2) := by decide +kernel
theorem dX12_init_186 : decode cX12_init 186 = .ok (.putfield 82, 3) := by decide +kernel
theorem dX12_init_189 : decode cX12_init 189 = .ok (.aload_n 0, 1) := by decide +kernel
theorem dX12_init_190 : decode cX12_init 190 = .ok (.bipush 24, 2) := by decide +kernel
theorem dX12_init_192 : decode cX12_init 192 = .ok (.newarray .int, 2) := by decide +kernel
theorem dX12_init_194 : decode cX12_init 194 = .ok (.putfield 85, 3) := by decide +kernel
theorem dX12_init_197 : decode cX12_init 197 = .ok (.aload_n 0, 1) := by decide +kernel
theorem dX12_init_198 : decode cX12_init 198 = .ok (.sipush 144, 3) := by decide +kernel
theorem dX12_init_201 : decode cX12_init 201 = .ok (.newarray .int, 2) := by decide +kernel
theorem dX12_init_203 : decode cX12_init 203 = .ok (.putfield 88, 3) := by decide +kernel
theorem dX12_init_206 : decode cX12_init 206 = .ok (.aload_n 0, 1) := by decide +kernel
theorem dX12_init_207 : decode cX12_init 207 = .ok (.bipush 24, 2) := by decide +kernel
theorem dX12_init_209 : decode cX12_init 209 = .ok (.newarray .int, 2) := by decide +kernel
theorem dX12_init_211 : decode cX12_init 211 = .ok (.putfield 91, 3) := by decide +kernel
theorem dX12_init_214 : decode cX12_init 214 = .ok (.aload_n 0, 1) := by decide +kernel
theorem dX12_init_215 : decode cX12_init 215 = .ok (.ldc 71, 2) := by decide +kernel
theorem dX12_init_217 : decode cX12_init 217 = .ok (.newarray .int, 2) := by decide +kernel
theorem dX12_init_219 : decode cX12_init 219 = .ok (.putfield 94, 3) := by decide +kernel
theorem dX12_init_222 : decode cX12_init 222 = .ok (.aload_n 0, 1) := by decide +kernel
theorem dX12_init_223 : decode cX12_init 223 = .ok (.ldc 75, 2) := by decide +kernel
theorem dX12_init_225 : decode cX12_init 225 = .ok (.newarray .int, 2) := by decide +kernel
theorem dX12_init_227 : decode cX12_init 227 = .ok (.putfield 97, 3) := by decide +kernel
theorem dX12_init_230 : decode cX12_init 230 = .ok (.return_, 1) := by decide +kernel
theorem dX12_feed_0 : decode cX12_feed 0 = .ok (.aload_n 0, 1) := by decide +kernel
