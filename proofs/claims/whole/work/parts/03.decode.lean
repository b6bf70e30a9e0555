theorem dX0_init_0 : decode cX0_init 0 = .ok (.aload_n 0, 1) := by decide +kernel
theorem dX0_init_1 : decode cX0_init 1 = .ok (.invokespecial 1, 3) := by decide +kernel
theorem dX0_init_4 : decode cX0_init 4 = .ok (.return_, 1) := by decide +kernel
theorem dX1_init_0 : decode cX1_init 0 = .ok (.aload_n 0, 1) := by decide +kernel
theorem dX1_init_1 : decode cX1_init 1 = .ok (.invokespecial 1, 3) := by decide +kernel
theorem dX1_init_4 : decode cX1_init 4 = .ok (.aload_n 0, 1) := by decide +kernel
theorem dX1_init_5 : decode cX1_init 5 = .ok (.iload_n 1, 1) := by decide +kernel
theorem dX1_init_6 : decode cX1_init 6 = .ok (.iconst 0, 1) := by decide +kernel
theorem dX1_init_7 : decode cX1_init 7 = .ok (.invokestatic 7, 3) := by decide +kernel
theorem dX1_init_10 : decode cX1_init 10 = .ok (.newarray .byte, 2) := by decide +kernel
theorem dX1_init_12 : decode cX1_init 12 = .ok (.putfield 13, 3) := by decide +kernel
theorem dX1_init_15 : decode cX1_init 15 = .ok (.aload_n 0, 1) := by decide +kernel
theorem dX1_init_16 : decode cX1_init 16 = .ok (.iconst 0, 1) := by decide +kernel
theorem dX1_init_17 : decode cX1_init 17 = .ok (.putfield 19, 3) := by decide +kernel
theorem dX1_init_20 : decode cX1_init 20 = .ok (.return_, 1) := by decide +kernel
theorem dX1_append_0 : decode cX1_append 0 = .ok (.bipush 24, 2) := by decide +kernel
theorem dX1_append_2 : decode cX1_append 2 = .ok (.istore_n 2, 1) := by decide +kernel
theorem dX1_append_3 : decode cX1_append 3 = .ok (.iload_n 2, 1) := by decide +kernel
theorem dX1_append_4 : decode cX1_append 4 = .ok (.ifCond .lt 51, 3) := by decide +kernel
theorem dX1_append_7 : decode cX1_append 7 = .ok (.aload_n 0, 1) := by decide +kernel
theorem dX1_append_8 : decode cX1_append 8 = .ok (.getfield 19, 3) := by decide +kernel
theorem dX1_append_11 : decode cX1_append 11 = .ok (.ifCond .lt 38, 3) := by decide +kernel
theorem dX1_append_14 : decode cX1_append 14 = .ok (.aload_n 0, 1) := by decide +kernel
theorem dX1_append_15 : decode cX1_append 15 = .ok (.getfield 19, 3) := by decide +kernel
theorem dX1_append_18 : decode cX1_append 18 = .ok (.aload_n 0, 1) := by decide +kernel
theorem dX1_append_19 : decode cX1_append 19 = .ok (.getfield 13, 3) := by decide +kernel
theorem dX1_append_22 : decode cX1_append 22 = .ok (.arraylength, 1) := by decide +kernel
theorem dX1_append_23 : decode cX1_append 23 = .ok (.if_icmp .ge 26, 3) := by decide +kernel
theorem dX1_append_26 : decode cX1_append 26 = .ok (.aload_n 0, 1) := by decide +kernel
theorem dX1_append_27 : decode cX1_append 27 = .ok (.getfield 13, 3) := by decide +kernel
theorem dX1_append_30 : decode cX1_append 30 = .ok (.aload_n 0, 1) := by decide +kernel
theorem dX1_append_31 : decode cX1_append 31 = .ok (.getfield 19, 3) := by decide +kernel
theorem dX1_append_34 : decode cX1_append 34 = .ok (.iload_n 1, 1) := by decide +kernel
theorem dX1_append_35 : decode cX1_append 35 = .ok (.iload_n 2, 1) := by decide +kernel
theorem dX1_append_36 : decode cX1_append 36 = .ok (.ishr, 1) := by decide +kernel
theorem dX1_append_37 : decode cX1_append 37 = .ok (.i2b, 1) := by decide +kernel
theorem dX1_append_38 : decode cX1_append 38 = .ok (.bastore, 1) := by decide +kernel
theorem dX1_append_39 : decode cX1_append 39 = .ok (.aload_n 0, 1) := by decide +kernel
theorem dX1_append_40 : decode cX1_append 40 = .ok (.dup, 1) := by decide +kernel
theorem dX1_append_41 : decode cX1_append 41 = .ok (.getfield 19, 3) := by decide +kernel
theorem dX1_append_44 : decode cX1_append 44 = .ok (.iconst 1, 1) := by decide +kernel
theorem dX1_append_45 : decode cX1_append 45 = .ok (.iadd, 1) := by decide +kernel
theorem dX1_append_46 : decode cX1_append 46 = .ok (.putfield 19, 3) := by decide +kernel
theorem dX1_append_49 : decode cX1_append 49 = .ok (.iinc 2 (-8), 3) := by decide +kernel
theorem dX1_append_52 : decode cX1_append 52 = .ok (.goto (-49), 3) := by decide +kernel
theorem dX1_append_55 : decode cX1_append 55 = .ok (.return_, 1) := by decide +kernel
theorem dX1_u1_0 : decode cX1_u1 0 = .ok (.iload_n 1, 1) := by decide +kernel
theorem dX1_u1_1 : decode cX1_u1 1 = .ok (.ifCond .lt 33, 3) := by decide +kernel
theorem dX1_u1_4 : decode cX1_u1 4 = .ok (.iload_n 1, 1) := by decide +kernel
theorem dX1_u1_5 : decode cX1_u1 5 = .ok (.aload_n 0, 1) := by decide +kernel
theorem dX1_u1_6 : decode cX1_u1 6 = .ok (.getfield 19, 3) := by decide +kernel
theorem dX1_u1_9 : decode cX1_u1 9 = .ok (.if_icmp .ge 25, 3) := by decide +kernel
theorem dX1_u1_12 : decode cX1_u1 12 = .ok (.iload_n 1, 1) := by decide +kernel
theorem dX1_u1_13 : decode cX1_u1 13 = .ok (.aload_n 0, 1) := by decide +kernel
theorem dX1_u1_14 : decode cX1_u1 14 = .ok (.getfield 13, 3) := by decide +kernel
theorem dX1_u1_17 : decode cX1_u1 17 = .ok (.arraylength, 1) := by decide +kernel
theorem dX1_u1_18 : decode cX1_u1 18 = .ok (.if_icmp .ge 16, 3) := by decide +kernel
theorem dX1_u1_21 : decode cX1_u1 21 = .ok (.aload_n 0, 1) := by decide +kernel
theorem dX1_u1_22 : decode cX1_u1 22 = .ok (.getfield 13, 3) := by decide +kernel
theorem dX1_u1_25 : decode cX1_u1 25 = .ok (.iload_n 1, 1) := by decide +kernel
theorem dX1_u1_26 : decode cX1_u1 26 = .ok (.baload, 1) := by decide +kernel
theorem dX1_u1_27 : decode cX1_u1 27 = .ok (.sipush 255, 3) := by decide +kernel
theorem dX1_u1_30 : decode cX1_u1 30 = .ok (.iand, 1) := by decide +kernel
theorem dX1_u1_31 : decode cX1_u1 31 = .ok (.goto 4, 3) := by decide +kernel
theorem dX1_u1_34 : decode cX1_u1 34 = .ok (.iconst 0, 1) := by decide +kernel
theorem dX1_u1_35 : decode cX1_u1 35 = .ok (.ireturn, 1) := by decide +kernel
theorem dX1_s1_0 : decode cX1_s1 0 = .ok (.aload_n 0, 1) := by decide +kernel
theorem dX1_s1_1 : decode cX1_s1 1 = .ok (.iload_n 1, 1) := by decide +kernel
theorem dX1_s1_2 : decode cX1_s1 2 = .ok (.invokevirtual 23, 3) := by decide +kernel
theorem dX1_s1_5 : decode cX1_s1 5 = .ok (.i2b, 1) := by decide +kernel
theorem dX1_s1_6 : decode cX1_s1 6 = .ok (.ireturn, 1) := by decide +kernel
theorem dX1_u2_0 : decode cX1_u2 0 = .ok (.iload_n 1, 1) := by decide +kernel
theorem dX1_u2_1 : decode cX1_u2 1 = .ok (.ifCond .lt 24, 3) := by decide +kernel
theorem dX1_u2_4 : decode cX1_u2 4 = .ok (.iload_n 1, 1) := by decide +kernel
theorem dX1_u2_5 : decode cX1_u2 5 = .ok (.aload_n 0, 1) := by decide +kernel
theorem dX1_u2_6 : decode cX1_u2 6 = .ok (.getfield 19, 3) := by decide +kernel
theorem dX1_u2_9 : decode cX1_u2 9 = .ok (.iconst 2, 1) := by decide +kernel
theorem dX1_u2_10 : decode cX1_u2 10 = .ok (.isub, 1) := by decide +kernel
theorem dX1_u2_11 : decode cX1_u2 11 = .ok (.if_icmp .gt 14, 3) := by decide +kernel
theorem dX1_u2_14 : decode cX1_u2 14 = .ok (.iload_n 1, 1) := by decide +kernel
theorem dX1_u2_15 : decode cX1_u2 15 = .ok (.aload_n 0, 1) := by decide +kernel
theorem dX1_u2_16 : decode cX1_u2 16 = .ok (.getfield 13, 3) := by decide +kernel
theorem dX1_u2_19 : decode cX1_u2 19 = .ok (.arraylength, 1) := by decide +kernel
theorem dX1_u2_20 : decode cX1_u2 20 = .ok (.iconst 2, 1) := by decide +kernel
theorem dX1_u2_21 : decode cX1_u2 21 = .ok (.isub, 1) := by decide +kernel
theorem dX1_u2_22 : decode cX1_u2 22 = .ok (.if_icmp .le 5, 3) := by decide +kernel
theorem dX1_u2_25 : decode cX1_u2 25 = .ok (.iconst 0, 1) := by decide +kernel
theorem dX1_u2_26 : decode cX1_u2 26 = .ok (.ireturn, 1) := by decide +kernel
theorem dX1_u2_27 : decode cX1_u2 27 = .ok (.aload_n 0, 1) := by decide +kernel
theorem dX1_u2_28 : decode cX1_u2 28 = .ok (.getfield 13, 3) := by decide +kernel
theorem dX1_u2_31 : decode cX1_u2 31 = .ok (.iload_n 1, 1) := by decide +kernel
theorem dX1_u2_32 : decode cX1_u2 32 = .ok (.baload, 1) := by decide +kernel
theorem dX1_u2_33 : decode cX1_u2 33 = .ok (.sipush 255, 3) := by decide +kernel
theorem dX1_u2_36 : decode cX1_u2 36 = .ok (.iand, 1) := by decide +kernel
theorem dX1_u2_37 : decode cX1_u2 37 = .ok (.bipush 8, 2) := by decide +kernel
theorem dX1_u2_39 : decode cX1_u2 39 = .ok (.ishl, 1) := by decide +kernel
theorem dX1_u2_40 : decode cX1_u2 40 = .ok (.aload_n 0, 1) := by decide +kernel
theorem dX1_u2_41 : decode cX1_u2 41 = .ok (.getfield 13, 3) := by decide +kernel
theorem dX1_u2_44 : decode cX1_u2 44 = .ok (.iload_n 1, 1) := by decide +kernel
theorem dX1_u2_45 : decode cX1_u2 45 = .ok (.iconst 1, 1) := by decide +kernel
theorem dX1_u2_46 : decode cX1_u2 46 = .ok (.iadd, 1) := by decide +kernel
theorem dX1_u2_47 : decode cX1_u2 47 = .ok (.baload, 1) := by decide +kernel
theorem dX1_u2_48 : decode cX1_u2 48 = .ok (.sipush 255, 3) := by decide +kernel
theorem dX1_u2_51 : decode cX1_u2 51 = .ok (.iand, 1) := by decide +kernel
theorem dX1_u2_52 : decode cX1_u2 52 = .ok (.ior, 1) := by decide +kernel
theorem dX1_u2_53 : decode cX1_u2 53 = .ok (.ireturn, 1) := by decide +kernel
theorem dX1_s2_0 : decode cX1_s2 0 = .ok (.aload_n 0, 1) := by decide +kernel
theorem dX1_s2_1 : decode cX1_s2 1 = .ok (.iload_n 1, 1) := by decide +kernel
theorem dX1_s2_2 : decode cX1_s2 2 = .ok (.invokevirtual 27, 3) := by decide +kernel
theorem dX1_s2_5 : decode cX1_s2 5 = .ok (.i2s, 1) := by decide +kernel
theorem dX1_s2_6 : decode cX1_s2 6 = .ok (.ireturn, 1) := by decide +kernel
theorem dX1_s4_0 : decode cX1_s4 0 = .ok (.iload_n 1, 1) := by decide +kernel
theorem dX1_s4_1 : decode cX1_s4 1 = .ok (.ifCond .lt 24, 3) := by decide +kernel
theorem dX1_s4_4 : decode cX1_s4 4 = .ok (.iload_n 1, 1) := by decide +kernel
theorem dX1_s4_5 : decode cX1_s4 5 = .ok (.aload_n 0, 1) := by decide +kernel
theorem dX1_s4_6 : decode cX1_s4 6 = .ok (.getfield 19, 3) := by decide +kernel
theorem dX1_s4_9 : decode cX1_s4 9 = .ok (.iconst 4, 1) := by decide +kernel
theorem dX1_s4_10 : decode cX1_s4 10 = .ok (.isub, 1) := by decide +kernel
theorem dX1_s4_11 : decode cX1_s4 11 = .ok (.if_icmp .gt 14, 3) := by decide +kernel
theorem dX1_s4_14 : decode cX1_s4 14 = .ok (.iload_n 1, 1) := by decide +kernel
theorem dX1_s4_15 : decode cX1_s4 15 = .ok (.aload_n 0, 1) := by decide +kernel
theorem dX1_s4_16 : decode cX1_s4 16 = .ok (.getfield 13, 3) := by decide +kernel
theorem dX1_s4_19 : decode cX1_s4 19 = .ok (.arraylength, 1) := by decide +kernel
theorem dX1_s4_20 : decode cX1_s4 20 = .ok (.iconst 4, 1) := by decide +kernel
theorem dX1_s4_21 : decode cX1_s4 21 = .ok (.isub, 1) := by decide +kernel
theorem dX1_s4_22 : decode cX1_s4 22 = .ok (.if_icmp .le 5, 3) := by decide +kernel
theorem dX1_s4_25 : decode cX1_s4 25 = .ok (.iconst 0, 1) := by decide +kernel
theorem dX1_s4_26 : decode cX1_s4 26 = .ok (.ireturn, 1) := by decide +kernel
theorem dX1_s4_27 : decode cX1_s4 27 = .ok (.aload_n 0, 1) := by decide +kernel
theorem dX1_s4_28 : decode cX1_s4 28 = .ok (.getfield 13, 3) := by decide +kernel
theorem dX1_s4_31 : decode cX1_s4 31 = .ok (.iload_n 1, 1) := by decide +kernel
theorem dX1_s4_32 : decode cX1_s4 32 = .ok (.baload, 1) := by decide +kernel
theorem dX1_s4_33 : decode cX1_s4 33 = .ok (.bipush 24, 2) := by decide +kernel
theorem dX1_s4_35 : decode cX1_s4 35 = .ok (.ishl, 1) := by decide +kernel
theorem dX1_s4_36 : decode cX1_s4 36 = .ok (.aload_n 0, 1) := by decide +kernel
theorem dX1_s4_37 : decode cX1_s4 37 = .ok (.getfield 13, 3) := by decide +kernel
theorem dX1_s4_40 : decode cX1_s4 40 = .ok (.iload_n 1, 1) := by decide +kernel
theorem dX1_s4_41 : decode cX1_s4 41 = .ok (.iconst 1, 1) := by decide +kernel
theorem dX1_s4_42 : decode cX1_s4 42 = .ok (.iadd, 1) := by decide +kernel
theorem dX1_s4_43 : decode cX1_s4 43 = .ok (.baload, 1) := by decide +kernel
theorem dX1_s4_44 : decode cX1_s4 44 = .ok (.sipush 255, 3) := by decide +kernel
theorem dX1_s4_47 : decode cX1_s4 47 = .ok (.iand, 1) := by decide +kernel
theorem dX1_s4_48 : decode cX1_s4 48 = .ok (.bipush 16, 2) := by decide +kernel
theorem dX1_s4_50 : decode cX1_s4 50 = .ok (.ishl, 1) := by decide +kernel
theorem dX1_s4_51 : decode cX1_s4 51 = .ok (.ior, 1) := by decide +kernel
theorem dX1_s4_52 : decode cX1_s4 52 = .ok (.aload_n 0, 1) := by decide +kernel
theorem dX1_s4_53 : decode cX1_s4 53 = .ok (.getfield 13, 3) := by decide +kernel
theorem dX1_s4_56 : decode cX1_s4 56 = .ok (.iload_n 1, 1) := by decide +kernel
theorem dX1_s4_57 : decode cX1_s4 57 = .ok (.iconst 2, 1) := by decide +kernel
theorem dX1_s4_58 : decode cX1_s4 58 = .ok (.iadd, 1) := by decide +kernel
theorem dX1_s4_59 : decode cX1_s4 59 = .ok (.baload, 1) := by decide +kernel
theorem dX1_s4_60 : decode cX1_s4 60 = .ok (.sipush 255, 3) := by decide +kernel
theorem dX1_s4_63 : decode cX1_s4 63 = .ok (.iand, 1) := by decide +kernel
theorem dX1_s4_64 : decode cX1_s4 64 = .ok (.bipush 8, 2) := by decide +kernel
theorem dX1_s4_66 : decode cX1_s4 66 = .ok (.ishl, 1) := by decide +kernel
theorem dX1_s4_67 : decode cX1_s4 67 = .ok (.ior, 1) := by decide +kernel
theorem dX1_s4_68 : decode cX1_s4 68 = .ok (.aload_n 0, 1) := by decide +kernel
theorem dX1_s4_69 : decode cX1_s4 69 = .ok (.getfield 13, 3) := by decide +kernel
theorem dX1_s4_72 : decode cX1_s4 72 = .ok (.iload_n 1, 1) := by decide +kernel
theorem dX1_s4_73 : decode cX1_s4 73 = .ok (.iconst 3, 1) := by decide +kernel
theorem dX1_s4_74 : decode cX1_s4 74 = .ok (.iadd, 1) := by decide +kernel
theorem dX1_s4_75 : decode cX1_s4 75 = .ok (.baload, 1) := by decide +kernel
theorem dX1_s4_76 : decode cX1_s4 76 = .ok (.sipush 255, 3) := by decide +kernel
theorem dX1_s4_79 : decode cX1_s4 79 = .ok (.iand, 1) := by decide +kernel
theorem dX1_s4_80 : decode cX1_s4 80 = .ok (.ior, 1) := by decide +kernel
theorem dX1_s4_81 : decode cX1_s4 81 = .ok (.ireturn, 1) := by decide +kernel
theorem dX2_init_0 : decode cX2_init 0 = .ok (.aload_n 0, 1) := by decide +kernel
theorem dX2_init_1 : decode cX2_init 1 = .ok (.invokespecial 3, 3) := by decide +kernel
theorem dX2_init_4 : decode cX2_init 4 = .ok (.aload_n 0, 1) := by decide +kernel
theorem dX2_init_5 : decode cX2_init 5 = .ok (.new 9, 3) := by decide +kernel
theorem dX2_init_8 : decode cX2_init 8 = .ok (.dup, 1) := by decide +kernel
theorem dX2_init_9 : decode cX2_init 9 = .ok (.sipush 16000, 3) := by decide +kernel
theorem dX2_init_12 : decode cX2_init 12 = .ok (.invokespecial 11, 3) := by decide +kernel
theorem dX2_init_15 : decode cX2_init 15 = .ok (.putfield 14, 3) := by decide +kernel
theorem dX2_init_18 : decode cX2_init 18 = .ok (.aload_n 0, 1) := by decide +kernel
theorem dX2_init_19 : decode cX2_init 19 = .ok (.new 20, 3) := by decide +kernel
theorem dX2_init_22 : decode cX2_init 22 = .ok (.dup, 1) := by decide +kernel
theorem dX2_init_23 : decode cX2_init 23 = .ok (.aload_n 0, 1) := by decide +kernel
theorem dX2_init_24 : decode cX2_init 24 = .ok (.getfield 14, 3) := by decide +kernel
theorem dX2_init_27 : decode cX2_init 27 = .ok (.invokespecial 22, 3) := by decide +kernel
theorem dX2_init_30 : decode cX2_init 30 = .ok (.putfield 25, 3) := by decide +kernel
theorem dX2_init_33 : decode cX2_init 33 = .ok (.aload_n 0, 1) := by decide +kernel
theorem dX2_init_34 : decode cX2_init 34 = .ok (.bipush 24, 2) := by decide +kernel
theorem dX2_init_36 : decode cX2_init 36 = .ok (.newarray .int, 2) := by decide +kernel
theorem dX2_init_38 : decode cX2_init 38 = .ok (.putfield 29, 3) := by decide +kernel
theorem dX2_init_41 : decode cX2_init 41 = .ok (.aload_n 0, 1) := by decide +kernel
theorem dX2_init_42 : decode cX2_init 42 = .ok (.bipush 24, 2) := by decide +kernel
theorem dX2_init_44 : decode cX2_init 44 = .ok (.newarray .int, 2) := by decide +kernel
theorem dX2_init_46 : decode cX2_init 46 = .ok (.putfield 33, 3) := by decide +kernel
theorem dX2_init_49 : decode cX2_init 49 = .ok (.aload_n 0, 1) := by decide +kernel
theorem dX2_init_50 : decode cX2_init 50 = .ok (.bipush 24, 2) := by decide +kernel
theorem dX2_init_52 : decode cX2_init 52 = .ok (.anewarray 36, 3) := by decide +kernel
theorem dX2_init_55 : decode cX2_init 55 = .ok (.putfield 38, 3) := by decide +kernel
theorem dX2_init_58 : decode cX2_init 58 = .ok (.iconst 0, 1) := by decide +kernel
theorem dX2_init_59 : decode cX2_init 59 = .ok (.istore_n 1, 1) := by decide +kernel
theorem dX2_init_60 : decode cX2_init 60 = .ok (.iload_n 1, 1) := by decide +kernel
theorem dX2_init_61 : decode cX2_init 61 = .ok (.aload_n 0, 1) := by decide +kernel
theorem dX2_init_62 : decode cX2_init 62 = .ok (.getfield 38, 3) := by decide +kernel
theorem dX2_init_65 : decode cX2_init 65 = .ok (.arraylength, 1) := by decide +kernel
theorem dX2_init_66 : decode cX2_init 66 = .ok (.if_icmp .ge 22, 3) := by decide +kernel
theorem dX2_init_69 : decode cX2_init 69 = .ok (.aload_n 0, 1) := by decide +kernel
theorem dX2_init_70 : decode cX2_init 70 = .ok (.getfield 38, 3) := by decide +kernel
theorem dX2_init_73 : decode cX2_init 73 = .ok (.iload_n 1, 1) := by decide +kernel
theorem dX2_init_74 : decode cX2_init 74 = .ok (.new 36, 3) := by decide +kernel
theorem dX2_init_77 : decode cX2_init 77 = .ok (.dup, 1) := by decide +kernel
theorem dX2_init_78 : decode cX2_init 78 = .ok (.invokespecial 42, 3) := by decide +kernel
theorem dX2_init_81 : decode cX2_init 81 = .ok (.aastore, 1) := by decide +kernel
theorem dX2_init_82 : decode cX2_init 82 = .ok (.iinc 1 1, 3) := by decide +kernel
theorem dX2_init_85 : decode cX2_init 85 = .ok (.goto (-25), 3) := by decide +kernel
theorem dX2_init_88 : decode cX2_init 88 = .ok (.aload_n 0, 1) := by decide +kernel
theorem dX2_init_89 : decode cX2_init 89 = .ok (.sipush 16000, 3) := by decide +kernel
theorem dX2_init_92 : decode cX2_init 92 = .ok (.newarray .int, 2) := by decide +kernel
theorem dX2_init_94 : decode cX2_init 94 = .ok (.putfield 43, 3) := by decide +kernel
theorem dX2_init_97 : decode cX2_init 97 = .ok (.aload_n 0, 1) := by decide +kernel
theorem dX2_init_98 : decode cX2_init 98 = .ok (.iconst 0, 1) := by decide +kernel
theorem dX2_init_99 : decode cX2_init 99 = .ok (.putfield 46, 3) := by decide +kernel
theorem dX2_init_102 : decode cX2_init 102 = .ok (.aload_n 0, 1) := by decide +kernel
theorem dX2_init_103 : decode cX2_init 103 = .ok (.iconst 0, 1) := by decide +kernel
theorem dX2_init_104 : decode cX2_init 104 = .ok (.putfield 50, 3) := by decide +kernel
theorem dX2_init_107 : decode cX2_init 107 = .ok (.aload_n 0, 1) := by decide +kernel
theorem dX2_init_108 : decode cX2_init 108 = .ok (.iconst 0, 1) := by decide +kernel
theorem dX2_init_109 : decode cX2_init 109 = .ok (.putfield 53, 3) := by decide +kernel
theorem dX2_init_112 : decode cX2_init 112 = .ok (.aload_n 0, 1) := by decide +kernel
theorem dX2_init_113 : decode cX2_init 113 = .ok (.iconst 0, 1) := by decide +kernel
theorem dX2_init_114 : decode cX2_init 114 = .ok (.putfield 56, 3) := by decide +kernel
theorem dX2_init_117 : decode cX2_init 117 = .ok (.aload_n 0, 1) := by decide +kernel
theorem dX2_init_118 : decode cX2_init 118 = .ok (.iconst 0, 1) := by decide +kernel
theorem dX2_init_119 : decode cX2_init 119 = .ok (.putfield 59, 3) := by decide +kernel
theorem dX2_init_122 : decode cX2_init 122 = .ok (.return_, 1) := by decide +kernel
theorem dX2_nameOf_0 : decode cX2_nameOf 0 = .ok (.aload_n 0, 1) := by decide +kernel
theorem dX2_nameOf_1 : decode cX2_nameOf 1 = .ok (.getfield 14, 3) := by decide +kernel
theorem dX2_nameOf_4 : decode cX2_nameOf 4 = .ok (.iload_n 1, 1) := by decide +kernel
theorem dX2_nameOf_5 : decode cX2_nameOf 5 = .ok (.iconst 2, 1) := by decide +kernel
theorem dX2_nameOf_6 : decode cX2_nameOf 6 = .ok (.iadd, 1) := by decide +kernel
theorem dX2_nameOf_7 : decode cX2_nameOf 7 = .ok (.invokevirtual 62, 3) := by decide +kernel
theorem dX2_nameOf_10 : decode cX2_nameOf 10 = .ok (.ireturn, 1) := by decide +kernel
theorem dX2_typeOf_0 : decode cX2_typeOf 0 = .ok (.aload_n 0, 1) := by decide +kernel
theorem dX2_typeOf_1 : decode cX2_typeOf 1 = .ok (.getfield 14, 3) := by decide +kernel
theorem dX2_typeOf_4 : decode cX2_typeOf 4 = .ok (.iload_n 1, 1) := by decide +kernel
theorem dX2_typeOf_5 : decode cX2_typeOf 5 = .ok (.iconst 4, 1) := by decide +kernel
theorem dX2_typeOf_6 : decode cX2_typeOf 6 = .ok (.iadd, 1) := by decide +kernel
theorem dX2_typeOf_7 : decode cX2_typeOf 7 = .ok (.invokevirtual 62, 3) := by decide +kernel
theorem dX2_typeOf_10 : decode cX2_typeOf 10 = .ok (.ireturn, 1) := by decide +kernel
theorem dX2_bodyOf_0 : decode cX2_bodyOf 0 = .ok (.iload_n 1, 1) := by decide +kernel
theorem dX2_bodyOf_1 : decode cX2_bodyOf 1 = .ok (.ifCond .lt 29, 3) := by decide +kernel
theorem dX2_bodyOf_4 : decode cX2_bodyOf 4 = .ok (.iload_n 1, 1) := by decide +kernel
theorem dX2_bodyOf_5 : decode cX2_bodyOf 5 = .ok (.aload_n 0, 1) := by decide +kernel
theorem dX2_bodyOf_6 : decode cX2_bodyOf 6 = .ok (.getfield 50, 3) := by decide +kernel
theorem dX2_bodyOf_9 : decode cX2_bodyOf 9 = .ok (.if_icmp .ge 21, 3) := by decide +kernel
theorem dX2_bodyOf_12 : decode cX2_bodyOf 12 = .ok (.iload_n 1, 1) := by decide +kernel
theorem dX2_bodyOf_13 : decode cX2_bodyOf 13 = .ok (.aload_n 0, 1) := by decide +kernel
theorem dX2_bodyOf_14 : decode cX2_bodyOf 14 = .ok (.getfield 38, 3) := by decide +kernel
theorem dX2_bodyOf_17 : decode cX2_bodyOf 17 = .ok (.arraylength, 1) := by decide +kernel
theorem dX2_bodyOf_18 : decode cX2_bodyOf 18 = .ok (.if_icmp .ge 12, 3) := by decide +kernel
theorem dX2_bodyOf_21 : decode cX2_bodyOf 21 = .ok (.aload_n 0, 1) := by decide +kernel
theorem dX2_bodyOf_22 : decode cX2_bodyOf 22 = .ok (.getfield 38, 3) := by decide +kernel
theorem dX2_bodyOf_25 : decode cX2_bodyOf 25 = .ok (.iload_n 1, 1) := by decide +kernel
theorem dX2_bodyOf_26 : decode cX2_bodyOf 26 = .ok (.aaload, 1) := by decide +kernel
theorem dX2_bodyOf_27 : decode cX2_bodyOf 27 = .ok (.goto 4, 3) := by decide +kernel
theorem dX2_bodyOf_30 : decode cX2_bodyOf 30 = .ok (.aconst_null, 1) := by decide +kernel
theorem dX2_bodyOf_31 : decode cX2_bodyOf 31 = .ok (.areturn, 1) := by decide +kernel
theorem dX2_instructionPlace_0 : decode cX2_instructionPlace 0 = .ok (.aload_n 0, 1) := by decide +kernel
theorem dX2_instructionPlace_1 : decode cX2_instructionPlace 1 = .ok (.iload_n 1, 1) := by decide +kernel
theorem dX2_instructionPlace_2 : decode cX2_instructionPlace 2 = .ok (.invokevirtual 66, 3) := by decide +kernel
theorem dX2_instructionPlace_5 : decode cX2_instructionPlace 5 = .ok (.astore_n 3, 1) := by decide +kernel
theorem dX2_instructionPlace_6 : decode cX2_instructionPlace 6 = .ok (.aload_n 3, 1) := by decide +kernel
theorem dX2_instructionPlace_7 : decode cX2_instructionPlace 7 = .ok (.ifnull 15, 3) := by decide +kernel
theorem dX2_instructionPlace_10 : decode cX2_instructionPlace 10 = .ok (.iload_n 2, 1) := by decide +kernel
theorem dX2_instructionPlace_11 : decode cX2_instructionPlace 11 = .ok (.ifCond .lt 11, 3) := by decide +kernel
theorem dX2_instructionPlace_14 : decode cX2_instructionPlace 14 = .ok (.iload_n 2, 1) := by decide +kernel
theorem dX2_instructionPlace_15 : decode cX2_instructionPlace 15 = .ok (.aload_n 3, 1) := by decide +kernel
theorem dX2_instructionPlace_16 : decode cX2_instructionPlace 16 = .ok (.getfield 70, 3) := by decide +kernel
theorem dX2_instructionPlace_19 : decode cX2_instructionPlace 19 = .ok (.if_icmp .lt 5, 3) := by decide +kernel
theorem dX2_instructionPlace_22 : decode cX2_instructionPlace 22 = .ok (.iconst (-1), 1) := by decide +kernel
theorem dX2_instructionPlace_23 : decode cX2_instructionPlace 23 = .ok (.ireturn, 1) := by decide +kernel
theorem dX2_instructionPlace_24 : decode cX2_instructionPlace 24 = .ok (.aload_n 0, 1) := by decide +kernel
theorem dX2_instructionPlace_25 : decode cX2_instructionPlace 25 = .ok (.getfield 43, 3) := by decide +kernel
theorem dX2_instructionPlace_28 : decode cX2_instructionPlace 28 = .ok (.aload_n 3, 1) := by decide +kernel
theorem dX2_instructionPlace_29 : decode cX2_instructionPlace 29 = .ok (.getfield 73, 3) := by decide +kernel
theorem dX2_instructionPlace_32 : decode cX2_instructionPlace 32 = .ok (.iload_n 2, 1) := by decide +kernel
theorem dX2_instructionPlace_33 : decode cX2_instructionPlace 33 = .ok (.iadd, 1) := by decide +kernel
theorem dX2_instructionPlace_34 : decode cX2_instructionPlace 34 = .ok (.invokestatic 76, 3) := by decide +kernel
theorem dX2_instructionPlace_37 : decode cX2_instructionPlace 37 = .ok (.ireturn, 1) := by decide +kernel
theorem dX2_numberAt_0 : decode cX2_numberAt 0 = .ok (.iconst 0, 1) := by decide +kernel
theorem dX2_numberAt_1 : decode cX2_numberAt 1 = .ok (.istore_n 3, 1) := by decide +kernel
theorem dX2_numberAt_2 : decode cX2_numberAt 2 = .ok (.aload_n 1, 1) := by decide +kernel
theorem dX2_numberAt_3 : decode cX2_numberAt 3 = .ok (.getfield 70, 3) := by decide +kernel
theorem dX2_numberAt_6 : decode cX2_numberAt 6 = .ok (.iconst 1, 1) := by decide +kernel
theorem dX2_numberAt_7 : decode cX2_numberAt 7 = .ok (.isub, 1) := by decide +kernel
theorem dX2_numberAt_8 : decode cX2_numberAt 8 = .ok (.istore 4, 2) := by decide +kernel
theorem dX2_numberAt_10 : decode cX2_numberAt 10 = .ok (.iload_n 3, 1) := by decide +kernel
theorem dX2_numberAt_11 : decode cX2_numberAt 11 = .ok (.iload 4, 2) := by decide +kernel
theorem dX2_numberAt_13 : decode cX2_numberAt 13 = .ok (.if_icmp .gt 59, 3) := by decide +kernel
theorem dX2_numberAt_16 : decode cX2_numberAt 16 = .ok (.iload_n 3, 1) := by decide +kernel
theorem dX2_numberAt_17 : decode cX2_numberAt 17 = .ok (.iload 4, 2) := by decide +kernel
theorem dX2_numberAt_19 : decode cX2_numberAt 19 = .ok (.iadd, 1) := by decide +kernel
theorem dX2_numberAt_20 : decode cX2_numberAt 20 = .ok (.iconst 1, 1) := by decide +kernel
theorem dX2_numberAt_21 : decode cX2_numberAt 21 = .ok (.ishr, 1) := by decide +kernel
theorem dX2_numberAt_22 : decode cX2_numberAt 22 = .ok (.istore 5, 2) := by decide +kernel
theorem dX2_numberAt_24 : decode cX2_numberAt 24 = .ok (.aload_n 0, 1) := by decide +kernel
theorem dX2_numberAt_25 : decode cX2_numberAt 25 = .ok (.getfield 43, 3) := by decide +kernel
theorem dX2_numberAt_28 : decode cX2_numberAt 28 = .ok (.aload_n 1, 1) := by decide +kernel
theorem dX2_numberAt_29 : decode cX2_numberAt 29 = .ok (.getfield 73, 3) := by decide +kernel
theorem dX2_numberAt_32 : decode cX2_numberAt 32 = .ok (.iload 5, 2) := by decide +kernel
theorem dX2_numberAt_34 : decode cX2_numberAt 34 = .ok (.iadd, 1) := by decide +kernel
theorem dX2_numberAt_35 : decode cX2_numberAt 35 = .ok (.invokestatic 76, 3) := by decide +kernel
theorem dX2_numberAt_38 : decode cX2_numberAt 38 = .ok (.istore 6, 2) := by decide +kernel
theorem dX2_numberAt_40 : decode cX2_numberAt 40 = .ok (.iload 6, 2) := by decide +kernel
theorem dX2_numberAt_42 : decode cX2_numberAt 42 = .ok (.iload_n 2, 1) := by decide +kernel
theorem dX2_numberAt_43 : decode cX2_numberAt 43 = .ok (.if_icmp .ne 6, 3) := by decide +kernel
theorem dX2_numberAt_46 : decode cX2_numberAt 46 = .ok (.iload 5, 2) := by decide +kernel
theorem dX2_numberAt_48 : decode cX2_numberAt 48 = .ok (.ireturn, 1) := by decide +kernel
theorem dX2_numberAt_49 : decode cX2_numberAt 49 = .ok (.iload 6, 2) := by decide +kernel
theorem dX2_numberAt_51 : decode cX2_numberAt 51 = .ok (.iload_n 2, 1) := by decide +kernel
theorem dX2_numberAt_52 : decode cX2_numberAt 52 = .ok (.if_icmp .ge 11, 3) := by decide +kernel
theorem dX2_numberAt_55 : decode cX2_numberAt 55 = .ok (.iload 5, 2) := by decide +kernel
theorem dX2_numberAt_57 : decode cX2_numberAt 57 = .ok (.iconst 1, 1) := by decide +kernel
theorem dX2_numberAt_58 : decode cX2_numberAt 58 = .ok (.iadd, 1) := by decide +kernel
theorem dX2_numberAt_59 : decode cX2_numberAt 59 = .ok (.istore_n 3, 1) := by decide +kernel
theorem dX2_numberAt_60 : decode cX2_numberAt 60 = .ok (.goto 9, 3) := by decide +kernel
theorem dX2_numberAt_63 : decode cX2_numberAt 63 = .ok (.iload 5, 2) := by decide +kernel
theorem dX2_numberAt_65 : decode cX2_numberAt 65 = .ok (.iconst 1, 1) := by decide +kernel
theorem dX2_numberAt_66 : decode cX2_numberAt 66 = .ok (.isub, 1) := by decide +kernel
theorem dX2_numberAt_67 : decode cX2_numberAt 67 = .ok (.istore 4, 2) := by decide +kernel
theorem dX2_numberAt_69 : decode cX2_numberAt 69 = .ok (.goto (-59), 3) := by decide +kernel
theorem dX2_numberAt_72 : decode cX2_numberAt 72 = .ok (.iconst (-1), 1) := by decide +kernel
theorem dX2_numberAt_73 : decode cX2_numberAt 73 = .ok (.ireturn, 1) := by decide +kernel
theorem dX3_lengthAt_0 : decode cX3_lengthAt 0 = .ok (.aload_n 0, 1) := by decide +kernel
theorem dX3_lengthAt_1 : decode cX3_lengthAt 1 = .ok (.iload_n 1, 1) := by decide +kernel
theorem dX3_lengthAt_2 : decode cX3_lengthAt 2 = .ok (.invokevirtual 7, 3) := by decide +kernel
theorem dX3_lengthAt_5 : decode cX3_lengthAt 5 = .ok (.istore_n 3, 1) := by decide +kernel
theorem dX3_lengthAt_6 : decode cX3_lengthAt 6 = .ok (.iload_n 3, 1) := by decide +kernel
theorem dX3_lengthAt_7 : decode cX3_lengthAt 7 = .ok (.lookupswitch 84 #[(170, 41), (171, 48), (188, 66), (196, 55)], 41) := by decide +kernel
theorem dX3_lengthAt_48 : decode cX3_lengthAt 48 = .ok (.aload_n 0, 1) := by decide +kernel
theorem dX3_lengthAt_49 : decode cX3_lengthAt 49 = .ok (.iload_n 1, 1) := by decide +kernel
theorem dX3_lengthAt_50 : decode cX3_lengthAt 50 = .ok (.iload_n 2, 1) := by decide +kernel
theorem dX3_lengthAt_51 : decode cX3_lengthAt 51 = .ok (.invokestatic 13, 3) := by decide +kernel
theorem dX3_lengthAt_54 : decode cX3_lengthAt 54 = .ok (.ireturn, 1) := by decide +kernel
theorem dX3_lengthAt_55 : decode cX3_lengthAt 55 = .ok (.aload_n 0, 1) := by decide +kernel
theorem dX3_lengthAt_56 : decode cX3_lengthAt 56 = .ok (.iload_n 1, 1) := by decide +kernel
theorem dX3_lengthAt_57 : decode cX3_lengthAt 57 = .ok (.iload_n 2, 1) := by decide +kernel
theorem dX3_lengthAt_58 : decode cX3_lengthAt 58 = .ok (.invokestatic 19, 3) := by decide +kernel
theorem dX3_lengthAt_61 : decode cX3_lengthAt 61 = .ok (.ireturn, 1) := by decide +kernel
theorem dX3_lengthAt_62 : decode cX3_lengthAt 62 = .ok (.aload_n 0, 1) := by decide +kernel
theorem dX3_lengthAt_63 : decode cX3_lengthAt 63 = .ok (.iload_n 1, 1) := by decide +kernel
theorem dX3_lengthAt_64 : decode cX3_lengthAt 64 = .ok (.iconst 1, 1) := by decide +kernel
theorem dX3_lengthAt_65 : decode cX3_lengthAt 65 = .ok (.iadd, 1) := by decide +kernel
theorem dX3_lengthAt_66 : decode cX3_lengthAt 66 = .ok (.invokevirtual 7, 3) := by decide +kernel
theorem dX3_lengthAt_69 : decode cX3_lengthAt 69 = .ok (.invokestatic 22, 3) := by decide +kernel
theorem dX3_lengthAt_72 : decode cX3_lengthAt 72 = .ok (.ireturn, 1) := by decide +kernel
theorem dX3_lengthAt_73 : decode cX3_lengthAt 73 = .ok (.aload_n 0, 1) := by decide +kernel
theorem dX3_lengthAt_74 : decode cX3_lengthAt 74 = .ok (.iload_n 1, 1) := by decide +kernel
theorem dX3_lengthAt_75 : decode cX3_lengthAt 75 = .ok (.iconst 1, 1) := by decide +kernel
theorem dX3_lengthAt_76 : decode cX3_lengthAt 76 = .ok (.iadd, 1) := by decide +kernel
theorem dX3_lengthAt_77 : decode cX3_lengthAt 77 = .ok (.invokevirtual 7, 3) := by decide +kernel
theorem dX3_lengthAt_80 : decode cX3_lengthAt 80 = .ok (.bipush 10, 2) := by decide +kernel
theorem dX3_lengthAt_82 : decode cX3_lengthAt 82 = .ok (.if_icmp .ne 7, 3) := by decide +kernel
theorem dX3_lengthAt_85 : decode cX3_lengthAt 85 = .ok (.iconst 2, 1) := by decide +kernel
theorem dX3_lengthAt_86 : decode cX3_lengthAt 86 = .ok (.goto 4, 3) := by decide +kernel
theorem dX3_lengthAt_89 : decode cX3_lengthAt 89 = .ok (.iconst 0, 1) := by decide +kernel
theorem dX3_lengthAt_90 : decode cX3_lengthAt 90 = .ok (.ireturn, 1) := by decide +kernel
theorem dX3_lengthAt_91 : decode cX3_lengthAt 91 = .ok (.iload_n 3, 1) := by decide +kernel
theorem dX3_lengthAt_92 : decode cX3_lengthAt 92 = .ok (.getstatic 25, 3) := by decide +kernel
theorem dX3_lengthAt_95 : decode cX3_lengthAt 95 = .ok (.arraylength, 1) := by decide +kernel
theorem dX3_lengthAt_96 : decode cX3_lengthAt 96 = .ok (.if_icmp .ge 11, 3) := by decide +kernel
theorem dX3_lengthAt_99 : decode cX3_lengthAt 99 = .ok (.getstatic 25, 3) := by decide +kernel
theorem dX3_lengthAt_102 : decode cX3_lengthAt 102 = .ok (.iload_n 3, 1) := by decide +kernel
theorem dX3_lengthAt_103 : decode cX3_lengthAt 103 = .ok (.iaload, 1) := by decide +kernel
theorem dX3_lengthAt_104 : decode cX3_lengthAt 104 = .ok (.goto 4, 3) := by decide +kernel
theorem dX3_lengthAt_107 : decode cX3_lengthAt 107 = .ok (.iconst 0, 1) := by decide +kernel
theorem dX3_lengthAt_108 : decode cX3_lengthAt 108 = .ok (.ireturn, 1) := by decide +kernel
theorem dX3_wideLength_0 : decode cX3_wideLength 0 = .ok (.iload_n 0, 1) := by decide +kernel
theorem dX3_wideLength_1 : decode cX3_wideLength 1 = .ok (.lookupswitch 72 #[(21, 67), (22, 67), (25, 67), (54, 67), (55, 67), (58, 67), (132, 69)], 67) := by decide +kernel
theorem dX3_wideLength_68 : decode cX3_wideLength 68 = .ok (.iconst 4, 1) := by decide +kernel
theorem dX3_wideLength_69 : decode cX3_wideLength 69 = .ok (.ireturn, 1) := by decide +kernel
theorem dX3_wideLength_70 : decode cX3_wideLength 70 = .ok (.bipush 6, 2) := by decide +kernel
theorem dX3_wideLength_72 : decode cX3_wideLength 72 = .ok (.ireturn, 1) := by decide +kernel
theorem dX3_wideLength_73 : decode cX3_wideLength 73 = .ok (.iconst 0, 1) := by decide +kernel
theorem dX3_wideLength_74 : decode cX3_wideLength 74 = .ok (.ireturn, 1) := by decide +kernel
theorem dX3_tableLength_0 : decode cX3_tableLength 0 = .ok (.iload_n 1, 1) := by decide +kernel
theorem dX3_tableLength_1 : decode cX3_tableLength 1 = .ok (.iload_n 2, 1) := by decide +kernel
theorem dX3_tableLength_2 : decode cX3_tableLength 2 = .ok (.invokestatic 29, 3) := by decide +kernel
theorem dX3_tableLength_5 : decode cX3_tableLength 5 = .ok (.istore_n 3, 1) := by decide +kernel
theorem dX3_tableLength_6 : decode cX3_tableLength 6 = .ok (.aload_n 0, 1) := by decide +kernel
theorem dX3_tableLength_7 : decode cX3_tableLength 7 = .ok (.iload_n 3, 1) := by decide +kernel
theorem dX3_tableLength_8 : decode cX3_tableLength 8 = .ok (.bipush 8, 2) := by decide +kernel
theorem dX3_tableLength_10 : decode cX3_tableLength 10 = .ok (.iadd, 1) := by decide +kernel
theorem dX3_tableLength_11 : decode cX3_tableLength 11 = .ok (.invokevirtual 33, 3) := by decide +kernel
theorem dX3_tableLength_14 : decode cX3_tableLength 14 = .ok (.i2l, 1) := by decide +kernel
theorem dX3_tableLength_15 : decode cX3_tableLength 15 = .ok (.aload_n 0, 1) := by decide +kernel
theorem dX3_tableLength_16 : decode cX3_tableLength 16 = .ok (.iload_n 3, 1) := by decide +kernel
theorem dX3_tableLength_17 : decode cX3_tableLength 17 = .ok (.iconst 4, 1) := by decide +kernel
theorem dX3_tableLength_18 : decode cX3_tableLength 18 = .ok (.iadd, 1) := by decide +kernel
theorem dX3_tableLength_19 : decode cX3_tableLength 19 = .ok (.invokevirtual 33, 3) := by decide +kernel
theorem dX3_tableLength_22 : decode cX3_tableLength 22 = .ok (.i2l, 1) := by decide +kernel
theorem dX3_tableLength_23 : decode cX3_tableLength 23 = .ok (.lsub, 1) := by decide +kernel
theorem dX3_tableLength_24 : decode cX3_tableLength 24 = .ok (.lstore 4, 2) := by decide +kernel
theorem dX3_tableLength_26 : decode cX3_tableLength 26 = .ok (.lload 4, 2) := by decide +kernel
theorem dX3_tableLength_28 : decode cX3_tableLength 28 = .ok (.lconst 0, 1) := by decide +kernel
theorem dX3_tableLength_29 : decode cX3_tableLength 29 = .ok (.lcmp, 1) := by decide +kernel
theorem dX3_tableLength_30 : decode cX3_tableLength 30 = .ok (.ifCond .lt 12, 3) := by decide +kernel
theorem dX3_tableLength_33 : decode cX3_tableLength 33 = .ok (.lload 4, 2) := by decide +kernel
theorem dX3_tableLength_35 : decode cX3_tableLength 35 = .ok (.ldc2_w 36, 3) := by decide +kernel
theorem dX3_tableLength_38 : decode cX3_tableLength 38 = .ok (.lcmp, 1) := by decide +kernel
theorem dX3_tableLength_39 : decode cX3_tableLength 39 = .ok (.ifCond .le 5, 3) := by decide +kernel
theorem dX3_tableLength_42 : decode cX3_tableLength 42 = .ok (.iconst 0, 1) := by decide +kernel
theorem dX3_tableLength_43 : decode cX3_tableLength 43 = .ok (.ireturn, 1) := by decide +kernel
theorem dX3_tableLength_44 : decode cX3_tableLength 44 = .ok (.iload_n 3, 1) := by decide +kernel
theorem dX3_tableLength_45 : decode cX3_tableLength 45 = .ok (.bipush 12, 2) := by decide +kernel
theorem dX3_tableLength_47 : decode cX3_tableLength 47 = .ok (.iadd, 1) := by decide +kernel
theorem dX3_tableLength_48 : decode cX3_tableLength 48 = .ok (.iconst 4, 1) := by decide +kernel
theorem dX3_tableLength_49 : decode cX3_tableLength 49 = .ok (.lload 4, 2) := by decide +kernel
theorem dX3_tableLength_51 : decode cX3_tableLength 51 = .ok (.l2i, 1) := by decide +kernel
theorem dX3_tableLength_52 : decode cX3_tableLength 52 = .ok (.iconst 1, 1) := by decide +kernel
theorem dX3_tableLength_53 : decode cX3_tableLength 53 = .ok (.iadd, 1) := by decide +kernel
theorem dX3_tableLength_54 : decode cX3_tableLength 54 = .ok (.imul, 1) := by decide +kernel
theorem dX3_tableLength_55 : decode cX3_tableLength 55 = .ok (.iadd, 1) := by decide +kernel
theorem dX3_tableLength_56 : decode cX3_tableLength 56 = .ok (.iload_n 1, 1) := by decide +kernel
theorem dX3_tableLength_57 : decode cX3_tableLength 57 = .ok (.isub, 1) := by decide +kernel
theorem dX3_tableLength_58 : decode cX3_tableLength 58 = .ok (.ireturn, 1) := by decide +kernel
theorem dX3_lookupLength_0 : decode cX3_lookupLength 0 = .ok (.iload_n 1, 1) := by decide +kernel
theorem dX3_lookupLength_1 : decode cX3_lookupLength 1 = .ok (.iload_n 2, 1) := by decide +kernel
theorem dX3_lookupLength_2 : decode cX3_lookupLength 2 = .ok (.invokestatic 29, 3) := by decide +kernel
theorem dX3_lookupLength_5 : decode cX3_lookupLength 5 = .ok (.istore_n 3, 1) := by decide +kernel
theorem dX3_lookupLength_6 : decode cX3_lookupLength 6 = .ok (.aload_n 0, 1) := by decide +kernel
theorem dX3_lookupLength_7 : decode cX3_lookupLength 7 = .ok (.iload_n 3, 1) := by decide +kernel
theorem dX3_lookupLength_8 : decode cX3_lookupLength 8 = .ok (.iconst 4, 1) := by decide +kernel
theorem dX3_lookupLength_9 : decode cX3_lookupLength 9 = .ok (.iadd, 1) := by decide +kernel
theorem dX3_lookupLength_10 : decode cX3_lookupLength 10 = .ok (.invokevirtual 33, 3) := by decide +kernel
theorem dX3_lookupLength_13 : decode cX3_lookupLength 13 = .ok (.istore 4, 2) := by decide +kernel
theorem dX3_lookupLength_15 : decode cX3_lookupLength 15 = .ok (.iload 4, 2) := by decide +kernel
theorem dX3_lookupLength_17 : decode cX3_lookupLength 17 = .ok (.ifCond .lt 11, 3) := by decide +kernel
theorem dX3_lookupLength_20 : decode cX3_lookupLength 20 = .ok (.iload 4, 2) := by decide +kernel
theorem dX3_lookupLength_22 : decode cX3_lookupLength 22 = .ok (.sipush 200, 3) := by decide +kernel
theorem dX3_lookupLength_25 : decode cX3_lookupLength 25 = .ok (.if_icmp .le 5, 3) := by decide +kernel
theorem dX3_lookupLength_28 : decode cX3_lookupLength 28 = .ok (.iconst 0, 1) := by decide +kernel
theorem dX3_lookupLength_29 : decode cX3_lookupLength 29 = .ok (.ireturn, 1) := by decide +kernel
theorem dX3_lookupLength_30 : decode cX3_lookupLength 30 = .ok (.iconst 1, 1) := by decide +kernel
theorem dX3_lookupLength_31 : decode cX3_lookupLength 31 = .ok (.istore 5, 2) := by decide +kernel
theorem dX3_lookupLength_33 : decode cX3_lookupLength 33 = .ok (.iload 5, 2) := by decide +kernel
theorem dX3_lookupLength_35 : decode cX3_lookupLength 35 = .ok (.iload 4, 2) := by decide +kernel
theorem dX3_lookupLength_37 : decode cX3_lookupLength 37 = .ok (.if_icmp .ge 41, 3) := by decide +kernel
theorem dX3_lookupLength_40 : decode cX3_lookupLength 40 = .ok (.iload_n 3, 1) := by decide +kernel
theorem dX3_lookupLength_41 : decode cX3_lookupLength 41 = .ok (.bipush 8, 2) := by decide +kernel
theorem dX3_lookupLength_43 : decode cX3_lookupLength 43 = .ok (.iadd, 1) := by decide +kernel
theorem dX3_lookupLength_44 : decode cX3_lookupLength 44 = .ok (.bipush 8, 2) := by decide +kernel
theorem dX3_lookupLength_46 : decode cX3_lookupLength 46 = .ok (.iload 5, 2) := by decide +kernel
theorem dX3_lookupLength_48 : decode cX3_lookupLength 48 = .ok (.imul, 1) := by decide +kernel
theorem dX3_lookupLength_49 : decode cX3_lookupLength 49 = .ok (.iadd, 1) := by decide +kernel
theorem dX3_lookupLength_50 : decode cX3_lookupLength 50 = .ok (.istore 6, 2) := by decide +kernel
theorem dX3_lookupLength_52 : decode cX3_lookupLength 52 = .ok (.aload_n 0, 1) := by decide +kernel
theorem dX3_lookupLength_53 : decode cX3_lookupLength 53 = .ok (.iload 6, 2) := by decide +kernel
theorem dX3_lookupLength_55 : decode cX3_lookupLength 55 = .ok (.bipush 8, 2) := by decide +kernel
theorem dX3_lookupLength_57 : decode cX3_lookupLength 57 = .ok (.isub, 1) := by decide +kernel
theorem dX3_lookupLength_58 : decode cX3_lookupLength 58 = .ok (.invokevirtual 33, 3) := by decide +kernel
theorem dX3_lookupLength_61 : decode cX3_lookupLength 61 = .ok (.aload_n 0, 1) := by decide +kernel
theorem dX3_lookupLength_62 : decode cX3_lookupLength 62 = .ok (.iload 6, 2) := by decide +kernel
theorem dX3_lookupLength_64 : decode cX3_lookupLength 64 = .ok (.invokevirtual 33, 3) := by decide +kernel
theorem dX3_lookupLength_67 : decode cX3_lookupLength 67 = .ok (.if_icmp .lt 5, 3) := by decide +kernel
theorem dX3_lookupLength_70 : decode cX3_lookupLength 70 = .ok (.iconst 0, 1) := by decide +kernel
theorem dX3_lookupLength_71 : decode cX3_lookupLength 71 = .ok (.ireturn, 1) := by decide +kernel
theorem dX3_lookupLength_72 : decode cX3_lookupLength 72 = .ok (.iinc 5 1, 3) := by decide +kernel
theorem dX3_lookupLength_75 : decode cX3_lookupLength 75 = .ok (.goto (-42), 3) := by decide +kernel
theorem dX3_lookupLength_78 : decode cX3_lookupLength 78 = .ok (.iload_n 3, 1) := by decide +kernel
theorem dX3_lookupLength_79 : decode cX3_lookupLength 79 = .ok (.bipush 8, 2) := by decide +kernel
theorem dX3_lookupLength_81 : decode cX3_lookupLength 81 = .ok (.iadd, 1) := by decide +kernel
theorem dX3_lookupLength_82 : decode cX3_lookupLength 82 = .ok (.bipush 8, 2) := by decide +kernel
theorem dX3_lookupLength_84 : decode cX3_lookupLength 84 = .ok (.iload 4, 2) := by decide +kernel
theorem dX3_lookupLength_86 : decode cX3_lookupLength 86 = .ok (.imul, 1) := by decide +kernel
theorem dX3_lookupLength_87 : decode cX3_lookupLength 87 = .ok (.iadd, 1) := by decide +kernel
theorem dX3_lookupLength_88 : decode cX3_lookupLength 88 = .ok (.iload_n 1, 1) := by decide +kernel
theorem dX3_lookupLength_89 : decode cX3_lookupLength 89 = .ok (.isub, 1) := by decide +kernel
theorem dX3_lookupLength_90 : decode cX3_lookupLength 90 = .ok (.ireturn, 1) := by decide +kernel
theorem dX3_switchHead_0 : decode cX3_switchHead 0 = .ok (.iload_n 0, 1) := by decide +kernel
theorem dX3_switchHead_1 : decode cX3_switchHead 1 = .ok (.iconst 1, 1) := by decide +kernel
theorem dX3_switchHead_2 : decode cX3_switchHead 2 = .ok (.iadd, 1) := by decide +kernel
theorem dX3_switchHead_3 : decode cX3_switchHead 3 = .ok (.iload_n 1, 1) := by decide +kernel
theorem dX3_switchHead_4 : decode cX3_switchHead 4 = .ok (.isub, 1) := by decide +kernel
theorem dX3_switchHead_5 : decode cX3_switchHead 5 = .ok (.istore_n 2, 1) := by decide +kernel
theorem dX3_switchHead_6 : decode cX3_switchHead 6 = .ok (.iload_n 0, 1) := by decide +kernel
theorem dX3_switchHead_7 : decode cX3_switchHead 7 = .ok (.iconst 1, 1) := by decide +kernel
theorem dX3_switchHead_8 : decode cX3_switchHead 8 = .ok (.iadd, 1) := by decide +kernel
theorem dX3_switchHead_9 : decode cX3_switchHead 9 = .ok (.iload_n 2, 1) := by decide +kernel
theorem dX3_switchHead_10 : decode cX3_switchHead 10 = .ok (.ineg, 1) := by decide +kernel
theorem dX3_switchHead_11 : decode cX3_switchHead 11 = .ok (.iconst 3, 1) := by decide +kernel
theorem dX3_switchHead_12 : decode cX3_switchHead 12 = .ok (.iand, 1) := by decide +kernel
theorem dX3_switchHead_13 : decode cX3_switchHead 13 = .ok (.iadd, 1) := by decide +kernel
theorem dX3_switchHead_14 : decode cX3_switchHead 14 = .ok (.ireturn, 1) := by decide +kernel
theorem dX3_targetCount_0 : decode cX3_targetCount 0 = .ok (.iload_n 1, 1) := by decide +kernel
theorem dX3_targetCount_1 : decode cX3_targetCount 1 = .ok (.iload_n 2, 1) := by decide +kernel
theorem dX3_targetCount_2 : decode cX3_targetCount 2 = .ok (.invokestatic 29, 3) := by decide +kernel
theorem dX3_targetCount_5 : decode cX3_targetCount 5 = .ok (.istore_n 3, 1) := by decide +kernel
theorem dX3_targetCount_6 : decode cX3_targetCount 6 = .ok (.aload_n 0, 1) := by decide +kernel
theorem dX3_targetCount_7 : decode cX3_targetCount 7 = .ok (.iload_n 1, 1) := by decide +kernel
theorem dX3_targetCount_8 : decode cX3_targetCount 8 = .ok (.invokevirtual 7, 3) := by decide +kernel
theorem dX3_targetCount_11 : decode cX3_targetCount 11 = .ok (.lookupswitch 54 #[(170, 25), (171, 44)], 25) := by decide +kernel
theorem dX3_targetCount_36 : decode cX3_targetCount 36 = .ok (.aload_n 0, 1) := by decide +kernel
theorem dX3_targetCount_37 : decode cX3_targetCount 37 = .ok (.iload_n 3, 1) := by decide +kernel
theorem dX3_targetCount_38 : decode cX3_targetCount 38 = .ok (.bipush 8, 2) := by decide +kernel
theorem dX3_targetCount_40 : decode cX3_targetCount 40 = .ok (.iadd, 1) := by decide +kernel
theorem dX3_targetCount_41 : decode cX3_targetCount 41 = .ok (.invokevirtual 33, 3) := by decide +kernel
theorem dX3_targetCount_44 : decode cX3_targetCount 44 = .ok (.aload_n 0, 1) := by decide +kernel
theorem dX3_targetCount_45 : decode cX3_targetCount 45 = .ok (.iload_n 3, 1) := by decide +kernel
theorem dX3_targetCount_46 : decode cX3_targetCount 46 = .ok (.iconst 4, 1) := by decide +kernel
theorem dX3_targetCount_47 : decode cX3_targetCount 47 = .ok (.iadd, 1) := by decide +kernel
theorem dX3_targetCount_48 : decode cX3_targetCount 48 = .ok (.invokevirtual 33, 3) := by decide +kernel
theorem dX3_targetCount_51 : decode cX3_targetCount 51 = .ok (.isub, 1) := by decide +kernel
theorem dX3_targetCount_52 : decode cX3_targetCount 52 = .ok (.iconst 2, 1) := by decide +kernel
theorem dX3_targetCount_53 : decode cX3_targetCount 53 = .ok (.iadd, 1) := by decide +kernel
theorem dX3_targetCount_54 : decode cX3_targetCount 54 = .ok (.ireturn, 1) := by decide +kernel
theorem dX3_targetCount_55 : decode cX3_targetCount 55 = .ok (.aload_n 0, 1) := by decide +kernel
theorem dX3_targetCount_56 : decode cX3_targetCount 56 = .ok (.iload_n 3, 1) := by decide +kernel
theorem dX3_targetCount_57 : decode cX3_targetCount 57 = .ok (.iconst 4, 1) := by decide +kernel
theorem dX3_targetCount_58 : decode cX3_targetCount 58 = .ok (.iadd, 1) := by decide +kernel
theorem dX3_targetCount_59 : decode cX3_targetCount 59 = .ok (.invokevirtual 33, 3) := by decide +kernel
theorem dX3_targetCount_62 : decode cX3_targetCount 62 = .ok (.iconst 1, 1) := by decide +kernel
theorem dX3_targetCount_63 : decode cX3_targetCount 63 = .ok (.iadd, 1) := by decide +kernel
theorem dX3_targetCount_64 : decode cX3_targetCount 64 = .ok (.ireturn, 1) := by decide +kernel
theorem dX3_targetCount_65 : decode cX3_targetCount 65 = .ok (.iconst 0, 1) := by decide +kernel
theorem dX3_targetCount_66 : decode cX3_targetCount 66 = .ok (.ireturn, 1) := by decide +kernel
theorem dX3_targetPlace_0 : decode cX3_targetPlace 0 = .ok (.iload_n 1, 1) := by decide +kernel
theorem dX3_targetPlace_1 : decode cX3_targetPlace 1 = .ok (.iload_n 2, 1) := by decide +kernel
theorem dX3_targetPlace_2 : decode cX3_targetPlace 2 = .ok (.invokestatic 29, 3) := by decide +kernel
theorem dX3_targetPlace_5 : decode cX3_targetPlace 5 = .ok (.istore 4, 2) := by decide +kernel
theorem dX3_targetPlace_7 : decode cX3_targetPlace 7 = .ok (.iload_n 3, 1) := by decide +kernel
theorem dX3_targetPlace_8 : decode cX3_targetPlace 8 = .ok (.ifCond .ne 12, 3) := by decide +kernel
theorem dX3_targetPlace_11 : decode cX3_targetPlace 11 = .ok (.iload_n 1, 1) := by decide +kernel
theorem dX3_targetPlace_12 : decode cX3_targetPlace 12 = .ok (.aload_n 0, 1) := by decide +kernel
theorem dX3_targetPlace_13 : decode cX3_targetPlace 13 = .ok (.iload 4, 2) := by decide +kernel
theorem dX3_targetPlace_15 : decode cX3_targetPlace 15 = .ok (.invokevirtual 33, 3) := by decide +kernel
theorem dX3_targetPlace_18 : decode cX3_targetPlace 18 = .ok (.iadd, 1) := by decide +kernel
theorem dX3_targetPlace_19 : decode cX3_targetPlace 19 = .ok (.ireturn, 1) := by decide +kernel
theorem dX3_targetPlace_20 : decode cX3_targetPlace 20 = .ok (.iload_n 1, 1) := by decide +kernel
theorem dX3_targetPlace_21 : decode cX3_targetPlace 21 = .ok (.aload_n 0, 1) := by decide +kernel
theorem dX3_targetPlace_22 : decode cX3_targetPlace 22 = .ok (.aload_n 0, 1) := by decide +kernel
theorem dX3_targetPlace_23 : decode cX3_targetPlace 23 = .ok (.iload_n 1, 1) := by decide +kernel
theorem dX3_targetPlace_24 : decode cX3_targetPlace 24 = .ok (.invokevirtual 7, 3) := by decide +kernel
theorem dX3_targetPlace_27 : decode cX3_targetPlace 27 = .ok (.sipush 170, 3) := by decide +kernel
theorem dX3_targetPlace_30 : decode cX3_targetPlace 30 = .ok (.if_icmp .ne 15, 3) := by decide +kernel
theorem dX3_targetPlace_33 : decode cX3_targetPlace 33 = .ok (.iload 4, 2) := by decide +kernel
theorem dX3_targetPlace_35 : decode cX3_targetPlace 35 = .ok (.bipush 8, 2) := by decide +kernel
theorem dX3_targetPlace_37 : decode cX3_targetPlace 37 = .ok (.iadd, 1) := by decide +kernel
theorem dX3_targetPlace_38 : decode cX3_targetPlace 38 = .ok (.iconst 4, 1) := by decide +kernel
theorem dX3_targetPlace_39 : decode cX3_targetPlace 39 = .ok (.iload_n 3, 1) := by decide +kernel
theorem dX3_targetPlace_40 : decode cX3_targetPlace 40 = .ok (.imul, 1) := by decide +kernel
theorem dX3_targetPlace_41 : decode cX3_targetPlace 41 = .ok (.iadd, 1) := by decide +kernel
theorem dX3_targetPlace_42 : decode cX3_targetPlace 42 = .ok (.goto 12, 3) := by decide +kernel
theorem dX3_targetPlace_45 : decode cX3_targetPlace 45 = .ok (.iload 4, 2) := by decide +kernel
theorem dX3_targetPlace_47 : decode cX3_targetPlace 47 = .ok (.iconst 4, 1) := by decide +kernel
theorem dX3_targetPlace_48 : decode cX3_targetPlace 48 = .ok (.iadd, 1) := by decide +kernel
theorem dX3_targetPlace_49 : decode cX3_targetPlace 49 = .ok (.bipush 8, 2) := by decide +kernel
theorem dX3_targetPlace_51 : decode cX3_targetPlace 51 = .ok (.iload_n 3, 1) := by decide +kernel
theorem dX3_targetPlace_52 : decode cX3_targetPlace 52 = .ok (.imul, 1) := by decide +kernel
theorem dX3_targetPlace_53 : decode cX3_targetPlace 53 = .ok (.iadd, 1) := by decide +kernel
theorem dX3_targetPlace_54 : decode cX3_targetPlace 54 = .ok (.invokevirtual 33, 3) := by decide +kernel
theorem dX3_targetPlace_57 : decode cX3_targetPlace 57 = .ok (.iadd, 1) := by decide +kernel
theorem dX3_targetPlace_58 : decode cX3_targetPlace 58 = .ok (.ireturn, 1) := by decide +kernel
theorem dX3_jumpPlace_0 : decode cX3_jumpPlace 0 = .ok (.iload_n 1, 1) := by decide +kernel
theorem dX3_jumpPlace_1 : decode cX3_jumpPlace 1 = .ok (.aload_n 0, 1) := by decide +kernel
theorem dX3_jumpPlace_2 : decode cX3_jumpPlace 2 = .ok (.iload_n 1, 1) := by decide +kernel
theorem dX3_jumpPlace_3 : decode cX3_jumpPlace 3 = .ok (.invokevirtual 7, 3) := by decide +kernel
theorem dX3_jumpPlace_6 : decode cX3_jumpPlace 6 = .ok (.sipush 200, 3) := by decide +kernel
theorem dX3_jumpPlace_9 : decode cX3_jumpPlace 9 = .ok (.if_icmp .ne 13, 3) := by decide +kernel
theorem dX3_jumpPlace_12 : decode cX3_jumpPlace 12 = .ok (.aload_n 0, 1) := by decide +kernel
theorem dX3_jumpPlace_13 : decode cX3_jumpPlace 13 = .ok (.iload_n 1, 1) := by decide +kernel
theorem dX3_jumpPlace_14 : decode cX3_jumpPlace 14 = .ok (.iconst 1, 1) := by decide +kernel
theorem dX3_jumpPlace_15 : decode cX3_jumpPlace 15 = .ok (.iadd, 1) := by decide +kernel
theorem dX3_jumpPlace_16 : decode cX3_jumpPlace 16 = .ok (.invokevirtual 33, 3) := by decide +kernel
theorem dX3_jumpPlace_19 : decode cX3_jumpPlace 19 = .ok (.goto 10, 3) := by decide +kernel
theorem dX3_jumpPlace_22 : decode cX3_jumpPlace 22 = .ok (.aload_n 0, 1) := by decide +kernel
theorem dX3_jumpPlace_23 : decode cX3_jumpPlace 23 = .ok (.iload_n 1, 1) := by decide +kernel
theorem dX3_jumpPlace_24 : decode cX3_jumpPlace 24 = .ok (.iconst 1, 1) := by decide +kernel
theorem dX3_jumpPlace_25 : decode cX3_jumpPlace 25 = .ok (.iadd, 1) := by decide +kernel
theorem dX3_jumpPlace_26 : decode cX3_jumpPlace 26 = .ok (.invokevirtual 38, 3) := by decide +kernel
theorem dX3_jumpPlace_29 : decode cX3_jumpPlace 29 = .ok (.iadd, 1) := by decide +kernel
theorem dX3_jumpPlace_30 : decode cX3_jumpPlace 30 = .ok (.ireturn, 1) := by decide +kernel
theorem dX3_kindAt_0 : decode cX3_kindAt 0 = .ok (.aload_n 0, 1) := by decide +kernel
theorem dX3_kindAt_1 : decode cX3_kindAt 1 = .ok (.iload_n 1, 1) := by decide +kernel
theorem dX3_kindAt_2 : decode cX3_kindAt 2 = .ok (.invokevirtual 7, 3) := by decide +kernel
theorem dX3_kindAt_5 : decode cX3_kindAt 5 = .ok (.sipush 196, 3) := by decide +kernel
theorem dX3_kindAt_8 : decode cX3_kindAt 8 = .ok (.if_icmp .ne 13, 3) := by decide +kernel
theorem dX3_kindAt_11 : decode cX3_kindAt 11 = .ok (.aload_n 0, 1) := by decide +kernel
theorem dX3_kindAt_12 : decode cX3_kindAt 12 = .ok (.iload_n 1, 1) := by decide +kernel
theorem dX3_kindAt_13 : decode cX3_kindAt 13 = .ok (.iconst 1, 1) := by decide +kernel
theorem dX3_kindAt_14 : decode cX3_kindAt 14 = .ok (.iadd, 1) := by decide +kernel
theorem dX3_kindAt_15 : decode cX3_kindAt 15 = .ok (.invokevirtual 7, 3) := by decide +kernel
theorem dX3_kindAt_18 : decode cX3_kindAt 18 = .ok (.goto 8, 3) := by decide +kernel
theorem dX3_kindAt_21 : decode cX3_kindAt 21 = .ok (.aload_n 0, 1) := by decide +kernel
theorem dX3_kindAt_22 : decode cX3_kindAt 22 = .ok (.iload_n 1, 1) := by decide +kernel
theorem dX3_kindAt_23 : decode cX3_kindAt 23 = .ok (.invokevirtual 7, 3) := by decide +kernel
theorem dX3_kindAt_26 : decode cX3_kindAt 26 = .ok (.istore_n 2, 1) := by decide +kernel
theorem dX3_kindAt_27 : decode cX3_kindAt 27 = .ok (.iload_n 2, 1) := by decide +kernel
theorem dX3_kindAt_28 : decode cX3_kindAt 28 = .ok (.iconst 2, 1) := by decide +kernel
theorem dX3_kindAt_29 : decode cX3_kindAt 29 = .ok (.if_icmp .lt 9, 3) := by decide +kernel
theorem dX3_kindAt_32 : decode cX3_kindAt 32 = .ok (.iload_n 2, 1) := by decide +kernel
theorem dX3_kindAt_33 : decode cX3_kindAt 33 = .ok (.bipush 8, 2) := by decide +kernel
theorem dX3_kindAt_35 : decode cX3_kindAt 35 = .ok (.if_icmp .le 15, 3) := by decide +kernel
theorem dX3_kindAt_38 : decode cX3_kindAt 38 = .ok (.iload_n 2, 1) := by decide +kernel
theorem dX3_kindAt_39 : decode cX3_kindAt 39 = .ok (.bipush 16, 2) := by decide +kernel
theorem dX3_kindAt_41 : decode cX3_kindAt 41 = .ok (.if_icmp .lt 13, 3) := by decide +kernel
theorem dX3_kindAt_44 : decode cX3_kindAt 44 = .ok (.iload_n 2, 1) := by decide +kernel
theorem dX3_kindAt_45 : decode cX3_kindAt 45 = .ok (.bipush 19, 2) := by decide +kernel
theorem dX3_kindAt_47 : decode cX3_kindAt 47 = .ok (.if_icmp .gt 7, 3) := by decide +kernel
theorem dX3_kindAt_50 : decode cX3_kindAt 50 = .ok (.sipush 300, 3) := by decide +kernel
theorem dX3_kindAt_53 : decode cX3_kindAt 53 = .ok (.ireturn, 1) := by decide +kernel
theorem dX3_kindAt_54 : decode cX3_kindAt 54 = .ok (.iload_n 2, 1) := by decide +kernel
theorem dX3_kindAt_55 : decode cX3_kindAt 55 = .ok (.bipush 9, 2) := by decide +kernel
theorem dX3_kindAt_57 : decode cX3_kindAt 57 = .ok (.if_icmp .eq 15, 3) := by decide +kernel
theorem dX3_kindAt_60 : decode cX3_kindAt 60 = .ok (.iload_n 2, 1) := by decide +kernel
theorem dX3_kindAt_61 : decode cX3_kindAt 61 = .ok (.bipush 10, 2) := by decide +kernel
theorem dX3_kindAt_63 : decode cX3_kindAt 63 = .ok (.if_icmp .eq 9, 3) := by decide +kernel
theorem dX3_kindAt_66 : decode cX3_kindAt 66 = .ok (.iload_n 2, 1) := by decide +kernel
theorem dX3_kindAt_67 : decode cX3_kindAt 67 = .ok (.bipush 20, 2) := by decide +kernel
theorem dX3_kindAt_69 : decode cX3_kindAt 69 = .ok (.if_icmp .ne 7, 3) := by decide +kernel
theorem dX3_kindAt_72 : decode cX3_kindAt 72 = .ok (.sipush 301, 3) := by decide +kernel
theorem dX3_kindAt_75 : decode cX3_kindAt 75 = .ok (.ireturn, 1) := by decide +kernel
theorem dX3_kindAt_76 : decode cX3_kindAt 76 = .ok (.iload_n 2, 1) := by decide +kernel
theorem dX3_kindAt_77 : decode cX3_kindAt 77 = .ok (.bipush 26, 2) := by decide +kernel
theorem dX3_kindAt_79 : decode cX3_kindAt 79 = .ok (.if_icmp .lt 19, 3) := by decide +kernel
theorem dX3_kindAt_82 : decode cX3_kindAt 82 = .ok (.iload_n 2, 1) := by decide +kernel
theorem dX3_kindAt_83 : decode cX3_kindAt 83 = .ok (.bipush 45, 2) := by decide +kernel
theorem dX3_kindAt_85 : decode cX3_kindAt 85 = .ok (.if_icmp .gt 13, 3) := by decide +kernel
theorem dX3_kindAt_88 : decode cX3_kindAt 88 = .ok (.bipush 21, 2) := by decide +kernel
theorem dX3_kindAt_90 : decode cX3_kindAt 90 = .ok (.iload_n 2, 1) := by decide +kernel
theorem dX3_kindAt_91 : decode cX3_kindAt 91 = .ok (.bipush 26, 2) := by decide +kernel
theorem dX3_kindAt_93 : decode cX3_kindAt 93 = .ok (.isub, 1) := by decide +kernel
theorem dX3_kindAt_94 : decode cX3_kindAt 94 = .ok (.iconst 4, 1) := by decide +kernel
theorem dX3_kindAt_95 : decode cX3_kindAt 95 = .ok (.idiv, 1) := by decide +kernel
theorem dX3_kindAt_96 : decode cX3_kindAt 96 = .ok (.iadd, 1) := by decide +kernel
theorem dX3_kindAt_97 : decode cX3_kindAt 97 = .ok (.ireturn, 1) := by decide +kernel
theorem dX3_kindAt_98 : decode cX3_kindAt 98 = .ok (.iload_n 2, 1) := by decide +kernel
theorem dX3_kindAt_99 : decode cX3_kindAt 99 = .ok (.bipush 59, 2) := by decide +kernel
theorem dX3_kindAt_101 : decode cX3_kindAt 101 = .ok (.if_icmp .lt 19, 3) := by decide +kernel
theorem dX3_kindAt_104 : decode cX3_kindAt 104 = .ok (.iload_n 2, 1) := by decide +kernel
theorem dX3_kindAt_105 : decode cX3_kindAt 105 = .ok (.bipush 78, 2) := by decide +kernel
theorem dX3_kindAt_107 : decode cX3_kindAt 107 = .ok (.if_icmp .gt 13, 3) := by decide +kernel
theorem dX3_kindAt_110 : decode cX3_kindAt 110 = .ok (.bipush 54, 2) := by decide +kernel
theorem dX3_kindAt_112 : decode cX3_kindAt 112 = .ok (.iload_n 2, 1) := by decide +kernel
theorem dX3_kindAt_113 : decode cX3_kindAt 113 = .ok (.bipush 59, 2) := by decide +kernel
theorem dX3_kindAt_115 : decode cX3_kindAt 115 = .ok (.isub, 1) := by decide +kernel
theorem dX3_kindAt_116 : decode cX3_kindAt 116 = .ok (.iconst 4, 1) := by decide +kernel
theorem dX3_kindAt_117 : decode cX3_kindAt 117 = .ok (.idiv, 1) := by decide +kernel
theorem dX3_kindAt_118 : decode cX3_kindAt 118 = .ok (.iadd, 1) := by decide +kernel
theorem dX3_kindAt_119 : decode cX3_kindAt 119 = .ok (.ireturn, 1) := by decide +kernel
theorem dX3_kindAt_120 : decode cX3_kindAt 120 = .ok (.iload_n 2, 1) := by decide +kernel
theorem dX3_kindAt_121 : decode cX3_kindAt 121 = .ok (.sipush 200, 3) := by decide +kernel
theorem dX3_kindAt_124 : decode cX3_kindAt 124 = .ok (.if_icmp .ne 9, 3) := by decide +kernel
theorem dX3_kindAt_127 : decode cX3_kindAt 127 = .ok (.sipush 167, 3) := by decide +kernel
theorem dX3_kindAt_130 : decode cX3_kindAt 130 = .ok (.goto 4, 3) := by decide +kernel
theorem dX3_kindAt_133 : decode cX3_kindAt 133 = .ok (.iload_n 2, 1) := by decide +kernel
theorem dX3_kindAt_134 : decode cX3_kindAt 134 = .ok (.ireturn, 1) := by decide +kernel
theorem dX3_localAt_0 : decode cX3_localAt 0 = .ok (.aload_n 0, 1) := by decide +kernel
theorem dX3_localAt_1 : decode cX3_localAt 1 = .ok (.iload_n 1, 1) := by decide +kernel
theorem dX3_localAt_2 : decode cX3_localAt 2 = .ok (.invokevirtual 7, 3) := by decide +kernel
theorem dX3_localAt_5 : decode cX3_localAt 5 = .ok (.istore_n 2, 1) := by decide +kernel
theorem dX3_localAt_6 : decode cX3_localAt 6 = .ok (.iload_n 2, 1) := by decide +kernel
theorem dX3_localAt_7 : decode cX3_localAt 7 = .ok (.sipush 196, 3) := by decide +kernel
theorem dX3_localAt_10 : decode cX3_localAt 10 = .ok (.if_icmp .ne 11, 3) := by decide +kernel
theorem dX3_localAt_13 : decode cX3_localAt 13 = .ok (.aload_n 0, 1) := by decide +kernel
theorem dX3_localAt_14 : decode cX3_localAt 14 = .ok (.iload_n 1, 1) := by decide +kernel
theorem dX3_localAt_15 : decode cX3_localAt 15 = .ok (.iconst 2, 1) := by decide +kernel
theorem dX3_localAt_16 : decode cX3_localAt 16 = .ok (.iadd, 1) := by decide +kernel
theorem dX3_localAt_17 : decode cX3_localAt 17 = .ok (.invokevirtual 41, 3) := by decide +kernel
theorem dX3_localAt_20 : decode cX3_localAt 20 = .ok (.ireturn, 1) := by decide +kernel
theorem dX3_localAt_21 : decode cX3_localAt 21 = .ok (.iload_n 2, 1) := by decide +kernel
theorem dX3_localAt_22 : decode cX3_localAt 22 = .ok (.bipush 26, 2) := by decide +kernel
theorem dX3_localAt_24 : decode cX3_localAt 24 = .ok (.if_icmp .lt 16, 3) := by decide +kernel
theorem dX3_localAt_27 : decode cX3_localAt 27 = .ok (.iload_n 2, 1) := by decide +kernel
theorem dX3_localAt_28 : decode cX3_localAt 28 = .ok (.bipush 45, 2) := by decide +kernel
theorem dX3_localAt_30 : decode cX3_localAt 30 = .ok (.if_icmp .gt 10, 3) := by decide +kernel
theorem dX3_localAt_33 : decode cX3_localAt 33 = .ok (.iload_n 2, 1) := by decide +kernel
theorem dX3_localAt_34 : decode cX3_localAt 34 = .ok (.bipush 26, 2) := by decide +kernel
theorem dX3_localAt_36 : decode cX3_localAt 36 = .ok (.isub, 1) := by decide +kernel
theorem dX3_localAt_37 : decode cX3_localAt 37 = .ok (.iconst 4, 1) := by decide +kernel
theorem dX3_localAt_38 : decode cX3_localAt 38 = .ok (.irem, 1) := by decide +kernel
theorem dX3_localAt_39 : decode cX3_localAt 39 = .ok (.ireturn, 1) := by decide +kernel
theorem dX3_localAt_40 : decode cX3_localAt 40 = .ok (.iload_n 2, 1) := by decide +kernel
theorem dX3_localAt_41 : decode cX3_localAt 41 = .ok (.bipush 59, 2) := by decide +kernel
theorem dX3_localAt_43 : decode cX3_localAt 43 = .ok (.if_icmp .lt 16, 3) := by decide +kernel
theorem dX3_localAt_46 : decode cX3_localAt 46 = .ok (.iload_n 2, 1) := by decide +kernel
theorem dX3_localAt_47 : decode cX3_localAt 47 = .ok (.bipush 78, 2) := by decide +kernel
theorem dX3_localAt_49 : decode cX3_localAt 49 = .ok (.if_icmp .gt 10, 3) := by decide +kernel
theorem dX3_localAt_52 : decode cX3_localAt 52 = .ok (.iload_n 2, 1) := by decide +kernel
theorem dX3_localAt_53 : decode cX3_localAt 53 = .ok (.bipush 59, 2) := by decide +kernel
theorem dX3_localAt_55 : decode cX3_localAt 55 = .ok (.isub, 1) := by decide +kernel
theorem dX3_localAt_56 : decode cX3_localAt 56 = .ok (.iconst 4, 1) := by decide +kernel
theorem dX3_localAt_57 : decode cX3_localAt 57 = .ok (.irem, 1) := by decide +kernel
theorem dX3_localAt_58 : decode cX3_localAt 58 = .ok (.ireturn, 1) := by decide +kernel
theorem dX3_localAt_59 : decode cX3_localAt 59 = .ok (.aload_n 0, 1) := by decide +kernel
theorem dX3_localAt_60 : decode cX3_localAt 60 = .ok (.iload_n 1, 1) := by decide +kernel
theorem dX3_localAt_61 : decode cX3_localAt 61 = .ok (.iconst 1, 1) := by decide +kernel
theorem dX3_localAt_62 : decode cX3_localAt 62 = .ok (.iadd, 1) := by decide +kernel
theorem dX3_localAt_63 : decode cX3_localAt 63 = .ok (.invokevirtual 7, 3) := by decide +kernel
theorem dX3_localAt_66 : decode cX3_localAt 66 = .ok (.ireturn, 1) := by decide +kernel
theorem dX3_entryAt_0 : decode cX3_entryAt 0 = .ok (.aload_n 0, 1) := by decide +kernel
theorem dX3_entryAt_1 : decode cX3_entryAt 1 = .ok (.iload_n 1, 1) := by decide +kernel
theorem dX3_entryAt_2 : decode cX3_entryAt 2 = .ok (.invokevirtual 7, 3) := by decide +kernel
theorem dX3_entryAt_5 : decode cX3_entryAt 5 = .ok (.lookupswitch 75 #[(18, 59), (19, 67), (20, 67), (178, 67), (179, 67), (184, 67)], 59) := by decide +kernel
theorem dX3_entryAt_64 : decode cX3_entryAt 64 = .ok (.aload_n 0, 1) := by decide +kernel
theorem dX3_entryAt_65 : decode cX3_entryAt 65 = .ok (.iload_n 1, 1) := by decide +kernel
theorem dX3_entryAt_66 : decode cX3_entryAt 66 = .ok (.iconst 1, 1) := by decide +kernel
theorem dX3_entryAt_67 : decode cX3_entryAt 67 = .ok (.iadd, 1) := by decide +kernel
theorem dX3_entryAt_68 : decode cX3_entryAt 68 = .ok (.invokevirtual 7, 3) := by decide +kernel
theorem dX3_entryAt_71 : decode cX3_entryAt 71 = .ok (.ireturn, 1) := by decide +kernel
theorem dX3_entryAt_72 : decode cX3_entryAt 72 = .ok (.aload_n 0, 1) := by decide +kernel
theorem dX3_entryAt_73 : decode cX3_entryAt 73 = .ok (.iload_n 1, 1) := by decide +kernel
theorem dX3_entryAt_74 : decode cX3_entryAt 74 = .ok (.iconst 1, 1) := by decide +kernel
theorem dX3_entryAt_75 : decode cX3_entryAt 75 = .ok (.iadd, 1) := by decide +kernel
theorem dX3_entryAt_76 : decode cX3_entryAt 76 = .ok (.invokevirtual 41, 3) := by decide +kernel
theorem dX3_entryAt_79 : decode cX3_entryAt 79 = .ok (.ireturn, 1) := by decide +kernel
theorem dX3_entryAt_80 : decode cX3_entryAt 80 = .ok (.iconst 0, 1) := by decide +kernel
theorem dX3_entryAt_81 : decode cX3_entryAt 81 = .ok (.ireturn, 1) := by decide +kernel
theorem dX3_isLocal_0 : decode cX3_isLocal 0 = .ok (.iload_n 0, 1) := by decide +kernel
theorem dX3_isLocal_1 : decode cX3_isLocal 1 = .ok (.bipush 21, 2) := by decide +kernel
theorem dX3_isLocal_3 : decode cX3_isLocal 3 = .ok (.if_icmp .eq 35, 3) := by decide +kernel
theorem dX3_isLocal_6 : decode cX3_isLocal 6 = .ok (.iload_n 0, 1) := by decide +kernel
theorem dX3_isLocal_7 : decode cX3_isLocal 7 = .ok (.bipush 25, 2) := by decide +kernel
theorem dX3_isLocal_9 : decode cX3_isLocal 9 = .ok (.if_icmp .eq 29, 3) := by decide +kernel
theorem dX3_isLocal_12 : decode cX3_isLocal 12 = .ok (.iload_n 0, 1) := by decide +kernel
theorem dX3_isLocal_13 : decode cX3_isLocal 13 = .ok (.bipush 54, 2) := by decide +kernel
theorem dX3_isLocal_15 : decode cX3_isLocal 15 = .ok (.if_icmp .eq 23, 3) := by decide +kernel
theorem dX3_isLocal_18 : decode cX3_isLocal 18 = .ok (.iload_n 0, 1) := by decide +kernel
theorem dX3_isLocal_19 : decode cX3_isLocal 19 = .ok (.bipush 58, 2) := by decide +kernel
theorem dX3_isLocal_21 : decode cX3_isLocal 21 = .ok (.if_icmp .eq 17, 3) := by decide +kernel
theorem dX3_isLocal_24 : decode cX3_isLocal 24 = .ok (.iload_n 0, 1) := by decide +kernel
theorem dX3_isLocal_25 : decode cX3_isLocal 25 = .ok (.sipush 132, 3) := by decide +kernel
theorem dX3_isLocal_28 : decode cX3_isLocal 28 = .ok (.if_icmp .eq 10, 3) := by decide +kernel
theorem dX3_isLocal_31 : decode cX3_isLocal 31 = .ok (.iload_n 0, 1) := by decide +kernel
theorem dX3_isLocal_32 : decode cX3_isLocal 32 = .ok (.invokestatic 44, 3) := by decide +kernel
theorem dX3_isLocal_35 : decode cX3_isLocal 35 = .ok (.ifCond .eq 7, 3) := by decide +kernel
theorem dX3_isLocal_38 : decode cX3_isLocal 38 = .ok (.iconst 1, 1) := by decide +kernel
theorem dX3_isLocal_39 : decode cX3_isLocal 39 = .ok (.goto 4, 3) := by decide +kernel
theorem dX3_isLocal_42 : decode cX3_isLocal 42 = .ok (.iconst 0, 1) := by decide +kernel
theorem dX3_isLocal_43 : decode cX3_isLocal 43 = .ok (.ireturn, 1) := by decide +kernel
theorem dX3_isLongLocal_0 : decode cX3_isLongLocal 0 = .ok (.iload_n 0, 1) := by decide +kernel
theorem dX3_isLongLocal_1 : decode cX3_isLongLocal 1 = .ok (.bipush 22, 2) := by decide +kernel
theorem dX3_isLongLocal_3 : decode cX3_isLongLocal 3 = .ok (.if_icmp .eq 9, 3) := by decide +kernel
theorem dX3_isLongLocal_6 : decode cX3_isLongLocal 6 = .ok (.iload_n 0, 1) := by decide +kernel
theorem dX3_isLongLocal_7 : decode cX3_isLongLocal 7 = .ok (.bipush 55, 2) := by decide +kernel
theorem dX3_isLongLocal_9 : decode cX3_isLongLocal 9 = .ok (.if_icmp .ne 7, 3) := by decide +kernel
theorem dX3_isLongLocal_12 : decode cX3_isLongLocal 12 = .ok (.iconst 1, 1) := by decide +kernel
theorem dX3_isLongLocal_13 : decode cX3_isLongLocal 13 = .ok (.goto 4, 3) := by decide +kernel
theorem dX3_isLongLocal_16 : decode cX3_isLongLocal 16 = .ok (.iconst 0, 1) := by decide +kernel
theorem dX3_isLongLocal_17 : decode cX3_isLongLocal 17 = .ok (.ireturn, 1) := by decide +kernel
theorem dX3_isJump_0 : decode cX3_isJump 0 = .ok (.iload_n 0, 1) := by decide +kernel
theorem dX3_isJump_1 : decode cX3_isJump 1 = .ok (.sipush 153, 3) := by decide +kernel
theorem dX3_isJump_4 : decode cX3_isJump 4 = .ok (.if_icmp .lt 10, 3) := by decide +kernel
theorem dX3_isJump_7 : decode cX3_isJump 7 = .ok (.iload_n 0, 1) := by decide +kernel
theorem dX3_isJump_8 : decode cX3_isJump 8 = .ok (.sipush 167, 3) := by decide +kernel
theorem dX3_isJump_11 : decode cX3_isJump 11 = .ok (.if_icmp .le 17, 3) := by decide +kernel
theorem dX3_isJump_14 : decode cX3_isJump 14 = .ok (.iload_n 0, 1) := by decide +kernel
theorem dX3_isJump_15 : decode cX3_isJump 15 = .ok (.sipush 198, 3) := by decide +kernel
theorem dX3_isJump_18 : decode cX3_isJump 18 = .ok (.if_icmp .eq 10, 3) := by decide +kernel
theorem dX3_isJump_21 : decode cX3_isJump 21 = .ok (.iload_n 0, 1) := by decide +kernel
theorem dX3_isJump_22 : decode cX3_isJump 22 = .ok (.sipush 199, 3) := by decide +kernel
theorem dX3_isJump_25 : decode cX3_isJump 25 = .ok (.if_icmp .ne 7, 3) := by decide +kernel
theorem dX3_isJump_28 : decode cX3_isJump 28 = .ok (.iconst 1, 1) := by decide +kernel
theorem dX3_isJump_29 : decode cX3_isJump 29 = .ok (.goto 4, 3) := by decide +kernel
theorem dX3_isJump_32 : decode cX3_isJump 32 = .ok (.iconst 0, 1) := by decide +kernel
theorem dX3_isJump_33 : decode cX3_isJump 33 = .ok (.ireturn, 1) := by decide +kernel
theorem dX3_isSwitch_0 : decode cX3_isSwitch 0 = .ok (.iload_n 0, 1) := by decide +kernel
theorem dX3_isSwitch_1 : decode cX3_isSwitch 1 = .ok (.sipush 170, 3) := by decide +kernel
theorem dX3_isSwitch_4 : decode cX3_isSwitch 4 = .ok (.if_icmp .eq 10, 3) := by decide +kernel
theorem dX3_isSwitch_7 : decode cX3_isSwitch 7 = .ok (.iload_n 0, 1) := by decide +kernel
theorem dX3_isSwitch_8 : decode cX3_isSwitch 8 = .ok (.sipush 171, 3) := by decide +kernel
theorem dX3_isSwitch_11 : decode cX3_isSwitch 11 = .ok (.if_icmp .ne 7, 3) := by decide +kernel
theorem dX3_isSwitch_14 : decode cX3_isSwitch 14 = .ok (.iconst 1, 1) := by decide +kernel
theorem dX3_isSwitch_15 : decode cX3_isSwitch 15 = .ok (.goto 4, 3) := by decide +kernel
theorem dX3_isSwitch_18 : decode cX3_isSwitch 18 = .ok (.iconst 0, 1) := by decide +kernel
theorem dX3_isSwitch_19 : decode cX3_isSwitch 19 = .ok (.ireturn, 1) := by decide +kernel
theorem dX3_isField_0 : decode cX3_isField 0 = .ok (.iload_n 0, 1) := by decide +kernel
theorem dX3_isField_1 : decode cX3_isField 1 = .ok (.sipush 178, 3) := by decide +kernel
theorem dX3_isField_4 : decode cX3_isField 4 = .ok (.if_icmp .eq 10, 3) := by decide +kernel
theorem dX3_isField_7 : decode cX3_isField 7 = .ok (.iload_n 0, 1) := by decide +kernel
theorem dX3_isField_8 : decode cX3_isField 8 = .ok (.sipush 179, 3) := by decide +kernel
theorem dX3_isField_11 : decode cX3_isField 11 = .ok (.if_icmp .ne 7, 3) := by decide +kernel
theorem dX3_isField_14 : decode cX3_isField 14 = .ok (.iconst 1, 1) := by decide +kernel
theorem dX3_isField_15 : decode cX3_isField 15 = .ok (.goto 4, 3) := by decide +kernel
theorem dX3_isField_18 : decode cX3_isField 18 = .ok (.iconst 0, 1) := by decide +kernel
theorem dX3_isField_19 : decode cX3_isField 19 = .ok (.ireturn, 1) := by decide +kernel
theorem dX4_keeps_0 : decode cX4_keeps 0 = .ok (.new 9, 3) := by decide +kernel
theorem dX4_keeps_3 : decode cX4_keeps 3 = .ok (.dup, 1) := by decide +kernel
theorem dX4_keeps_4 : decode cX4_keeps 4 = .ok (.aload_n 0, 1) := by decide +kernel
theorem dX4_keeps_5 : decode cX4_keeps 5 = .ok (.getfield 11, 3) := by decide +kernel
theorem dX4_keeps_8 : decode cX4_keeps 8 = .ok (.aload_n 1, 1) := by decide +kernel
theorem dX4_keeps_9 : decode cX4_keeps 9 = .ok (.aload_n 0, 1) := by decide +kernel
theorem dX4_keeps_10 : decode cX4_keeps 10 = .ok (.getfield 11, 3) := by decide +kernel
theorem dX4_keeps_13 : decode cX4_keeps 13 = .ok (.getfield 17, 3) := by decide +kernel
theorem dX4_keeps_16 : decode cX4_keeps 16 = .ok (.iconst 2, 1) := by decide +kernel
theorem dX4_keeps_17 : decode cX4_keeps 17 = .ok (.invokespecial 23, 3) := by decide +kernel
theorem dX4_keeps_20 : decode cX4_keeps 20 = .ok (.astore_n 2, 1) := by decide +kernel
theorem dX4_keeps_21 : decode cX4_keeps 21 = .ok (.aload_n 2, 1) := by decide +kernel
theorem dX4_keeps_22 : decode cX4_keeps 22 = .ok (.invokestatic 26, 3) := by decide +kernel
theorem dX4_keeps_25 : decode cX4_keeps 25 = .ok (.istore_n 3, 1) := by decide +kernel
theorem dX4_keeps_26 : decode cX4_keeps 26 = .ok (.iload_n 3, 1) := by decide +kernel
theorem dX4_keeps_27 : decode cX4_keeps 27 = .ok (.iconst (-1), 1) := by decide +kernel
theorem dX4_keeps_28 : decode cX4_keeps 28 = .ok (.if_icmp .eq 13, 3) := by decide +kernel
theorem dX4_keeps_31 : decode cX4_keeps 31 = .ok (.aload_n 2, 1) := by decide +kernel
theorem dX4_keeps_32 : decode cX4_keeps 32 = .ok (.aload_n 0, 1) := by decide +kernel
theorem dX4_keeps_33 : decode cX4_keeps 33 = .ok (.getfield 32, 3) := by decide +kernel
theorem dX4_keeps_36 : decode cX4_keeps 36 = .ok (.iload_n 3, 1) := by decide +kernel
theorem dX4_keeps_37 : decode cX4_keeps 37 = .ok (.invokestatic 36, 3) := by decide +kernel
theorem dX4_keeps_40 : decode cX4_keeps 40 = .ok (.istore_n 3, 1) := by decide +kernel
theorem dX4_keeps_41 : decode cX4_keeps 41 = .ok (.iload_n 3, 1) := by decide +kernel
theorem dX4_keeps_42 : decode cX4_keeps 42 = .ok (.iconst (-1), 1) := by decide +kernel
theorem dX4_keeps_43 : decode cX4_keeps 43 = .ok (.if_icmp .eq 23, 3) := by decide +kernel
theorem dX4_keeps_46 : decode cX4_keeps 46 = .ok (.aload_n 0, 1) := by decide +kernel
theorem dX4_keeps_47 : decode cX4_keeps 47 = .ok (.getfield 32, 3) := by decide +kernel
theorem dX4_keeps_50 : decode cX4_keeps 50 = .ok (.invokestatic 40, 3) := by decide +kernel
theorem dX4_keeps_53 : decode cX4_keeps 53 = .ok (.aload_n 0, 1) := by decide +kernel
theorem dX4_keeps_54 : decode cX4_keeps 54 = .ok (.iload_n 3, 1) := by decide +kernel
theorem dX4_keeps_55 : decode cX4_keeps 55 = .ok (.putfield 46, 3) := by decide +kernel
theorem dX4_keeps_58 : decode cX4_keeps 58 = .ok (.aload_n 2, 1) := by decide +kernel
theorem dX4_keeps_59 : decode cX4_keeps 59 = .ok (.iload_n 3, 1) := by decide +kernel
theorem dX4_keeps_60 : decode cX4_keeps 60 = .ok (.bipush 8, 2) := by decide +kernel
theorem dX4_keeps_62 : decode cX4_keeps 62 = .ok (.invokevirtual 49, 3) := by decide +kernel
theorem dX4_keeps_65 : decode cX4_keeps 65 = .ok (.istore_n 3, 1) := by decide +kernel
theorem dX4_keeps_66 : decode cX4_keeps 66 = .ok (.iload_n 3, 1) := by decide +kernel
theorem dX4_keeps_67 : decode cX4_keeps 67 = .ok (.iconst (-1), 1) := by decide +kernel
theorem dX4_keeps_68 : decode cX4_keeps 68 = .ok (.if_icmp .eq 25, 3) := by decide +kernel
theorem dX4_keeps_71 : decode cX4_keeps 71 = .ok (.aload_n 0, 1) := by decide +kernel
theorem dX4_keeps_72 : decode cX4_keeps 72 = .ok (.aload_n 0, 1) := by decide +kernel
theorem dX4_keeps_73 : decode cX4_keeps 73 = .ok (.getfield 11, 3) := by decide +kernel
theorem dX4_keeps_76 : decode cX4_keeps 76 = .ok (.iload_n 3, 1) := by decide +kernel
theorem dX4_keeps_77 : decode cX4_keeps 77 = .ok (.invokevirtual 53, 3) := by decide +kernel
theorem dX4_keeps_80 : decode cX4_keeps 80 = .ok (.putfield 57, 3) := by decide +kernel
theorem dX4_keeps_83 : decode cX4_keeps 83 = .ok (.aload_n 2, 1) := by decide +kernel
theorem dX4_keeps_84 : decode cX4_keeps 84 = .ok (.aload_n 0, 1) := by decide +kernel
theorem dX4_keeps_85 : decode cX4_keeps 85 = .ok (.getfield 60, 3) := by decide +kernel
theorem dX4_keeps_88 : decode cX4_keeps 88 = .ok (.iload_n 3, 1) := by decide +kernel
theorem dX4_keeps_89 : decode cX4_keeps 89 = .ok (.invokestatic 64, 3) := by decide +kernel
theorem dX4_keeps_92 : decode cX4_keeps 92 = .ok (.istore_n 3, 1) := by decide +kernel
theorem dX4_keeps_93 : decode cX4_keeps 93 = .ok (.iload_n 3, 1) := by decide +kernel
theorem dX4_keeps_94 : decode cX4_keeps 94 = .ok (.iconst (-1), 1) := by decide +kernel
theorem dX4_keeps_95 : decode cX4_keeps 95 = .ok (.if_icmp .eq 25, 3) := by decide +kernel
theorem dX4_keeps_98 : decode cX4_keeps 98 = .ok (.aload_n 0, 1) := by decide +kernel
theorem dX4_keeps_99 : decode cX4_keeps 99 = .ok (.aload_n 0, 1) := by decide +kernel
theorem dX4_keeps_100 : decode cX4_keeps 100 = .ok (.getfield 11, 3) := by decide +kernel
theorem dX4_keeps_103 : decode cX4_keeps 103 = .ok (.iload_n 3, 1) := by decide +kernel
theorem dX4_keeps_104 : decode cX4_keeps 104 = .ok (.invokevirtual 53, 3) := by decide +kernel
theorem dX4_keeps_107 : decode cX4_keeps 107 = .ok (.putfield 68, 3) := by decide +kernel
theorem dX4_keeps_110 : decode cX4_keeps 110 = .ok (.aload_n 2, 1) := by decide +kernel
theorem dX4_keeps_111 : decode cX4_keeps 111 = .ok (.aload_n 0, 1) := by decide +kernel
theorem dX4_keeps_112 : decode cX4_keeps 112 = .ok (.getfield 71, 3) := by decide +kernel
theorem dX4_keeps_115 : decode cX4_keeps 115 = .ok (.iload_n 3, 1) := by decide +kernel
theorem dX4_keeps_116 : decode cX4_keeps 116 = .ok (.invokestatic 64, 3) := by decide +kernel
theorem dX4_keeps_119 : decode cX4_keeps 119 = .ok (.istore_n 3, 1) := by decide +kernel
theorem dX4_keeps_120 : decode cX4_keeps 120 = .ok (.iload_n 3, 1) := by decide +kernel
theorem dX4_keeps_121 : decode cX4_keeps 121 = .ok (.iconst (-1), 1) := by decide +kernel
theorem dX4_keeps_122 : decode cX4_keeps 122 = .ok (.if_icmp .eq 14, 3) := by decide +kernel
theorem dX4_keeps_125 : decode cX4_keeps 125 = .ok (.aload_n 0, 1) := by decide +kernel
theorem dX4_keeps_126 : decode cX4_keeps 126 = .ok (.iload_n 3, 1) := by decide +kernel
theorem dX4_keeps_127 : decode cX4_keeps 127 = .ok (.putfield 74, 3) := by decide +kernel
theorem dX4_keeps_130 : decode cX4_keeps 130 = .ok (.aload_n 2, 1) := by decide +kernel
theorem dX4_keeps_131 : decode cX4_keeps 131 = .ok (.iload_n 3, 1) := by decide +kernel
theorem dX4_keeps_132 : decode cX4_keeps 132 = .ok (.invokevirtual 77, 3) := by decide +kernel
theorem dX4_keeps_135 : decode cX4_keeps 135 = .ok (.istore_n 3, 1) := by decide +kernel
theorem dX4_keeps_136 : decode cX4_keeps 136 = .ok (.aload_n 0, 1) := by decide +kernel
theorem dX4_keeps_137 : decode cX4_keeps 137 = .ok (.iload_n 3, 1) := by decide +kernel
theorem dX4_keeps_138 : decode cX4_keeps 138 = .ok (.putfield 80, 3) := by decide +kernel
theorem dX4_keeps_141 : decode cX4_keeps 141 = .ok (.iload_n 3, 1) := by decide +kernel
theorem dX4_keeps_142 : decode cX4_keeps 142 = .ok (.iconst (-1), 1) := by decide +kernel
theorem dX4_keeps_143 : decode cX4_keeps 143 = .ok (.if_icmp .eq 7, 3) := by decide +kernel
theorem dX4_keeps_146 : decode cX4_keeps 146 = .ok (.iconst 1, 1) := by decide +kernel
theorem dX4_keeps_147 : decode cX4_keeps 147 = .ok (.goto 4, 3) := by decide +kernel
theorem dX4_keeps_150 : decode cX4_keeps 150 = .ok (.iconst 0, 1) := by decide +kernel
theorem dX4_keeps_151 : decode cX4_keeps 151 = .ok (.ireturn, 1) := by decide +kernel
theorem dX4_behindHead_0 : decode cX4_behindHead 0 = .ok (.iconst 0, 1) := by decide +kernel
theorem dX4_behindHead_1 : decode cX4_behindHead 1 = .ok (.istore_n 1, 1) := by decide +kernel
theorem dX4_behindHead_2 : decode cX4_behindHead 2 = .ok (.iload_n 1, 1) := by decide +kernel
theorem dX4_behindHead_3 : decode cX4_behindHead 3 = .ok (.getstatic 83, 3) := by decide +kernel
theorem dX4_behindHead_6 : decode cX4_behindHead 6 = .ok (.arraylength, 1) := by decide +kernel
theorem dX4_behindHead_7 : decode cX4_behindHead 7 = .ok (.if_icmp .ge 56, 3) := by decide +kernel
theorem dX4_behindHead_10 : decode cX4_behindHead 10 = .ok (.iload_n 1, 1) := by decide +kernel
theorem dX4_behindHead_11 : decode cX4_behindHead 11 = .ok (.aload_n 0, 1) := by decide +kernel
theorem dX4_behindHead_12 : decode cX4_behindHead 12 = .ok (.getfield 86, 3) := by decide +kernel
theorem dX4_behindHead_15 : decode cX4_behindHead 15 = .ok (.if_icmp .lt 16, 3) := by decide +kernel
theorem dX4_behindHead_18 : decode cX4_behindHead 18 = .ok (.aload_n 0, 1) := by decide +kernel
theorem dX4_behindHead_19 : decode cX4_behindHead 19 = .ok (.getfield 89, 3) := by decide +kernel
theorem dX4_behindHead_22 : decode cX4_behindHead 22 = .ok (.iconst 2, 1) := by decide +kernel
theorem dX4_behindHead_23 : decode cX4_behindHead 23 = .ok (.aload_n 0, 1) := by decide +kernel
theorem dX4_behindHead_24 : decode cX4_behindHead 24 = .ok (.getfield 86, 3) := by decide +kernel
theorem dX4_behindHead_27 : decode cX4_behindHead 27 = .ok (.invokevirtual 93, 3) := by decide +kernel
theorem dX4_behindHead_30 : decode cX4_behindHead 30 = .ok (.ireturn, 1) := by decide +kernel
theorem dX4_behindHead_31 : decode cX4_behindHead 31 = .ok (.aload_n 0, 1) := by decide +kernel
theorem dX4_behindHead_32 : decode cX4_behindHead 32 = .ok (.getfield 98, 3) := by decide +kernel
theorem dX4_behindHead_35 : decode cX4_behindHead 35 = .ok (.iload_n 1, 1) := by decide +kernel
theorem dX4_behindHead_36 : decode cX4_behindHead 36 = .ok (.invokevirtual 99, 3) := by decide +kernel
theorem dX4_behindHead_39 : decode cX4_behindHead 39 = .ok (.getstatic 83, 3) := by decide +kernel
theorem dX4_behindHead_42 : decode cX4_behindHead 42 = .ok (.iload_n 1, 1) := by decide +kernel
theorem dX4_behindHead_43 : decode cX4_behindHead 43 = .ok (.iaload, 1) := by decide +kernel
theorem dX4_behindHead_44 : decode cX4_behindHead 44 = .ok (.if_icmp .eq 13, 3) := by decide +kernel
theorem dX4_behindHead_47 : decode cX4_behindHead 47 = .ok (.aload_n 0, 1) := by decide +kernel
theorem dX4_behindHead_48 : decode cX4_behindHead 48 = .ok (.getfield 89, 3) := by decide +kernel
theorem dX4_behindHead_51 : decode cX4_behindHead 51 = .ok (.iconst 1, 1) := by decide +kernel
theorem dX4_behindHead_52 : decode cX4_behindHead 52 = .ok (.iload_n 1, 1) := by decide +kernel
theorem dX4_behindHead_53 : decode cX4_behindHead 53 = .ok (.invokevirtual 93, 3) := by decide +kernel
theorem dX4_behindHead_56 : decode cX4_behindHead 56 = .ok (.ireturn, 1) := by decide +kernel
theorem dX4_behindHead_57 : decode cX4_behindHead 57 = .ok (.iinc 1 1, 3) := by decide +kernel
theorem dX4_behindHead_60 : decode cX4_behindHead 60 = .ok (.goto (-58), 3) := by decide +kernel
theorem dX4_behindHead_63 : decode cX4_behindHead 63 = .ok (.getstatic 83, 3) := by decide +kernel
theorem dX4_behindHead_66 : decode cX4_behindHead 66 = .ok (.arraylength, 1) := by decide +kernel
theorem dX4_behindHead_67 : decode cX4_behindHead 67 = .ok (.ireturn, 1) := by decide +kernel
theorem dX4_behindPool_0 : decode cX4_behindPool 0 = .ok (.aload_n 0, 1) := by decide +kernel
theorem dX4_behindPool_1 : decode cX4_behindPool 1 = .ok (.iload_n 2, 1) := by decide +kernel
theorem dX4_behindPool_2 : decode cX4_behindPool 2 = .ok (.iconst 1, 1) := by decide +kernel
theorem dX4_behindPool_3 : decode cX4_behindPool 3 = .ok (.sipush 500, 3) := by decide +kernel
theorem dX4_behindPool_6 : decode cX4_behindPool 6 = .ok (.iconst 5, 1) := by decide +kernel
theorem dX4_behindPool_7 : decode cX4_behindPool 7 = .ok (.invokevirtual 102, 3) := by decide +kernel
theorem dX4_behindPool_10 : decode cX4_behindPool 10 = .ok (.istore_n 3, 1) := by decide +kernel
theorem dX4_behindPool_11 : decode cX4_behindPool 11 = .ok (.iload_n 3, 1) := by decide +kernel
theorem dX4_behindPool_12 : decode cX4_behindPool 12 = .ok (.iconst (-1), 1) := by decide +kernel
theorem dX4_behindPool_13 : decode cX4_behindPool 13 = .ok (.if_icmp .ne 5, 3) := by decide +kernel
theorem dX4_behindPool_16 : decode cX4_behindPool 16 = .ok (.iconst (-1), 1) := by decide +kernel
theorem dX4_behindPool_17 : decode cX4_behindPool 17 = .ok (.ireturn, 1) := by decide +kernel
theorem dX4_behindPool_18 : decode cX4_behindPool 18 = .ok (.aload_n 1, 1) := by decide +kernel
theorem dX4_behindPool_19 : decode cX4_behindPool 19 = .ok (.aload_n 0, 1) := by decide +kernel
theorem dX4_behindPool_20 : decode cX4_behindPool 20 = .ok (.getfield 98, 3) := by decide +kernel
theorem dX4_behindPool_23 : decode cX4_behindPool 23 = .ok (.iload_n 2, 1) := by decide +kernel
theorem dX4_behindPool_24 : decode cX4_behindPool 24 = .ok (.invokevirtual 53, 3) := by decide +kernel
theorem dX4_behindPool_27 : decode cX4_behindPool 27 = .ok (.invokevirtual 106, 3) := by decide +kernel
theorem dX4_behindPool_30 : decode cX4_behindPool 30 = .ok (.iconst 1, 1) := by decide +kernel
theorem dX4_behindPool_31 : decode cX4_behindPool 31 = .ok (.istore 4, 2) := by decide +kernel
theorem dX4_behindPool_33 : decode cX4_behindPool 33 = .ok (.iload 4, 2) := by decide +kernel
theorem dX4_behindPool_35 : decode cX4_behindPool 35 = .ok (.aload_n 1, 1) := by decide +kernel
theorem dX4_behindPool_36 : decode cX4_behindPool 36 = .ok (.getfield 112, 3) := by decide +kernel
theorem dX4_behindPool_39 : decode cX4_behindPool 39 = .ok (.if_icmp .ge 40, 3) := by decide +kernel
theorem dX4_behindPool_42 : decode cX4_behindPool 42 = .ok (.iload_n 3, 1) := by decide +kernel
theorem dX4_behindPool_43 : decode cX4_behindPool 43 = .ok (.iconst (-1), 1) := by decide +kernel
theorem dX4_behindPool_44 : decode cX4_behindPool 44 = .ok (.if_icmp .eq 35, 3) := by decide +kernel
theorem dX4_behindPool_47 : decode cX4_behindPool 47 = .ok (.aload_n 1, 1) := by decide +kernel
theorem dX4_behindPool_48 : decode cX4_behindPool 48 = .ok (.iload 4, 2) := by decide +kernel
theorem dX4_behindPool_50 : decode cX4_behindPool 50 = .ok (.iload_n 3, 1) := by decide +kernel
theorem dX4_behindPool_51 : decode cX4_behindPool 51 = .ok (.invokevirtual 113, 3) := by decide +kernel
theorem dX4_behindPool_54 : decode cX4_behindPool 54 = .ok (.aload_n 0, 1) := by decide +kernel
theorem dX4_behindPool_55 : decode cX4_behindPool 55 = .ok (.iload_n 3, 1) := by decide +kernel
theorem dX4_behindPool_56 : decode cX4_behindPool 56 = .ok (.invokestatic 117, 3) := by decide +kernel
theorem dX4_behindPool_59 : decode cX4_behindPool 59 = .ok (.istore_n 3, 1) := by decide +kernel
theorem dX4_behindPool_60 : decode cX4_behindPool 60 = .ok (.aload_n 1, 1) := by decide +kernel
theorem dX4_behindPool_61 : decode cX4_behindPool 61 = .ok (.iconst 5, 1) := by decide +kernel
theorem dX4_behindPool_62 : decode cX4_behindPool 62 = .ok (.iload 4, 2) := by decide +kernel
theorem dX4_behindPool_64 : decode cX4_behindPool 64 = .ok (.invokevirtual 121, 3) := by decide +kernel
theorem dX4_behindPool_67 : decode cX4_behindPool 67 = .ok (.ifCond .eq 6, 3) := by decide +kernel
theorem dX4_behindPool_70 : decode cX4_behindPool 70 = .ok (.iinc 4 1, 3) := by decide +kernel
theorem dX4_behindPool_73 : decode cX4_behindPool 73 = .ok (.iinc 4 1, 3) := by decide +kernel
theorem dX4_behindPool_76 : decode cX4_behindPool 76 = .ok (.goto (-43), 3) := by decide +kernel
theorem dX4_behindPool_79 : decode cX4_behindPool 79 = .ok (.iload_n 3, 1) := by decide +kernel
theorem dX4_behindPool_80 : decode cX4_behindPool 80 = .ok (.ireturn, 1) := by decide +kernel
theorem dX4_behindEntry_0 : decode cX4_behindEntry 0 = .ok (.aload_n 0, 1) := by decide +kernel
theorem dX4_behindEntry_1 : decode cX4_behindEntry 1 = .ok (.iload_n 1, 1) := by decide +kernel
theorem dX4_behindEntry_2 : decode cX4_behindEntry 2 = .ok (.iconst 1, 1) := by decide +kernel
theorem dX4_behindEntry_3 : decode cX4_behindEntry 3 = .ok (.invokevirtual 49, 3) := by decide +kernel
theorem dX4_behindEntry_6 : decode cX4_behindEntry 6 = .ok (.iconst (-1), 1) := by decide +kernel
theorem dX4_behindEntry_7 : decode cX4_behindEntry 7 = .ok (.if_icmp .ne 5, 3) := by decide +kernel
theorem dX4_behindEntry_10 : decode cX4_behindEntry 10 = .ok (.iconst (-1), 1) := by decide +kernel
theorem dX4_behindEntry_11 : decode cX4_behindEntry 11 = .ok (.ireturn, 1) := by decide +kernel
theorem dX4_behindEntry_12 : decode cX4_behindEntry 12 = .ok (.aload_n 0, 1) := by decide +kernel
theorem dX4_behindEntry_13 : decode cX4_behindEntry 13 = .ok (.getfield 98, 3) := by decide +kernel
theorem dX4_behindEntry_16 : decode cX4_behindEntry 16 = .ok (.iload_n 1, 1) := by decide +kernel
theorem dX4_behindEntry_17 : decode cX4_behindEntry 17 = .ok (.invokevirtual 99, 3) := by decide +kernel
theorem dX4_behindEntry_20 : decode cX4_behindEntry 20 = .ok (.istore_n 2, 1) := by decide +kernel
theorem dX4_behindEntry_21 : decode cX4_behindEntry 21 = .ok (.iload_n 2, 1) := by decide +kernel
theorem dX4_behindEntry_22 : decode cX4_behindEntry 22 = .ok (.iconst 1, 1) := by decide +kernel
theorem dX4_behindEntry_23 : decode cX4_behindEntry 23 = .ok (.if_icmp .ne 9, 3) := by decide +kernel
theorem dX4_behindEntry_26 : decode cX4_behindEntry 26 = .ok (.aload_n 0, 1) := by decide +kernel
theorem dX4_behindEntry_27 : decode cX4_behindEntry 27 = .ok (.iload_n 1, 1) := by decide +kernel
theorem dX4_behindEntry_28 : decode cX4_behindEntry 28 = .ok (.invokestatic 125, 3) := by decide +kernel
theorem dX4_behindEntry_31 : decode cX4_behindEntry 31 = .ok (.ireturn, 1) := by decide +kernel
theorem dX4_behindEntry_32 : decode cX4_behindEntry 32 = .ok (.iload_n 2, 1) := by decide +kernel
theorem dX4_behindEntry_33 : decode cX4_behindEntry 33 = .ok (.invokestatic 128, 3) := by decide +kernel
theorem dX4_behindEntry_36 : decode cX4_behindEntry 36 = .ok (.istore_n 3, 1) := by decide +kernel
theorem dX4_behindEntry_37 : decode cX4_behindEntry 37 = .ok (.iload_n 3, 1) := by decide +kernel
theorem dX4_behindEntry_38 : decode cX4_behindEntry 38 = .ok (.ifCond .ne 15, 3) := by decide +kernel
theorem dX4_behindEntry_41 : decode cX4_behindEntry 41 = .ok (.aload_n 0, 1) := by decide +kernel
theorem dX4_behindEntry_42 : decode cX4_behindEntry 42 = .ok (.getfield 89, 3) := by decide +kernel
theorem dX4_behindEntry_45 : decode cX4_behindEntry 45 = .ok (.iconst 3, 1) := by decide +kernel
theorem dX4_behindEntry_46 : decode cX4_behindEntry 46 = .ok (.iload_n 1, 1) := by decide +kernel
theorem dX4_behindEntry_47 : decode cX4_behindEntry 47 = .ok (.invokevirtual 93, 3) := by decide +kernel
theorem dX4_behindEntry_50 : decode cX4_behindEntry 50 = .ok (.goto 9, 3) := by decide +kernel
theorem dX4_behindEntry_53 : decode cX4_behindEntry 53 = .ok (.aload_n 0, 1) := by decide +kernel
theorem dX4_behindEntry_54 : decode cX4_behindEntry 54 = .ok (.iload_n 1, 1) := by decide +kernel
theorem dX4_behindEntry_55 : decode cX4_behindEntry 55 = .ok (.iload_n 3, 1) := by decide +kernel
theorem dX4_behindEntry_56 : decode cX4_behindEntry 56 = .ok (.invokevirtual 49, 3) := by decide +kernel
theorem dX4_behindEntry_59 : decode cX4_behindEntry 59 = .ok (.ireturn, 1) := by decide +kernel
theorem dX4_entryLength_0 : decode cX4_entryLength 0 = .ok (.iload_n 0, 1) := by decide +kernel
theorem dX4_entryLength_1 : decode cX4_entryLength 1 = .ok (.tableswitch 62 3 12 #[55, 62, 57, 62, 60, 62, 55, 55, 62, 55], 55) := by decide +kernel
theorem dX4_entryLength_56 : decode cX4_entryLength 56 = .ok (.iconst 5, 1) := by decide +kernel
theorem dX4_entryLength_57 : decode cX4_entryLength 57 = .ok (.ireturn, 1) := by decide +kernel
theorem dX4_entryLength_58 : decode cX4_entryLength 58 = .ok (.bipush 9, 2) := by decide +kernel
theorem dX4_entryLength_60 : decode cX4_entryLength 60 = .ok (.ireturn, 1) := by decide +kernel
theorem dX4_entryLength_61 : decode cX4_entryLength 61 = .ok (.iconst 3, 1) := by decide +kernel
theorem dX4_entryLength_62 : decode cX4_entryLength 62 = .ok (.ireturn, 1) := by decide +kernel
theorem dX4_entryLength_63 : decode cX4_entryLength 63 = .ok (.iconst 0, 1) := by decide +kernel
theorem dX4_entryLength_64 : decode cX4_entryLength 64 = .ok (.ireturn, 1) := by decide +kernel
theorem dX4_behindName_0 : decode cX4_behindName 0 = .ok (.aload_n 0, 1) := by decide +kernel
theorem dX4_behindName_1 : decode cX4_behindName 1 = .ok (.iload_n 1, 1) := by decide +kernel
theorem dX4_behindName_2 : decode cX4_behindName 2 = .ok (.iconst 3, 1) := by decide +kernel
theorem dX4_behindName_3 : decode cX4_behindName 3 = .ok (.invokevirtual 49, 3) := by decide +kernel
theorem dX4_behindName_6 : decode cX4_behindName 6 = .ok (.iconst (-1), 1) := by decide +kernel
theorem dX4_behindName_7 : decode cX4_behindName 7 = .ok (.if_icmp .ne 5, 3) := by decide +kernel
theorem dX4_behindName_10 : decode cX4_behindName 10 = .ok (.iconst (-1), 1) := by decide +kernel
theorem dX4_behindName_11 : decode cX4_behindName 11 = .ok (.ireturn, 1) := by decide +kernel
theorem dX4_behindName_12 : decode cX4_behindName 12 = .ok (.aload_n 0, 1) := by decide +kernel
theorem dX4_behindName_13 : decode cX4_behindName 13 = .ok (.getfield 98, 3) := by decide +kernel
theorem dX4_behindName_16 : decode cX4_behindName 16 = .ok (.iload_n 1, 1) := by decide +kernel
theorem dX4_behindName_17 : decode cX4_behindName 17 = .ok (.iconst 1, 1) := by decide +kernel
theorem dX4_behindName_18 : decode cX4_behindName 18 = .ok (.iadd, 1) := by decide +kernel
theorem dX4_behindName_19 : decode cX4_behindName 19 = .ok (.invokevirtual 53, 3) := by decide +kernel
theorem dX4_behindName_22 : decode cX4_behindName 22 = .ok (.istore_n 2, 1) := by decide +kernel
theorem dX4_behindName_23 : decode cX4_behindName 23 = .ok (.iload_n 2, 1) := by decide +kernel
theorem dX4_behindName_24 : decode cX4_behindName 24 = .ok (.iconst 1, 1) := by decide +kernel
theorem dX4_behindName_25 : decode cX4_behindName 25 = .ok (.if_icmp .lt 9, 3) := by decide +kernel
theorem dX4_behindName_28 : decode cX4_behindName 28 = .ok (.iload_n 2, 1) := by decide +kernel
theorem dX4_behindName_29 : decode cX4_behindName 29 = .ok (.bipush 100, 2) := by decide +kernel
theorem dX4_behindName_31 : decode cX4_behindName 31 = .ok (.if_icmp .le 13, 3) := by decide +kernel
theorem dX4_behindName_34 : decode cX4_behindName 34 = .ok (.aload_n 0, 1) := by decide +kernel
theorem dX4_behindName_35 : decode cX4_behindName 35 = .ok (.getfield 89, 3) := by decide +kernel
theorem dX4_behindName_38 : decode cX4_behindName 38 = .ok (.iconst 4, 1) := by decide +kernel
theorem dX4_behindName_39 : decode cX4_behindName 39 = .ok (.iload_n 1, 1) := by decide +kernel
theorem dX4_behindName_40 : decode cX4_behindName 40 = .ok (.invokevirtual 93, 3) := by decide +kernel
theorem dX4_behindName_43 : decode cX4_behindName 43 = .ok (.ireturn, 1) := by decide +kernel
theorem dX4_behindName_44 : decode cX4_behindName 44 = .ok (.iload_n 1, 1) := by decide +kernel
theorem dX4_behindName_45 : decode cX4_behindName 45 = .ok (.iconst 3, 1) := by decide +kernel
theorem dX4_behindName_46 : decode cX4_behindName 46 = .ok (.iadd, 1) := by decide +kernel
theorem dX4_behindName_47 : decode cX4_behindName 47 = .ok (.iload_n 2, 1) := by decide +kernel
theorem dX4_behindName_48 : decode cX4_behindName 48 = .ok (.iadd, 1) := by decide +kernel
theorem dX4_behindName_49 : decode cX4_behindName 49 = .ok (.aload_n 0, 1) := by decide +kernel
theorem dX4_behindName_50 : decode cX4_behindName 50 = .ok (.getfield 86, 3) := by decide +kernel
theorem dX4_behindName_53 : decode cX4_behindName 53 = .ok (.invokestatic 131, 3) := by decide +kernel
theorem dX4_behindName_56 : decode cX4_behindName 56 = .ok (.istore_n 3, 1) := by decide +kernel
theorem dX4_behindName_57 : decode cX4_behindName 57 = .ok (.iload_n 1, 1) := by decide +kernel
theorem dX4_behindName_58 : decode cX4_behindName 58 = .ok (.iconst 3, 1) := by decide +kernel
theorem dX4_behindName_59 : decode cX4_behindName 59 = .ok (.iadd, 1) := by decide +kernel
theorem dX4_behindName_60 : decode cX4_behindName 60 = .ok (.istore 4, 2) := by decide +kernel
theorem dX4_behindName_62 : decode cX4_behindName 62 = .ok (.iload 4, 2) := by decide +kernel
theorem dX4_behindName_64 : decode cX4_behindName 64 = .ok (.iload_n 3, 1) := by decide +kernel
theorem dX4_behindName_65 : decode cX4_behindName 65 = .ok (.if_icmp .ge 47, 3) := by decide +kernel
theorem dX4_behindName_68 : decode cX4_behindName 68 = .ok (.aload_n 0, 1) := by decide +kernel
theorem dX4_behindName_69 : decode cX4_behindName 69 = .ok (.getfield 98, 3) := by decide +kernel
theorem dX4_behindName_72 : decode cX4_behindName 72 = .ok (.iload 4, 2) := by decide +kernel
theorem dX4_behindName_74 : decode cX4_behindName 74 = .ok (.invokevirtual 99, 3) := by decide +kernel
theorem dX4_behindName_77 : decode cX4_behindName 77 = .ok (.bipush 33, 2) := by decide +kernel
theorem dX4_behindName_79 : decode cX4_behindName 79 = .ok (.if_icmp .lt 17, 3) := by decide +kernel
theorem dX4_behindName_82 : decode cX4_behindName 82 = .ok (.aload_n 0, 1) := by decide +kernel
theorem dX4_behindName_83 : decode cX4_behindName 83 = .ok (.getfield 98, 3) := by decide +kernel
theorem dX4_behindName_86 : decode cX4_behindName 86 = .ok (.iload 4, 2) := by decide +kernel
theorem dX4_behindName_88 : decode cX4_behindName 88 = .ok (.invokevirtual 99, 3) := by decide +kernel
theorem dX4_behindName_91 : decode cX4_behindName 91 = .ok (.bipush 126, 2) := by decide +kernel
theorem dX4_behindName_93 : decode cX4_behindName 93 = .ok (.if_icmp .le 13, 3) := by decide +kernel
theorem dX4_behindName_96 : decode cX4_behindName 96 = .ok (.aload_n 0, 1) := by decide +kernel
theorem dX4_behindName_97 : decode cX4_behindName 97 = .ok (.getfield 89, 3) := by decide +kernel
theorem dX4_behindName_100 : decode cX4_behindName 100 = .ok (.iconst 4, 1) := by decide +kernel
theorem dX4_behindName_101 : decode cX4_behindName 101 = .ok (.iload_n 1, 1) := by decide +kernel
theorem dX4_behindName_102 : decode cX4_behindName 102 = .ok (.invokevirtual 93, 3) := by decide +kernel
theorem dX4_behindName_105 : decode cX4_behindName 105 = .ok (.ireturn, 1) := by decide +kernel
theorem dX4_behindName_106 : decode cX4_behindName 106 = .ok (.iinc 4 1, 3) := by decide +kernel
theorem dX4_behindName_109 : decode cX4_behindName 109 = .ok (.goto (-47), 3) := by decide +kernel
theorem dX4_behindName_112 : decode cX4_behindName 112 = .ok (.aload_n 0, 1) := by decide +kernel
theorem dX4_behindName_113 : decode cX4_behindName 113 = .ok (.iload_n 1, 1) := by decide +kernel
theorem dX4_behindName_114 : decode cX4_behindName 114 = .ok (.iconst 3, 1) := by decide +kernel
theorem dX4_behindName_115 : decode cX4_behindName 115 = .ok (.iload_n 2, 1) := by decide +kernel
theorem dX4_behindName_116 : decode cX4_behindName 116 = .ok (.iadd, 1) := by decide +kernel
theorem dX4_behindName_117 : decode cX4_behindName 117 = .ok (.invokevirtual 49, 3) := by decide +kernel
theorem dX4_behindName_120 : decode cX4_behindName 120 = .ok (.ireturn, 1) := by decide +kernel
theorem dX4_behindMembers_0 : decode cX4_behindMembers 0 = .ok (.aload_n 0, 1) := by decide +kernel
theorem dX4_behindMembers_1 : decode cX4_behindMembers 1 = .ok (.iload_n 2, 1) := by decide +kernel
theorem dX4_behindMembers_2 : decode cX4_behindMembers 2 = .ok (.iconst 0, 1) := by decide +kernel
theorem dX4_behindMembers_3 : decode cX4_behindMembers 3 = .ok (.bipush 24, 2) := by decide +kernel
theorem dX4_behindMembers_5 : decode cX4_behindMembers 5 = .ok (.iconst 5, 1) := by decide +kernel
theorem dX4_behindMembers_6 : decode cX4_behindMembers 6 = .ok (.invokevirtual 102, 3) := by decide +kernel
theorem dX4_behindMembers_9 : decode cX4_behindMembers 9 = .ok (.istore_n 3, 1) := by decide +kernel
theorem dX4_behindMembers_10 : decode cX4_behindMembers 10 = .ok (.iload_n 3, 1) := by decide +kernel
theorem dX4_behindMembers_11 : decode cX4_behindMembers 11 = .ok (.iconst (-1), 1) := by decide +kernel
theorem dX4_behindMembers_12 : decode cX4_behindMembers 12 = .ok (.if_icmp .ne 7, 3) := by decide +kernel
theorem dX4_behindMembers_15 : decode cX4_behindMembers 15 = .ok (.iconst 0, 1) := by decide +kernel
theorem dX4_behindMembers_16 : decode cX4_behindMembers 16 = .ok (.goto 11, 3) := by decide +kernel
theorem dX4_behindMembers_19 : decode cX4_behindMembers 19 = .ok (.aload_n 0, 1) := by decide +kernel
theorem dX4_behindMembers_20 : decode cX4_behindMembers 20 = .ok (.getfield 98, 3) := by decide +kernel
theorem dX4_behindMembers_23 : decode cX4_behindMembers 23 = .ok (.iload_n 2, 1) := by decide +kernel
theorem dX4_behindMembers_24 : decode cX4_behindMembers 24 = .ok (.invokevirtual 53, 3) := by decide +kernel
theorem dX4_behindMembers_27 : decode cX4_behindMembers 27 = .ok (.istore 4, 2) := by decide +kernel
theorem dX4_behindMembers_29 : decode cX4_behindMembers 29 = .ok (.iconst 0, 1) := by decide +kernel
theorem dX4_behindMembers_30 : decode cX4_behindMembers 30 = .ok (.istore 5, 2) := by decide +kernel
theorem dX4_behindMembers_32 : decode cX4_behindMembers 32 = .ok (.iload 5, 2) := by decide +kernel
theorem dX4_behindMembers_34 : decode cX4_behindMembers 34 = .ok (.iload 4, 2) := by decide +kernel
theorem dX4_behindMembers_36 : decode cX4_behindMembers 36 = .ok (.if_icmp .ge 40, 3) := by decide +kernel
theorem dX4_behindMembers_39 : decode cX4_behindMembers 39 = .ok (.iload_n 3, 1) := by decide +kernel
theorem dX4_behindMembers_40 : decode cX4_behindMembers 40 = .ok (.iconst (-1), 1) := by decide +kernel
theorem dX4_behindMembers_41 : decode cX4_behindMembers 41 = .ok (.if_icmp .eq 35, 3) := by decide +kernel
theorem dX4_behindMembers_44 : decode cX4_behindMembers 44 = .ok (.aload_n 1, 1) := by decide +kernel
theorem dX4_behindMembers_45 : decode cX4_behindMembers 45 = .ok (.iload 5, 2) := by decide +kernel
theorem dX4_behindMembers_47 : decode cX4_behindMembers 47 = .ok (.iload_n 3, 1) := by decide +kernel
theorem dX4_behindMembers_48 : decode cX4_behindMembers 48 = .ok (.invokestatic 136, 3) := by decide +kernel
theorem dX4_behindMembers_51 : decode cX4_behindMembers 51 = .ok (.aload_n 0, 1) := by decide +kernel
theorem dX4_behindMembers_52 : decode cX4_behindMembers 52 = .ok (.iload_n 3, 1) := by decide +kernel
theorem dX4_behindMembers_53 : decode cX4_behindMembers 53 = .ok (.bipush 6, 2) := by decide +kernel
theorem dX4_behindMembers_55 : decode cX4_behindMembers 55 = .ok (.invokevirtual 49, 3) := by decide +kernel
theorem dX4_behindMembers_58 : decode cX4_behindMembers 58 = .ok (.istore_n 3, 1) := by decide +kernel
theorem dX4_behindMembers_59 : decode cX4_behindMembers 59 = .ok (.iload_n 3, 1) := by decide +kernel
theorem dX4_behindMembers_60 : decode cX4_behindMembers 60 = .ok (.iconst (-1), 1) := by decide +kernel
theorem dX4_behindMembers_61 : decode cX4_behindMembers 61 = .ok (.if_icmp .eq 9, 3) := by decide +kernel
theorem dX4_behindMembers_64 : decode cX4_behindMembers 64 = .ok (.aload_n 0, 1) := by decide +kernel
theorem dX4_behindMembers_65 : decode cX4_behindMembers 65 = .ok (.iload_n 3, 1) := by decide +kernel
theorem dX4_behindMembers_66 : decode cX4_behindMembers 66 = .ok (.invokevirtual 77, 3) := by decide +kernel
theorem dX4_behindMembers_69 : decode cX4_behindMembers 69 = .ok (.istore_n 3, 1) := by decide +kernel
theorem dX4_behindMembers_70 : decode cX4_behindMembers 70 = .ok (.iinc 5 1, 3) := by decide +kernel
theorem dX4_behindMembers_73 : decode cX4_behindMembers 73 = .ok (.goto (-41), 3) := by decide +kernel
theorem dX4_behindMembers_76 : decode cX4_behindMembers 76 = .ok (.iload_n 3, 1) := by decide +kernel
theorem dX4_behindMembers_77 : decode cX4_behindMembers 77 = .ok (.ireturn, 1) := by decide +kernel
theorem dX4_keepsInBodies_0 : decode cX4_keepsInBodies 0 = .ok (.iconst 0, 1) := by decide +kernel
theorem dX4_keepsInBodies_1 : decode cX4_keepsInBodies 1 = .ok (.istore_n 2, 1) := by decide +kernel
theorem dX4_keepsInBodies_2 : decode cX4_keepsInBodies 2 = .ok (.iload_n 2, 1) := by decide +kernel
theorem dX4_keepsInBodies_3 : decode cX4_keepsInBodies 3 = .ok (.aload_n 0, 1) := by decide +kernel
theorem dX4_keepsInBodies_4 : decode cX4_keepsInBodies 4 = .ok (.getfield 68, 3) := by decide +kernel
theorem dX4_keepsInBodies_7 : decode cX4_keepsInBodies 7 = .ok (.if_icmp .ge 101, 3) := by decide +kernel
theorem dX4_keepsInBodies_10 : decode cX4_keepsInBodies 10 = .ok (.aload_n 0, 1) := by decide +kernel
theorem dX4_keepsInBodies_11 : decode cX4_keepsInBodies 11 = .ok (.iload_n 2, 1) := by decide +kernel
theorem dX4_keepsInBodies_12 : decode cX4_keepsInBodies 12 = .ok (.invokevirtual 140, 3) := by decide +kernel
theorem dX4_keepsInBodies_15 : decode cX4_keepsInBodies 15 = .ok (.astore_n 3, 1) := by decide +kernel
theorem dX4_keepsInBodies_16 : decode cX4_keepsInBodies 16 = .ok (.aload_n 3, 1) := by decide +kernel
theorem dX4_keepsInBodies_17 : decode cX4_keepsInBodies 17 = .ok (.ifnonnull 5, 3) := by decide +kernel
theorem dX4_keepsInBodies_20 : decode cX4_keepsInBodies 20 = .ok (.iconst 0, 1) := by decide +kernel
theorem dX4_keepsInBodies_21 : decode cX4_keepsInBodies 21 = .ok (.ireturn, 1) := by decide +kernel
theorem dX4_keepsInBodies_22 : decode cX4_keepsInBodies 22 = .ok (.aload_n 3, 1) := by decide +kernel
theorem dX4_keepsInBodies_23 : decode cX4_keepsInBodies 23 = .ok (.aload_n 0, 1) := by decide +kernel
theorem dX4_keepsInBodies_24 : decode cX4_keepsInBodies 24 = .ok (.getfield 32, 3) := by decide +kernel
theorem dX4_keepsInBodies_27 : decode cX4_keepsInBodies 27 = .ok (.getfield 144, 3) := by decide +kernel
theorem dX4_keepsInBodies_30 : decode cX4_keepsInBodies 30 = .ok (.aload_n 0, 1) := by decide +kernel
theorem dX4_keepsInBodies_31 : decode cX4_keepsInBodies 31 = .ok (.aload_n 0, 1) := by decide +kernel
theorem dX4_keepsInBodies_32 : decode cX4_keepsInBodies 32 = .ok (.getfield 71, 3) := by decide +kernel
theorem dX4_keepsInBodies_35 : decode cX4_keepsInBodies 35 = .ok (.iload_n 2, 1) := by decide +kernel
theorem dX4_keepsInBodies_36 : decode cX4_keepsInBodies 36 = .ok (.invokestatic 147, 3) := by decide +kernel
theorem dX4_keepsInBodies_39 : decode cX4_keepsInBodies 39 = .ok (.invokevirtual 151, 3) := by decide +kernel
theorem dX4_keepsInBodies_42 : decode cX4_keepsInBodies 42 = .ok (.invokestatic 147, 3) := by decide +kernel
theorem dX4_keepsInBodies_45 : decode cX4_keepsInBodies 45 = .ok (.putfield 154, 3) := by decide +kernel
theorem dX4_keepsInBodies_48 : decode cX4_keepsInBodies 48 = .ok (.aload_n 3, 1) := by decide +kernel
theorem dX4_keepsInBodies_49 : decode cX4_keepsInBodies 49 = .ok (.getfield 158, 3) := by decide +kernel
theorem dX4_keepsInBodies_52 : decode cX4_keepsInBodies 52 = .ok (.bipush 6, 2) := by decide +kernel
theorem dX4_keepsInBodies_54 : decode cX4_keepsInBodies 54 = .ok (.iadd, 1) := by decide +kernel
theorem dX4_keepsInBodies_55 : decode cX4_keepsInBodies 55 = .ok (.istore 4, 2) := by decide +kernel
theorem dX4_keepsInBodies_57 : decode cX4_keepsInBodies 57 = .ok (.iload 4, 2) := by decide +kernel
theorem dX4_keepsInBodies_59 : decode cX4_keepsInBodies 59 = .ok (.aload_n 0, 1) := by decide +kernel
theorem dX4_keepsInBodies_60 : decode cX4_keepsInBodies 60 = .ok (.getfield 11, 3) := by decide +kernel
theorem dX4_keepsInBodies_63 : decode cX4_keepsInBodies 63 = .ok (.aload_n 3, 1) := by decide +kernel
theorem dX4_keepsInBodies_64 : decode cX4_keepsInBodies 64 = .ok (.getfield 158, 3) := by decide +kernel
theorem dX4_keepsInBodies_67 : decode cX4_keepsInBodies 67 = .ok (.iconst 2, 1) := by decide +kernel
theorem dX4_keepsInBodies_68 : decode cX4_keepsInBodies 68 = .ok (.iadd, 1) := by decide +kernel
theorem dX4_keepsInBodies_69 : decode cX4_keepsInBodies 69 = .ok (.invokevirtual 161, 3) := by decide +kernel
theorem dX4_keepsInBodies_72 : decode cX4_keepsInBodies 72 = .ok (.iadd, 1) := by decide +kernel
theorem dX4_keepsInBodies_73 : decode cX4_keepsInBodies 73 = .ok (.istore 5, 2) := by decide +kernel
theorem dX4_keepsInBodies_75 : decode cX4_keepsInBodies 75 = .ok (.aload_n 3, 1) := by decide +kernel
theorem dX4_keepsInBodies_76 : decode cX4_keepsInBodies 76 = .ok (.new 9, 3) := by decide +kernel
theorem dX4_keepsInBodies_79 : decode cX4_keepsInBodies 79 = .ok (.dup, 1) := by decide +kernel
theorem dX4_keepsInBodies_80 : decode cX4_keepsInBodies 80 = .ok (.aload_n 0, 1) := by decide +kernel
theorem dX4_keepsInBodies_81 : decode cX4_keepsInBodies 81 = .ok (.getfield 11, 3) := by decide +kernel
theorem dX4_keepsInBodies_84 : decode cX4_keepsInBodies 84 = .ok (.aload_n 1, 1) := by decide +kernel
theorem dX4_keepsInBodies_85 : decode cX4_keepsInBodies 85 = .ok (.iload 5, 2) := by decide +kernel
theorem dX4_keepsInBodies_87 : decode cX4_keepsInBodies 87 = .ok (.bipush 14, 2) := by decide +kernel
theorem dX4_keepsInBodies_89 : decode cX4_keepsInBodies 89 = .ok (.invokespecial 23, 3) := by decide +kernel
theorem dX4_keepsInBodies_92 : decode cX4_keepsInBodies 92 = .ok (.iload 4, 2) := by decide +kernel
theorem dX4_keepsInBodies_94 : decode cX4_keepsInBodies 94 = .ok (.invokestatic 164, 3) := by decide +kernel
theorem dX4_keepsInBodies_97 : decode cX4_keepsInBodies 97 = .ok (.ifCond .ne 5, 3) := by decide +kernel
theorem dX4_keepsInBodies_100 : decode cX4_keepsInBodies 100 = .ok (.iconst 0, 1) := by decide +kernel
theorem dX4_keepsInBodies_101 : decode cX4_keepsInBodies 101 = .ok (.ireturn, 1) := by decide +kernel
theorem dX4_keepsInBodies_102 : decode cX4_keepsInBodies 102 = .ok (.iinc 2 1, 3) := by decide +kernel
theorem dX4_keepsInBodies_105 : decode cX4_keepsInBodies 105 = .ok (.goto (-103), 3) := by decide +kernel
theorem dX4_keepsInBodies_108 : decode cX4_keepsInBodies 108 = .ok (.iconst 1, 1) := by decide +kernel
theorem dX4_keepsInBodies_109 : decode cX4_keepsInBodies 109 = .ok (.ireturn, 1) := by decide +kernel
theorem dX4_keepsInBody_0 : decode cX4_keepsInBody 0 = .ok (.aload_n 0, 1) := by decide +kernel
theorem dX4_keepsInBody_1 : decode cX4_keepsInBody 1 = .ok (.aload_n 1, 1) := by decide +kernel
theorem dX4_keepsInBody_2 : decode cX4_keepsInBody 2 = .ok (.iload_n 2, 1) := by decide +kernel
theorem dX4_keepsInBody_3 : decode cX4_keepsInBody 3 = .ok (.invokestatic 168, 3) := by decide +kernel
theorem dX4_keepsInBody_6 : decode cX4_keepsInBody 6 = .ok (.istore_n 3, 1) := by decide +kernel
theorem dX4_keepsInBody_7 : decode cX4_keepsInBody 7 = .ok (.iload_n 3, 1) := by decide +kernel
theorem dX4_keepsInBody_8 : decode cX4_keepsInBody 8 = .ok (.iconst (-1), 1) := by decide +kernel
theorem dX4_keepsInBody_9 : decode cX4_keepsInBody 9 = .ok (.if_icmp .eq 10, 3) := by decide +kernel
theorem dX4_keepsInBody_12 : decode cX4_keepsInBody 12 = .ok (.aload_n 0, 1) := by decide +kernel
theorem dX4_keepsInBody_13 : decode cX4_keepsInBody 13 = .ok (.aload_n 1, 1) := by decide +kernel
theorem dX4_keepsInBody_14 : decode cX4_keepsInBody 14 = .ok (.iload_n 3, 1) := by decide +kernel
theorem dX4_keepsInBody_15 : decode cX4_keepsInBody 15 = .ok (.invokestatic 172, 3) := by decide +kernel
theorem dX4_keepsInBody_18 : decode cX4_keepsInBody 18 = .ok (.istore_n 3, 1) := by decide +kernel
theorem dX4_keepsInBody_19 : decode cX4_keepsInBody 19 = .ok (.iload_n 3, 1) := by decide +kernel
theorem dX4_keepsInBody_20 : decode cX4_keepsInBody 20 = .ok (.iconst (-1), 1) := by decide +kernel
theorem dX4_keepsInBody_21 : decode cX4_keepsInBody 21 = .ok (.if_icmp .eq 9, 3) := by decide +kernel
theorem dX4_keepsInBody_24 : decode cX4_keepsInBody 24 = .ok (.aload_n 1, 1) := by decide +kernel
theorem dX4_keepsInBody_25 : decode cX4_keepsInBody 25 = .ok (.iload_n 3, 1) := by decide +kernel
theorem dX4_keepsInBody_26 : decode cX4_keepsInBody 26 = .ok (.invokevirtual 77, 3) := by decide +kernel
theorem dX4_keepsInBody_29 : decode cX4_keepsInBody 29 = .ok (.istore_n 3, 1) := by decide +kernel
theorem dX4_keepsInBody_30 : decode cX4_keepsInBody 30 = .ok (.iload_n 3, 1) := by decide +kernel
theorem dX4_keepsInBody_31 : decode cX4_keepsInBody 31 = .ok (.iconst (-1), 1) := by decide +kernel
theorem dX4_keepsInBody_32 : decode cX4_keepsInBody 32 = .ok (.if_icmp .eq 22, 3) := by decide +kernel
theorem dX4_keepsInBody_35 : decode cX4_keepsInBody 35 = .ok (.iload_n 3, 1) := by decide +kernel
theorem dX4_keepsInBody_36 : decode cX4_keepsInBody 36 = .ok (.aload_n 1, 1) := by decide +kernel
theorem dX4_keepsInBody_37 : decode cX4_keepsInBody 37 = .ok (.getfield 86, 3) := by decide +kernel
theorem dX4_keepsInBody_40 : decode cX4_keepsInBody 40 = .ok (.if_icmp .eq 14, 3) := by decide +kernel
theorem dX4_keepsInBody_43 : decode cX4_keepsInBody 43 = .ok (.aload_n 1, 1) := by decide +kernel
theorem dX4_keepsInBody_44 : decode cX4_keepsInBody 44 = .ok (.getfield 89, 3) := by decide +kernel
theorem dX4_keepsInBody_47 : decode cX4_keepsInBody 47 = .ok (.bipush 14, 2) := by decide +kernel
theorem dX4_keepsInBody_49 : decode cX4_keepsInBody 49 = .ok (.iload_n 3, 1) := by decide +kernel
theorem dX4_keepsInBody_50 : decode cX4_keepsInBody 50 = .ok (.invokevirtual 93, 3) := by decide +kernel
theorem dX4_keepsInBody_53 : decode cX4_keepsInBody 53 = .ok (.istore_n 3, 1) := by decide +kernel
theorem dX4_keepsInBody_54 : decode cX4_keepsInBody 54 = .ok (.iload_n 3, 1) := by decide +kernel
theorem dX4_keepsInBody_55 : decode cX4_keepsInBody 55 = .ok (.iconst (-1), 1) := by decide +kernel
theorem dX4_keepsInBody_56 : decode cX4_keepsInBody 56 = .ok (.if_icmp .eq 7, 3) := by decide +kernel
theorem dX4_keepsInBody_59 : decode cX4_keepsInBody 59 = .ok (.iconst 1, 1) := by decide +kernel
theorem dX4_keepsInBody_60 : decode cX4_keepsInBody 60 = .ok (.goto 4, 3) := by decide +kernel
theorem dX4_keepsInBody_63 : decode cX4_keepsInBody 63 = .ok (.iconst 0, 1) := by decide +kernel
theorem dX4_keepsInBody_64 : decode cX4_keepsInBody 64 = .ok (.ireturn, 1) := by decide +kernel
theorem dX4_behindCode_0 : decode cX4_behindCode 0 = .ok (.aload_n 0, 1) := by decide +kernel
theorem dX4_behindCode_1 : decode cX4_behindCode 1 = .ok (.aload_n 1, 1) := by decide +kernel
theorem dX4_behindCode_2 : decode cX4_behindCode 2 = .ok (.getfield 98, 3) := by decide +kernel
theorem dX4_behindCode_5 : decode cX4_behindCode 5 = .ok (.iload_n 2, 1) := by decide +kernel
theorem dX4_behindCode_6 : decode cX4_behindCode 6 = .ok (.invokevirtual 53, 3) := by decide +kernel
theorem dX4_behindCode_9 : decode cX4_behindCode 9 = .ok (.putfield 175, 3) := by decide +kernel
theorem dX4_behindCode_12 : decode cX4_behindCode 12 = .ok (.aload_n 1, 1) := by decide +kernel
theorem dX4_behindCode_13 : decode cX4_behindCode 13 = .ok (.iload_n 2, 1) := by decide +kernel
theorem dX4_behindCode_14 : decode cX4_behindCode 14 = .ok (.iconst 0, 1) := by decide +kernel
theorem dX4_behindCode_15 : decode cX4_behindCode 15 = .ok (.bipush 24, 2) := by decide +kernel
theorem dX4_behindCode_17 : decode cX4_behindCode 17 = .ok (.bipush 13, 2) := by decide +kernel
theorem dX4_behindCode_19 : decode cX4_behindCode 19 = .ok (.invokevirtual 102, 3) := by decide +kernel
theorem dX4_behindCode_22 : decode cX4_behindCode 22 = .ok (.istore_n 3, 1) := by decide +kernel
theorem dX4_behindCode_23 : decode cX4_behindCode 23 = .ok (.iload_n 3, 1) := by decide +kernel
theorem dX4_behindCode_24 : decode cX4_behindCode 24 = .ok (.iconst (-1), 1) := by decide +kernel
theorem dX4_behindCode_25 : decode cX4_behindCode 25 = .ok (.if_icmp .ne 5, 3) := by decide +kernel
theorem dX4_behindCode_28 : decode cX4_behindCode 28 = .ok (.iconst (-1), 1) := by decide +kernel
theorem dX4_behindCode_29 : decode cX4_behindCode 29 = .ok (.ireturn, 1) := by decide +kernel
theorem dX4_behindCode_30 : decode cX4_behindCode 30 = .ok (.aload_n 0, 1) := by decide +kernel
theorem dX4_behindCode_31 : decode cX4_behindCode 31 = .ok (.aload_n 1, 1) := by decide +kernel
theorem dX4_behindCode_32 : decode cX4_behindCode 32 = .ok (.getfield 98, 3) := by decide +kernel
theorem dX4_behindCode_35 : decode cX4_behindCode 35 = .ok (.iload_n 3, 1) := by decide +kernel
theorem dX4_behindCode_36 : decode cX4_behindCode 36 = .ok (.invokevirtual 53, 3) := by decide +kernel
theorem dX4_behindCode_39 : decode cX4_behindCode 39 = .ok (.putfield 178, 3) := by decide +kernel
theorem dX4_behindCode_42 : decode cX4_behindCode 42 = .ok (.aload_n 1, 1) := by decide +kernel
theorem dX4_behindCode_43 : decode cX4_behindCode 43 = .ok (.iload_n 3, 1) := by decide +kernel
theorem dX4_behindCode_44 : decode cX4_behindCode 44 = .ok (.aload_n 0, 1) := by decide +kernel
theorem dX4_behindCode_45 : decode cX4_behindCode 45 = .ok (.getfield 154, 3) := by decide +kernel
theorem dX4_behindCode_48 : decode cX4_behindCode 48 = .ok (.bipush 24, 2) := by decide +kernel
theorem dX4_behindCode_50 : decode cX4_behindCode 50 = .ok (.bipush 13, 2) := by decide +kernel
theorem dX4_behindCode_52 : decode cX4_behindCode 52 = .ok (.invokevirtual 102, 3) := by decide +kernel
theorem dX4_behindCode_55 : decode cX4_behindCode 55 = .ok (.istore_n 3, 1) := by decide +kernel
theorem dX4_behindCode_56 : decode cX4_behindCode 56 = .ok (.iload_n 3, 1) := by decide +kernel
theorem dX4_behindCode_57 : decode cX4_behindCode 57 = .ok (.iconst (-1), 1) := by decide +kernel
theorem dX4_behindCode_58 : decode cX4_behindCode 58 = .ok (.if_icmp .eq 13, 3) := by decide +kernel
theorem dX4_behindCode_61 : decode cX4_behindCode 61 = .ok (.aload_n 1, 1) := by decide +kernel
theorem dX4_behindCode_62 : decode cX4_behindCode 62 = .ok (.iload_n 3, 1) := by decide +kernel
theorem dX4_behindCode_63 : decode cX4_behindCode 63 = .ok (.iconst 4, 1) := by decide +kernel
theorem dX4_behindCode_64 : decode cX4_behindCode 64 = .ok (.invokevirtual 49, 3) := by decide +kernel
theorem dX4_behindCode_67 : decode cX4_behindCode 67 = .ok (.iconst (-1), 1) := by decide +kernel
theorem dX4_behindCode_68 : decode cX4_behindCode 68 = .ok (.if_icmp .ne 5, 3) := by decide +kernel
theorem dX4_behindCode_71 : decode cX4_behindCode 71 = .ok (.iconst (-1), 1) := by decide +kernel
theorem dX4_behindCode_72 : decode cX4_behindCode 72 = .ok (.ireturn, 1) := by decide +kernel
theorem dX4_behindCode_73 : decode cX4_behindCode 73 = .ok (.aload_n 0, 1) := by decide +kernel
theorem dX4_behindCode_74 : decode cX4_behindCode 74 = .ok (.iload_n 3, 1) := by decide +kernel
theorem dX4_behindCode_75 : decode cX4_behindCode 75 = .ok (.iconst 4, 1) := by decide +kernel
theorem dX4_behindCode_76 : decode cX4_behindCode 76 = .ok (.iadd, 1) := by decide +kernel
theorem dX4_behindCode_77 : decode cX4_behindCode 77 = .ok (.putfield 181, 3) := by decide +kernel
theorem dX4_behindCode_80 : decode cX4_behindCode 80 = .ok (.aload_n 0, 1) := by decide +kernel
theorem dX4_behindCode_81 : decode cX4_behindCode 81 = .ok (.aload_n 1, 1) := by decide +kernel
theorem dX4_behindCode_82 : decode cX4_behindCode 82 = .ok (.getfield 98, 3) := by decide +kernel
theorem dX4_behindCode_85 : decode cX4_behindCode 85 = .ok (.iload_n 3, 1) := by decide +kernel
theorem dX4_behindCode_86 : decode cX4_behindCode 86 = .ok (.invokevirtual 161, 3) := by decide +kernel
theorem dX4_behindCode_89 : decode cX4_behindCode 89 = .ok (.putfield 184, 3) := by decide +kernel
theorem dX4_behindCode_92 : decode cX4_behindCode 92 = .ok (.aload_n 0, 1) := by decide +kernel
theorem dX4_behindCode_93 : decode cX4_behindCode 93 = .ok (.getfield 184, 3) := by decide +kernel
theorem dX4_behindCode_96 : decode cX4_behindCode 96 = .ok (.iconst 1, 1) := by decide +kernel
theorem dX4_behindCode_97 : decode cX4_behindCode 97 = .ok (.if_icmp .lt 13, 3) := by decide +kernel
theorem dX4_behindCode_100 : decode cX4_behindCode 100 = .ok (.aload_n 0, 1) := by decide +kernel
theorem dX4_behindCode_101 : decode cX4_behindCode 101 = .ok (.getfield 184, 3) := by decide +kernel
theorem dX4_behindCode_104 : decode cX4_behindCode 104 = .ok (.sipush 1200, 3) := by decide +kernel
theorem dX4_behindCode_107 : decode cX4_behindCode 107 = .ok (.if_icmp .le 14, 3) := by decide +kernel
theorem dX4_behindCode_110 : decode cX4_behindCode 110 = .ok (.aload_n 1, 1) := by decide +kernel
theorem dX4_behindCode_111 : decode cX4_behindCode 111 = .ok (.getfield 89, 3) := by decide +kernel
theorem dX4_behindCode_114 : decode cX4_behindCode 114 = .ok (.bipush 13, 2) := by decide +kernel
theorem dX4_behindCode_116 : decode cX4_behindCode 116 = .ok (.iload_n 3, 1) := by decide +kernel
theorem dX4_behindCode_117 : decode cX4_behindCode 117 = .ok (.invokevirtual 93, 3) := by decide +kernel
theorem dX4_behindCode_120 : decode cX4_behindCode 120 = .ok (.ireturn, 1) := by decide +kernel
theorem dX4_behindCode_121 : decode cX4_behindCode 121 = .ok (.aload_n 1, 1) := by decide +kernel
theorem dX4_behindCode_122 : decode cX4_behindCode 122 = .ok (.aload_n 0, 1) := by decide +kernel
theorem dX4_behindCode_123 : decode cX4_behindCode 123 = .ok (.getfield 181, 3) := by decide +kernel
theorem dX4_behindCode_126 : decode cX4_behindCode 126 = .ok (.aload_n 0, 1) := by decide +kernel
theorem dX4_behindCode_127 : decode cX4_behindCode 127 = .ok (.getfield 184, 3) := by decide +kernel
theorem dX4_behindCode_130 : decode cX4_behindCode 130 = .ok (.invokevirtual 49, 3) := by decide +kernel
theorem dX4_behindCode_133 : decode cX4_behindCode 133 = .ok (.ireturn, 1) := by decide +kernel
theorem dX4_behindCatches_0 : decode cX4_behindCatches 0 = .ok (.aload_n 1, 1) := by decide +kernel
theorem dX4_behindCatches_1 : decode cX4_behindCatches 1 = .ok (.iload_n 2, 1) := by decide +kernel
theorem dX4_behindCatches_2 : decode cX4_behindCatches 2 = .ok (.iconst 0, 1) := by decide +kernel
theorem dX4_behindCatches_3 : decode cX4_behindCatches 3 = .ok (.bipush 16, 2) := by decide +kernel
theorem dX4_behindCatches_5 : decode cX4_behindCatches 5 = .ok (.bipush 13, 2) := by decide +kernel
theorem dX4_behindCatches_7 : decode cX4_behindCatches 7 = .ok (.invokevirtual 102, 3) := by decide +kernel
theorem dX4_behindCatches_10 : decode cX4_behindCatches 10 = .ok (.istore_n 3, 1) := by decide +kernel
theorem dX4_behindCatches_11 : decode cX4_behindCatches 11 = .ok (.iload_n 3, 1) := by decide +kernel
theorem dX4_behindCatches_12 : decode cX4_behindCatches 12 = .ok (.iconst (-1), 1) := by decide +kernel
theorem dX4_behindCatches_13 : decode cX4_behindCatches 13 = .ok (.if_icmp .ne 5, 3) := by decide +kernel
theorem dX4_behindCatches_16 : decode cX4_behindCatches 16 = .ok (.iconst (-1), 1) := by decide +kernel
theorem dX4_behindCatches_17 : decode cX4_behindCatches 17 = .ok (.ireturn, 1) := by decide +kernel
theorem dX4_behindCatches_18 : decode cX4_behindCatches 18 = .ok (.aload_n 0, 1) := by decide +kernel
theorem dX4_behindCatches_19 : decode cX4_behindCatches 19 = .ok (.aload_n 1, 1) := by decide +kernel
theorem dX4_behindCatches_20 : decode cX4_behindCatches 20 = .ok (.getfield 98, 3) := by decide +kernel
theorem dX4_behindCatches_23 : decode cX4_behindCatches 23 = .ok (.iload_n 2, 1) := by decide +kernel
theorem dX4_behindCatches_24 : decode cX4_behindCatches 24 = .ok (.invokevirtual 53, 3) := by decide +kernel
theorem dX4_behindCatches_27 : decode cX4_behindCatches 27 = .ok (.putfield 187, 3) := by decide +kernel
theorem dX4_behindCatches_30 : decode cX4_behindCatches 30 = .ok (.aload_n 0, 1) := by decide +kernel
theorem dX4_behindCatches_31 : decode cX4_behindCatches 31 = .ok (.iload_n 3, 1) := by decide +kernel
theorem dX4_behindCatches_32 : decode cX4_behindCatches 32 = .ok (.putfield 190, 3) := by decide +kernel
theorem dX4_behindCatches_35 : decode cX4_behindCatches 35 = .ok (.aload_n 1, 1) := by decide +kernel
theorem dX4_behindCatches_36 : decode cX4_behindCatches 36 = .ok (.iload_n 3, 1) := by decide +kernel
theorem dX4_behindCatches_37 : decode cX4_behindCatches 37 = .ok (.aload_n 0, 1) := by decide +kernel
theorem dX4_behindCatches_38 : decode cX4_behindCatches 38 = .ok (.getfield 187, 3) := by decide +kernel
theorem dX4_behindCatches_41 : decode cX4_behindCatches 41 = .ok (.bipush 8, 2) := by decide +kernel
theorem dX4_behindCatches_43 : decode cX4_behindCatches 43 = .ok (.imul, 1) := by decide +kernel
theorem dX4_behindCatches_44 : decode cX4_behindCatches 44 = .ok (.invokevirtual 49, 3) := by decide +kernel
theorem dX4_behindCatches_47 : decode cX4_behindCatches 47 = .ok (.ireturn, 1) := by decide +kernel
theorem dX5_wrongInstruction_0 : decode cX5_wrongInstruction 0 = .ok (.iconst 0, 1) := by decide +kernel
theorem dX5_wrongInstruction_1 : decode cX5_wrongInstruction 1 = .ok (.istore_n 1, 1) := by decide +kernel
theorem dX5_wrongInstruction_2 : decode cX5_wrongInstruction 2 = .ok (.iconst 0, 1) := by decide +kernel
theorem dX5_wrongInstruction_3 : decode cX5_wrongInstruction 3 = .ok (.istore_n 2, 1) := by decide +kernel
theorem dX5_wrongInstruction_4 : decode cX5_wrongInstruction 4 = .ok (.iload_n 2, 1) := by decide +kernel
theorem dX5_wrongInstruction_5 : decode cX5_wrongInstruction 5 = .ok (.aload_n 0, 1) := by decide +kernel
theorem dX5_wrongInstruction_6 : decode cX5_wrongInstruction 6 = .ok (.getfield 9, 3) := by decide +kernel
theorem dX5_wrongInstruction_9 : decode cX5_wrongInstruction 9 = .ok (.if_icmp .ge 56, 3) := by decide +kernel
theorem dX5_wrongInstruction_12 : decode cX5_wrongInstruction 12 = .ok (.aload_n 0, 1) := by decide +kernel
theorem dX5_wrongInstruction_13 : decode cX5_wrongInstruction 13 = .ok (.iload_n 2, 1) := by decide +kernel
theorem dX5_wrongInstruction_14 : decode cX5_wrongInstruction 14 = .ok (.invokevirtual 15, 3) := by decide +kernel
theorem dX5_wrongInstruction_17 : decode cX5_wrongInstruction 17 = .ok (.astore_n 3, 1) := by decide +kernel
theorem dX5_wrongInstruction_18 : decode cX5_wrongInstruction 18 = .ok (.aload_n 3, 1) := by decide +kernel
theorem dX5_wrongInstruction_19 : decode cX5_wrongInstruction 19 = .ok (.ifnonnull 12, 3) := by decide +kernel
theorem dX5_wrongInstruction_22 : decode cX5_wrongInstruction 22 = .ok (.aload_n 0, 1) := by decide +kernel
theorem dX5_wrongInstruction_23 : decode cX5_wrongInstruction 23 = .ok (.getfield 19, 3) := by decide +kernel
theorem dX5_wrongInstruction_26 : decode cX5_wrongInstruction 26 = .ok (.iload_n 2, 1) := by decide +kernel
theorem dX5_wrongInstruction_27 : decode cX5_wrongInstruction 27 = .ok (.invokestatic 23, 3) := by decide +kernel
theorem dX5_wrongInstruction_30 : decode cX5_wrongInstruction 30 = .ok (.ireturn, 1) := by decide +kernel
theorem dX5_wrongInstruction_31 : decode cX5_wrongInstruction 31 = .ok (.aload_n 3, 1) := by decide +kernel
theorem dX5_wrongInstruction_32 : decode cX5_wrongInstruction 32 = .ok (.iload_n 1, 1) := by decide +kernel
theorem dX5_wrongInstruction_33 : decode cX5_wrongInstruction 33 = .ok (.putfield 27, 3) := by decide +kernel
theorem dX5_wrongInstruction_36 : decode cX5_wrongInstruction 36 = .ok (.aload_n 0, 1) := by decide +kernel
theorem dX5_wrongInstruction_37 : decode cX5_wrongInstruction 37 = .ok (.aload_n 3, 1) := by decide +kernel
theorem dX5_wrongInstruction_38 : decode cX5_wrongInstruction 38 = .ok (.invokestatic 32, 3) := by decide +kernel
theorem dX5_wrongInstruction_41 : decode cX5_wrongInstruction 41 = .ok (.istore 4, 2) := by decide +kernel
theorem dX5_wrongInstruction_43 : decode cX5_wrongInstruction 43 = .ok (.iload 4, 2) := by decide +kernel
theorem dX5_wrongInstruction_45 : decode cX5_wrongInstruction 45 = .ok (.iconst (-1), 1) := by decide +kernel
theorem dX5_wrongInstruction_46 : decode cX5_wrongInstruction 46 = .ok (.if_icmp .eq 6, 3) := by decide +kernel
theorem dX5_wrongInstruction_49 : decode cX5_wrongInstruction 49 = .ok (.iload 4, 2) := by decide +kernel
theorem dX5_wrongInstruction_51 : decode cX5_wrongInstruction 51 = .ok (.ireturn, 1) := by decide +kernel
theorem dX5_wrongInstruction_52 : decode cX5_wrongInstruction 52 = .ok (.iload_n 1, 1) := by decide +kernel
theorem dX5_wrongInstruction_53 : decode cX5_wrongInstruction 53 = .ok (.aload_n 3, 1) := by decide +kernel
theorem dX5_wrongInstruction_54 : decode cX5_wrongInstruction 54 = .ok (.getfield 38, 3) := by decide +kernel
theorem dX5_wrongInstruction_57 : decode cX5_wrongInstruction 57 = .ok (.iadd, 1) := by decide +kernel
theorem dX5_wrongInstruction_58 : decode cX5_wrongInstruction 58 = .ok (.istore_n 1, 1) := by decide +kernel
theorem dX5_wrongInstruction_59 : decode cX5_wrongInstruction 59 = .ok (.iinc 2 1, 3) := by decide +kernel
theorem dX5_wrongInstruction_62 : decode cX5_wrongInstruction 62 = .ok (.goto (-58), 3) := by decide +kernel
theorem dX5_wrongInstruction_65 : decode cX5_wrongInstruction 65 = .ok (.iconst (-1), 1) := by decide +kernel
theorem dX5_wrongInstruction_66 : decode cX5_wrongInstruction 66 = .ok (.ireturn, 1) := by decide +kernel
theorem dX5_cutIntoRows_0 : decode cX5_cutIntoRows 0 = .ok (.aload_n 1, 1) := by decide +kernel
theorem dX5_cutIntoRows_1 : decode cX5_cutIntoRows 1 = .ok (.getfield 41, 3) := by decide +kernel
theorem dX5_cutIntoRows_4 : decode cX5_cutIntoRows 4 = .ok (.aload_n 1, 1) := by decide +kernel
theorem dX5_cutIntoRows_5 : decode cX5_cutIntoRows 5 = .ok (.getfield 44, 3) := by decide +kernel
theorem dX5_cutIntoRows_8 : decode cX5_cutIntoRows 8 = .ok (.iadd, 1) := by decide +kernel
theorem dX5_cutIntoRows_9 : decode cX5_cutIntoRows 9 = .ok (.istore_n 2, 1) := by decide +kernel
theorem dX5_cutIntoRows_10 : decode cX5_cutIntoRows 10 = .ok (.aload_n 1, 1) := by decide +kernel
theorem dX5_cutIntoRows_11 : decode cX5_cutIntoRows 11 = .ok (.getfield 41, 3) := by decide +kernel
theorem dX5_cutIntoRows_14 : decode cX5_cutIntoRows 14 = .ok (.istore_n 3, 1) := by decide +kernel
theorem dX5_cutIntoRows_15 : decode cX5_cutIntoRows 15 = .ok (.aload_n 1, 1) := by decide +kernel
theorem dX5_cutIntoRows_16 : decode cX5_cutIntoRows 16 = .ok (.iconst 0, 1) := by decide +kernel
theorem dX5_cutIntoRows_17 : decode cX5_cutIntoRows 17 = .ok (.putfield 38, 3) := by decide +kernel
theorem dX5_cutIntoRows_20 : decode cX5_cutIntoRows 20 = .ok (.iload_n 3, 1) := by decide +kernel
theorem dX5_cutIntoRows_21 : decode cX5_cutIntoRows 21 = .ok (.iload_n 2, 1) := by decide +kernel
theorem dX5_cutIntoRows_22 : decode cX5_cutIntoRows 22 = .ok (.if_icmp .ge 68, 3) := by decide +kernel
theorem dX5_cutIntoRows_25 : decode cX5_cutIntoRows 25 = .ok (.aload_n 0, 1) := by decide +kernel
theorem dX5_cutIntoRows_26 : decode cX5_cutIntoRows 26 = .ok (.getfield 47, 3) := by decide +kernel
theorem dX5_cutIntoRows_29 : decode cX5_cutIntoRows 29 = .ok (.iload_n 3, 1) := by decide +kernel
theorem dX5_cutIntoRows_30 : decode cX5_cutIntoRows 30 = .ok (.aload_n 1, 1) := by decide +kernel
theorem dX5_cutIntoRows_31 : decode cX5_cutIntoRows 31 = .ok (.getfield 41, 3) := by decide +kernel
theorem dX5_cutIntoRows_34 : decode cX5_cutIntoRows 34 = .ok (.invokestatic 51, 3) := by decide +kernel
theorem dX5_cutIntoRows_37 : decode cX5_cutIntoRows 37 = .ok (.istore 4, 2) := by decide +kernel
theorem dX5_cutIntoRows_39 : decode cX5_cutIntoRows 39 = .ok (.iload 4, 2) := by decide +kernel
theorem dX5_cutIntoRows_41 : decode cX5_cutIntoRows 41 = .ok (.iconst 1, 1) := by decide +kernel
theorem dX5_cutIntoRows_42 : decode cX5_cutIntoRows 42 = .ok (.if_icmp .lt 11, 3) := by decide +kernel
theorem dX5_cutIntoRows_45 : decode cX5_cutIntoRows 45 = .ok (.iload 4, 2) := by decide +kernel
theorem dX5_cutIntoRows_47 : decode cX5_cutIntoRows 47 = .ok (.iload_n 2, 1) := by decide +kernel
theorem dX5_cutIntoRows_48 : decode cX5_cutIntoRows 48 = .ok (.iload_n 3, 1) := by decide +kernel
theorem dX5_cutIntoRows_49 : decode cX5_cutIntoRows 49 = .ok (.isub, 1) := by decide +kernel
theorem dX5_cutIntoRows_50 : decode cX5_cutIntoRows 50 = .ok (.if_icmp .le 5, 3) := by decide +kernel
theorem dX5_cutIntoRows_53 : decode cX5_cutIntoRows 53 = .ok (.iload_n 3, 1) := by decide +kernel
theorem dX5_cutIntoRows_54 : decode cX5_cutIntoRows 54 = .ok (.ireturn, 1) := by decide +kernel
theorem dX5_cutIntoRows_55 : decode cX5_cutIntoRows 55 = .ok (.aload_n 0, 1) := by decide +kernel
theorem dX5_cutIntoRows_56 : decode cX5_cutIntoRows 56 = .ok (.getfield 57, 3) := by decide +kernel
theorem dX5_cutIntoRows_59 : decode cX5_cutIntoRows 59 = .ok (.aload_n 1, 1) := by decide +kernel
theorem dX5_cutIntoRows_60 : decode cX5_cutIntoRows 60 = .ok (.getfield 27, 3) := by decide +kernel
theorem dX5_cutIntoRows_63 : decode cX5_cutIntoRows 63 = .ok (.aload_n 1, 1) := by decide +kernel
theorem dX5_cutIntoRows_64 : decode cX5_cutIntoRows 64 = .ok (.getfield 38, 3) := by decide +kernel
theorem dX5_cutIntoRows_67 : decode cX5_cutIntoRows 67 = .ok (.iadd, 1) := by decide +kernel
theorem dX5_cutIntoRows_68 : decode cX5_cutIntoRows 68 = .ok (.iload_n 3, 1) := by decide +kernel
theorem dX5_cutIntoRows_69 : decode cX5_cutIntoRows 69 = .ok (.invokestatic 60, 3) := by decide +kernel
theorem dX5_cutIntoRows_72 : decode cX5_cutIntoRows 72 = .ok (.aload_n 1, 1) := by decide +kernel
theorem dX5_cutIntoRows_73 : decode cX5_cutIntoRows 73 = .ok (.dup, 1) := by decide +kernel
theorem dX5_cutIntoRows_74 : decode cX5_cutIntoRows 74 = .ok (.getfield 38, 3) := by decide +kernel
theorem dX5_cutIntoRows_77 : decode cX5_cutIntoRows 77 = .ok (.iconst 1, 1) := by decide +kernel
theorem dX5_cutIntoRows_78 : decode cX5_cutIntoRows 78 = .ok (.iadd, 1) := by decide +kernel
theorem dX5_cutIntoRows_79 : decode cX5_cutIntoRows 79 = .ok (.putfield 38, 3) := by decide +kernel
theorem dX5_cutIntoRows_82 : decode cX5_cutIntoRows 82 = .ok (.iload_n 3, 1) := by decide +kernel
theorem dX5_cutIntoRows_83 : decode cX5_cutIntoRows 83 = .ok (.iload 4, 2) := by decide +kernel
theorem dX5_cutIntoRows_85 : decode cX5_cutIntoRows 85 = .ok (.iadd, 1) := by decide +kernel
theorem dX5_cutIntoRows_86 : decode cX5_cutIntoRows 86 = .ok (.istore_n 3, 1) := by decide +kernel
theorem dX5_cutIntoRows_87 : decode cX5_cutIntoRows 87 = .ok (.goto (-67), 3) := by decide +kernel
theorem dX5_cutIntoRows_90 : decode cX5_cutIntoRows 90 = .ok (.iconst (-1), 1) := by decide +kernel
theorem dX5_cutIntoRows_91 : decode cX5_cutIntoRows 91 = .ok (.ireturn, 1) := by decide +kernel
theorem dX5_wrongLink_0 : decode cX5_wrongLink 0 = .ok (.aload_n 0, 1) := by decide +kernel
theorem dX5_wrongLink_1 : decode cX5_wrongLink 1 = .ok (.invokestatic 64, 3) := by decide +kernel
theorem dX5_wrongLink_4 : decode cX5_wrongLink 4 = .ok (.iconst 0, 1) := by decide +kernel
theorem dX5_wrongLink_5 : decode cX5_wrongLink 5 = .ok (.istore_n 1, 1) := by decide +kernel
theorem dX5_wrongLink_6 : decode cX5_wrongLink 6 = .ok (.iload_n 1, 1) := by decide +kernel
theorem dX5_wrongLink_7 : decode cX5_wrongLink 7 = .ok (.aload_n 0, 1) := by decide +kernel
theorem dX5_wrongLink_8 : decode cX5_wrongLink 8 = .ok (.getfield 9, 3) := by decide +kernel
theorem dX5_wrongLink_11 : decode cX5_wrongLink 11 = .ok (.if_icmp .ge 52, 3) := by decide +kernel
theorem dX5_wrongLink_14 : decode cX5_wrongLink 14 = .ok (.aload_n 0, 1) := by decide +kernel
theorem dX5_wrongLink_15 : decode cX5_wrongLink 15 = .ok (.iload_n 1, 1) := by decide +kernel
theorem dX5_wrongLink_16 : decode cX5_wrongLink 16 = .ok (.invokevirtual 15, 3) := by decide +kernel
theorem dX5_wrongLink_19 : decode cX5_wrongLink 19 = .ok (.astore_n 2, 1) := by decide +kernel
theorem dX5_wrongLink_20 : decode cX5_wrongLink 20 = .ok (.aload_n 2, 1) := by decide +kernel
theorem dX5_wrongLink_21 : decode cX5_wrongLink 21 = .ok (.ifnonnull 12, 3) := by decide +kernel
theorem dX5_wrongLink_24 : decode cX5_wrongLink 24 = .ok (.aload_n 0, 1) := by decide +kernel
theorem dX5_wrongLink_25 : decode cX5_wrongLink 25 = .ok (.getfield 19, 3) := by decide +kernel
theorem dX5_wrongLink_28 : decode cX5_wrongLink 28 = .ok (.iload_n 1, 1) := by decide +kernel
theorem dX5_wrongLink_29 : decode cX5_wrongLink 29 = .ok (.invokestatic 23, 3) := by decide +kernel
theorem dX5_wrongLink_32 : decode cX5_wrongLink 32 = .ok (.ireturn, 1) := by decide +kernel
theorem dX5_wrongLink_33 : decode cX5_wrongLink 33 = .ok (.aload_n 0, 1) := by decide +kernel
theorem dX5_wrongLink_34 : decode cX5_wrongLink 34 = .ok (.aload_n 2, 1) := by decide +kernel
theorem dX5_wrongLink_35 : decode cX5_wrongLink 35 = .ok (.invokestatic 68, 3) := by decide +kernel
theorem dX5_wrongLink_38 : decode cX5_wrongLink 38 = .ok (.istore_n 3, 1) := by decide +kernel
theorem dX5_wrongLink_39 : decode cX5_wrongLink 39 = .ok (.iload_n 3, 1) := by decide +kernel
theorem dX5_wrongLink_40 : decode cX5_wrongLink 40 = .ok (.iconst (-1), 1) := by decide +kernel
theorem dX5_wrongLink_41 : decode cX5_wrongLink 41 = .ok (.if_icmp .ne 9, 3) := by decide +kernel
theorem dX5_wrongLink_44 : decode cX5_wrongLink 44 = .ok (.aload_n 0, 1) := by decide +kernel
theorem dX5_wrongLink_45 : decode cX5_wrongLink 45 = .ok (.aload_n 2, 1) := by decide +kernel
theorem dX5_wrongLink_46 : decode cX5_wrongLink 46 = .ok (.invokestatic 71, 3) := by decide +kernel
theorem dX5_wrongLink_49 : decode cX5_wrongLink 49 = .ok (.istore_n 3, 1) := by decide +kernel
theorem dX5_wrongLink_50 : decode cX5_wrongLink 50 = .ok (.iload_n 3, 1) := by decide +kernel
theorem dX5_wrongLink_51 : decode cX5_wrongLink 51 = .ok (.iconst (-1), 1) := by decide +kernel
theorem dX5_wrongLink_52 : decode cX5_wrongLink 52 = .ok (.if_icmp .eq 5, 3) := by decide +kernel
theorem dX5_wrongLink_55 : decode cX5_wrongLink 55 = .ok (.iload_n 3, 1) := by decide +kernel
theorem dX5_wrongLink_56 : decode cX5_wrongLink 56 = .ok (.ireturn, 1) := by decide +kernel
theorem dX5_wrongLink_57 : decode cX5_wrongLink 57 = .ok (.iinc 1 1, 3) := by decide +kernel
theorem dX5_wrongLink_60 : decode cX5_wrongLink 60 = .ok (.goto (-54), 3) := by decide +kernel
theorem dX5_wrongLink_63 : decode cX5_wrongLink 63 = .ok (.iconst (-1), 1) := by decide +kernel
theorem dX5_wrongLink_64 : decode cX5_wrongLink 64 = .ok (.ireturn, 1) := by decide +kernel
theorem dX5_findMembers_0 : decode cX5_findMembers 0 = .ok (.aload_n 0, 1) := by decide +kernel
theorem dX5_findMembers_1 : decode cX5_findMembers 1 = .ok (.getfield 74, 3) := by decide +kernel
theorem dX5_findMembers_4 : decode cX5_findMembers 4 = .ok (.astore_n 1, 1) := by decide +kernel
theorem dX5_findMembers_5 : decode cX5_findMembers 5 = .ok (.aload_n 1, 1) := by decide +kernel
theorem dX5_findMembers_6 : decode cX5_findMembers 6 = .ok (.aload_n 0, 1) := by decide +kernel
theorem dX5_findMembers_7 : decode cX5_findMembers 7 = .ok (.getfield 47, 3) := by decide +kernel
theorem dX5_findMembers_10 : decode cX5_findMembers 10 = .ok (.aload_n 0, 1) := by decide +kernel
theorem dX5_findMembers_11 : decode cX5_findMembers 11 = .ok (.getfield 78, 3) := by decide +kernel
theorem dX5_findMembers_14 : decode cX5_findMembers 14 = .ok (.iconst 2, 1) := by decide +kernel
theorem dX5_findMembers_15 : decode cX5_findMembers 15 = .ok (.iadd, 1) := by decide +kernel
theorem dX5_findMembers_16 : decode cX5_findMembers 16 = .ok (.invokevirtual 81, 3) := by decide +kernel
theorem dX5_findMembers_19 : decode cX5_findMembers 19 = .ok (.iconst 0, 1) := by decide +kernel
theorem dX5_findMembers_20 : decode cX5_findMembers 20 = .ok (.invokevirtual 87, 3) := by decide +kernel
theorem dX5_findMembers_23 : decode cX5_findMembers 23 = .ok (.istore_n 2, 1) := by decide +kernel
theorem dX5_findMembers_24 : decode cX5_findMembers 24 = .ok (.iconst 1, 1) := by decide +kernel
theorem dX5_findMembers_25 : decode cX5_findMembers 25 = .ok (.istore_n 3, 1) := by decide +kernel
theorem dX5_findMembers_26 : decode cX5_findMembers 26 = .ok (.iload_n 3, 1) := by decide +kernel
theorem dX5_findMembers_27 : decode cX5_findMembers 27 = .ok (.aload_n 1, 1) := by decide +kernel
theorem dX5_findMembers_28 : decode cX5_findMembers 28 = .ok (.getfield 93, 3) := by decide +kernel
theorem dX5_findMembers_31 : decode cX5_findMembers 31 = .ok (.if_icmp .ge 77, 3) := by decide +kernel
theorem dX5_findMembers_34 : decode cX5_findMembers 34 = .ok (.iconst (-1), 1) := by decide +kernel
theorem dX5_findMembers_35 : decode cX5_findMembers 35 = .ok (.istore 4, 2) := by decide +kernel
theorem dX5_findMembers_37 : decode cX5_findMembers 37 = .ok (.aload_n 1, 1) := by decide +kernel
theorem dX5_findMembers_38 : decode cX5_findMembers 38 = .ok (.bipush 9, 2) := by decide +kernel
theorem dX5_findMembers_40 : decode cX5_findMembers 40 = .ok (.iload_n 3, 1) := by decide +kernel
theorem dX5_findMembers_41 : decode cX5_findMembers 41 = .ok (.invokevirtual 96, 3) := by decide +kernel
theorem dX5_findMembers_44 : decode cX5_findMembers 44 = .ok (.ifCond .eq 22, 3) := by decide +kernel
theorem dX5_findMembers_47 : decode cX5_findMembers 47 = .ok (.aload_n 0, 1) := by decide +kernel
theorem dX5_findMembers_48 : decode cX5_findMembers 48 = .ok (.iload_n 2, 1) := by decide +kernel
theorem dX5_findMembers_49 : decode cX5_findMembers 49 = .ok (.iload_n 3, 1) := by decide +kernel
theorem dX5_findMembers_50 : decode cX5_findMembers 50 = .ok (.aload_n 0, 1) := by decide +kernel
theorem dX5_findMembers_51 : decode cX5_findMembers 51 = .ok (.getfield 100, 3) := by decide +kernel
theorem dX5_findMembers_54 : decode cX5_findMembers 54 = .ok (.aload_n 0, 1) := by decide +kernel
theorem dX5_findMembers_55 : decode cX5_findMembers 55 = .ok (.getfield 103, 3) := by decide +kernel
theorem dX5_findMembers_58 : decode cX5_findMembers 58 = .ok (.invokestatic 106, 3) := by decide +kernel
theorem dX5_findMembers_61 : decode cX5_findMembers 61 = .ok (.istore 4, 2) := by decide +kernel
theorem dX5_findMembers_63 : decode cX5_findMembers 63 = .ok (.goto 29, 3) := by decide +kernel
theorem dX5_findMembers_66 : decode cX5_findMembers 66 = .ok (.aload_n 1, 1) := by decide +kernel
theorem dX5_findMembers_67 : decode cX5_findMembers 67 = .ok (.bipush 10, 2) := by decide +kernel
theorem dX5_findMembers_69 : decode cX5_findMembers 69 = .ok (.iload_n 3, 1) := by decide +kernel
theorem dX5_findMembers_70 : decode cX5_findMembers 70 = .ok (.invokevirtual 96, 3) := by decide +kernel
theorem dX5_findMembers_73 : decode cX5_findMembers 73 = .ok (.ifCond .eq 19, 3) := by decide +kernel
theorem dX5_findMembers_76 : decode cX5_findMembers 76 = .ok (.aload_n 0, 1) := by decide +kernel
theorem dX5_findMembers_77 : decode cX5_findMembers 77 = .ok (.iload_n 2, 1) := by decide +kernel
theorem dX5_findMembers_78 : decode cX5_findMembers 78 = .ok (.iload_n 3, 1) := by decide +kernel
theorem dX5_findMembers_79 : decode cX5_findMembers 79 = .ok (.aload_n 0, 1) := by decide +kernel
theorem dX5_findMembers_80 : decode cX5_findMembers 80 = .ok (.getfield 19, 3) := by decide +kernel
theorem dX5_findMembers_83 : decode cX5_findMembers 83 = .ok (.aload_n 0, 1) := by decide +kernel
theorem dX5_findMembers_84 : decode cX5_findMembers 84 = .ok (.getfield 9, 3) := by decide +kernel
theorem dX5_findMembers_87 : decode cX5_findMembers 87 = .ok (.invokestatic 106, 3) := by decide +kernel
theorem dX5_findMembers_90 : decode cX5_findMembers 90 = .ok (.istore 4, 2) := by decide +kernel
theorem dX5_findMembers_92 : decode cX5_findMembers 92 = .ok (.aload_n 1, 1) := by decide +kernel
theorem dX5_findMembers_93 : decode cX5_findMembers 93 = .ok (.getfield 110, 3) := by decide +kernel
theorem dX5_findMembers_96 : decode cX5_findMembers 96 = .ok (.iload_n 3, 1) := by decide +kernel
theorem dX5_findMembers_97 : decode cX5_findMembers 97 = .ok (.iload 4, 2) := by decide +kernel
theorem dX5_findMembers_99 : decode cX5_findMembers 99 = .ok (.invokestatic 60, 3) := by decide +kernel
theorem dX5_findMembers_102 : decode cX5_findMembers 102 = .ok (.iinc 3 1, 3) := by decide +kernel
theorem dX5_findMembers_105 : decode cX5_findMembers 105 = .ok (.goto (-79), 3) := by decide +kernel
theorem dX5_findMembers_108 : decode cX5_findMembers 108 = .ok (.return_, 1) := by decide +kernel
theorem dX5_findMember_0 : decode cX5_findMember 0 = .ok (.aload_n 0, 1) := by decide +kernel
theorem dX5_findMember_1 : decode cX5_findMember 1 = .ok (.getfield 74, 3) := by decide +kernel
theorem dX5_findMember_4 : decode cX5_findMember 4 = .ok (.astore 5, 2) := by decide +kernel
theorem dX5_findMember_6 : decode cX5_findMember 6 = .ok (.aload 5, 2) := by decide +kernel
theorem dX5_findMember_8 : decode cX5_findMember 8 = .ok (.aload 5, 2) := by decide +kernel
theorem dX5_findMember_10 : decode cX5_findMember 10 = .ok (.aload 5, 2) := by decide +kernel
theorem dX5_findMember_12 : decode cX5_findMember 12 = .ok (.iload_n 2, 1) := by decide +kernel
theorem dX5_findMember_13 : decode cX5_findMember 13 = .ok (.iconst 0, 1) := by decide +kernel
theorem dX5_findMember_14 : decode cX5_findMember 14 = .ok (.invokevirtual 87, 3) := by decide +kernel
theorem dX5_findMember_17 : decode cX5_findMember 17 = .ok (.iconst 0, 1) := by decide +kernel
theorem dX5_findMember_18 : decode cX5_findMember 18 = .ok (.invokevirtual 87, 3) := by decide +kernel
theorem dX5_findMember_21 : decode cX5_findMember 21 = .ok (.iload_n 1, 1) := by decide +kernel
theorem dX5_findMember_22 : decode cX5_findMember 22 = .ok (.invokevirtual 113, 3) := by decide +kernel
theorem dX5_findMember_25 : decode cX5_findMember 25 = .ok (.ifCond .ne 5, 3) := by decide +kernel
theorem dX5_findMember_28 : decode cX5_findMember 28 = .ok (.iconst (-1), 1) := by decide +kernel
theorem dX5_findMember_29 : decode cX5_findMember 29 = .ok (.ireturn, 1) := by decide +kernel
theorem dX5_findMember_30 : decode cX5_findMember 30 = .ok (.aload 5, 2) := by decide +kernel
theorem dX5_findMember_32 : decode cX5_findMember 32 = .ok (.aload 5, 2) := by decide +kernel
theorem dX5_findMember_34 : decode cX5_findMember 34 = .ok (.iload_n 2, 1) := by decide +kernel
theorem dX5_findMember_35 : decode cX5_findMember 35 = .ok (.iconst 1, 1) := by decide +kernel
theorem dX5_findMember_36 : decode cX5_findMember 36 = .ok (.invokevirtual 87, 3) := by decide +kernel
theorem dX5_findMember_39 : decode cX5_findMember 39 = .ok (.iconst 0, 1) := by decide +kernel
theorem dX5_findMember_40 : decode cX5_findMember 40 = .ok (.invokevirtual 87, 3) := by decide +kernel
theorem dX5_findMember_43 : decode cX5_findMember 43 = .ok (.istore 6, 2) := by decide +kernel
theorem dX5_findMember_45 : decode cX5_findMember 45 = .ok (.aload 5, 2) := by decide +kernel
theorem dX5_findMember_47 : decode cX5_findMember 47 = .ok (.aload 5, 2) := by decide +kernel
theorem dX5_findMember_49 : decode cX5_findMember 49 = .ok (.iload_n 2, 1) := by decide +kernel
theorem dX5_findMember_50 : decode cX5_findMember 50 = .ok (.iconst 1, 1) := by decide +kernel
theorem dX5_findMember_51 : decode cX5_findMember 51 = .ok (.invokevirtual 87, 3) := by decide +kernel
theorem dX5_findMember_54 : decode cX5_findMember 54 = .ok (.iconst 1, 1) := by decide +kernel
theorem dX5_findMember_55 : decode cX5_findMember 55 = .ok (.invokevirtual 87, 3) := by decide +kernel
theorem dX5_findMember_58 : decode cX5_findMember 58 = .ok (.istore 7, 2) := by decide +kernel
theorem dX5_findMember_60 : decode cX5_findMember 60 = .ok (.iconst 0, 1) := by decide +kernel
theorem dX5_findMember_61 : decode cX5_findMember 61 = .ok (.istore 8, 2) := by decide +kernel
theorem dX5_findMember_63 : decode cX5_findMember 63 = .ok (.iload 8, 2) := by decide +kernel
theorem dX5_findMember_65 : decode cX5_findMember 65 = .ok (.iload 4, 2) := by decide +kernel
theorem dX5_findMember_67 : decode cX5_findMember 67 = .ok (.if_icmp .ge 52, 3) := by decide +kernel
theorem dX5_findMember_70 : decode cX5_findMember 70 = .ok (.aload_n 3, 1) := by decide +kernel
theorem dX5_findMember_71 : decode cX5_findMember 71 = .ok (.iload 8, 2) := by decide +kernel
theorem dX5_findMember_73 : decode cX5_findMember 73 = .ok (.invokestatic 23, 3) := by decide +kernel
theorem dX5_findMember_76 : decode cX5_findMember 76 = .ok (.istore 9, 2) := by decide +kernel
theorem dX5_findMember_78 : decode cX5_findMember 78 = .ok (.aload 5, 2) := by decide +kernel
theorem dX5_findMember_80 : decode cX5_findMember 80 = .ok (.aload_n 0, 1) := by decide +kernel
theorem dX5_findMember_81 : decode cX5_findMember 81 = .ok (.iload 9, 2) := by decide +kernel
theorem dX5_findMember_83 : decode cX5_findMember 83 = .ok (.invokevirtual 116, 3) := by decide +kernel
theorem dX5_findMember_86 : decode cX5_findMember 86 = .ok (.iload 6, 2) := by decide +kernel
theorem dX5_findMember_88 : decode cX5_findMember 88 = .ok (.invokevirtual 113, 3) := by decide +kernel
theorem dX5_findMember_91 : decode cX5_findMember 91 = .ok (.ifCond .eq 22, 3) := by decide +kernel
theorem dX5_findMember_94 : decode cX5_findMember 94 = .ok (.aload 5, 2) := by decide +kernel
theorem dX5_findMember_96 : decode cX5_findMember 96 = .ok (.aload_n 0, 1) := by decide +kernel
theorem dX5_findMember_97 : decode cX5_findMember 97 = .ok (.iload 9, 2) := by decide +kernel
theorem dX5_findMember_99 : decode cX5_findMember 99 = .ok (.invokevirtual 119, 3) := by decide +kernel
theorem dX5_findMember_102 : decode cX5_findMember 102 = .ok (.iload 7, 2) := by decide +kernel
theorem dX5_findMember_104 : decode cX5_findMember 104 = .ok (.invokevirtual 113, 3) := by decide +kernel
theorem dX5_findMember_107 : decode cX5_findMember 107 = .ok (.ifCond .eq 6, 3) := by decide +kernel
theorem dX5_findMember_110 : decode cX5_findMember 110 = .ok (.iload 8, 2) := by decide +kernel
theorem dX5_findMember_112 : decode cX5_findMember 112 = .ok (.ireturn, 1) := by decide +kernel
theorem dX5_findMember_113 : decode cX5_findMember 113 = .ok (.iinc 8 1, 3) := by decide +kernel
theorem dX5_findMember_116 : decode cX5_findMember 116 = .ok (.goto (-53), 3) := by decide +kernel
theorem dX5_findMember_119 : decode cX5_findMember 119 = .ok (.iconst (-1), 1) := by decide +kernel
theorem dX5_findMember_120 : decode cX5_findMember 120 = .ok (.ireturn, 1) := by decide +kernel
theorem dX5_wrongInstructionLink_0 : decode cX5_wrongInstructionLink 0 = .ok (.iconst 0, 1) := by decide +kernel
theorem dX5_wrongInstructionLink_1 : decode cX5_wrongInstructionLink 1 = .ok (.istore_n 2, 1) := by decide +kernel
theorem dX5_wrongInstructionLink_2 : decode cX5_wrongInstructionLink 2 = .ok (.iload_n 2, 1) := by decide +kernel
theorem dX5_wrongInstructionLink_3 : decode cX5_wrongInstructionLink 3 = .ok (.aload_n 1, 1) := by decide +kernel
theorem dX5_wrongInstructionLink_4 : decode cX5_wrongInstructionLink 4 = .ok (.getfield 38, 3) := by decide +kernel
theorem dX5_wrongInstructionLink_7 : decode cX5_wrongInstructionLink 7 = .ok (.if_icmp .ge 34, 3) := by decide +kernel
theorem dX5_wrongInstructionLink_10 : decode cX5_wrongInstructionLink 10 = .ok (.aload_n 0, 1) := by decide +kernel
theorem dX5_wrongInstructionLink_11 : decode cX5_wrongInstructionLink 11 = .ok (.getfield 57, 3) := by decide +kernel
theorem dX5_wrongInstructionLink_14 : decode cX5_wrongInstructionLink 14 = .ok (.aload_n 1, 1) := by decide +kernel
theorem dX5_wrongInstructionLink_15 : decode cX5_wrongInstructionLink 15 = .ok (.getfield 27, 3) := by decide +kernel
theorem dX5_wrongInstructionLink_18 : decode cX5_wrongInstructionLink 18 = .ok (.iload_n 2, 1) := by decide +kernel
theorem dX5_wrongInstructionLink_19 : decode cX5_wrongInstructionLink 19 = .ok (.iadd, 1) := by decide +kernel
theorem dX5_wrongInstructionLink_20 : decode cX5_wrongInstructionLink 20 = .ok (.invokestatic 23, 3) := by decide +kernel
theorem dX5_wrongInstructionLink_23 : decode cX5_wrongInstructionLink 23 = .ok (.istore_n 3, 1) := by decide +kernel
theorem dX5_wrongInstructionLink_24 : decode cX5_wrongInstructionLink 24 = .ok (.aload_n 0, 1) := by decide +kernel
theorem dX5_wrongInstructionLink_25 : decode cX5_wrongInstructionLink 25 = .ok (.aload_n 1, 1) := by decide +kernel
theorem dX5_wrongInstructionLink_26 : decode cX5_wrongInstructionLink 26 = .ok (.iload_n 3, 1) := by decide +kernel
theorem dX5_wrongInstructionLink_27 : decode cX5_wrongInstructionLink 27 = .ok (.invokestatic 122, 3) := by decide +kernel
theorem dX5_wrongInstructionLink_30 : decode cX5_wrongInstructionLink 30 = .ok (.ifCond .ne 5, 3) := by decide +kernel
theorem dX5_wrongInstructionLink_33 : decode cX5_wrongInstructionLink 33 = .ok (.iload_n 3, 1) := by decide +kernel
theorem dX5_wrongInstructionLink_34 : decode cX5_wrongInstructionLink 34 = .ok (.ireturn, 1) := by decide +kernel
theorem dX5_wrongInstructionLink_35 : decode cX5_wrongInstructionLink 35 = .ok (.iinc 2 1, 3) := by decide +kernel
theorem dX5_wrongInstructionLink_38 : decode cX5_wrongInstructionLink 38 = .ok (.goto (-36), 3) := by decide +kernel
theorem dX5_wrongInstructionLink_41 : decode cX5_wrongInstructionLink 41 = .ok (.iconst (-1), 1) := by decide +kernel
theorem dX5_wrongInstructionLink_42 : decode cX5_wrongInstructionLink 42 = .ok (.ireturn, 1) := by decide +kernel
theorem dX5_pointsWell_0 : decode cX5_pointsWell 0 = .ok (.aload_n 0, 1) := by decide +kernel
theorem dX5_pointsWell_1 : decode cX5_pointsWell 1 = .ok (.getfield 47, 3) := by decide +kernel
theorem dX5_pointsWell_4 : decode cX5_pointsWell 4 = .ok (.iload_n 2, 1) := by decide +kernel
theorem dX5_pointsWell_5 : decode cX5_pointsWell 5 = .ok (.invokestatic 126, 3) := by decide +kernel
theorem dX5_pointsWell_8 : decode cX5_pointsWell 8 = .ok (.istore_n 3, 1) := by decide +kernel
theorem dX5_pointsWell_9 : decode cX5_pointsWell 9 = .ok (.aload_n 0, 1) := by decide +kernel
theorem dX5_pointsWell_10 : decode cX5_pointsWell 10 = .ok (.getfield 47, 3) := by decide +kernel
theorem dX5_pointsWell_13 : decode cX5_pointsWell 13 = .ok (.iload_n 2, 1) := by decide +kernel
theorem dX5_pointsWell_14 : decode cX5_pointsWell 14 = .ok (.invokestatic 130, 3) := by decide +kernel
theorem dX5_pointsWell_17 : decode cX5_pointsWell 17 = .ok (.istore 4, 2) := by decide +kernel
theorem dX5_pointsWell_19 : decode cX5_pointsWell 19 = .ok (.iload_n 3, 1) := by decide +kernel
theorem dX5_pointsWell_20 : decode cX5_pointsWell 20 = .ok (.invokestatic 133, 3) := by decide +kernel
theorem dX5_pointsWell_23 : decode cX5_pointsWell 23 = .ok (.ifCond .eq 41, 3) := by decide +kernel
theorem dX5_pointsWell_26 : decode cX5_pointsWell 26 = .ok (.aload_n 0, 1) := by decide +kernel
theorem dX5_pointsWell_27 : decode cX5_pointsWell 27 = .ok (.getfield 47, 3) := by decide +kernel
theorem dX5_pointsWell_30 : decode cX5_pointsWell 30 = .ok (.iload_n 2, 1) := by decide +kernel
theorem dX5_pointsWell_31 : decode cX5_pointsWell 31 = .ok (.invokestatic 137, 3) := by decide +kernel
theorem dX5_pointsWell_34 : decode cX5_pointsWell 34 = .ok (.iload_n 3, 1) := by decide +kernel
theorem dX5_pointsWell_35 : decode cX5_pointsWell 35 = .ok (.invokestatic 140, 3) := by decide +kernel
theorem dX5_pointsWell_38 : decode cX5_pointsWell 38 = .ok (.ifCond .eq 7, 3) := by decide +kernel
theorem dX5_pointsWell_41 : decode cX5_pointsWell 41 = .ok (.iconst 1, 1) := by decide +kernel
theorem dX5_pointsWell_42 : decode cX5_pointsWell 42 = .ok (.goto 4, 3) := by decide +kernel
theorem dX5_pointsWell_45 : decode cX5_pointsWell 45 = .ok (.iconst 0, 1) := by decide +kernel
theorem dX5_pointsWell_46 : decode cX5_pointsWell 46 = .ok (.iadd, 1) := by decide +kernel
theorem dX5_pointsWell_47 : decode cX5_pointsWell 47 = .ok (.istore 5, 2) := by decide +kernel
theorem dX5_pointsWell_49 : decode cX5_pointsWell 49 = .ok (.iload 5, 2) := by decide +kernel
theorem dX5_pointsWell_51 : decode cX5_pointsWell 51 = .ok (.aload_n 1, 1) := by decide +kernel
theorem dX5_pointsWell_52 : decode cX5_pointsWell 52 = .ok (.getfield 143, 3) := by decide +kernel
theorem dX5_pointsWell_55 : decode cX5_pointsWell 55 = .ok (.if_icmp .ge 7, 3) := by decide +kernel
theorem dX5_pointsWell_58 : decode cX5_pointsWell 58 = .ok (.iconst 1, 1) := by decide +kernel
theorem dX5_pointsWell_59 : decode cX5_pointsWell 59 = .ok (.goto 4, 3) := by decide +kernel
theorem dX5_pointsWell_62 : decode cX5_pointsWell 62 = .ok (.iconst 0, 1) := by decide +kernel
theorem dX5_pointsWell_63 : decode cX5_pointsWell 63 = .ok (.ireturn, 1) := by decide +kernel
theorem dX5_pointsWell_64 : decode cX5_pointsWell 64 = .ok (.iload_n 3, 1) := by decide +kernel
theorem dX5_pointsWell_65 : decode cX5_pointsWell 65 = .ok (.invokestatic 146, 3) := by decide +kernel
theorem dX5_pointsWell_68 : decode cX5_pointsWell 68 = .ok (.ifCond .eq 26, 3) := by decide +kernel
theorem dX5_pointsWell_71 : decode cX5_pointsWell 71 = .ok (.aload_n 0, 1) := by decide +kernel
theorem dX5_pointsWell_72 : decode cX5_pointsWell 72 = .ok (.aload_n 1, 1) := by decide +kernel
theorem dX5_pointsWell_73 : decode cX5_pointsWell 73 = .ok (.aload_n 0, 1) := by decide +kernel
theorem dX5_pointsWell_74 : decode cX5_pointsWell 74 = .ok (.getfield 47, 3) := by decide +kernel
theorem dX5_pointsWell_77 : decode cX5_pointsWell 77 = .ok (.iload_n 2, 1) := by decide +kernel
theorem dX5_pointsWell_78 : decode cX5_pointsWell 78 = .ok (.invokestatic 149, 3) := by decide +kernel
theorem dX5_pointsWell_81 : decode cX5_pointsWell 81 = .ok (.invokevirtual 152, 3) := by decide +kernel
theorem dX5_pointsWell_84 : decode cX5_pointsWell 84 = .ok (.iconst (-1), 1) := by decide +kernel
theorem dX5_pointsWell_85 : decode cX5_pointsWell 85 = .ok (.if_icmp .eq 7, 3) := by decide +kernel
theorem dX5_pointsWell_88 : decode cX5_pointsWell 88 = .ok (.iconst 1, 1) := by decide +kernel
theorem dX5_pointsWell_89 : decode cX5_pointsWell 89 = .ok (.goto 4, 3) := by decide +kernel
theorem dX5_pointsWell_92 : decode cX5_pointsWell 92 = .ok (.iconst 0, 1) := by decide +kernel
theorem dX5_pointsWell_93 : decode cX5_pointsWell 93 = .ok (.ireturn, 1) := by decide +kernel
theorem dX5_pointsWell_94 : decode cX5_pointsWell 94 = .ok (.iload_n 3, 1) := by decide +kernel
theorem dX5_pointsWell_95 : decode cX5_pointsWell 95 = .ok (.invokestatic 156, 3) := by decide +kernel
theorem dX5_pointsWell_98 : decode cX5_pointsWell 98 = .ok (.ifCond .eq 10, 3) := by decide +kernel
theorem dX5_pointsWell_101 : decode cX5_pointsWell 101 = .ok (.aload_n 0, 1) := by decide +kernel
theorem dX5_pointsWell_102 : decode cX5_pointsWell 102 = .ok (.aload_n 1, 1) := by decide +kernel
theorem dX5_pointsWell_103 : decode cX5_pointsWell 103 = .ok (.iload_n 2, 1) := by decide +kernel
theorem dX5_pointsWell_104 : decode cX5_pointsWell 104 = .ok (.invokestatic 159, 3) := by decide +kernel
theorem dX5_pointsWell_107 : decode cX5_pointsWell 107 = .ok (.ireturn, 1) := by decide +kernel
theorem dX5_pointsWell_108 : decode cX5_pointsWell 108 = .ok (.iload_n 3, 1) := by decide +kernel
theorem dX5_pointsWell_109 : decode cX5_pointsWell 109 = .ok (.invokestatic 162, 3) := by decide +kernel
theorem dX5_pointsWell_112 : decode cX5_pointsWell 112 = .ok (.ifCond .eq 39, 3) := by decide +kernel
theorem dX5_pointsWell_115 : decode cX5_pointsWell 115 = .ok (.aload_n 0, 1) := by decide +kernel
theorem dX5_pointsWell_116 : decode cX5_pointsWell 116 = .ok (.getfield 74, 3) := by decide +kernel
theorem dX5_pointsWell_119 : decode cX5_pointsWell 119 = .ok (.bipush 9, 2) := by decide +kernel
theorem dX5_pointsWell_121 : decode cX5_pointsWell 121 = .ok (.iload 4, 2) := by decide +kernel
theorem dX5_pointsWell_123 : decode cX5_pointsWell 123 = .ok (.invokevirtual 96, 3) := by decide +kernel
theorem dX5_pointsWell_126 : decode cX5_pointsWell 126 = .ok (.ifCond .eq 23, 3) := by decide +kernel
theorem dX5_pointsWell_129 : decode cX5_pointsWell 129 = .ok (.aload_n 0, 1) := by decide +kernel
theorem dX5_pointsWell_130 : decode cX5_pointsWell 130 = .ok (.getfield 74, 3) := by decide +kernel
theorem dX5_pointsWell_133 : decode cX5_pointsWell 133 = .ok (.getfield 110, 3) := by decide +kernel
theorem dX5_pointsWell_136 : decode cX5_pointsWell 136 = .ok (.iload 4, 2) := by decide +kernel
theorem dX5_pointsWell_138 : decode cX5_pointsWell 138 = .ok (.invokestatic 23, 3) := by decide +kernel
theorem dX5_pointsWell_141 : decode cX5_pointsWell 141 = .ok (.iconst (-1), 1) := by decide +kernel
theorem dX5_pointsWell_142 : decode cX5_pointsWell 142 = .ok (.if_icmp .eq 7, 3) := by decide +kernel
theorem dX5_pointsWell_145 : decode cX5_pointsWell 145 = .ok (.iconst 1, 1) := by decide +kernel
theorem dX5_pointsWell_146 : decode cX5_pointsWell 146 = .ok (.goto 4, 3) := by decide +kernel
theorem dX5_pointsWell_149 : decode cX5_pointsWell 149 = .ok (.iconst 0, 1) := by decide +kernel
theorem dX5_pointsWell_150 : decode cX5_pointsWell 150 = .ok (.ireturn, 1) := by decide +kernel
theorem dX5_pointsWell_151 : decode cX5_pointsWell 151 = .ok (.aload_n 0, 1) := by decide +kernel
theorem dX5_pointsWell_152 : decode cX5_pointsWell 152 = .ok (.getfield 47, 3) := by decide +kernel
theorem dX5_pointsWell_155 : decode cX5_pointsWell 155 = .ok (.iload_n 2, 1) := by decide +kernel
theorem dX5_pointsWell_156 : decode cX5_pointsWell 156 = .ok (.invokevirtual 165, 3) := by decide +kernel
theorem dX5_pointsWell_159 : decode cX5_pointsWell 159 = .ok (.lookupswitch 99 #[(18, 77), (19, 77), (20, 88), (184, 41)], 41) := by decide +kernel
theorem dX5_pointsWell_200 : decode cX5_pointsWell 200 = .ok (.aload_n 0, 1) := by decide +kernel
theorem dX5_pointsWell_201 : decode cX5_pointsWell 201 = .ok (.getfield 74, 3) := by decide +kernel
theorem dX5_pointsWell_204 : decode cX5_pointsWell 204 = .ok (.bipush 10, 2) := by decide +kernel
theorem dX5_pointsWell_206 : decode cX5_pointsWell 206 = .ok (.iload 4, 2) := by decide +kernel
theorem dX5_pointsWell_208 : decode cX5_pointsWell 208 = .ok (.invokevirtual 96, 3) := by decide +kernel
theorem dX5_pointsWell_211 : decode cX5_pointsWell 211 = .ok (.ifCond .eq 23, 3) := by decide +kernel
theorem dX5_pointsWell_214 : decode cX5_pointsWell 214 = .ok (.aload_n 0, 1) := by decide +kernel
theorem dX5_pointsWell_215 : decode cX5_pointsWell 215 = .ok (.getfield 74, 3) := by decide +kernel
theorem dX5_pointsWell_218 : decode cX5_pointsWell 218 = .ok (.getfield 110, 3) := by decide +kernel
theorem dX5_pointsWell_221 : decode cX5_pointsWell 221 = .ok (.iload 4, 2) := by decide +kernel
theorem dX5_pointsWell_223 : decode cX5_pointsWell 223 = .ok (.invokestatic 23, 3) := by decide +kernel
theorem dX5_pointsWell_226 : decode cX5_pointsWell 226 = .ok (.iconst (-1), 1) := by decide +kernel
theorem dX5_pointsWell_227 : decode cX5_pointsWell 227 = .ok (.if_icmp .eq 7, 3) := by decide +kernel
theorem dX5_pointsWell_230 : decode cX5_pointsWell 230 = .ok (.iconst 1, 1) := by decide +kernel
theorem dX5_pointsWell_231 : decode cX5_pointsWell 231 = .ok (.goto 4, 3) := by decide +kernel
theorem dX5_pointsWell_234 : decode cX5_pointsWell 234 = .ok (.iconst 0, 1) := by decide +kernel
theorem dX5_pointsWell_235 : decode cX5_pointsWell 235 = .ok (.ireturn, 1) := by decide +kernel
theorem dX5_pointsWell_236 : decode cX5_pointsWell 236 = .ok (.aload_n 0, 1) := by decide +kernel
theorem dX5_pointsWell_237 : decode cX5_pointsWell 237 = .ok (.getfield 74, 3) := by decide +kernel
theorem dX5_pointsWell_240 : decode cX5_pointsWell 240 = .ok (.iconst 3, 1) := by decide +kernel
theorem dX5_pointsWell_241 : decode cX5_pointsWell 241 = .ok (.iload 4, 2) := by decide +kernel
theorem dX5_pointsWell_243 : decode cX5_pointsWell 243 = .ok (.invokevirtual 96, 3) := by decide +kernel
theorem dX5_pointsWell_246 : decode cX5_pointsWell 246 = .ok (.ireturn, 1) := by decide +kernel
theorem dX5_pointsWell_247 : decode cX5_pointsWell 247 = .ok (.aload_n 0, 1) := by decide +kernel
theorem dX5_pointsWell_248 : decode cX5_pointsWell 248 = .ok (.getfield 74, 3) := by decide +kernel
theorem dX5_pointsWell_251 : decode cX5_pointsWell 251 = .ok (.iconst 5, 1) := by decide +kernel
theorem dX5_pointsWell_252 : decode cX5_pointsWell 252 = .ok (.iload 4, 2) := by decide +kernel
theorem dX5_pointsWell_254 : decode cX5_pointsWell 254 = .ok (.invokevirtual 96, 3) := by decide +kernel
theorem dX5_pointsWell_257 : decode cX5_pointsWell 257 = .ok (.ireturn, 1) := by decide +kernel
theorem dX5_pointsWell_258 : decode cX5_pointsWell 258 = .ok (.iconst 1, 1) := by decide +kernel
theorem dX5_pointsWell_259 : decode cX5_pointsWell 259 = .ok (.ireturn, 1) := by decide +kernel
theorem dX5_targetsPointWell_0 : decode cX5_targetsPointWell 0 = .ok (.aload_n 0, 1) := by decide +kernel
theorem dX5_targetsPointWell_1 : decode cX5_targetsPointWell 1 = .ok (.getfield 47, 3) := by decide +kernel
theorem dX5_targetsPointWell_4 : decode cX5_targetsPointWell 4 = .ok (.iload_n 2, 1) := by decide +kernel
theorem dX5_targetsPointWell_5 : decode cX5_targetsPointWell 5 = .ok (.aload_n 1, 1) := by decide +kernel
theorem dX5_targetsPointWell_6 : decode cX5_targetsPointWell 6 = .ok (.getfield 41, 3) := by decide +kernel
theorem dX5_targetsPointWell_9 : decode cX5_targetsPointWell 9 = .ok (.invokestatic 168, 3) := by decide +kernel
theorem dX5_targetsPointWell_12 : decode cX5_targetsPointWell 12 = .ok (.istore_n 3, 1) := by decide +kernel
theorem dX5_targetsPointWell_13 : decode cX5_targetsPointWell 13 = .ok (.iconst 0, 1) := by decide +kernel
theorem dX5_targetsPointWell_14 : decode cX5_targetsPointWell 14 = .ok (.istore 4, 2) := by decide +kernel
theorem dX5_targetsPointWell_16 : decode cX5_targetsPointWell 16 = .ok (.iload 4, 2) := by decide +kernel
theorem dX5_targetsPointWell_18 : decode cX5_targetsPointWell 18 = .ok (.iload_n 3, 1) := by decide +kernel
theorem dX5_targetsPointWell_19 : decode cX5_targetsPointWell 19 = .ok (.if_icmp .ge 34, 3) := by decide +kernel
theorem dX5_targetsPointWell_22 : decode cX5_targetsPointWell 22 = .ok (.aload_n 0, 1) := by decide +kernel
theorem dX5_targetsPointWell_23 : decode cX5_targetsPointWell 23 = .ok (.aload_n 1, 1) := by decide +kernel
theorem dX5_targetsPointWell_24 : decode cX5_targetsPointWell 24 = .ok (.aload_n 0, 1) := by decide +kernel
theorem dX5_targetsPointWell_25 : decode cX5_targetsPointWell 25 = .ok (.getfield 47, 3) := by decide +kernel
theorem dX5_targetsPointWell_28 : decode cX5_targetsPointWell 28 = .ok (.iload_n 2, 1) := by decide +kernel
theorem dX5_targetsPointWell_29 : decode cX5_targetsPointWell 29 = .ok (.aload_n 1, 1) := by decide +kernel
theorem dX5_targetsPointWell_30 : decode cX5_targetsPointWell 30 = .ok (.getfield 41, 3) := by decide +kernel
theorem dX5_targetsPointWell_33 : decode cX5_targetsPointWell 33 = .ok (.iload 4, 2) := by decide +kernel
theorem dX5_targetsPointWell_35 : decode cX5_targetsPointWell 35 = .ok (.invokestatic 171, 3) := by decide +kernel
theorem dX5_targetsPointWell_38 : decode cX5_targetsPointWell 38 = .ok (.invokevirtual 152, 3) := by decide +kernel
theorem dX5_targetsPointWell_41 : decode cX5_targetsPointWell 41 = .ok (.iconst (-1), 1) := by decide +kernel
theorem dX5_targetsPointWell_42 : decode cX5_targetsPointWell 42 = .ok (.if_icmp .ne 5, 3) := by decide +kernel
theorem dX5_targetsPointWell_45 : decode cX5_targetsPointWell 45 = .ok (.iconst 0, 1) := by decide +kernel
theorem dX5_targetsPointWell_46 : decode cX5_targetsPointWell 46 = .ok (.ireturn, 1) := by decide +kernel
theorem dX5_targetsPointWell_47 : decode cX5_targetsPointWell 47 = .ok (.iinc 4 1, 3) := by decide +kernel
theorem dX5_targetsPointWell_50 : decode cX5_targetsPointWell 50 = .ok (.goto (-34), 3) := by decide +kernel
theorem dX5_targetsPointWell_53 : decode cX5_targetsPointWell 53 = .ok (.iconst 1, 1) := by decide +kernel
theorem dX5_targetsPointWell_54 : decode cX5_targetsPointWell 54 = .ok (.ireturn, 1) := by decide +kernel
theorem dX5_wrongCatch_0 : decode cX5_wrongCatch 0 = .ok (.iconst 0, 1) := by decide +kernel
theorem dX5_wrongCatch_1 : decode cX5_wrongCatch 1 = .ok (.istore_n 2, 1) := by decide +kernel
theorem dX5_wrongCatch_2 : decode cX5_wrongCatch 2 = .ok (.iload_n 2, 1) := by decide +kernel
theorem dX5_wrongCatch_3 : decode cX5_wrongCatch 3 = .ok (.aload_n 1, 1) := by decide +kernel
theorem dX5_wrongCatch_4 : decode cX5_wrongCatch 4 = .ok (.getfield 175, 3) := by decide +kernel
theorem dX5_wrongCatch_7 : decode cX5_wrongCatch 7 = .ok (.if_icmp .ge 30, 3) := by decide +kernel
theorem dX5_wrongCatch_10 : decode cX5_wrongCatch 10 = .ok (.aload_n 1, 1) := by decide +kernel
theorem dX5_wrongCatch_11 : decode cX5_wrongCatch 11 = .ok (.getfield 178, 3) := by decide +kernel
theorem dX5_wrongCatch_14 : decode cX5_wrongCatch 14 = .ok (.iload_n 2, 1) := by decide +kernel
theorem dX5_wrongCatch_15 : decode cX5_wrongCatch 15 = .ok (.bipush 8, 2) := by decide +kernel
theorem dX5_wrongCatch_17 : decode cX5_wrongCatch 17 = .ok (.imul, 1) := by decide +kernel
theorem dX5_wrongCatch_18 : decode cX5_wrongCatch 18 = .ok (.iadd, 1) := by decide +kernel
theorem dX5_wrongCatch_19 : decode cX5_wrongCatch 19 = .ok (.istore_n 3, 1) := by decide +kernel
theorem dX5_wrongCatch_20 : decode cX5_wrongCatch 20 = .ok (.aload_n 0, 1) := by decide +kernel
theorem dX5_wrongCatch_21 : decode cX5_wrongCatch 21 = .ok (.aload_n 1, 1) := by decide +kernel
theorem dX5_wrongCatch_22 : decode cX5_wrongCatch 22 = .ok (.iload_n 3, 1) := by decide +kernel
theorem dX5_wrongCatch_23 : decode cX5_wrongCatch 23 = .ok (.invokestatic 181, 3) := by decide +kernel
theorem dX5_wrongCatch_26 : decode cX5_wrongCatch 26 = .ok (.ifCond .ne 5, 3) := by decide +kernel
theorem dX5_wrongCatch_29 : decode cX5_wrongCatch 29 = .ok (.iload_n 3, 1) := by decide +kernel
theorem dX5_wrongCatch_30 : decode cX5_wrongCatch 30 = .ok (.ireturn, 1) := by decide +kernel
theorem dX5_wrongCatch_31 : decode cX5_wrongCatch 31 = .ok (.iinc 2 1, 3) := by decide +kernel
theorem dX5_wrongCatch_34 : decode cX5_wrongCatch 34 = .ok (.goto (-32), 3) := by decide +kernel
theorem dX5_wrongCatch_37 : decode cX5_wrongCatch 37 = .ok (.iconst (-1), 1) := by decide +kernel
theorem dX5_wrongCatch_38 : decode cX5_wrongCatch 38 = .ok (.ireturn, 1) := by decide +kernel
theorem dX5_catchPointsWell_0 : decode cX5_catchPointsWell 0 = .ok (.aload_n 0, 1) := by decide +kernel
theorem dX5_catchPointsWell_1 : decode cX5_catchPointsWell 1 = .ok (.getfield 47, 3) := by decide +kernel
theorem dX5_catchPointsWell_4 : decode cX5_catchPointsWell 4 = .ok (.iload_n 2, 1) := by decide +kernel
theorem dX5_catchPointsWell_5 : decode cX5_catchPointsWell 5 = .ok (.invokevirtual 81, 3) := by decide +kernel
theorem dX5_catchPointsWell_8 : decode cX5_catchPointsWell 8 = .ok (.istore_n 3, 1) := by decide +kernel
theorem dX5_catchPointsWell_9 : decode cX5_catchPointsWell 9 = .ok (.aload_n 0, 1) := by decide +kernel
theorem dX5_catchPointsWell_10 : decode cX5_catchPointsWell 10 = .ok (.getfield 47, 3) := by decide +kernel
theorem dX5_catchPointsWell_13 : decode cX5_catchPointsWell 13 = .ok (.iload_n 2, 1) := by decide +kernel
theorem dX5_catchPointsWell_14 : decode cX5_catchPointsWell 14 = .ok (.iconst 2, 1) := by decide +kernel
theorem dX5_catchPointsWell_15 : decode cX5_catchPointsWell 15 = .ok (.iadd, 1) := by decide +kernel
theorem dX5_catchPointsWell_16 : decode cX5_catchPointsWell 16 = .ok (.invokevirtual 81, 3) := by decide +kernel
theorem dX5_catchPointsWell_19 : decode cX5_catchPointsWell 19 = .ok (.istore 4, 2) := by decide +kernel
theorem dX5_catchPointsWell_21 : decode cX5_catchPointsWell 21 = .ok (.aload_n 0, 1) := by decide +kernel
theorem dX5_catchPointsWell_22 : decode cX5_catchPointsWell 22 = .ok (.getfield 47, 3) := by decide +kernel
theorem dX5_catchPointsWell_25 : decode cX5_catchPointsWell 25 = .ok (.iload_n 2, 1) := by decide +kernel
theorem dX5_catchPointsWell_26 : decode cX5_catchPointsWell 26 = .ok (.iconst 4, 1) := by decide +kernel
theorem dX5_catchPointsWell_27 : decode cX5_catchPointsWell 27 = .ok (.iadd, 1) := by decide +kernel
theorem dX5_catchPointsWell_28 : decode cX5_catchPointsWell 28 = .ok (.invokevirtual 81, 3) := by decide +kernel
theorem dX5_catchPointsWell_31 : decode cX5_catchPointsWell 31 = .ok (.istore 5, 2) := by decide +kernel
theorem dX5_catchPointsWell_33 : decode cX5_catchPointsWell 33 = .ok (.iload_n 3, 1) := by decide +kernel
theorem dX5_catchPointsWell_34 : decode cX5_catchPointsWell 34 = .ok (.iload 4, 2) := by decide +kernel
theorem dX5_catchPointsWell_36 : decode cX5_catchPointsWell 36 = .ok (.if_icmp .ge 18, 3) := by decide +kernel
theorem dX5_catchPointsWell_39 : decode cX5_catchPointsWell 39 = .ok (.aload_n 0, 1) := by decide +kernel
theorem dX5_catchPointsWell_40 : decode cX5_catchPointsWell 40 = .ok (.aload_n 1, 1) := by decide +kernel
theorem dX5_catchPointsWell_41 : decode cX5_catchPointsWell 41 = .ok (.aload_n 1, 1) := by decide +kernel
theorem dX5_catchPointsWell_42 : decode cX5_catchPointsWell 42 = .ok (.getfield 41, 3) := by decide +kernel
theorem dX5_catchPointsWell_45 : decode cX5_catchPointsWell 45 = .ok (.iload_n 3, 1) := by decide +kernel
theorem dX5_catchPointsWell_46 : decode cX5_catchPointsWell 46 = .ok (.iadd, 1) := by decide +kernel
theorem dX5_catchPointsWell_47 : decode cX5_catchPointsWell 47 = .ok (.invokevirtual 152, 3) := by decide +kernel
theorem dX5_catchPointsWell_50 : decode cX5_catchPointsWell 50 = .ok (.iconst (-1), 1) := by decide +kernel
theorem dX5_catchPointsWell_51 : decode cX5_catchPointsWell 51 = .ok (.if_icmp .ne 5, 3) := by decide +kernel
theorem dX5_catchPointsWell_54 : decode cX5_catchPointsWell 54 = .ok (.iconst 0, 1) := by decide +kernel
theorem dX5_catchPointsWell_55 : decode cX5_catchPointsWell 55 = .ok (.ireturn, 1) := by decide +kernel
theorem dX5_catchPointsWell_56 : decode cX5_catchPointsWell 56 = .ok (.iload 4, 2) := by decide +kernel
theorem dX5_catchPointsWell_58 : decode cX5_catchPointsWell 58 = .ok (.aload_n 1, 1) := by decide +kernel
theorem dX5_catchPointsWell_59 : decode cX5_catchPointsWell 59 = .ok (.getfield 44, 3) := by decide +kernel
theorem dX5_catchPointsWell_62 : decode cX5_catchPointsWell 62 = .ok (.if_icmp .eq 21, 3) := by decide +kernel
theorem dX5_catchPointsWell_65 : decode cX5_catchPointsWell 65 = .ok (.aload_n 0, 1) := by decide +kernel
theorem dX5_catchPointsWell_66 : decode cX5_catchPointsWell 66 = .ok (.aload_n 1, 1) := by decide +kernel
theorem dX5_catchPointsWell_67 : decode cX5_catchPointsWell 67 = .ok (.aload_n 1, 1) := by decide +kernel
theorem dX5_catchPointsWell_68 : decode cX5_catchPointsWell 68 = .ok (.getfield 41, 3) := by decide +kernel
theorem dX5_catchPointsWell_71 : decode cX5_catchPointsWell 71 = .ok (.iload 4, 2) := by decide +kernel
theorem dX5_catchPointsWell_73 : decode cX5_catchPointsWell 73 = .ok (.iadd, 1) := by decide +kernel
theorem dX5_catchPointsWell_74 : decode cX5_catchPointsWell 74 = .ok (.invokevirtual 152, 3) := by decide +kernel
theorem dX5_catchPointsWell_77 : decode cX5_catchPointsWell 77 = .ok (.iconst (-1), 1) := by decide +kernel
theorem dX5_catchPointsWell_78 : decode cX5_catchPointsWell 78 = .ok (.if_icmp .ne 5, 3) := by decide +kernel
theorem dX5_catchPointsWell_81 : decode cX5_catchPointsWell 81 = .ok (.iconst 0, 1) := by decide +kernel
theorem dX5_catchPointsWell_82 : decode cX5_catchPointsWell 82 = .ok (.ireturn, 1) := by decide +kernel
theorem dX5_catchPointsWell_83 : decode cX5_catchPointsWell 83 = .ok (.aload_n 0, 1) := by decide +kernel
theorem dX5_catchPointsWell_84 : decode cX5_catchPointsWell 84 = .ok (.aload_n 1, 1) := by decide +kernel
theorem dX5_catchPointsWell_85 : decode cX5_catchPointsWell 85 = .ok (.aload_n 1, 1) := by decide +kernel
theorem dX5_catchPointsWell_86 : decode cX5_catchPointsWell 86 = .ok (.getfield 41, 3) := by decide +kernel
theorem dX5_catchPointsWell_89 : decode cX5_catchPointsWell 89 = .ok (.iload 5, 2) := by decide +kernel
theorem dX5_catchPointsWell_91 : decode cX5_catchPointsWell 91 = .ok (.iadd, 1) := by decide +kernel
theorem dX5_catchPointsWell_92 : decode cX5_catchPointsWell 92 = .ok (.invokevirtual 152, 3) := by decide +kernel
theorem dX5_catchPointsWell_95 : decode cX5_catchPointsWell 95 = .ok (.iconst (-1), 1) := by decide +kernel
theorem dX5_catchPointsWell_96 : decode cX5_catchPointsWell 96 = .ok (.if_icmp .eq 28, 3) := by decide +kernel
theorem dX5_catchPointsWell_99 : decode cX5_catchPointsWell 99 = .ok (.aload_n 0, 1) := by decide +kernel
theorem dX5_catchPointsWell_100 : decode cX5_catchPointsWell 100 = .ok (.getfield 74, 3) := by decide +kernel
theorem dX5_catchPointsWell_103 : decode cX5_catchPointsWell 103 = .ok (.aload_n 0, 1) := by decide +kernel
theorem dX5_catchPointsWell_104 : decode cX5_catchPointsWell 104 = .ok (.getfield 47, 3) := by decide +kernel
theorem dX5_catchPointsWell_107 : decode cX5_catchPointsWell 107 = .ok (.iload_n 2, 1) := by decide +kernel
theorem dX5_catchPointsWell_108 : decode cX5_catchPointsWell 108 = .ok (.bipush 6, 2) := by decide +kernel
