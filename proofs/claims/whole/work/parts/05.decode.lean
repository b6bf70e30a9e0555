theorem dX12_feed_1 : decode cX12_feed 1 = .ok (.getfield 100, 3) := by decide +kernel
theorem dX12_feed_4 : decode cX12_feed 4 = .ok (.bipush 20, 2) := by decide +kernel
theorem dX12_feed_6 : decode cX12_feed 6 = .ok (.iadd, 1) := by decide +kernel
theorem dX12_feed_7 : decode cX12_feed 7 = .ok (.sipush 16000, 3) := by decide +kernel
theorem dX12_feed_10 : decode cX12_feed 10 = .ok (.if_icmp .gt 15, 3) := by decide +kernel
theorem dX12_feed_13 : decode cX12_feed 13 = .ok (.aload_n 0, 1) := by decide +kernel
theorem dX12_feed_14 : decode cX12_feed 14 = .ok (.getfield 103, 3) := by decide +kernel
theorem dX12_feed_17 : decode cX12_feed 17 = .ok (.bipush 20, 2) := by decide +kernel
theorem dX12_feed_19 : decode cX12_feed 19 = .ok (.iadd, 1) := by decide +kernel
theorem dX12_feed_20 : decode cX12_feed 20 = .ok (.ldc 106, 2) := by decide +kernel
theorem dX12_feed_22 : decode cX12_feed 22 = .ok (.if_icmp .le 5, 3) := by decide +kernel
theorem dX12_feed_25 : decode cX12_feed 25 = .ok (.iconst (-1), 1) := by decide +kernel
theorem dX12_feed_26 : decode cX12_feed 26 = .ok (.ireturn, 1) := by decide +kernel
theorem dX12_feed_27 : decode cX12_feed 27 = .ok (.aload_n 0, 1) := by decide +kernel
theorem dX12_feed_28 : decode cX12_feed 28 = .ok (.iload_n 1, 1) := by decide +kernel
theorem dX12_feed_29 : decode cX12_feed 29 = .ok (.invokevirtual 107, 3) := by decide +kernel
theorem dX12_feed_32 : decode cX12_feed 32 = .ok (.aload_n 0, 1) := by decide +kernel
theorem dX12_feed_33 : decode cX12_feed 33 = .ok (.iload_n 2, 1) := by decide +kernel
theorem dX12_feed_34 : decode cX12_feed 34 = .ok (.invokevirtual 107, 3) := by decide +kernel
theorem dX12_feed_37 : decode cX12_feed 37 = .ok (.aload_n 0, 1) := by decide +kernel
theorem dX12_feed_38 : decode cX12_feed 38 = .ok (.iload_n 3, 1) := by decide +kernel
theorem dX12_feed_39 : decode cX12_feed 39 = .ok (.invokevirtual 107, 3) := by decide +kernel
theorem dX12_feed_42 : decode cX12_feed 42 = .ok (.aload_n 0, 1) := by decide +kernel
theorem dX12_feed_43 : decode cX12_feed 43 = .ok (.iload 4, 2) := by decide +kernel
theorem dX12_feed_45 : decode cX12_feed 45 = .ok (.invokevirtual 107, 3) := by decide +kernel
theorem dX12_feed_48 : decode cX12_feed 48 = .ok (.aload_n 0, 1) := by decide +kernel
theorem dX12_feed_49 : decode cX12_feed 49 = .ok (.iload 5, 2) := by decide +kernel
theorem dX12_feed_51 : decode cX12_feed 51 = .ok (.invokevirtual 107, 3) := by decide +kernel
theorem dX12_feed_54 : decode cX12_feed 54 = .ok (.aload_n 0, 1) := by decide +kernel
theorem dX12_feed_55 : decode cX12_feed 55 = .ok (.dup, 1) := by decide +kernel
theorem dX12_feed_56 : decode cX12_feed 56 = .ok (.getfield 103, 3) := by decide +kernel
theorem dX12_feed_59 : decode cX12_feed 59 = .ok (.bipush 20, 2) := by decide +kernel
theorem dX12_feed_61 : decode cX12_feed 61 = .ok (.iadd, 1) := by decide +kernel
theorem dX12_feed_62 : decode cX12_feed 62 = .ok (.putfield 103, 3) := by decide +kernel
theorem dX12_feed_65 : decode cX12_feed 65 = .ok (.aload_n 0, 1) := by decide +kernel
theorem dX12_feed_66 : decode cX12_feed 66 = .ok (.getfield 100, 3) := by decide +kernel
theorem dX12_feed_69 : decode cX12_feed 69 = .ok (.ireturn, 1) := by decide +kernel
theorem dX12_word_0 : decode cX12_word 0 = .ok (.iconst 0, 1) := by decide +kernel
theorem dX12_word_1 : decode cX12_word 1 = .ok (.istore_n 2, 1) := by decide +kernel
theorem dX12_word_2 : decode cX12_word 2 = .ok (.iload_n 2, 1) := by decide +kernel
theorem dX12_word_3 : decode cX12_word 3 = .ok (.iconst 4, 1) := by decide +kernel
theorem dX12_word_4 : decode cX12_word 4 = .ok (.if_icmp .ge 38, 3) := by decide +kernel
theorem dX12_word_7 : decode cX12_word 7 = .ok (.aload_n 0, 1) := by decide +kernel
theorem dX12_word_8 : decode cX12_word 8 = .ok (.getfield 9, 3) := by decide +kernel
theorem dX12_word_11 : decode cX12_word 11 = .ok (.aload_n 0, 1) := by decide +kernel
theorem dX12_word_12 : decode cX12_word 12 = .ok (.getfield 100, 3) := by decide +kernel
theorem dX12_word_15 : decode cX12_word 15 = .ok (.iload_n 1, 1) := by decide +kernel
theorem dX12_word_16 : decode cX12_word 16 = .ok (.bipush 24, 2) := by decide +kernel
theorem dX12_word_18 : decode cX12_word 18 = .ok (.bipush 8, 2) := by decide +kernel
theorem dX12_word_20 : decode cX12_word 20 = .ok (.iload_n 2, 1) := by decide +kernel
theorem dX12_word_21 : decode cX12_word 21 = .ok (.imul, 1) := by decide +kernel
theorem dX12_word_22 : decode cX12_word 22 = .ok (.isub, 1) := by decide +kernel
theorem dX12_word_23 : decode cX12_word 23 = .ok (.ishr, 1) := by decide +kernel
theorem dX12_word_24 : decode cX12_word 24 = .ok (.i2b, 1) := by decide +kernel
theorem dX12_word_25 : decode cX12_word 25 = .ok (.bastore, 1) := by decide +kernel
theorem dX12_word_26 : decode cX12_word 26 = .ok (.aload_n 0, 1) := by decide +kernel
theorem dX12_word_27 : decode cX12_word 27 = .ok (.dup, 1) := by decide +kernel
theorem dX12_word_28 : decode cX12_word 28 = .ok (.getfield 100, 3) := by decide +kernel
theorem dX12_word_31 : decode cX12_word 31 = .ok (.iconst 1, 1) := by decide +kernel
theorem dX12_word_32 : decode cX12_word 32 = .ok (.iadd, 1) := by decide +kernel
theorem dX12_word_33 : decode cX12_word 33 = .ok (.putfield 100, 3) := by decide +kernel
theorem dX12_word_36 : decode cX12_word 36 = .ok (.iinc 2 1, 3) := by decide +kernel
theorem dX12_word_39 : decode cX12_word 39 = .ok (.goto (-37), 3) := by decide +kernel
theorem dX12_word_42 : decode cX12_word 42 = .ok (.return_, 1) := by decide +kernel
theorem dX12_end_0 : decode cX12_end 0 = .ok (.iload_n 1, 1) := by decide +kernel
theorem dX12_end_1 : decode cX12_end 1 = .ok (.ifCond .lt 11, 3) := by decide +kernel
theorem dX12_end_4 : decode cX12_end 4 = .ok (.iload_n 1, 1) := by decide +kernel
theorem dX12_end_5 : decode cX12_end 5 = .ok (.aload_n 0, 1) := by decide +kernel
theorem dX12_end_6 : decode cX12_end 6 = .ok (.getfield 100, 3) := by decide +kernel
theorem dX12_end_9 : decode cX12_end 9 = .ok (.if_icmp .le 5, 3) := by decide +kernel
theorem dX12_end_12 : decode cX12_end 12 = .ok (.iconst 0, 1) := by decide +kernel
theorem dX12_end_13 : decode cX12_end 13 = .ok (.ireturn, 1) := by decide +kernel
theorem dX12_end_14 : decode cX12_end 14 = .ok (.aload_n 0, 1) := by decide +kernel
theorem dX12_end_15 : decode cX12_end 15 = .ok (.iload_n 1, 1) := by decide +kernel
theorem dX12_end_16 : decode cX12_end 16 = .ok (.putfield 100, 3) := by decide +kernel
theorem dX12_end_19 : decode cX12_end 19 = .ok (.iconst 1, 1) := by decide +kernel
theorem dX12_end_20 : decode cX12_end 20 = .ok (.ireturn, 1) := by decide +kernel
theorem dX12_broken_0 : decode cX12_broken 0 = .ok (.aload_n 0, 1) := by decide +kernel
theorem dX12_broken_1 : decode cX12_broken 1 = .ok (.iload_n 1, 1) := by decide +kernel
theorem dX12_broken_2 : decode cX12_broken 2 = .ok (.putfield 111, 3) := by decide +kernel
theorem dX12_broken_5 : decode cX12_broken 5 = .ok (.aload_n 0, 1) := by decide +kernel
theorem dX12_broken_6 : decode cX12_broken 6 = .ok (.iload_n 2, 1) := by decide +kernel
theorem dX12_broken_7 : decode cX12_broken 7 = .ok (.putfield 114, 3) := by decide +kernel
theorem dX12_broken_10 : decode cX12_broken 10 = .ok (.aload_n 0, 1) := by decide +kernel
theorem dX12_broken_11 : decode cX12_broken 11 = .ok (.getfield 16, 3) := by decide +kernel
theorem dX12_broken_14 : decode cX12_broken 14 = .ok (.areturn, 1) := by decide +kernel
theorem dX12_must_0 : decode cX12_must 0 = .ok (.iload_n 1, 1) := by decide +kernel
theorem dX12_must_1 : decode cX12_must 1 = .ok (.ifCond .ne 10, 3) := by decide +kernel
theorem dX12_must_4 : decode cX12_must 4 = .ok (.aload_n 0, 1) := by decide +kernel
theorem dX12_must_5 : decode cX12_must 5 = .ok (.iload_n 2, 1) := by decide +kernel
theorem dX12_must_6 : decode cX12_must 6 = .ok (.iload_n 3, 1) := by decide +kernel
theorem dX12_must_7 : decode cX12_must 7 = .ok (.invokevirtual 117, 3) := by decide +kernel
theorem dX12_must_10 : decode cX12_must 10 = .ok (.athrow, 1) := by decide +kernel
theorem dX12_must_11 : decode cX12_must 11 = .ok (.return_, 1) := by decide +kernel
theorem dX12_place_0 : decode cX12_place 0 = .ok (.aload_n 0, 1) := by decide +kernel
theorem dX12_place_1 : decode cX12_place 1 = .ok (.getfield 20, 3) := by decide +kernel
theorem dX12_place_4 : decode cX12_place 4 = .ok (.ireturn, 1) := by decide +kernel
theorem dX12_octet_0 : decode cX12_octet 0 = .ok (.aload_n 0, 1) := by decide +kernel
theorem dX12_octet_1 : decode cX12_octet 1 = .ok (.getfield 121, 3) := by decide +kernel
theorem dX12_octet_4 : decode cX12_octet 4 = .ok (.iload_n 1, 1) := by decide +kernel
theorem dX12_octet_5 : decode cX12_octet 5 = .ok (.baload, 1) := by decide +kernel
theorem dX12_octet_6 : decode cX12_octet 6 = .ok (.sipush 255, 3) := by decide +kernel
theorem dX12_octet_9 : decode cX12_octet 9 = .ok (.iand, 1) := by decide +kernel
theorem dX12_octet_10 : decode cX12_octet 10 = .ok (.ireturn, 1) := by decide +kernel
theorem dX12_two_0 : decode cX12_two 0 = .ok (.aload_n 0, 1) := by decide +kernel
theorem dX12_two_1 : decode cX12_two 1 = .ok (.iload_n 1, 1) := by decide +kernel
theorem dX12_two_2 : decode cX12_two 2 = .ok (.invokevirtual 124, 3) := by decide +kernel
theorem dX12_two_5 : decode cX12_two 5 = .ok (.bipush 8, 2) := by decide +kernel
theorem dX12_two_7 : decode cX12_two 7 = .ok (.ishl, 1) := by decide +kernel
theorem dX12_two_8 : decode cX12_two 8 = .ok (.aload_n 0, 1) := by decide +kernel
theorem dX12_two_9 : decode cX12_two 9 = .ok (.iload_n 1, 1) := by decide +kernel
theorem dX12_two_10 : decode cX12_two 10 = .ok (.iconst 1, 1) := by decide +kernel
theorem dX12_two_11 : decode cX12_two 11 = .ok (.iadd, 1) := by decide +kernel
theorem dX12_two_12 : decode cX12_two 12 = .ok (.invokevirtual 124, 3) := by decide +kernel
theorem dX12_two_15 : decode cX12_two 15 = .ok (.ior, 1) := by decide +kernel
theorem dX12_two_16 : decode cX12_two 16 = .ok (.ireturn, 1) := by decide +kernel
theorem dX12_four_0 : decode cX12_four 0 = .ok (.aload_n 0, 1) := by decide +kernel
theorem dX12_four_1 : decode cX12_four 1 = .ok (.iload_n 1, 1) := by decide +kernel
theorem dX12_four_2 : decode cX12_four 2 = .ok (.invokevirtual 128, 3) := by decide +kernel
theorem dX12_four_5 : decode cX12_four 5 = .ok (.bipush 16, 2) := by decide +kernel
theorem dX12_four_7 : decode cX12_four 7 = .ok (.ishl, 1) := by decide +kernel
theorem dX12_four_8 : decode cX12_four 8 = .ok (.aload_n 0, 1) := by decide +kernel
theorem dX12_four_9 : decode cX12_four 9 = .ok (.iload_n 1, 1) := by decide +kernel
theorem dX12_four_10 : decode cX12_four 10 = .ok (.iconst 2, 1) := by decide +kernel
theorem dX12_four_11 : decode cX12_four 11 = .ok (.iadd, 1) := by decide +kernel
theorem dX12_four_12 : decode cX12_four 12 = .ok (.invokevirtual 128, 3) := by decide +kernel
theorem dX12_four_15 : decode cX12_four 15 = .ok (.ior, 1) := by decide +kernel
theorem dX12_four_16 : decode cX12_four 16 = .ok (.ireturn, 1) := by decide +kernel
theorem dX12_over_0 : decode cX12_over 0 = .ok (.aload_n 0, 1) := by decide +kernel
theorem dX12_over_1 : decode cX12_over 1 = .ok (.getfield 131, 3) := by decide +kernel
theorem dX12_over_4 : decode cX12_over 4 = .ok (.i2l, 1) := by decide +kernel
theorem dX12_over_5 : decode cX12_over 5 = .ok (.lload_n 1, 1) := by decide +kernel
theorem dX12_over_6 : decode cX12_over 6 = .ok (.ladd, 1) := by decide +kernel
theorem dX12_over_7 : decode cX12_over 7 = .ok (.aload_n 0, 1) := by decide +kernel
theorem dX12_over_8 : decode cX12_over 8 = .ok (.getfield 134, 3) := by decide +kernel
theorem dX12_over_11 : decode cX12_over 11 = .ok (.i2l, 1) := by decide +kernel
theorem dX12_over_12 : decode cX12_over 12 = .ok (.lcmp, 1) := by decide +kernel
theorem dX12_over_13 : decode cX12_over 13 = .ok (.ifCond .le 13, 3) := by decide +kernel
theorem dX12_over_16 : decode cX12_over 16 = .ok (.aload_n 0, 1) := by decide +kernel
theorem dX12_over_17 : decode cX12_over 17 = .ok (.iconst 2, 1) := by decide +kernel
theorem dX12_over_18 : decode cX12_over 18 = .ok (.aload_n 0, 1) := by decide +kernel
theorem dX12_over_19 : decode cX12_over 19 = .ok (.getfield 134, 3) := by decide +kernel
theorem dX12_over_22 : decode cX12_over 22 = .ok (.invokevirtual 117, 3) := by decide +kernel
theorem dX12_over_25 : decode cX12_over 25 = .ok (.athrow, 1) := by decide +kernel
theorem dX12_over_26 : decode cX12_over 26 = .ok (.aload_n 0, 1) := by decide +kernel
theorem dX12_over_27 : decode cX12_over 27 = .ok (.getfield 131, 3) := by decide +kernel
theorem dX12_over_30 : decode cX12_over 30 = .ok (.istore_n 3, 1) := by decide +kernel
theorem dX12_over_31 : decode cX12_over 31 = .ok (.aload_n 0, 1) := by decide +kernel
theorem dX12_over_32 : decode cX12_over 32 = .ok (.dup, 1) := by decide +kernel
theorem dX12_over_33 : decode cX12_over 33 = .ok (.getfield 131, 3) := by decide +kernel
theorem dX12_over_36 : decode cX12_over 36 = .ok (.lload_n 1, 1) := by decide +kernel
theorem dX12_over_37 : decode cX12_over 37 = .ok (.l2i, 1) := by decide +kernel
theorem dX12_over_38 : decode cX12_over 38 = .ok (.iadd, 1) := by decide +kernel
theorem dX12_over_39 : decode cX12_over 39 = .ok (.putfield 131, 3) := by decide +kernel
theorem dX12_over_42 : decode cX12_over 42 = .ok (.iload_n 3, 1) := by decide +kernel
theorem dX12_over_43 : decode cX12_over 43 = .ok (.ireturn, 1) := by decide +kernel
theorem dX12_headByte_0 : decode cX12_headByte 0 = .ok (.iload_n 0, 1) := by decide +kernel
theorem dX12_headByte_1 : decode cX12_headByte 1 = .ok (.ifCond .ne 9, 3) := by decide +kernel
theorem dX12_headByte_4 : decode cX12_headByte 4 = .ok (.sipush 202, 3) := by decide +kernel
theorem dX12_headByte_7 : decode cX12_headByte 7 = .ok (.goto 48, 3) := by decide +kernel
theorem dX12_headByte_10 : decode cX12_headByte 10 = .ok (.iload_n 0, 1) := by decide +kernel
theorem dX12_headByte_11 : decode cX12_headByte 11 = .ok (.iconst 1, 1) := by decide +kernel
theorem dX12_headByte_12 : decode cX12_headByte 12 = .ok (.if_icmp .ne 9, 3) := by decide +kernel
theorem dX12_headByte_15 : decode cX12_headByte 15 = .ok (.sipush 254, 3) := by decide +kernel
theorem dX12_headByte_18 : decode cX12_headByte 18 = .ok (.goto 37, 3) := by decide +kernel
theorem dX12_headByte_21 : decode cX12_headByte 21 = .ok (.iload_n 0, 1) := by decide +kernel
theorem dX12_headByte_22 : decode cX12_headByte 22 = .ok (.iconst 2, 1) := by decide +kernel
theorem dX12_headByte_23 : decode cX12_headByte 23 = .ok (.if_icmp .ne 9, 3) := by decide +kernel
theorem dX12_headByte_26 : decode cX12_headByte 26 = .ok (.sipush 186, 3) := by decide +kernel
theorem dX12_headByte_29 : decode cX12_headByte 29 = .ok (.goto 26, 3) := by decide +kernel
theorem dX12_headByte_32 : decode cX12_headByte 32 = .ok (.iload_n 0, 1) := by decide +kernel
theorem dX12_headByte_33 : decode cX12_headByte 33 = .ok (.iconst 3, 1) := by decide +kernel
theorem dX12_headByte_34 : decode cX12_headByte 34 = .ok (.if_icmp .ne 9, 3) := by decide +kernel
theorem dX12_headByte_37 : decode cX12_headByte 37 = .ok (.sipush 190, 3) := by decide +kernel
theorem dX12_headByte_40 : decode cX12_headByte 40 = .ok (.goto 15, 3) := by decide +kernel
theorem dX12_headByte_43 : decode cX12_headByte 43 = .ok (.iload_n 0, 1) := by decide +kernel
theorem dX12_headByte_44 : decode cX12_headByte 44 = .ok (.bipush 7, 2) := by decide +kernel
theorem dX12_headByte_46 : decode cX12_headByte 46 = .ok (.if_icmp .ne 8, 3) := by decide +kernel
theorem dX12_headByte_49 : decode cX12_headByte 49 = .ok (.bipush 49, 2) := by decide +kernel
theorem dX12_headByte_51 : decode cX12_headByte 51 = .ok (.goto 4, 3) := by decide +kernel
theorem dX12_headByte_54 : decode cX12_headByte 54 = .ok (.iconst 0, 1) := by decide +kernel
theorem dX12_headByte_55 : decode cX12_headByte 55 = .ok (.ireturn, 1) := by decide +kernel
theorem dX12_layout_0 : decode cX12_layout 0 = .ok (.iconst 0, 1) := by decide +kernel
theorem dX12_layout_1 : decode cX12_layout 1 = .ok (.istore_n 1, 1) := by decide +kernel
theorem dX12_layout_2 : decode cX12_layout 2 = .ok (.iload_n 1, 1) := by decide +kernel
theorem dX12_layout_3 : decode cX12_layout 3 = .ok (.bipush 8, 2) := by decide +kernel
theorem dX12_layout_5 : decode cX12_layout 5 = .ok (.if_icmp .ge 54, 3) := by decide +kernel
theorem dX12_layout_8 : decode cX12_layout 8 = .ok (.aload_n 0, 1) := by decide +kernel
theorem dX12_layout_9 : decode cX12_layout 9 = .ok (.iload_n 1, 1) := by decide +kernel
theorem dX12_layout_10 : decode cX12_layout 10 = .ok (.aload_n 0, 1) := by decide +kernel
theorem dX12_layout_11 : decode cX12_layout 11 = .ok (.getfield 134, 3) := by decide +kernel
theorem dX12_layout_14 : decode cX12_layout 14 = .ok (.if_icmp .ge 7, 3) := by decide +kernel
theorem dX12_layout_17 : decode cX12_layout 17 = .ok (.iconst 1, 1) := by decide +kernel
theorem dX12_layout_18 : decode cX12_layout 18 = .ok (.goto 4, 3) := by decide +kernel
theorem dX12_layout_21 : decode cX12_layout 21 = .ok (.iconst 0, 1) := by decide +kernel
theorem dX12_layout_22 : decode cX12_layout 22 = .ok (.iconst 2, 1) := by decide +kernel
theorem dX12_layout_23 : decode cX12_layout 23 = .ok (.aload_n 0, 1) := by decide +kernel
theorem dX12_layout_24 : decode cX12_layout 24 = .ok (.getfield 134, 3) := by decide +kernel
theorem dX12_layout_27 : decode cX12_layout 27 = .ok (.invokevirtual 137, 3) := by decide +kernel
theorem dX12_layout_30 : decode cX12_layout 30 = .ok (.aload_n 0, 1) := by decide +kernel
theorem dX12_layout_31 : decode cX12_layout 31 = .ok (.aload_n 0, 1) := by decide +kernel
theorem dX12_layout_32 : decode cX12_layout 32 = .ok (.iload_n 1, 1) := by decide +kernel
theorem dX12_layout_33 : decode cX12_layout 33 = .ok (.invokevirtual 124, 3) := by decide +kernel
theorem dX12_layout_36 : decode cX12_layout 36 = .ok (.iload_n 1, 1) := by decide +kernel
theorem dX12_layout_37 : decode cX12_layout 37 = .ok (.invokestatic 141, 3) := by decide +kernel
theorem dX12_layout_40 : decode cX12_layout 40 = .ok (.if_icmp .ne 7, 3) := by decide +kernel
theorem dX12_layout_43 : decode cX12_layout 43 = .ok (.iconst 1, 1) := by decide +kernel
theorem dX12_layout_44 : decode cX12_layout 44 = .ok (.goto 4, 3) := by decide +kernel
theorem dX12_layout_47 : decode cX12_layout 47 = .ok (.iconst 0, 1) := by decide +kernel
theorem dX12_layout_48 : decode cX12_layout 48 = .ok (.iconst 1, 1) := by decide +kernel
theorem dX12_layout_49 : decode cX12_layout 49 = .ok (.iload_n 1, 1) := by decide +kernel
theorem dX12_layout_50 : decode cX12_layout 50 = .ok (.invokevirtual 137, 3) := by decide +kernel
theorem dX12_layout_53 : decode cX12_layout 53 = .ok (.iinc 1 1, 3) := by decide +kernel
theorem dX12_layout_56 : decode cX12_layout 56 = .ok (.goto (-54), 3) := by decide +kernel
theorem dX12_layout_59 : decode cX12_layout 59 = .ok (.aload_n 0, 1) := by decide +kernel
theorem dX12_layout_60 : decode cX12_layout 60 = .ok (.bipush 8, 2) := by decide +kernel
theorem dX12_layout_62 : decode cX12_layout 62 = .ok (.putfield 131, 3) := by decide +kernel
theorem dX12_layout_65 : decode cX12_layout 65 = .ok (.aload_n 0, 1) := by decide +kernel
theorem dX12_layout_66 : decode cX12_layout 66 = .ok (.aload_n 0, 1) := by decide +kernel
theorem dX12_layout_67 : decode cX12_layout 67 = .ok (.aload_n 0, 1) := by decide +kernel
theorem dX12_layout_68 : decode cX12_layout 68 = .ok (.ldc2_w 144, 3) := by decide +kernel
theorem dX12_layout_71 : decode cX12_layout 71 = .ok (.invokevirtual 146, 3) := by decide +kernel
theorem dX12_layout_74 : decode cX12_layout 74 = .ok (.invokevirtual 128, 3) := by decide +kernel
theorem dX12_layout_77 : decode cX12_layout 77 = .ok (.putfield 150, 3) := by decide +kernel
theorem dX12_layout_80 : decode cX12_layout 80 = .ok (.aload_n 0, 1) := by decide +kernel
theorem dX12_layout_81 : decode cX12_layout 81 = .ok (.aload_n 0, 1) := by decide +kernel
theorem dX12_layout_82 : decode cX12_layout 82 = .ok (.getfield 150, 3) := by decide +kernel
theorem dX12_layout_85 : decode cX12_layout 85 = .ok (.iconst 1, 1) := by decide +kernel
theorem dX12_layout_86 : decode cX12_layout 86 = .ok (.if_icmp .lt 17, 3) := by decide +kernel
theorem dX12_layout_89 : decode cX12_layout 89 = .ok (.aload_n 0, 1) := by decide +kernel
theorem dX12_layout_90 : decode cX12_layout 90 = .ok (.getfield 150, 3) := by decide +kernel
theorem dX12_layout_93 : decode cX12_layout 93 = .ok (.sipush 500, 3) := by decide +kernel
theorem dX12_layout_96 : decode cX12_layout 96 = .ok (.if_icmp .gt 7, 3) := by decide +kernel
theorem dX12_layout_99 : decode cX12_layout 99 = .ok (.iconst 1, 1) := by decide +kernel
theorem dX12_layout_100 : decode cX12_layout 100 = .ok (.goto 4, 3) := by decide +kernel
theorem dX12_layout_103 : decode cX12_layout 103 = .ok (.iconst 0, 1) := by decide +kernel
theorem dX12_layout_104 : decode cX12_layout 104 = .ok (.iconst 5, 1) := by decide +kernel
theorem dX12_layout_105 : decode cX12_layout 105 = .ok (.bipush 8, 2) := by decide +kernel
theorem dX12_layout_107 : decode cX12_layout 107 = .ok (.invokevirtual 137, 3) := by decide +kernel
theorem dX12_layout_110 : decode cX12_layout 110 = .ok (.iconst 0, 1) := by decide +kernel
theorem dX12_layout_111 : decode cX12_layout 111 = .ok (.istore_n 1, 1) := by decide +kernel
theorem dX12_layout_112 : decode cX12_layout 112 = .ok (.iload_n 1, 1) := by decide +kernel
theorem dX12_layout_113 : decode cX12_layout 113 = .ok (.aload_n 0, 1) := by decide +kernel
theorem dX12_layout_114 : decode cX12_layout 114 = .ok (.getfield 24, 3) := by decide +kernel
theorem dX12_layout_117 : decode cX12_layout 117 = .ok (.arraylength, 1) := by decide +kernel
theorem dX12_layout_118 : decode cX12_layout 118 = .ok (.if_icmp .ge 16, 3) := by decide +kernel
theorem dX12_layout_121 : decode cX12_layout 121 = .ok (.aload_n 0, 1) := by decide +kernel
theorem dX12_layout_122 : decode cX12_layout 122 = .ok (.getfield 24, 3) := by decide +kernel
theorem dX12_layout_125 : decode cX12_layout 125 = .ok (.iload_n 1, 1) := by decide +kernel
theorem dX12_layout_126 : decode cX12_layout 126 = .ok (.iconst 0, 1) := by decide +kernel
theorem dX12_layout_127 : decode cX12_layout 127 = .ok (.iastore, 1) := by decide +kernel
theorem dX12_layout_128 : decode cX12_layout 128 = .ok (.iinc 1 1, 3) := by decide +kernel
theorem dX12_layout_131 : decode cX12_layout 131 = .ok (.goto (-19), 3) := by decide +kernel
theorem dX12_layout_134 : decode cX12_layout 134 = .ok (.iconst 1, 1) := by decide +kernel
theorem dX12_layout_135 : decode cX12_layout 135 = .ok (.istore_n 1, 1) := by decide +kernel
theorem dX12_layout_136 : decode cX12_layout 136 = .ok (.iload_n 1, 1) := by decide +kernel
theorem dX12_layout_137 : decode cX12_layout 137 = .ok (.aload_n 0, 1) := by decide +kernel
theorem dX12_layout_138 : decode cX12_layout 138 = .ok (.getfield 150, 3) := by decide +kernel
theorem dX12_layout_141 : decode cX12_layout 141 = .ok (.if_icmp .ge 29, 3) := by decide +kernel
theorem dX12_layout_144 : decode cX12_layout 144 = .ok (.aload_n 0, 1) := by decide +kernel
theorem dX12_layout_145 : decode cX12_layout 145 = .ok (.iload_n 1, 1) := by decide +kernel
theorem dX12_layout_146 : decode cX12_layout 146 = .ok (.invokevirtual 153, 3) := by decide +kernel
theorem dX12_layout_149 : decode cX12_layout 149 = .ok (.iload_n 1, 1) := by decide +kernel
theorem dX12_layout_150 : decode cX12_layout 150 = .ok (.aload_n 0, 1) := by decide +kernel
theorem dX12_layout_151 : decode cX12_layout 151 = .ok (.getfield 24, 3) := by decide +kernel
theorem dX12_layout_154 : decode cX12_layout 154 = .ok (.iload_n 1, 1) := by decide +kernel
theorem dX12_layout_155 : decode cX12_layout 155 = .ok (.iaload, 1) := by decide +kernel
theorem dX12_layout_156 : decode cX12_layout 156 = .ok (.iconst 5, 1) := by decide +kernel
theorem dX12_layout_157 : decode cX12_layout 157 = .ok (.if_icmp .ne 7, 3) := by decide +kernel
theorem dX12_layout_160 : decode cX12_layout 160 = .ok (.iconst 2, 1) := by decide +kernel
theorem dX12_layout_161 : decode cX12_layout 161 = .ok (.goto 4, 3) := by decide +kernel
theorem dX12_layout_164 : decode cX12_layout 164 = .ok (.iconst 1, 1) := by decide +kernel
theorem dX12_layout_165 : decode cX12_layout 165 = .ok (.iadd, 1) := by decide +kernel
theorem dX12_layout_166 : decode cX12_layout 166 = .ok (.istore_n 1, 1) := by decide +kernel
theorem dX12_layout_167 : decode cX12_layout 167 = .ok (.goto (-31), 3) := by decide +kernel
theorem dX12_layout_170 : decode cX12_layout 170 = .ok (.aload_n 0, 1) := by decide +kernel
theorem dX12_layout_171 : decode cX12_layout 171 = .ok (.aload_n 0, 1) := by decide +kernel
theorem dX12_layout_172 : decode cX12_layout 172 = .ok (.ldc2_w 144, 3) := by decide +kernel
theorem dX12_layout_175 : decode cX12_layout 175 = .ok (.invokevirtual 146, 3) := by decide +kernel
theorem dX12_layout_178 : decode cX12_layout 178 = .ok (.putfield 156, 3) := by decide +kernel
theorem dX12_layout_181 : decode cX12_layout 181 = .ok (.aload_n 0, 1) := by decide +kernel
theorem dX12_layout_182 : decode cX12_layout 182 = .ok (.ldc2_w 159, 3) := by decide +kernel
theorem dX12_layout_185 : decode cX12_layout 185 = .ok (.invokevirtual 146, 3) := by decide +kernel
theorem dX12_layout_188 : decode cX12_layout 188 = .ok (.pop, 1) := by decide +kernel
theorem dX12_layout_189 : decode cX12_layout 189 = .ok (.aload_n 0, 1) := by decide +kernel
theorem dX12_layout_190 : decode cX12_layout 190 = .ok (.iconst 0, 1) := by decide +kernel
theorem dX12_layout_191 : decode cX12_layout 191 = .ok (.putfield 161, 3) := by decide +kernel
theorem dX12_layout_194 : decode cX12_layout 194 = .ok (.aload_n 0, 1) := by decide +kernel
theorem dX12_layout_195 : decode cX12_layout 195 = .ok (.iconst 0, 1) := by decide +kernel
theorem dX12_layout_196 : decode cX12_layout 196 = .ok (.putfield 164, 3) := by decide +kernel
theorem dX12_layout_199 : decode cX12_layout 199 = .ok (.aload_n 0, 1) := by decide +kernel
theorem dX12_layout_200 : decode cX12_layout 200 = .ok (.invokevirtual 167, 3) := by decide +kernel
theorem dX12_layout_203 : decode cX12_layout 203 = .ok (.aload_n 0, 1) := by decide +kernel
theorem dX12_layout_204 : decode cX12_layout 204 = .ok (.aload_n 0, 1) := by decide +kernel
theorem dX12_layout_205 : decode cX12_layout 205 = .ok (.getfield 161, 3) := by decide +kernel
theorem dX12_layout_208 : decode cX12_layout 208 = .ok (.putfield 170, 3) := by decide +kernel
theorem dX12_layout_211 : decode cX12_layout 211 = .ok (.aload_n 0, 1) := by decide +kernel
theorem dX12_layout_212 : decode cX12_layout 212 = .ok (.invokevirtual 167, 3) := by decide +kernel
theorem dX12_layout_215 : decode cX12_layout 215 = .ok (.aload_n 0, 1) := by decide +kernel
theorem dX12_layout_216 : decode cX12_layout 216 = .ok (.iconst (-1), 1) := by decide +kernel
theorem dX12_layout_217 : decode cX12_layout 217 = .ok (.invokevirtual 173, 3) := by decide +kernel
theorem dX12_layout_220 : decode cX12_layout 220 = .ok (.aload_n 0, 1) := by decide +kernel
theorem dX12_layout_221 : decode cX12_layout 221 = .ok (.aload_n 0, 1) := by decide +kernel
theorem dX12_layout_222 : decode cX12_layout 222 = .ok (.getfield 131, 3) := by decide +kernel
theorem dX12_layout_225 : decode cX12_layout 225 = .ok (.putfield 176, 3) := by decide +kernel
theorem dX12_layout_228 : decode cX12_layout 228 = .ok (.return_, 1) := by decide +kernel
theorem dX12_entry_0 : decode cX12_entry 0 = .ok (.aload_n 0, 1) := by decide +kernel
theorem dX12_entry_1 : decode cX12_entry 1 = .ok (.lconst 1, 1) := by decide +kernel
theorem dX12_entry_2 : decode cX12_entry 2 = .ok (.invokevirtual 146, 3) := by decide +kernel
theorem dX12_entry_5 : decode cX12_entry 5 = .ok (.istore_n 2, 1) := by decide +kernel
theorem dX12_entry_6 : decode cX12_entry 6 = .ok (.aload_n 0, 1) := by decide +kernel
theorem dX12_entry_7 : decode cX12_entry 7 = .ok (.getfield 28, 3) := by decide +kernel
theorem dX12_entry_10 : decode cX12_entry 10 = .ok (.iload_n 1, 1) := by decide +kernel
theorem dX12_entry_11 : decode cX12_entry 11 = .ok (.iload_n 2, 1) := by decide +kernel
theorem dX12_entry_12 : decode cX12_entry 12 = .ok (.iastore, 1) := by decide +kernel
theorem dX12_entry_13 : decode cX12_entry 13 = .ok (.aload_n 0, 1) := by decide +kernel
theorem dX12_entry_14 : decode cX12_entry 14 = .ok (.iload_n 2, 1) := by decide +kernel
theorem dX12_entry_15 : decode cX12_entry 15 = .ok (.invokevirtual 124, 3) := by decide +kernel
theorem dX12_entry_18 : decode cX12_entry 18 = .ok (.istore_n 3, 1) := by decide +kernel
theorem dX12_entry_19 : decode cX12_entry 19 = .ok (.iload_n 3, 1) := by decide +kernel
theorem dX12_entry_20 : decode cX12_entry 20 = .ok (.tableswitch 193 1 12 #[64, 193, 73, 193, 94, 193, 136, 193, 156, 156, 193, 156], 64) := by decide +kernel
theorem dX12_entry_84 : decode cX12_entry 84 = .ok (.aload_n 0, 1) := by decide +kernel
theorem dX12_entry_85 : decode cX12_entry 85 = .ok (.iload_n 1, 1) := by decide +kernel
theorem dX12_entry_86 : decode cX12_entry 86 = .ok (.iload_n 2, 1) := by decide +kernel
theorem dX12_entry_87 : decode cX12_entry 87 = .ok (.invokevirtual 179, 3) := by decide +kernel
theorem dX12_entry_90 : decode cX12_entry 90 = .ok (.goto 130, 3) := by decide +kernel
theorem dX12_entry_93 : decode cX12_entry 93 = .ok (.aload_n 0, 1) := by decide +kernel
theorem dX12_entry_94 : decode cX12_entry 94 = .ok (.getfield 37, 3) := by decide +kernel
theorem dX12_entry_97 : decode cX12_entry 97 = .ok (.iload_n 1, 1) := by decide +kernel
theorem dX12_entry_98 : decode cX12_entry 98 = .ok (.aload_n 0, 1) := by decide +kernel
theorem dX12_entry_99 : decode cX12_entry 99 = .ok (.aload_n 0, 1) := by decide +kernel
theorem dX12_entry_100 : decode cX12_entry 100 = .ok (.ldc2_w 183, 3) := by decide +kernel
theorem dX12_entry_103 : decode cX12_entry 103 = .ok (.invokevirtual 146, 3) := by decide +kernel
theorem dX12_entry_106 : decode cX12_entry 106 = .ok (.invokevirtual 185, 3) := by decide +kernel
theorem dX12_entry_109 : decode cX12_entry 109 = .ok (.i2l, 1) := by decide +kernel
theorem dX12_entry_110 : decode cX12_entry 110 = .ok (.lastore, 1) := by decide +kernel
theorem dX12_entry_111 : decode cX12_entry 111 = .ok (.goto 109, 3) := by decide +kernel
theorem dX12_entry_114 : decode cX12_entry 114 = .ok (.aload_n 0, 1) := by decide +kernel
theorem dX12_entry_115 : decode cX12_entry 115 = .ok (.ldc2_w 188, 3) := by decide +kernel
theorem dX12_entry_118 : decode cX12_entry 118 = .ok (.invokevirtual 146, 3) := by decide +kernel
theorem dX12_entry_121 : decode cX12_entry 121 = .ok (.istore 4, 2) := by decide +kernel
theorem dX12_entry_123 : decode cX12_entry 123 = .ok (.aload_n 0, 1) := by decide +kernel
theorem dX12_entry_124 : decode cX12_entry 124 = .ok (.getfield 37, 3) := by decide +kernel
theorem dX12_entry_127 : decode cX12_entry 127 = .ok (.iload_n 1, 1) := by decide +kernel
theorem dX12_entry_128 : decode cX12_entry 128 = .ok (.aload_n 0, 1) := by decide +kernel
theorem dX12_entry_129 : decode cX12_entry 129 = .ok (.iload 4, 2) := by decide +kernel
theorem dX12_entry_131 : decode cX12_entry 131 = .ok (.invokevirtual 185, 3) := by decide +kernel
theorem dX12_entry_134 : decode cX12_entry 134 = .ok (.i2l, 1) := by decide +kernel
theorem dX12_entry_135 : decode cX12_entry 135 = .ok (.bipush 32, 2) := by decide +kernel
theorem dX12_entry_137 : decode cX12_entry 137 = .ok (.lshl, 1) := by decide +kernel
theorem dX12_entry_138 : decode cX12_entry 138 = .ok (.aload_n 0, 1) := by decide +kernel
theorem dX12_entry_139 : decode cX12_entry 139 = .ok (.iload 4, 2) := by decide +kernel
theorem dX12_entry_141 : decode cX12_entry 141 = .ok (.iconst 4, 1) := by decide +kernel
theorem dX12_entry_142 : decode cX12_entry 142 = .ok (.iadd, 1) := by decide +kernel
theorem dX12_entry_143 : decode cX12_entry 143 = .ok (.invokevirtual 185, 3) := by decide +kernel
theorem dX12_entry_146 : decode cX12_entry 146 = .ok (.i2l, 1) := by decide +kernel
theorem dX12_entry_147 : decode cX12_entry 147 = .ok (.ldc2_w 190, 3) := by decide +kernel
theorem dX12_entry_150 : decode cX12_entry 150 = .ok (.land, 1) := by decide +kernel
theorem dX12_entry_151 : decode cX12_entry 151 = .ok (.lor, 1) := by decide +kernel
theorem dX12_entry_152 : decode cX12_entry 152 = .ok (.lastore, 1) := by decide +kernel
theorem dX12_entry_153 : decode cX12_entry 153 = .ok (.goto 67, 3) := by decide +kernel
theorem dX12_entry_156 : decode cX12_entry 156 = .ok (.aload_n 0, 1) := by decide +kernel
theorem dX12_entry_157 : decode cX12_entry 157 = .ok (.getfield 31, 3) := by decide +kernel
theorem dX12_entry_160 : decode cX12_entry 160 = .ok (.iload_n 1, 1) := by decide +kernel
theorem dX12_entry_161 : decode cX12_entry 161 = .ok (.aload_n 0, 1) := by decide +kernel
theorem dX12_entry_162 : decode cX12_entry 162 = .ok (.aload_n 0, 1) := by decide +kernel
theorem dX12_entry_163 : decode cX12_entry 163 = .ok (.ldc2_w 144, 3) := by decide +kernel
theorem dX12_entry_166 : decode cX12_entry 166 = .ok (.invokevirtual 146, 3) := by decide +kernel
theorem dX12_entry_169 : decode cX12_entry 169 = .ok (.invokevirtual 128, 3) := by decide +kernel
theorem dX12_entry_172 : decode cX12_entry 172 = .ok (.iastore, 1) := by decide +kernel
theorem dX12_entry_173 : decode cX12_entry 173 = .ok (.goto 47, 3) := by decide +kernel
theorem dX12_entry_176 : decode cX12_entry 176 = .ok (.aload_n 0, 1) := by decide +kernel
theorem dX12_entry_177 : decode cX12_entry 177 = .ok (.getfield 31, 3) := by decide +kernel
theorem dX12_entry_180 : decode cX12_entry 180 = .ok (.iload_n 1, 1) := by decide +kernel
theorem dX12_entry_181 : decode cX12_entry 181 = .ok (.aload_n 0, 1) := by decide +kernel
theorem dX12_entry_182 : decode cX12_entry 182 = .ok (.aload_n 0, 1) := by decide +kernel
theorem dX12_entry_183 : decode cX12_entry 183 = .ok (.ldc2_w 144, 3) := by decide +kernel
theorem dX12_entry_186 : decode cX12_entry 186 = .ok (.invokevirtual 146, 3) := by decide +kernel
theorem dX12_entry_189 : decode cX12_entry 189 = .ok (.invokevirtual 128, 3) := by decide +kernel
theorem dX12_entry_192 : decode cX12_entry 192 = .ok (.iastore, 1) := by decide +kernel
theorem dX12_entry_193 : decode cX12_entry 193 = .ok (.aload_n 0, 1) := by decide +kernel
theorem dX12_entry_194 : decode cX12_entry 194 = .ok (.getfield 34, 3) := by decide +kernel
theorem dX12_entry_197 : decode cX12_entry 197 = .ok (.iload_n 1, 1) := by decide +kernel
theorem dX12_entry_198 : decode cX12_entry 198 = .ok (.aload_n 0, 1) := by decide +kernel
theorem dX12_entry_199 : decode cX12_entry 199 = .ok (.aload_n 0, 1) := by decide +kernel
theorem dX12_entry_200 : decode cX12_entry 200 = .ok (.ldc2_w 144, 3) := by decide +kernel
theorem dX12_entry_203 : decode cX12_entry 203 = .ok (.invokevirtual 146, 3) := by decide +kernel
theorem dX12_entry_206 : decode cX12_entry 206 = .ok (.invokevirtual 128, 3) := by decide +kernel
theorem dX12_entry_209 : decode cX12_entry 209 = .ok (.iastore, 1) := by decide +kernel
theorem dX12_entry_210 : decode cX12_entry 210 = .ok (.goto 10, 3) := by decide +kernel
theorem dX12_entry_213 : decode cX12_entry 213 = .ok (.aload_n 0, 1) := by decide +kernel
theorem dX12_entry_214 : decode cX12_entry 214 = .ok (.iconst 3, 1) := by decide +kernel
theorem dX12_entry_215 : decode cX12_entry 215 = .ok (.iload_n 2, 1) := by decide +kernel
theorem dX12_entry_216 : decode cX12_entry 216 = .ok (.invokevirtual 117, 3) := by decide +kernel
theorem dX12_entry_219 : decode cX12_entry 219 = .ok (.athrow, 1) := by decide +kernel
theorem dX12_entry_220 : decode cX12_entry 220 = .ok (.aload_n 0, 1) := by decide +kernel
theorem dX12_entry_221 : decode cX12_entry 221 = .ok (.getfield 24, 3) := by decide +kernel
theorem dX12_entry_224 : decode cX12_entry 224 = .ok (.iload_n 1, 1) := by decide +kernel
theorem dX12_entry_225 : decode cX12_entry 225 = .ok (.iload_n 3, 1) := by decide +kernel
theorem dX12_entry_226 : decode cX12_entry 226 = .ok (.iastore, 1) := by decide +kernel
theorem dX12_entry_227 : decode cX12_entry 227 = .ok (.return_, 1) := by decide +kernel
theorem dX12_nameEntry_0 : decode cX12_nameEntry 0 = .ok (.aload_n 0, 1) := by decide +kernel
theorem dX12_nameEntry_1 : decode cX12_nameEntry 1 = .ok (.aload_n 0, 1) := by decide +kernel
theorem dX12_nameEntry_2 : decode cX12_nameEntry 2 = .ok (.ldc2_w 144, 3) := by decide +kernel
theorem dX12_nameEntry_5 : decode cX12_nameEntry 5 = .ok (.invokevirtual 146, 3) := by decide +kernel
theorem dX12_nameEntry_8 : decode cX12_nameEntry 8 = .ok (.invokevirtual 128, 3) := by decide +kernel
theorem dX12_nameEntry_11 : decode cX12_nameEntry 11 = .ok (.istore_n 3, 1) := by decide +kernel
theorem dX12_nameEntry_12 : decode cX12_nameEntry 12 = .ok (.aload_n 0, 1) := by decide +kernel
theorem dX12_nameEntry_13 : decode cX12_nameEntry 13 = .ok (.iload_n 3, 1) := by decide +kernel
theorem dX12_nameEntry_14 : decode cX12_nameEntry 14 = .ok (.iconst 1, 1) := by decide +kernel
theorem dX12_nameEntry_15 : decode cX12_nameEntry 15 = .ok (.if_icmp .lt 13, 3) := by decide +kernel
theorem dX12_nameEntry_18 : decode cX12_nameEntry 18 = .ok (.iload_n 3, 1) := by decide +kernel
theorem dX12_nameEntry_19 : decode cX12_nameEntry 19 = .ok (.bipush 100, 2) := by decide +kernel
theorem dX12_nameEntry_21 : decode cX12_nameEntry 21 = .ok (.if_icmp .gt 7, 3) := by decide +kernel
theorem dX12_nameEntry_24 : decode cX12_nameEntry 24 = .ok (.iconst 1, 1) := by decide +kernel
theorem dX12_nameEntry_25 : decode cX12_nameEntry 25 = .ok (.goto 4, 3) := by decide +kernel
theorem dX12_nameEntry_28 : decode cX12_nameEntry 28 = .ok (.iconst 0, 1) := by decide +kernel
theorem dX12_nameEntry_29 : decode cX12_nameEntry 29 = .ok (.iconst 4, 1) := by decide +kernel
theorem dX12_nameEntry_30 : decode cX12_nameEntry 30 = .ok (.iload_n 2, 1) := by decide +kernel
theorem dX12_nameEntry_31 : decode cX12_nameEntry 31 = .ok (.invokevirtual 137, 3) := by decide +kernel
theorem dX12_nameEntry_34 : decode cX12_nameEntry 34 = .ok (.aload_n 0, 1) := by decide +kernel
theorem dX12_nameEntry_35 : decode cX12_nameEntry 35 = .ok (.getfield 31, 3) := by decide +kernel
theorem dX12_nameEntry_38 : decode cX12_nameEntry 38 = .ok (.iload_n 1, 1) := by decide +kernel
theorem dX12_nameEntry_39 : decode cX12_nameEntry 39 = .ok (.aload_n 0, 1) := by decide +kernel
theorem dX12_nameEntry_40 : decode cX12_nameEntry 40 = .ok (.getfield 131, 3) := by decide +kernel
theorem dX12_nameEntry_43 : decode cX12_nameEntry 43 = .ok (.iastore, 1) := by decide +kernel
theorem dX12_nameEntry_44 : decode cX12_nameEntry 44 = .ok (.aload_n 0, 1) := by decide +kernel
theorem dX12_nameEntry_45 : decode cX12_nameEntry 45 = .ok (.getfield 34, 3) := by decide +kernel
theorem dX12_nameEntry_48 : decode cX12_nameEntry 48 = .ok (.iload_n 1, 1) := by decide +kernel
theorem dX12_nameEntry_49 : decode cX12_nameEntry 49 = .ok (.iload_n 3, 1) := by decide +kernel
theorem dX12_nameEntry_50 : decode cX12_nameEntry 50 = .ok (.iastore, 1) := by decide +kernel
theorem dX12_nameEntry_51 : decode cX12_nameEntry 51 = .ok (.iconst 0, 1) := by decide +kernel
theorem dX12_nameEntry_52 : decode cX12_nameEntry 52 = .ok (.istore 4, 2) := by decide +kernel
theorem dX12_nameEntry_54 : decode cX12_nameEntry 54 = .ok (.iload 4, 2) := by decide +kernel
theorem dX12_nameEntry_56 : decode cX12_nameEntry 56 = .ok (.iload_n 3, 1) := by decide +kernel
theorem dX12_nameEntry_57 : decode cX12_nameEntry 57 = .ok (.if_icmp .ge 51, 3) := by decide +kernel
theorem dX12_nameEntry_60 : decode cX12_nameEntry 60 = .ok (.aload_n 0, 1) := by decide +kernel
theorem dX12_nameEntry_61 : decode cX12_nameEntry 61 = .ok (.lconst 1, 1) := by decide +kernel
theorem dX12_nameEntry_62 : decode cX12_nameEntry 62 = .ok (.invokevirtual 146, 3) := by decide +kernel
theorem dX12_nameEntry_65 : decode cX12_nameEntry 65 = .ok (.istore 5, 2) := by decide +kernel
theorem dX12_nameEntry_67 : decode cX12_nameEntry 67 = .ok (.aload_n 0, 1) := by decide +kernel
theorem dX12_nameEntry_68 : decode cX12_nameEntry 68 = .ok (.aload_n 0, 1) := by decide +kernel
theorem dX12_nameEntry_69 : decode cX12_nameEntry 69 = .ok (.getfield 121, 3) := by decide +kernel
theorem dX12_nameEntry_72 : decode cX12_nameEntry 72 = .ok (.iload 5, 2) := by decide +kernel
theorem dX12_nameEntry_74 : decode cX12_nameEntry 74 = .ok (.baload, 1) := by decide +kernel
theorem dX12_nameEntry_75 : decode cX12_nameEntry 75 = .ok (.bipush 33, 2) := by decide +kernel
theorem dX12_nameEntry_77 : decode cX12_nameEntry 77 = .ok (.if_icmp .lt 19, 3) := by decide +kernel
theorem dX12_nameEntry_80 : decode cX12_nameEntry 80 = .ok (.aload_n 0, 1) := by decide +kernel
theorem dX12_nameEntry_81 : decode cX12_nameEntry 81 = .ok (.getfield 121, 3) := by decide +kernel
theorem dX12_nameEntry_84 : decode cX12_nameEntry 84 = .ok (.iload 5, 2) := by decide +kernel
theorem dX12_nameEntry_86 : decode cX12_nameEntry 86 = .ok (.baload, 1) := by decide +kernel
theorem dX12_nameEntry_87 : decode cX12_nameEntry 87 = .ok (.bipush 126, 2) := by decide +kernel
theorem dX12_nameEntry_89 : decode cX12_nameEntry 89 = .ok (.if_icmp .gt 7, 3) := by decide +kernel
theorem dX12_nameEntry_92 : decode cX12_nameEntry 92 = .ok (.iconst 1, 1) := by decide +kernel
theorem dX12_nameEntry_93 : decode cX12_nameEntry 93 = .ok (.goto 4, 3) := by decide +kernel
theorem dX12_nameEntry_96 : decode cX12_nameEntry 96 = .ok (.iconst 0, 1) := by decide +kernel
theorem dX12_nameEntry_97 : decode cX12_nameEntry 97 = .ok (.iconst 4, 1) := by decide +kernel
theorem dX12_nameEntry_98 : decode cX12_nameEntry 98 = .ok (.iload_n 2, 1) := by decide +kernel
theorem dX12_nameEntry_99 : decode cX12_nameEntry 99 = .ok (.invokevirtual 137, 3) := by decide +kernel
theorem dX12_nameEntry_102 : decode cX12_nameEntry 102 = .ok (.iinc 4 1, 3) := by decide +kernel
theorem dX12_nameEntry_105 : decode cX12_nameEntry 105 = .ok (.goto (-51), 3) := by decide +kernel
theorem dX12_nameEntry_108 : decode cX12_nameEntry 108 = .ok (.return_, 1) := by decide +kernel
theorem dX12_members_0 : decode cX12_members 0 = .ok (.aload_n 0, 1) := by decide +kernel
theorem dX12_members_1 : decode cX12_members 1 = .ok (.ldc2_w 144, 3) := by decide +kernel
theorem dX12_members_4 : decode cX12_members 4 = .ok (.invokevirtual 146, 3) := by decide +kernel
theorem dX12_members_7 : decode cX12_members 7 = .ok (.istore_n 1, 1) := by decide +kernel
theorem dX12_members_8 : decode cX12_members 8 = .ok (.aload_n 0, 1) := by decide +kernel
theorem dX12_members_9 : decode cX12_members 9 = .ok (.iload_n 1, 1) := by decide +kernel
theorem dX12_members_10 : decode cX12_members 10 = .ok (.invokevirtual 128, 3) := by decide +kernel
theorem dX12_members_13 : decode cX12_members 13 = .ok (.istore_n 2, 1) := by decide +kernel
theorem dX12_members_14 : decode cX12_members 14 = .ok (.aload_n 0, 1) := by decide +kernel
theorem dX12_members_15 : decode cX12_members 15 = .ok (.iload_n 2, 1) := by decide +kernel
theorem dX12_members_16 : decode cX12_members 16 = .ok (.bipush 24, 2) := by decide +kernel
theorem dX12_members_18 : decode cX12_members 18 = .ok (.if_icmp .gt 7, 3) := by decide +kernel
theorem dX12_members_21 : decode cX12_members 21 = .ok (.iconst 1, 1) := by decide +kernel
theorem dX12_members_22 : decode cX12_members 22 = .ok (.goto 4, 3) := by decide +kernel
theorem dX12_members_25 : decode cX12_members 25 = .ok (.iconst 0, 1) := by decide +kernel
theorem dX12_members_26 : decode cX12_members 26 = .ok (.iconst 5, 1) := by decide +kernel
theorem dX12_members_27 : decode cX12_members 27 = .ok (.iload_n 1, 1) := by decide +kernel
theorem dX12_members_28 : decode cX12_members 28 = .ok (.invokevirtual 137, 3) := by decide +kernel
theorem dX12_members_31 : decode cX12_members 31 = .ok (.iconst 0, 1) := by decide +kernel
theorem dX12_members_32 : decode cX12_members 32 = .ok (.istore_n 3, 1) := by decide +kernel
theorem dX12_members_33 : decode cX12_members 33 = .ok (.iload_n 3, 1) := by decide +kernel
theorem dX12_members_34 : decode cX12_members 34 = .ok (.iload_n 2, 1) := by decide +kernel
theorem dX12_members_35 : decode cX12_members 35 = .ok (.if_icmp .ge 51, 3) := by decide +kernel
theorem dX12_members_38 : decode cX12_members 38 = .ok (.aload_n 0, 1) := by decide +kernel
theorem dX12_members_39 : decode cX12_members 39 = .ok (.getfield 41, 3) := by decide +kernel
theorem dX12_members_42 : decode cX12_members 42 = .ok (.aload_n 0, 1) := by decide +kernel
theorem dX12_members_43 : decode cX12_members 43 = .ok (.getfield 161, 3) := by decide +kernel
theorem dX12_members_46 : decode cX12_members 46 = .ok (.aload_n 0, 1) := by decide +kernel
theorem dX12_members_47 : decode cX12_members 47 = .ok (.ldc2_w 144, 3) := by decide +kernel
theorem dX12_members_50 : decode cX12_members 50 = .ok (.invokevirtual 146, 3) := by decide +kernel
theorem dX12_members_53 : decode cX12_members 53 = .ok (.iastore, 1) := by decide +kernel
theorem dX12_members_54 : decode cX12_members 54 = .ok (.aload_n 0, 1) := by decide +kernel
theorem dX12_members_55 : decode cX12_members 55 = .ok (.ldc2_w 183, 3) := by decide +kernel
theorem dX12_members_58 : decode cX12_members 58 = .ok (.invokevirtual 146, 3) := by decide +kernel
theorem dX12_members_61 : decode cX12_members 61 = .ok (.pop, 1) := by decide +kernel
theorem dX12_members_62 : decode cX12_members 62 = .ok (.aload_n 0, 1) := by decide +kernel
theorem dX12_members_63 : decode cX12_members 63 = .ok (.aload_n 0, 1) := by decide +kernel
theorem dX12_members_64 : decode cX12_members 64 = .ok (.getfield 161, 3) := by decide +kernel
theorem dX12_members_67 : decode cX12_members 67 = .ok (.invokevirtual 173, 3) := by decide +kernel
theorem dX12_members_70 : decode cX12_members 70 = .ok (.aload_n 0, 1) := by decide +kernel
theorem dX12_members_71 : decode cX12_members 71 = .ok (.dup, 1) := by decide +kernel
theorem dX12_members_72 : decode cX12_members 72 = .ok (.getfield 161, 3) := by decide +kernel
theorem dX12_members_75 : decode cX12_members 75 = .ok (.iconst 1, 1) := by decide +kernel
theorem dX12_members_76 : decode cX12_members 76 = .ok (.iadd, 1) := by decide +kernel
theorem dX12_members_77 : decode cX12_members 77 = .ok (.putfield 161, 3) := by decide +kernel
theorem dX12_members_80 : decode cX12_members 80 = .ok (.iinc 3 1, 3) := by decide +kernel
theorem dX12_members_83 : decode cX12_members 83 = .ok (.goto (-50), 3) := by decide +kernel
theorem dX12_members_86 : decode cX12_members 86 = .ok (.return_, 1) := by decide +kernel
theorem dX12_attributesOf_0 : decode cX12_attributesOf 0 = .ok (.aload_n 0, 1) := by decide +kernel
theorem dX12_attributesOf_1 : decode cX12_attributesOf 1 = .ok (.aload_n 0, 1) := by decide +kernel
theorem dX12_attributesOf_2 : decode cX12_attributesOf 2 = .ok (.ldc2_w 144, 3) := by decide +kernel
theorem dX12_attributesOf_5 : decode cX12_attributesOf 5 = .ok (.invokevirtual 146, 3) := by decide +kernel
theorem dX12_attributesOf_8 : decode cX12_attributesOf 8 = .ok (.invokevirtual 128, 3) := by decide +kernel
theorem dX12_attributesOf_11 : decode cX12_attributesOf 11 = .ok (.istore_n 2, 1) := by decide +kernel
theorem dX12_attributesOf_12 : decode cX12_attributesOf 12 = .ok (.iconst 0, 1) := by decide +kernel
theorem dX12_attributesOf_13 : decode cX12_attributesOf 13 = .ok (.istore_n 3, 1) := by decide +kernel
theorem dX12_attributesOf_14 : decode cX12_attributesOf 14 = .ok (.iload_n 3, 1) := by decide +kernel
theorem dX12_attributesOf_15 : decode cX12_attributesOf 15 = .ok (.iload_n 2, 1) := by decide +kernel
theorem dX12_attributesOf_16 : decode cX12_attributesOf 16 = .ok (.if_icmp .ge 74, 3) := by decide +kernel
theorem dX12_attributesOf_19 : decode cX12_attributesOf 19 = .ok (.aload_n 0, 1) := by decide +kernel
theorem dX12_attributesOf_20 : decode cX12_attributesOf 20 = .ok (.ldc2_w 144, 3) := by decide +kernel
theorem dX12_attributesOf_23 : decode cX12_attributesOf 23 = .ok (.invokevirtual 146, 3) := by decide +kernel
theorem dX12_attributesOf_26 : decode cX12_attributesOf 26 = .ok (.istore 4, 2) := by decide +kernel
theorem dX12_attributesOf_28 : decode cX12_attributesOf 28 = .ok (.aload_n 0, 1) := by decide +kernel
theorem dX12_attributesOf_29 : decode cX12_attributesOf 29 = .ok (.ldc2_w 183, 3) := by decide +kernel
theorem dX12_attributesOf_32 : decode cX12_attributesOf 32 = .ok (.invokevirtual 146, 3) := by decide +kernel
theorem dX12_attributesOf_35 : decode cX12_attributesOf 35 = .ok (.istore 5, 2) := by decide +kernel
theorem dX12_attributesOf_37 : decode cX12_attributesOf 37 = .ok (.aload_n 0, 1) := by decide +kernel
theorem dX12_attributesOf_38 : decode cX12_attributesOf 38 = .ok (.aload_n 0, 1) := by decide +kernel
theorem dX12_attributesOf_39 : decode cX12_attributesOf 39 = .ok (.iload 5, 2) := by decide +kernel
theorem dX12_attributesOf_41 : decode cX12_attributesOf 41 = .ok (.invokevirtual 185, 3) := by decide +kernel
theorem dX12_attributesOf_44 : decode cX12_attributesOf 44 = .ok (.i2l, 1) := by decide +kernel
theorem dX12_attributesOf_45 : decode cX12_attributesOf 45 = .ok (.ldc2_w 190, 3) := by decide +kernel
theorem dX12_attributesOf_48 : decode cX12_attributesOf 48 = .ok (.land, 1) := by decide +kernel
theorem dX12_attributesOf_49 : decode cX12_attributesOf 49 = .ok (.invokevirtual 146, 3) := by decide +kernel
theorem dX12_attributesOf_52 : decode cX12_attributesOf 52 = .ok (.pop, 1) := by decide +kernel
theorem dX12_attributesOf_53 : decode cX12_attributesOf 53 = .ok (.aload_n 0, 1) := by decide +kernel
theorem dX12_attributesOf_54 : decode cX12_attributesOf 54 = .ok (.getfield 44, 3) := by decide +kernel
theorem dX12_attributesOf_57 : decode cX12_attributesOf 57 = .ok (.aload_n 0, 1) := by decide +kernel
theorem dX12_attributesOf_58 : decode cX12_attributesOf 58 = .ok (.getfield 164, 3) := by decide +kernel
theorem dX12_attributesOf_61 : decode cX12_attributesOf 61 = .ok (.iload 4, 2) := by decide +kernel
theorem dX12_attributesOf_63 : decode cX12_attributesOf 63 = .ok (.iastore, 1) := by decide +kernel
theorem dX12_attributesOf_64 : decode cX12_attributesOf 64 = .ok (.aload_n 0, 1) := by decide +kernel
theorem dX12_attributesOf_65 : decode cX12_attributesOf 65 = .ok (.getfield 47, 3) := by decide +kernel
theorem dX12_attributesOf_68 : decode cX12_attributesOf 68 = .ok (.aload_n 0, 1) := by decide +kernel
theorem dX12_attributesOf_69 : decode cX12_attributesOf 69 = .ok (.getfield 164, 3) := by decide +kernel
theorem dX12_attributesOf_72 : decode cX12_attributesOf 72 = .ok (.iload_n 1, 1) := by decide +kernel
theorem dX12_attributesOf_73 : decode cX12_attributesOf 73 = .ok (.iastore, 1) := by decide +kernel
theorem dX12_attributesOf_74 : decode cX12_attributesOf 74 = .ok (.aload_n 0, 1) := by decide +kernel
theorem dX12_attributesOf_75 : decode cX12_attributesOf 75 = .ok (.dup, 1) := by decide +kernel
theorem dX12_attributesOf_76 : decode cX12_attributesOf 76 = .ok (.getfield 164, 3) := by decide +kernel
theorem dX12_attributesOf_79 : decode cX12_attributesOf 79 = .ok (.iconst 1, 1) := by decide +kernel
theorem dX12_attributesOf_80 : decode cX12_attributesOf 80 = .ok (.iadd, 1) := by decide +kernel
theorem dX12_attributesOf_81 : decode cX12_attributesOf 81 = .ok (.putfield 164, 3) := by decide +kernel
theorem dX12_attributesOf_84 : decode cX12_attributesOf 84 = .ok (.iinc 3 1, 3) := by decide +kernel
theorem dX12_attributesOf_87 : decode cX12_attributesOf 87 = .ok (.goto (-73), 3) := by decide +kernel
theorem dX12_attributesOf_90 : decode cX12_attributesOf 90 = .ok (.return_, 1) := by decide +kernel
theorem dX12_isEntry_0 : decode cX12_isEntry 0 = .ok (.iload_n 1, 1) := by decide +kernel
theorem dX12_isEntry_1 : decode cX12_isEntry 1 = .ok (.iconst 1, 1) := by decide +kernel
theorem dX12_isEntry_2 : decode cX12_isEntry 2 = .ok (.if_icmp .lt 25, 3) := by decide +kernel
theorem dX12_isEntry_5 : decode cX12_isEntry 5 = .ok (.iload_n 1, 1) := by decide +kernel
theorem dX12_isEntry_6 : decode cX12_isEntry 6 = .ok (.aload_n 0, 1) := by decide +kernel
theorem dX12_isEntry_7 : decode cX12_isEntry 7 = .ok (.getfield 150, 3) := by decide +kernel
theorem dX12_isEntry_10 : decode cX12_isEntry 10 = .ok (.if_icmp .ge 17, 3) := by decide +kernel
theorem dX12_isEntry_13 : decode cX12_isEntry 13 = .ok (.aload_n 0, 1) := by decide +kernel
theorem dX12_isEntry_14 : decode cX12_isEntry 14 = .ok (.getfield 24, 3) := by decide +kernel
theorem dX12_isEntry_17 : decode cX12_isEntry 17 = .ok (.iload_n 1, 1) := by decide +kernel
theorem dX12_isEntry_18 : decode cX12_isEntry 18 = .ok (.iaload, 1) := by decide +kernel
theorem dX12_isEntry_19 : decode cX12_isEntry 19 = .ok (.iload_n 2, 1) := by decide +kernel
theorem dX12_isEntry_20 : decode cX12_isEntry 20 = .ok (.if_icmp .ne 7, 3) := by decide +kernel
theorem dX12_isEntry_23 : decode cX12_isEntry 23 = .ok (.iconst 1, 1) := by decide +kernel
theorem dX12_isEntry_24 : decode cX12_isEntry 24 = .ok (.goto 4, 3) := by decide +kernel
theorem dX12_isEntry_27 : decode cX12_isEntry 27 = .ok (.iconst 0, 1) := by decide +kernel
theorem dX12_isEntry_28 : decode cX12_isEntry 28 = .ok (.ireturn, 1) := by decide +kernel
theorem dX12_entries_0 : decode cX12_entries 0 = .ok (.iconst 1, 1) := by decide +kernel
theorem dX12_entries_1 : decode cX12_entries 1 = .ok (.istore_n 1, 1) := by decide +kernel
theorem dX12_entries_2 : decode cX12_entries 2 = .ok (.iload_n 1, 1) := by decide +kernel
theorem dX12_entries_3 : decode cX12_entries 3 = .ok (.aload_n 0, 1) := by decide +kernel
theorem dX12_entries_4 : decode cX12_entries 4 = .ok (.getfield 150, 3) := by decide +kernel
theorem dX12_entries_7 : decode cX12_entries 7 = .ok (.if_icmp .ge 144, 3) := by decide +kernel
theorem dX12_entries_10 : decode cX12_entries 10 = .ok (.aload_n 0, 1) := by decide +kernel
theorem dX12_entries_11 : decode cX12_entries 11 = .ok (.getfield 31, 3) := by decide +kernel
theorem dX12_entries_14 : decode cX12_entries 14 = .ok (.iload_n 1, 1) := by decide +kernel
theorem dX12_entries_15 : decode cX12_entries 15 = .ok (.iaload, 1) := by decide +kernel
theorem dX12_entries_16 : decode cX12_entries 16 = .ok (.istore_n 2, 1) := by decide +kernel
theorem dX12_entries_17 : decode cX12_entries 17 = .ok (.aload_n 0, 1) := by decide +kernel
theorem dX12_entries_18 : decode cX12_entries 18 = .ok (.getfield 34, 3) := by decide +kernel
theorem dX12_entries_21 : decode cX12_entries 21 = .ok (.iload_n 1, 1) := by decide +kernel
theorem dX12_entries_22 : decode cX12_entries 22 = .ok (.iaload, 1) := by decide +kernel
theorem dX12_entries_23 : decode cX12_entries 23 = .ok (.istore_n 3, 1) := by decide +kernel
theorem dX12_entries_24 : decode cX12_entries 24 = .ok (.iconst 1, 1) := by decide +kernel
theorem dX12_entries_25 : decode cX12_entries 25 = .ok (.istore 4, 2) := by decide +kernel
theorem dX12_entries_27 : decode cX12_entries 27 = .ok (.aload_n 0, 1) := by decide +kernel
theorem dX12_entries_28 : decode cX12_entries 28 = .ok (.getfield 24, 3) := by decide +kernel
theorem dX12_entries_31 : decode cX12_entries 31 = .ok (.iload_n 1, 1) := by decide +kernel
theorem dX12_entries_32 : decode cX12_entries 32 = .ok (.iaload, 1) := by decide +kernel
theorem dX12_entries_33 : decode cX12_entries 33 = .ok (.bipush 7, 2) := by decide +kernel
theorem dX12_entries_35 : decode cX12_entries 35 = .ok (.if_icmp .ne 11, 3) := by decide +kernel
theorem dX12_entries_38 : decode cX12_entries 38 = .ok (.aload_n 0, 1) := by decide +kernel
theorem dX12_entries_39 : decode cX12_entries 39 = .ok (.iload_n 2, 1) := by decide +kernel
theorem dX12_entries_40 : decode cX12_entries 40 = .ok (.iconst 1, 1) := by decide +kernel
theorem dX12_entries_41 : decode cX12_entries 41 = .ok (.invokevirtual 192, 3) := by decide +kernel
theorem dX12_entries_44 : decode cX12_entries 44 = .ok (.istore 4, 2) := by decide +kernel
theorem dX12_entries_46 : decode cX12_entries 46 = .ok (.aload_n 0, 1) := by decide +kernel
theorem dX12_entries_47 : decode cX12_entries 47 = .ok (.getfield 24, 3) := by decide +kernel
theorem dX12_entries_50 : decode cX12_entries 50 = .ok (.iload_n 1, 1) := by decide +kernel
theorem dX12_entries_51 : decode cX12_entries 51 = .ok (.iaload, 1) := by decide +kernel
theorem dX12_entries_52 : decode cX12_entries 52 = .ok (.bipush 12, 2) := by decide +kernel
theorem dX12_entries_54 : decode cX12_entries 54 = .ok (.if_icmp .ne 28, 3) := by decide +kernel
theorem dX12_entries_57 : decode cX12_entries 57 = .ok (.aload_n 0, 1) := by decide +kernel
theorem dX12_entries_58 : decode cX12_entries 58 = .ok (.iload_n 2, 1) := by decide +kernel
theorem dX12_entries_59 : decode cX12_entries 59 = .ok (.iconst 1, 1) := by decide +kernel
theorem dX12_entries_60 : decode cX12_entries 60 = .ok (.invokevirtual 192, 3) := by decide +kernel
theorem dX12_entries_63 : decode cX12_entries 63 = .ok (.ifCond .eq 16, 3) := by decide +kernel
theorem dX12_entries_66 : decode cX12_entries 66 = .ok (.aload_n 0, 1) := by decide +kernel
theorem dX12_entries_67 : decode cX12_entries 67 = .ok (.iload_n 3, 1) := by decide +kernel
theorem dX12_entries_68 : decode cX12_entries 68 = .ok (.iconst 1, 1) := by decide +kernel
theorem dX12_entries_69 : decode cX12_entries 69 = .ok (.invokevirtual 192, 3) := by decide +kernel
theorem dX12_entries_72 : decode cX12_entries 72 = .ok (.ifCond .eq 7, 3) := by decide +kernel
theorem dX12_entries_75 : decode cX12_entries 75 = .ok (.iconst 1, 1) := by decide +kernel
theorem dX12_entries_76 : decode cX12_entries 76 = .ok (.goto 4, 3) := by decide +kernel
theorem dX12_entries_79 : decode cX12_entries 79 = .ok (.iconst 0, 1) := by decide +kernel
theorem dX12_entries_80 : decode cX12_entries 80 = .ok (.istore 4, 2) := by decide +kernel
theorem dX12_entries_82 : decode cX12_entries 82 = .ok (.aload_n 0, 1) := by decide +kernel
theorem dX12_entries_83 : decode cX12_entries 83 = .ok (.getfield 24, 3) := by decide +kernel
theorem dX12_entries_86 : decode cX12_entries 86 = .ok (.iload_n 1, 1) := by decide +kernel
theorem dX12_entries_87 : decode cX12_entries 87 = .ok (.iaload, 1) := by decide +kernel
theorem dX12_entries_88 : decode cX12_entries 88 = .ok (.bipush 9, 2) := by decide +kernel
theorem dX12_entries_90 : decode cX12_entries 90 = .ok (.if_icmp .eq 14, 3) := by decide +kernel
theorem dX12_entries_93 : decode cX12_entries 93 = .ok (.aload_n 0, 1) := by decide +kernel
theorem dX12_entries_94 : decode cX12_entries 94 = .ok (.getfield 24, 3) := by decide +kernel
theorem dX12_entries_97 : decode cX12_entries 97 = .ok (.iload_n 1, 1) := by decide +kernel
theorem dX12_entries_98 : decode cX12_entries 98 = .ok (.iaload, 1) := by decide +kernel
theorem dX12_entries_99 : decode cX12_entries 99 = .ok (.bipush 10, 2) := by decide +kernel
theorem dX12_entries_101 : decode cX12_entries 101 = .ok (.if_icmp .ne 30, 3) := by decide +kernel
theorem dX12_entries_104 : decode cX12_entries 104 = .ok (.aload_n 0, 1) := by decide +kernel
theorem dX12_entries_105 : decode cX12_entries 105 = .ok (.iload_n 2, 1) := by decide +kernel
theorem dX12_entries_106 : decode cX12_entries 106 = .ok (.bipush 7, 2) := by decide +kernel
theorem dX12_entries_108 : decode cX12_entries 108 = .ok (.invokevirtual 192, 3) := by decide +kernel
theorem dX12_entries_111 : decode cX12_entries 111 = .ok (.ifCond .eq 17, 3) := by decide +kernel
theorem dX12_entries_114 : decode cX12_entries 114 = .ok (.aload_n 0, 1) := by decide +kernel
theorem dX12_entries_115 : decode cX12_entries 115 = .ok (.iload_n 3, 1) := by decide +kernel
theorem dX12_entries_116 : decode cX12_entries 116 = .ok (.bipush 12, 2) := by decide +kernel
theorem dX12_entries_118 : decode cX12_entries 118 = .ok (.invokevirtual 192, 3) := by decide +kernel
theorem dX12_entries_121 : decode cX12_entries 121 = .ok (.ifCond .eq 7, 3) := by decide +kernel
theorem dX12_entries_124 : decode cX12_entries 124 = .ok (.iconst 1, 1) := by decide +kernel
theorem dX12_entries_125 : decode cX12_entries 125 = .ok (.goto 4, 3) := by decide +kernel
theorem dX12_entries_128 : decode cX12_entries 128 = .ok (.iconst 0, 1) := by decide +kernel
theorem dX12_entries_129 : decode cX12_entries 129 = .ok (.istore 4, 2) := by decide +kernel
theorem dX12_entries_131 : decode cX12_entries 131 = .ok (.aload_n 0, 1) := by decide +kernel
theorem dX12_entries_132 : decode cX12_entries 132 = .ok (.iload 4, 2) := by decide +kernel
theorem dX12_entries_134 : decode cX12_entries 134 = .ok (.bipush 6, 2) := by decide +kernel
theorem dX12_entries_136 : decode cX12_entries 136 = .ok (.aload_n 0, 1) := by decide +kernel
theorem dX12_entries_137 : decode cX12_entries 137 = .ok (.getfield 28, 3) := by decide +kernel
theorem dX12_entries_140 : decode cX12_entries 140 = .ok (.iload_n 1, 1) := by decide +kernel
theorem dX12_entries_141 : decode cX12_entries 141 = .ok (.iaload, 1) := by decide +kernel
theorem dX12_entries_142 : decode cX12_entries 142 = .ok (.invokevirtual 137, 3) := by decide +kernel
theorem dX12_entries_145 : decode cX12_entries 145 = .ok (.iinc 1 1, 3) := by decide +kernel
theorem dX12_entries_148 : decode cX12_entries 148 = .ok (.goto (-146), 3) := by decide +kernel
theorem dX12_entries_151 : decode cX12_entries 151 = .ok (.return_, 1) := by decide +kernel
theorem dX12_flags_0 : decode cX12_flags 0 = .ok (.aload_n 0, 1) := by decide +kernel
theorem dX12_flags_1 : decode cX12_flags 1 = .ok (.aload_n 0, 1) := by decide +kernel
theorem dX12_flags_2 : decode cX12_flags 2 = .ok (.aload_n 0, 1) := by decide +kernel
theorem dX12_flags_3 : decode cX12_flags 3 = .ok (.getfield 156, 3) := by decide +kernel
theorem dX12_flags_6 : decode cX12_flags 6 = .ok (.invokevirtual 128, 3) := by decide +kernel
theorem dX12_flags_9 : decode cX12_flags 9 = .ok (.bipush 33, 2) := by decide +kernel
theorem dX12_flags_11 : decode cX12_flags 11 = .ok (.if_icmp .ne 7, 3) := by decide +kernel
theorem dX12_flags_14 : decode cX12_flags 14 = .ok (.iconst 1, 1) := by decide +kernel
theorem dX12_flags_15 : decode cX12_flags 15 = .ok (.goto 4, 3) := by decide +kernel
theorem dX12_flags_18 : decode cX12_flags 18 = .ok (.iconst 0, 1) := by decide +kernel
theorem dX12_flags_19 : decode cX12_flags 19 = .ok (.bipush 7, 2) := by decide +kernel
theorem dX12_flags_21 : decode cX12_flags 21 = .ok (.aload_n 0, 1) := by decide +kernel
theorem dX12_flags_22 : decode cX12_flags 22 = .ok (.getfield 156, 3) := by decide +kernel
theorem dX12_flags_25 : decode cX12_flags 25 = .ok (.invokevirtual 137, 3) := by decide +kernel
theorem dX12_flags_28 : decode cX12_flags 28 = .ok (.iconst 0, 1) := by decide +kernel
theorem dX12_flags_29 : decode cX12_flags 29 = .ok (.istore_n 1, 1) := by decide +kernel
theorem dX12_flags_30 : decode cX12_flags 30 = .ok (.iload_n 1, 1) := by decide +kernel
theorem dX12_flags_31 : decode cX12_flags 31 = .ok (.aload_n 0, 1) := by decide +kernel
theorem dX12_flags_32 : decode cX12_flags 32 = .ok (.getfield 161, 3) := by decide +kernel
theorem dX12_flags_35 : decode cX12_flags 35 = .ok (.if_icmp .ge 41, 3) := by decide +kernel
theorem dX12_flags_38 : decode cX12_flags 38 = .ok (.aload_n 0, 1) := by decide +kernel
theorem dX12_flags_39 : decode cX12_flags 39 = .ok (.aload_n 0, 1) := by decide +kernel
theorem dX12_flags_40 : decode cX12_flags 40 = .ok (.aload_n 0, 1) := by decide +kernel
theorem dX12_flags_41 : decode cX12_flags 41 = .ok (.getfield 41, 3) := by decide +kernel
theorem dX12_flags_44 : decode cX12_flags 44 = .ok (.iload_n 1, 1) := by decide +kernel
theorem dX12_flags_45 : decode cX12_flags 45 = .ok (.iaload, 1) := by decide +kernel
theorem dX12_flags_46 : decode cX12_flags 46 = .ok (.invokevirtual 128, 3) := by decide +kernel
theorem dX12_flags_49 : decode cX12_flags 49 = .ok (.bipush 9, 2) := by decide +kernel
theorem dX12_flags_51 : decode cX12_flags 51 = .ok (.if_icmp .ne 7, 3) := by decide +kernel
theorem dX12_flags_54 : decode cX12_flags 54 = .ok (.iconst 1, 1) := by decide +kernel
theorem dX12_flags_55 : decode cX12_flags 55 = .ok (.goto 4, 3) := by decide +kernel
theorem dX12_flags_58 : decode cX12_flags 58 = .ok (.iconst 0, 1) := by decide +kernel
theorem dX12_flags_59 : decode cX12_flags 59 = .ok (.bipush 7, 2) := by decide +kernel
theorem dX12_flags_61 : decode cX12_flags 61 = .ok (.aload_n 0, 1) := by decide +kernel
theorem dX12_flags_62 : decode cX12_flags 62 = .ok (.getfield 41, 3) := by decide +kernel
theorem dX12_flags_65 : decode cX12_flags 65 = .ok (.iload_n 1, 1) := by decide +kernel
theorem dX12_flags_66 : decode cX12_flags 66 = .ok (.iaload, 1) := by decide +kernel
theorem dX12_flags_67 : decode cX12_flags 67 = .ok (.invokevirtual 137, 3) := by decide +kernel
theorem dX12_flags_70 : decode cX12_flags 70 = .ok (.iinc 1 1, 3) := by decide +kernel
theorem dX12_flags_73 : decode cX12_flags 73 = .ok (.goto (-43), 3) := by decide +kernel
theorem dX12_flags_76 : decode cX12_flags 76 = .ok (.return_, 1) := by decide +kernel
theorem dX12_classes_0 : decode cX12_classes 0 = .ok (.aload_n 0, 1) := by decide +kernel
theorem dX12_classes_1 : decode cX12_classes 1 = .ok (.aload_n 0, 1) := by decide +kernel
theorem dX12_classes_2 : decode cX12_classes 2 = .ok (.aload_n 0, 1) := by decide +kernel
theorem dX12_classes_3 : decode cX12_classes 3 = .ok (.aload_n 0, 1) := by decide +kernel
theorem dX12_classes_4 : decode cX12_classes 4 = .ok (.getfield 156, 3) := by decide +kernel
theorem dX12_classes_7 : decode cX12_classes 7 = .ok (.iconst 2, 1) := by decide +kernel
theorem dX12_classes_8 : decode cX12_classes 8 = .ok (.iadd, 1) := by decide +kernel
theorem dX12_classes_9 : decode cX12_classes 9 = .ok (.invokevirtual 128, 3) := by decide +kernel
theorem dX12_classes_12 : decode cX12_classes 12 = .ok (.bipush 7, 2) := by decide +kernel
theorem dX12_classes_14 : decode cX12_classes 14 = .ok (.invokevirtual 192, 3) := by decide +kernel
theorem dX12_classes_17 : decode cX12_classes 17 = .ok (.bipush 8, 2) := by decide +kernel
theorem dX12_classes_19 : decode cX12_classes 19 = .ok (.aload_n 0, 1) := by decide +kernel
theorem dX12_classes_20 : decode cX12_classes 20 = .ok (.getfield 156, 3) := by decide +kernel
theorem dX12_classes_23 : decode cX12_classes 23 = .ok (.iconst 2, 1) := by decide +kernel
theorem dX12_classes_24 : decode cX12_classes 24 = .ok (.iadd, 1) := by decide +kernel
theorem dX12_classes_25 : decode cX12_classes 25 = .ok (.invokevirtual 137, 3) := by decide +kernel
theorem dX12_classes_28 : decode cX12_classes 28 = .ok (.aload_n 0, 1) := by decide +kernel
theorem dX12_classes_29 : decode cX12_classes 29 = .ok (.aload_n 0, 1) := by decide +kernel
theorem dX12_classes_30 : decode cX12_classes 30 = .ok (.aload_n 0, 1) := by decide +kernel
theorem dX12_classes_31 : decode cX12_classes 31 = .ok (.aload_n 0, 1) := by decide +kernel
theorem dX12_classes_32 : decode cX12_classes 32 = .ok (.getfield 156, 3) := by decide +kernel
theorem dX12_classes_35 : decode cX12_classes 35 = .ok (.iconst 4, 1) := by decide +kernel
theorem dX12_classes_36 : decode cX12_classes 36 = .ok (.iadd, 1) := by decide +kernel
theorem dX12_classes_37 : decode cX12_classes 37 = .ok (.invokevirtual 128, 3) := by decide +kernel
theorem dX12_classes_40 : decode cX12_classes 40 = .ok (.bipush 7, 2) := by decide +kernel
theorem dX12_classes_42 : decode cX12_classes 42 = .ok (.invokevirtual 192, 3) := by decide +kernel
theorem dX12_classes_45 : decode cX12_classes 45 = .ok (.bipush 8, 2) := by decide +kernel
theorem dX12_classes_47 : decode cX12_classes 47 = .ok (.aload_n 0, 1) := by decide +kernel
theorem dX12_classes_48 : decode cX12_classes 48 = .ok (.getfield 156, 3) := by decide +kernel
theorem dX12_classes_51 : decode cX12_classes 51 = .ok (.iconst 4, 1) := by decide +kernel
theorem dX12_classes_52 : decode cX12_classes 52 = .ok (.iadd, 1) := by decide +kernel
theorem dX12_classes_53 : decode cX12_classes 53 = .ok (.invokevirtual 137, 3) := by decide +kernel
theorem dX12_classes_56 : decode cX12_classes 56 = .ok (.aload_n 0, 1) := by decide +kernel
theorem dX12_classes_57 : decode cX12_classes 57 = .ok (.aload_n 0, 1) := by decide +kernel
theorem dX12_classes_58 : decode cX12_classes 58 = .ok (.aload_n 0, 1) := by decide +kernel
theorem dX12_classes_59 : decode cX12_classes 59 = .ok (.getfield 156, 3) := by decide +kernel
theorem dX12_classes_62 : decode cX12_classes 62 = .ok (.bipush 6, 2) := by decide +kernel
theorem dX12_classes_64 : decode cX12_classes 64 = .ok (.iadd, 1) := by decide +kernel
theorem dX12_classes_65 : decode cX12_classes 65 = .ok (.invokevirtual 128, 3) := by decide +kernel
theorem dX12_classes_68 : decode cX12_classes 68 = .ok (.ifCond .ne 7, 3) := by decide +kernel
theorem dX12_classes_71 : decode cX12_classes 71 = .ok (.iconst 1, 1) := by decide +kernel
theorem dX12_classes_72 : decode cX12_classes 72 = .ok (.goto 4, 3) := by decide +kernel
theorem dX12_classes_75 : decode cX12_classes 75 = .ok (.iconst 0, 1) := by decide +kernel
theorem dX12_classes_76 : decode cX12_classes 76 = .ok (.bipush 8, 2) := by decide +kernel
theorem dX12_classes_78 : decode cX12_classes 78 = .ok (.aload_n 0, 1) := by decide +kernel
theorem dX12_classes_79 : decode cX12_classes 79 = .ok (.getfield 156, 3) := by decide +kernel
theorem dX12_classes_82 : decode cX12_classes 82 = .ok (.bipush 6, 2) := by decide +kernel
theorem dX12_classes_84 : decode cX12_classes 84 = .ok (.iadd, 1) := by decide +kernel
theorem dX12_classes_85 : decode cX12_classes 85 = .ok (.invokevirtual 137, 3) := by decide +kernel
theorem dX12_classes_88 : decode cX12_classes 88 = .ok (.return_, 1) := by decide +kernel
theorem dX12_mustName_0 : decode cX12_mustName 0 = .ok (.aload_n 0, 1) := by decide +kernel
theorem dX12_mustName_1 : decode cX12_mustName 1 = .ok (.aload_n 0, 1) := by decide +kernel
theorem dX12_mustName_2 : decode cX12_mustName 2 = .ok (.aload_n 0, 1) := by decide +kernel
theorem dX12_mustName_3 : decode cX12_mustName 3 = .ok (.iload_n 1, 1) := by decide +kernel
theorem dX12_mustName_4 : decode cX12_mustName 4 = .ok (.invokevirtual 128, 3) := by decide +kernel
theorem dX12_mustName_7 : decode cX12_mustName 7 = .ok (.iconst 1, 1) := by decide +kernel
theorem dX12_mustName_8 : decode cX12_mustName 8 = .ok (.invokevirtual 192, 3) := by decide +kernel
theorem dX12_mustName_11 : decode cX12_mustName 11 = .ok (.bipush 9, 2) := by decide +kernel
theorem dX12_mustName_13 : decode cX12_mustName 13 = .ok (.iload_n 1, 1) := by decide +kernel
theorem dX12_mustName_14 : decode cX12_mustName 14 = .ok (.invokevirtual 137, 3) := by decide +kernel
theorem dX12_mustName_17 : decode cX12_mustName 17 = .ok (.return_, 1) := by decide +kernel
theorem dX12_names_0 : decode cX12_names 0 = .ok (.iconst 0, 1) := by decide +kernel
theorem dX12_names_1 : decode cX12_names 1 = .ok (.istore_n 1, 1) := by decide +kernel
theorem dX12_names_2 : decode cX12_names 2 = .ok (.iconst 0, 1) := by decide +kernel
theorem dX12_names_3 : decode cX12_names 3 = .ok (.istore_n 2, 1) := by decide +kernel
theorem dX12_names_4 : decode cX12_names 4 = .ok (.iload_n 2, 1) := by decide +kernel
theorem dX12_names_5 : decode cX12_names 5 = .ok (.aload_n 0, 1) := by decide +kernel
theorem dX12_names_6 : decode cX12_names 6 = .ok (.getfield 161, 3) := by decide +kernel
theorem dX12_names_9 : decode cX12_names 9 = .ok (.if_icmp .ge 67, 3) := by decide +kernel
theorem dX12_names_12 : decode cX12_names 12 = .ok (.aload_n 0, 1) := by decide +kernel
theorem dX12_names_13 : decode cX12_names 13 = .ok (.aload_n 0, 1) := by decide +kernel
theorem dX12_names_14 : decode cX12_names 14 = .ok (.getfield 41, 3) := by decide +kernel
theorem dX12_names_17 : decode cX12_names 17 = .ok (.iload_n 2, 1) := by decide +kernel
theorem dX12_names_18 : decode cX12_names 18 = .ok (.iaload, 1) := by decide +kernel
theorem dX12_names_19 : decode cX12_names 19 = .ok (.iconst 2, 1) := by decide +kernel
theorem dX12_names_20 : decode cX12_names 20 = .ok (.iadd, 1) := by decide +kernel
theorem dX12_names_21 : decode cX12_names 21 = .ok (.invokevirtual 196, 3) := by decide +kernel
theorem dX12_names_24 : decode cX12_names 24 = .ok (.aload_n 0, 1) := by decide +kernel
theorem dX12_names_25 : decode cX12_names 25 = .ok (.aload_n 0, 1) := by decide +kernel
theorem dX12_names_26 : decode cX12_names 26 = .ok (.getfield 41, 3) := by decide +kernel
theorem dX12_names_29 : decode cX12_names 29 = .ok (.iload_n 2, 1) := by decide +kernel
theorem dX12_names_30 : decode cX12_names 30 = .ok (.iaload, 1) := by decide +kernel
theorem dX12_names_31 : decode cX12_names 31 = .ok (.iconst 4, 1) := by decide +kernel
theorem dX12_names_32 : decode cX12_names 32 = .ok (.iadd, 1) := by decide +kernel
theorem dX12_names_33 : decode cX12_names 33 = .ok (.invokevirtual 196, 3) := by decide +kernel
theorem dX12_names_36 : decode cX12_names 36 = .ok (.iload_n 1, 1) := by decide +kernel
theorem dX12_names_37 : decode cX12_names 37 = .ok (.aload_n 0, 1) := by decide +kernel
theorem dX12_names_38 : decode cX12_names 38 = .ok (.getfield 164, 3) := by decide +kernel
theorem dX12_names_41 : decode cX12_names 41 = .ok (.if_icmp .ge 29, 3) := by decide +kernel
theorem dX12_names_44 : decode cX12_names 44 = .ok (.aload_n 0, 1) := by decide +kernel
theorem dX12_names_45 : decode cX12_names 45 = .ok (.getfield 47, 3) := by decide +kernel
theorem dX12_names_48 : decode cX12_names 48 = .ok (.iload_n 1, 1) := by decide +kernel
theorem dX12_names_49 : decode cX12_names 49 = .ok (.iaload, 1) := by decide +kernel
theorem dX12_names_50 : decode cX12_names 50 = .ok (.iload_n 2, 1) := by decide +kernel
theorem dX12_names_51 : decode cX12_names 51 = .ok (.if_icmp .ne 19, 3) := by decide +kernel
theorem dX12_names_54 : decode cX12_names 54 = .ok (.aload_n 0, 1) := by decide +kernel
theorem dX12_names_55 : decode cX12_names 55 = .ok (.aload_n 0, 1) := by decide +kernel
theorem dX12_names_56 : decode cX12_names 56 = .ok (.getfield 44, 3) := by decide +kernel
theorem dX12_names_59 : decode cX12_names 59 = .ok (.iload_n 1, 1) := by decide +kernel
theorem dX12_names_60 : decode cX12_names 60 = .ok (.iaload, 1) := by decide +kernel
theorem dX12_names_61 : decode cX12_names 61 = .ok (.invokevirtual 196, 3) := by decide +kernel
theorem dX12_names_64 : decode cX12_names 64 = .ok (.iinc 1 1, 3) := by decide +kernel
theorem dX12_names_67 : decode cX12_names 67 = .ok (.goto (-31), 3) := by decide +kernel
theorem dX12_names_70 : decode cX12_names 70 = .ok (.iinc 2 1, 3) := by decide +kernel
theorem dX12_names_73 : decode cX12_names 73 = .ok (.goto (-69), 3) := by decide +kernel
theorem dX12_names_76 : decode cX12_names 76 = .ok (.iload_n 1, 1) := by decide +kernel
theorem dX12_names_77 : decode cX12_names 77 = .ok (.aload_n 0, 1) := by decide +kernel
theorem dX12_names_78 : decode cX12_names 78 = .ok (.getfield 164, 3) := by decide +kernel
theorem dX12_names_81 : decode cX12_names 81 = .ok (.if_icmp .ge 19, 3) := by decide +kernel
theorem dX12_names_84 : decode cX12_names 84 = .ok (.aload_n 0, 1) := by decide +kernel
theorem dX12_names_85 : decode cX12_names 85 = .ok (.aload_n 0, 1) := by decide +kernel
theorem dX12_names_86 : decode cX12_names 86 = .ok (.getfield 44, 3) := by decide +kernel
theorem dX12_names_89 : decode cX12_names 89 = .ok (.iload_n 1, 1) := by decide +kernel
theorem dX12_names_90 : decode cX12_names 90 = .ok (.iaload, 1) := by decide +kernel
theorem dX12_names_91 : decode cX12_names 91 = .ok (.invokevirtual 196, 3) := by decide +kernel
theorem dX12_names_94 : decode cX12_names 94 = .ok (.iinc 1 1, 3) := by decide +kernel
theorem dX12_names_97 : decode cX12_names 97 = .ok (.goto (-21), 3) := by decide +kernel
theorem dX12_names_100 : decode cX12_names 100 = .ok (.return_, 1) := by decide +kernel
theorem dX12_letter_0 : decode cX12_letter 0 = .ok (.iload_n 2, 1) := by decide +kernel
theorem dX12_letter_1 : decode cX12_letter 1 = .ok (.aload_n 0, 1) := by decide +kernel
theorem dX12_letter_2 : decode cX12_letter 2 = .ok (.getfield 34, 3) := by decide +kernel
theorem dX12_letter_5 : decode cX12_letter 5 = .ok (.iload_n 1, 1) := by decide +kernel
theorem dX12_letter_6 : decode cX12_letter 6 = .ok (.iaload, 1) := by decide +kernel
theorem dX12_letter_7 : decode cX12_letter 7 = .ok (.if_icmp .ge 19, 3) := by decide +kernel
theorem dX12_letter_10 : decode cX12_letter 10 = .ok (.aload_n 0, 1) := by decide +kernel
theorem dX12_letter_11 : decode cX12_letter 11 = .ok (.getfield 121, 3) := by decide +kernel
theorem dX12_letter_14 : decode cX12_letter 14 = .ok (.aload_n 0, 1) := by decide +kernel
theorem dX12_letter_15 : decode cX12_letter 15 = .ok (.getfield 31, 3) := by decide +kernel
theorem dX12_letter_18 : decode cX12_letter 18 = .ok (.iload_n 1, 1) := by decide +kernel
theorem dX12_letter_19 : decode cX12_letter 19 = .ok (.iaload, 1) := by decide +kernel
theorem dX12_letter_20 : decode cX12_letter 20 = .ok (.iload_n 2, 1) := by decide +kernel
theorem dX12_letter_21 : decode cX12_letter 21 = .ok (.iadd, 1) := by decide +kernel
theorem dX12_letter_22 : decode cX12_letter 22 = .ok (.baload, 1) := by decide +kernel
theorem dX12_letter_23 : decode cX12_letter 23 = .ok (.goto 4, 3) := by decide +kernel
theorem dX12_letter_26 : decode cX12_letter 26 = .ok (.iconst 0, 1) := by decide +kernel
theorem dX12_letter_27 : decode cX12_letter 27 = .ok (.ireturn, 1) := by decide +kernel
theorem dX12_typeAt_0 : decode cX12_typeAt 0 = .ok (.aload_n 0, 1) := by decide +kernel
theorem dX12_typeAt_1 : decode cX12_typeAt 1 = .ok (.iload_n 1, 1) := by decide +kernel
theorem dX12_typeAt_2 : decode cX12_typeAt 2 = .ok (.iload_n 2, 1) := by decide +kernel
theorem dX12_typeAt_3 : decode cX12_typeAt 3 = .ok (.invokevirtual 199, 3) := by decide +kernel
theorem dX12_typeAt_6 : decode cX12_typeAt 6 = .ok (.bipush 73, 2) := by decide +kernel
theorem dX12_typeAt_8 : decode cX12_typeAt 8 = .ok (.if_icmp .eq 14, 3) := by decide +kernel
theorem dX12_typeAt_11 : decode cX12_typeAt 11 = .ok (.aload_n 0, 1) := by decide +kernel
theorem dX12_typeAt_12 : decode cX12_typeAt 12 = .ok (.iload_n 1, 1) := by decide +kernel
theorem dX12_typeAt_13 : decode cX12_typeAt 13 = .ok (.iload_n 2, 1) := by decide +kernel
theorem dX12_typeAt_14 : decode cX12_typeAt 14 = .ok (.invokevirtual 199, 3) := by decide +kernel
theorem dX12_typeAt_17 : decode cX12_typeAt 17 = .ok (.bipush 74, 2) := by decide +kernel
theorem dX12_typeAt_19 : decode cX12_typeAt 19 = .ok (.if_icmp .ne 5, 3) := by decide +kernel
theorem dX12_typeAt_22 : decode cX12_typeAt 22 = .ok (.iconst 1, 1) := by decide +kernel
theorem dX12_typeAt_23 : decode cX12_typeAt 23 = .ok (.ireturn, 1) := by decide +kernel
theorem dX12_typeAt_24 : decode cX12_typeAt 24 = .ok (.aload_n 0, 1) := by decide +kernel
theorem dX12_typeAt_25 : decode cX12_typeAt 25 = .ok (.iload_n 1, 1) := by decide +kernel
theorem dX12_typeAt_26 : decode cX12_typeAt 26 = .ok (.iload_n 2, 1) := by decide +kernel
theorem dX12_typeAt_27 : decode cX12_typeAt 27 = .ok (.invokevirtual 199, 3) := by decide +kernel
theorem dX12_typeAt_30 : decode cX12_typeAt 30 = .ok (.bipush 91, 2) := by decide +kernel
theorem dX12_typeAt_32 : decode cX12_typeAt 32 = .ok (.if_icmp .ne 20, 3) := by decide +kernel
theorem dX12_typeAt_35 : decode cX12_typeAt 35 = .ok (.aload_n 0, 1) := by decide +kernel
theorem dX12_typeAt_36 : decode cX12_typeAt 36 = .ok (.iload_n 1, 1) := by decide +kernel
theorem dX12_typeAt_37 : decode cX12_typeAt 37 = .ok (.iload_n 2, 1) := by decide +kernel
theorem dX12_typeAt_38 : decode cX12_typeAt 38 = .ok (.iconst 1, 1) := by decide +kernel
theorem dX12_typeAt_39 : decode cX12_typeAt 39 = .ok (.iadd, 1) := by decide +kernel
theorem dX12_typeAt_40 : decode cX12_typeAt 40 = .ok (.invokevirtual 199, 3) := by decide +kernel
theorem dX12_typeAt_43 : decode cX12_typeAt 43 = .ok (.bipush 73, 2) := by decide +kernel
theorem dX12_typeAt_45 : decode cX12_typeAt 45 = .ok (.if_icmp .ne 7, 3) := by decide +kernel
theorem dX12_typeAt_48 : decode cX12_typeAt 48 = .ok (.iconst 2, 1) := by decide +kernel
theorem dX12_typeAt_49 : decode cX12_typeAt 49 = .ok (.goto 4, 3) := by decide +kernel
theorem dX12_typeAt_52 : decode cX12_typeAt 52 = .ok (.iconst 0, 1) := by decide +kernel
theorem dX12_typeAt_53 : decode cX12_typeAt 53 = .ok (.ireturn, 1) := by decide +kernel
theorem dX12_isType_0 : decode cX12_isType 0 = .ok (.aload_n 0, 1) := by decide +kernel
theorem dX12_isType_1 : decode cX12_isType 1 = .ok (.iload_n 1, 1) := by decide +kernel
theorem dX12_isType_2 : decode cX12_isType 2 = .ok (.iconst 0, 1) := by decide +kernel
theorem dX12_isType_3 : decode cX12_isType 3 = .ok (.invokevirtual 203, 3) := by decide +kernel
theorem dX12_isType_6 : decode cX12_isType 6 = .ok (.ifCond .le 22, 3) := by decide +kernel
theorem dX12_isType_9 : decode cX12_isType 9 = .ok (.aload_n 0, 1) := by decide +kernel
theorem dX12_isType_10 : decode cX12_isType 10 = .ok (.iload_n 1, 1) := by decide +kernel
theorem dX12_isType_11 : decode cX12_isType 11 = .ok (.iconst 0, 1) := by decide +kernel
theorem dX12_isType_12 : decode cX12_isType 12 = .ok (.invokevirtual 203, 3) := by decide +kernel
theorem dX12_isType_15 : decode cX12_isType 15 = .ok (.aload_n 0, 1) := by decide +kernel
theorem dX12_isType_16 : decode cX12_isType 16 = .ok (.getfield 34, 3) := by decide +kernel
theorem dX12_isType_19 : decode cX12_isType 19 = .ok (.iload_n 1, 1) := by decide +kernel
theorem dX12_isType_20 : decode cX12_isType 20 = .ok (.iaload, 1) := by decide +kernel
theorem dX12_isType_21 : decode cX12_isType 21 = .ok (.if_icmp .ne 7, 3) := by decide +kernel
theorem dX12_isType_24 : decode cX12_isType 24 = .ok (.iconst 1, 1) := by decide +kernel
theorem dX12_isType_25 : decode cX12_isType 25 = .ok (.goto 4, 3) := by decide +kernel
theorem dX12_isType_28 : decode cX12_isType 28 = .ok (.iconst 0, 1) := by decide +kernel
theorem dX12_isType_29 : decode cX12_isType 29 = .ok (.ireturn, 1) := by decide +kernel
theorem dX12_parameterPlaces_0 : decode cX12_parameterPlaces 0 = .ok (.aload_n 0, 1) := by decide +kernel
theorem dX12_parameterPlaces_1 : decode cX12_parameterPlaces 1 = .ok (.iload_n 1, 1) := by decide +kernel
theorem dX12_parameterPlaces_2 : decode cX12_parameterPlaces 2 = .ok (.iconst 0, 1) := by decide +kernel
theorem dX12_parameterPlaces_3 : decode cX12_parameterPlaces 3 = .ok (.invokevirtual 199, 3) := by decide +kernel
theorem dX12_parameterPlaces_6 : decode cX12_parameterPlaces 6 = .ok (.bipush 40, 2) := by decide +kernel
theorem dX12_parameterPlaces_8 : decode cX12_parameterPlaces 8 = .ok (.if_icmp .eq 5, 3) := by decide +kernel
theorem dX12_parameterPlaces_11 : decode cX12_parameterPlaces 11 = .ok (.iconst (-1), 1) := by decide +kernel
theorem dX12_parameterPlaces_12 : decode cX12_parameterPlaces 12 = .ok (.ireturn, 1) := by decide +kernel
theorem dX12_parameterPlaces_13 : decode cX12_parameterPlaces 13 = .ok (.iconst 1, 1) := by decide +kernel
theorem dX12_parameterPlaces_14 : decode cX12_parameterPlaces 14 = .ok (.istore_n 2, 1) := by decide +kernel
theorem dX12_parameterPlaces_15 : decode cX12_parameterPlaces 15 = .ok (.iconst 0, 1) := by decide +kernel
theorem dX12_parameterPlaces_16 : decode cX12_parameterPlaces 16 = .ok (.istore_n 3, 1) := by decide +kernel
theorem dX12_parameterPlaces_17 : decode cX12_parameterPlaces 17 = .ok (.aload_n 0, 1) := by decide +kernel
theorem dX12_parameterPlaces_18 : decode cX12_parameterPlaces 18 = .ok (.iload_n 1, 1) := by decide +kernel
theorem dX12_parameterPlaces_19 : decode cX12_parameterPlaces 19 = .ok (.iload_n 2, 1) := by decide +kernel
theorem dX12_parameterPlaces_20 : decode cX12_parameterPlaces 20 = .ok (.invokevirtual 203, 3) := by decide +kernel
theorem dX12_parameterPlaces_23 : decode cX12_parameterPlaces 23 = .ok (.ifCond .le 34, 3) := by decide +kernel
theorem dX12_parameterPlaces_26 : decode cX12_parameterPlaces 26 = .ok (.iload_n 3, 1) := by decide +kernel
theorem dX12_parameterPlaces_27 : decode cX12_parameterPlaces 27 = .ok (.aload_n 0, 1) := by decide +kernel
theorem dX12_parameterPlaces_28 : decode cX12_parameterPlaces 28 = .ok (.iload_n 1, 1) := by decide +kernel
theorem dX12_parameterPlaces_29 : decode cX12_parameterPlaces 29 = .ok (.iload_n 2, 1) := by decide +kernel
theorem dX12_parameterPlaces_30 : decode cX12_parameterPlaces 30 = .ok (.invokevirtual 199, 3) := by decide +kernel
theorem dX12_parameterPlaces_33 : decode cX12_parameterPlaces 33 = .ok (.bipush 74, 2) := by decide +kernel
theorem dX12_parameterPlaces_35 : decode cX12_parameterPlaces 35 = .ok (.if_icmp .ne 7, 3) := by decide +kernel
theorem dX12_parameterPlaces_38 : decode cX12_parameterPlaces 38 = .ok (.iconst 2, 1) := by decide +kernel
theorem dX12_parameterPlaces_39 : decode cX12_parameterPlaces 39 = .ok (.goto 4, 3) := by decide +kernel
theorem dX12_parameterPlaces_42 : decode cX12_parameterPlaces 42 = .ok (.iconst 1, 1) := by decide +kernel
theorem dX12_parameterPlaces_43 : decode cX12_parameterPlaces 43 = .ok (.iadd, 1) := by decide +kernel
theorem dX12_parameterPlaces_44 : decode cX12_parameterPlaces 44 = .ok (.istore_n 3, 1) := by decide +kernel
theorem dX12_parameterPlaces_45 : decode cX12_parameterPlaces 45 = .ok (.iload_n 2, 1) := by decide +kernel
theorem dX12_parameterPlaces_46 : decode cX12_parameterPlaces 46 = .ok (.aload_n 0, 1) := by decide +kernel
theorem dX12_parameterPlaces_47 : decode cX12_parameterPlaces 47 = .ok (.iload_n 1, 1) := by decide +kernel
theorem dX12_parameterPlaces_48 : decode cX12_parameterPlaces 48 = .ok (.iload_n 2, 1) := by decide +kernel
theorem dX12_parameterPlaces_49 : decode cX12_parameterPlaces 49 = .ok (.invokevirtual 203, 3) := by decide +kernel
theorem dX12_parameterPlaces_52 : decode cX12_parameterPlaces 52 = .ok (.iadd, 1) := by decide +kernel
theorem dX12_parameterPlaces_53 : decode cX12_parameterPlaces 53 = .ok (.istore_n 2, 1) := by decide +kernel
theorem dX12_parameterPlaces_54 : decode cX12_parameterPlaces 54 = .ok (.goto (-37), 3) := by decide +kernel
theorem dX12_parameterPlaces_57 : decode cX12_parameterPlaces 57 = .ok (.aload_n 0, 1) := by decide +kernel
theorem dX12_parameterPlaces_58 : decode cX12_parameterPlaces 58 = .ok (.iload_n 1, 1) := by decide +kernel
theorem dX12_parameterPlaces_59 : decode cX12_parameterPlaces 59 = .ok (.iload_n 2, 1) := by decide +kernel
theorem dX12_parameterPlaces_60 : decode cX12_parameterPlaces 60 = .ok (.invokevirtual 199, 3) := by decide +kernel
theorem dX12_parameterPlaces_63 : decode cX12_parameterPlaces 63 = .ok (.bipush 41, 2) := by decide +kernel
theorem dX12_parameterPlaces_65 : decode cX12_parameterPlaces 65 = .ok (.if_icmp .eq 5, 3) := by decide +kernel
theorem dX12_parameterPlaces_68 : decode cX12_parameterPlaces 68 = .ok (.iconst (-1), 1) := by decide +kernel
theorem dX12_parameterPlaces_69 : decode cX12_parameterPlaces 69 = .ok (.ireturn, 1) := by decide +kernel
theorem dX12_parameterPlaces_70 : decode cX12_parameterPlaces 70 = .ok (.iinc 2 1, 3) := by decide +kernel
theorem dX12_parameterPlaces_73 : decode cX12_parameterPlaces 73 = .ok (.aload_n 0, 1) := by decide +kernel
theorem dX12_parameterPlaces_74 : decode cX12_parameterPlaces 74 = .ok (.iload_n 1, 1) := by decide +kernel
theorem dX12_parameterPlaces_75 : decode cX12_parameterPlaces 75 = .ok (.iload_n 2, 1) := by decide +kernel
theorem dX12_parameterPlaces_76 : decode cX12_parameterPlaces 76 = .ok (.invokevirtual 199, 3) := by decide +kernel
theorem dX12_parameterPlaces_79 : decode cX12_parameterPlaces 79 = .ok (.bipush 86, 2) := by decide +kernel
theorem dX12_parameterPlaces_81 : decode cX12_parameterPlaces 81 = .ok (.if_icmp .ne 7, 3) := by decide +kernel
theorem dX12_parameterPlaces_84 : decode cX12_parameterPlaces 84 = .ok (.iconst 1, 1) := by decide +kernel
theorem dX12_parameterPlaces_85 : decode cX12_parameterPlaces 85 = .ok (.goto 9, 3) := by decide +kernel
theorem dX12_parameterPlaces_88 : decode cX12_parameterPlaces 88 = .ok (.aload_n 0, 1) := by decide +kernel
theorem dX12_parameterPlaces_89 : decode cX12_parameterPlaces 89 = .ok (.iload_n 1, 1) := by decide +kernel
theorem dX12_parameterPlaces_90 : decode cX12_parameterPlaces 90 = .ok (.iload_n 2, 1) := by decide +kernel
theorem dX12_parameterPlaces_91 : decode cX12_parameterPlaces 91 = .ok (.invokevirtual 203, 3) := by decide +kernel
theorem dX12_parameterPlaces_94 : decode cX12_parameterPlaces 94 = .ok (.istore 4, 2) := by decide +kernel
theorem dX12_parameterPlaces_96 : decode cX12_parameterPlaces 96 = .ok (.iload 4, 2) := by decide +kernel
theorem dX12_parameterPlaces_98 : decode cX12_parameterPlaces 98 = .ok (.ifCond .le 20, 3) := by decide +kernel
theorem dX12_parameterPlaces_101 : decode cX12_parameterPlaces 101 = .ok (.iload_n 2, 1) := by decide +kernel
theorem dX12_parameterPlaces_102 : decode cX12_parameterPlaces 102 = .ok (.iload 4, 2) := by decide +kernel
theorem dX12_parameterPlaces_104 : decode cX12_parameterPlaces 104 = .ok (.iadd, 1) := by decide +kernel
theorem dX12_parameterPlaces_105 : decode cX12_parameterPlaces 105 = .ok (.aload_n 0, 1) := by decide +kernel
theorem dX12_parameterPlaces_106 : decode cX12_parameterPlaces 106 = .ok (.getfield 34, 3) := by decide +kernel
theorem dX12_parameterPlaces_109 : decode cX12_parameterPlaces 109 = .ok (.iload_n 1, 1) := by decide +kernel
theorem dX12_parameterPlaces_110 : decode cX12_parameterPlaces 110 = .ok (.iaload, 1) := by decide +kernel
theorem dX12_parameterPlaces_111 : decode cX12_parameterPlaces 111 = .ok (.if_icmp .ne 7, 3) := by decide +kernel
theorem dX12_parameterPlaces_114 : decode cX12_parameterPlaces 114 = .ok (.iload_n 3, 1) := by decide +kernel
theorem dX12_parameterPlaces_115 : decode cX12_parameterPlaces 115 = .ok (.goto 4, 3) := by decide +kernel
theorem dX12_parameterPlaces_118 : decode cX12_parameterPlaces 118 = .ok (.iconst (-1), 1) := by decide +kernel
theorem dX12_parameterPlaces_119 : decode cX12_parameterPlaces 119 = .ok (.ireturn, 1) := by decide +kernel
theorem dX12_types_0 : decode cX12_types 0 = .ok (.iconst 1, 1) := by decide +kernel
theorem dX12_types_1 : decode cX12_types 1 = .ok (.istore_n 1, 1) := by decide +kernel
theorem dX12_types_2 : decode cX12_types 2 = .ok (.iload_n 1, 1) := by decide +kernel
theorem dX12_types_3 : decode cX12_types 3 = .ok (.aload_n 0, 1) := by decide +kernel
theorem dX12_types_4 : decode cX12_types 4 = .ok (.getfield 150, 3) := by decide +kernel
theorem dX12_types_7 : decode cX12_types 7 = .ok (.if_icmp .ge 93, 3) := by decide +kernel
theorem dX12_types_10 : decode cX12_types 10 = .ok (.aload_n 0, 1) := by decide +kernel
theorem dX12_types_11 : decode cX12_types 11 = .ok (.getfield 24, 3) := by decide +kernel
theorem dX12_types_14 : decode cX12_types 14 = .ok (.iload_n 1, 1) := by decide +kernel
theorem dX12_types_15 : decode cX12_types 15 = .ok (.iaload, 1) := by decide +kernel
theorem dX12_types_16 : decode cX12_types 16 = .ok (.bipush 9, 2) := by decide +kernel
theorem dX12_types_18 : decode cX12_types 18 = .ok (.if_icmp .ne 30, 3) := by decide +kernel
theorem dX12_types_21 : decode cX12_types 21 = .ok (.aload_n 0, 1) := by decide +kernel
theorem dX12_types_22 : decode cX12_types 22 = .ok (.aload_n 0, 1) := by decide +kernel
theorem dX12_types_23 : decode cX12_types 23 = .ok (.aload_n 0, 1) := by decide +kernel
theorem dX12_types_24 : decode cX12_types 24 = .ok (.getfield 34, 3) := by decide +kernel
theorem dX12_types_27 : decode cX12_types 27 = .ok (.aload_n 0, 1) := by decide +kernel
theorem dX12_types_28 : decode cX12_types 28 = .ok (.getfield 34, 3) := by decide +kernel
theorem dX12_types_31 : decode cX12_types 31 = .ok (.iload_n 1, 1) := by decide +kernel
theorem dX12_types_32 : decode cX12_types 32 = .ok (.iaload, 1) := by decide +kernel
theorem dX12_types_33 : decode cX12_types 33 = .ok (.iaload, 1) := by decide +kernel
theorem dX12_types_34 : decode cX12_types 34 = .ok (.invokevirtual 206, 3) := by decide +kernel
theorem dX12_types_37 : decode cX12_types 37 = .ok (.bipush 10, 2) := by decide +kernel
theorem dX12_types_39 : decode cX12_types 39 = .ok (.aload_n 0, 1) := by decide +kernel
theorem dX12_types_40 : decode cX12_types 40 = .ok (.getfield 28, 3) := by decide +kernel
theorem dX12_types_43 : decode cX12_types 43 = .ok (.iload_n 1, 1) := by decide +kernel
theorem dX12_types_44 : decode cX12_types 44 = .ok (.iaload, 1) := by decide +kernel
theorem dX12_types_45 : decode cX12_types 45 = .ok (.invokevirtual 137, 3) := by decide +kernel
theorem dX12_types_48 : decode cX12_types 48 = .ok (.aload_n 0, 1) := by decide +kernel
theorem dX12_types_49 : decode cX12_types 49 = .ok (.getfield 24, 3) := by decide +kernel
theorem dX12_types_52 : decode cX12_types 52 = .ok (.iload_n 1, 1) := by decide +kernel
theorem dX12_types_53 : decode cX12_types 53 = .ok (.iaload, 1) := by decide +kernel
theorem dX12_types_54 : decode cX12_types 54 = .ok (.bipush 10, 2) := by decide +kernel
theorem dX12_types_56 : decode cX12_types 56 = .ok (.if_icmp .ne 38, 3) := by decide +kernel
theorem dX12_types_59 : decode cX12_types 59 = .ok (.aload_n 0, 1) := by decide +kernel
theorem dX12_types_60 : decode cX12_types 60 = .ok (.aload_n 0, 1) := by decide +kernel
theorem dX12_types_61 : decode cX12_types 61 = .ok (.aload_n 0, 1) := by decide +kernel
theorem dX12_types_62 : decode cX12_types 62 = .ok (.getfield 34, 3) := by decide +kernel
theorem dX12_types_65 : decode cX12_types 65 = .ok (.aload_n 0, 1) := by decide +kernel
theorem dX12_types_66 : decode cX12_types 66 = .ok (.getfield 34, 3) := by decide +kernel
theorem dX12_types_69 : decode cX12_types 69 = .ok (.iload_n 1, 1) := by decide +kernel
theorem dX12_types_70 : decode cX12_types 70 = .ok (.iaload, 1) := by decide +kernel
theorem dX12_types_71 : decode cX12_types 71 = .ok (.iaload, 1) := by decide +kernel
theorem dX12_types_72 : decode cX12_types 72 = .ok (.invokevirtual 210, 3) := by decide +kernel
theorem dX12_types_75 : decode cX12_types 75 = .ok (.ifCond .lt 7, 3) := by decide +kernel
theorem dX12_types_78 : decode cX12_types 78 = .ok (.iconst 1, 1) := by decide +kernel
theorem dX12_types_79 : decode cX12_types 79 = .ok (.goto 4, 3) := by decide +kernel
theorem dX12_types_82 : decode cX12_types 82 = .ok (.iconst 0, 1) := by decide +kernel
theorem dX12_types_83 : decode cX12_types 83 = .ok (.bipush 10, 2) := by decide +kernel
theorem dX12_types_85 : decode cX12_types 85 = .ok (.aload_n 0, 1) := by decide +kernel
theorem dX12_types_86 : decode cX12_types 86 = .ok (.getfield 28, 3) := by decide +kernel
theorem dX12_types_89 : decode cX12_types 89 = .ok (.iload_n 1, 1) := by decide +kernel
theorem dX12_types_90 : decode cX12_types 90 = .ok (.iaload, 1) := by decide +kernel
theorem dX12_types_91 : decode cX12_types 91 = .ok (.invokevirtual 137, 3) := by decide +kernel
theorem dX12_types_94 : decode cX12_types 94 = .ok (.iinc 1 1, 3) := by decide +kernel
theorem dX12_types_97 : decode cX12_types 97 = .ok (.goto (-95), 3) := by decide +kernel
theorem dX12_types_100 : decode cX12_types 100 = .ok (.iconst 0, 1) := by decide +kernel
theorem dX12_types_101 : decode cX12_types 101 = .ok (.istore_n 1, 1) := by decide +kernel
theorem dX12_types_102 : decode cX12_types 102 = .ok (.iload_n 1, 1) := by decide +kernel
theorem dX12_types_103 : decode cX12_types 103 = .ok (.aload_n 0, 1) := by decide +kernel
theorem dX12_types_104 : decode cX12_types 104 = .ok (.getfield 161, 3) := by decide +kernel
theorem dX12_types_107 : decode cX12_types 107 = .ok (.if_icmp .ge 70, 3) := by decide +kernel
theorem dX12_types_110 : decode cX12_types 110 = .ok (.aload_n 0, 1) := by decide +kernel
theorem dX12_types_111 : decode cX12_types 111 = .ok (.getfield 41, 3) := by decide +kernel
theorem dX12_types_114 : decode cX12_types 114 = .ok (.iload_n 1, 1) := by decide +kernel
theorem dX12_types_115 : decode cX12_types 115 = .ok (.iaload, 1) := by decide +kernel
theorem dX12_types_116 : decode cX12_types 116 = .ok (.iconst 4, 1) := by decide +kernel
theorem dX12_types_117 : decode cX12_types 117 = .ok (.iadd, 1) := by decide +kernel
theorem dX12_types_118 : decode cX12_types 118 = .ok (.istore_n 2, 1) := by decide +kernel
theorem dX12_types_119 : decode cX12_types 119 = .ok (.aload_n 0, 1) := by decide +kernel
theorem dX12_types_120 : decode cX12_types 120 = .ok (.aload_n 0, 1) := by decide +kernel
theorem dX12_types_121 : decode cX12_types 121 = .ok (.iload_n 2, 1) := by decide +kernel
theorem dX12_types_122 : decode cX12_types 122 = .ok (.invokevirtual 128, 3) := by decide +kernel
theorem dX12_types_125 : decode cX12_types 125 = .ok (.invokevirtual 210, 3) := by decide +kernel
theorem dX12_types_128 : decode cX12_types 128 = .ok (.istore_n 3, 1) := by decide +kernel
theorem dX12_types_129 : decode cX12_types 129 = .ok (.aload_n 0, 1) := by decide +kernel
theorem dX12_types_130 : decode cX12_types 130 = .ok (.iload_n 1, 1) := by decide +kernel
theorem dX12_types_131 : decode cX12_types 131 = .ok (.aload_n 0, 1) := by decide +kernel
theorem dX12_types_132 : decode cX12_types 132 = .ok (.getfield 170, 3) := by decide +kernel
theorem dX12_types_135 : decode cX12_types 135 = .ok (.if_icmp .ge 15, 3) := by decide +kernel
theorem dX12_types_138 : decode cX12_types 138 = .ok (.aload_n 0, 1) := by decide +kernel
theorem dX12_types_139 : decode cX12_types 139 = .ok (.aload_n 0, 1) := by decide +kernel
theorem dX12_types_140 : decode cX12_types 140 = .ok (.iload_n 2, 1) := by decide +kernel
theorem dX12_types_141 : decode cX12_types 141 = .ok (.invokevirtual 128, 3) := by decide +kernel
theorem dX12_types_144 : decode cX12_types 144 = .ok (.invokevirtual 206, 3) := by decide +kernel
theorem dX12_types_147 : decode cX12_types 147 = .ok (.goto 18, 3) := by decide +kernel
theorem dX12_types_150 : decode cX12_types 150 = .ok (.iload_n 3, 1) := by decide +kernel
theorem dX12_types_151 : decode cX12_types 151 = .ok (.ifCond .lt 13, 3) := by decide +kernel
theorem dX12_types_154 : decode cX12_types 154 = .ok (.iload_n 3, 1) := by decide +kernel
theorem dX12_types_155 : decode cX12_types 155 = .ok (.bipush 8, 2) := by decide +kernel
theorem dX12_types_157 : decode cX12_types 157 = .ok (.if_icmp .gt 7, 3) := by decide +kernel
theorem dX12_types_160 : decode cX12_types 160 = .ok (.iconst 1, 1) := by decide +kernel
theorem dX12_types_161 : decode cX12_types 161 = .ok (.goto 4, 3) := by decide +kernel
theorem dX12_types_164 : decode cX12_types 164 = .ok (.iconst 0, 1) := by decide +kernel
theorem dX12_types_165 : decode cX12_types 165 = .ok (.bipush 10, 2) := by decide +kernel
theorem dX12_types_167 : decode cX12_types 167 = .ok (.iload_n 2, 1) := by decide +kernel
theorem dX12_types_168 : decode cX12_types 168 = .ok (.invokevirtual 137, 3) := by decide +kernel
theorem dX12_types_171 : decode cX12_types 171 = .ok (.iinc 1 1, 3) := by decide +kernel
theorem dX12_types_174 : decode cX12_types 174 = .ok (.goto (-72), 3) := by decide +kernel
theorem dX12_types_177 : decode cX12_types 177 = .ok (.return_, 1) := by decide +kernel
theorem dX12_isSame_0 : decode cX12_isSame 0 = .ok (.aload_n 0, 1) := by decide +kernel
theorem dX12_isSame_1 : decode cX12_isSame 1 = .ok (.getfield 34, 3) := by decide +kernel
theorem dX12_isSame_4 : decode cX12_isSame 4 = .ok (.iload_n 1, 1) := by decide +kernel
theorem dX12_isSame_5 : decode cX12_isSame 5 = .ok (.iaload, 1) := by decide +kernel
theorem dX12_isSame_6 : decode cX12_isSame 6 = .ok (.aload_n 0, 1) := by decide +kernel
theorem dX12_isSame_7 : decode cX12_isSame 7 = .ok (.getfield 34, 3) := by decide +kernel
theorem dX12_isSame_10 : decode cX12_isSame 10 = .ok (.iload_n 2, 1) := by decide +kernel
theorem dX12_isSame_11 : decode cX12_isSame 11 = .ok (.iaload, 1) := by decide +kernel
theorem dX12_isSame_12 : decode cX12_isSame 12 = .ok (.if_icmp .eq 5, 3) := by decide +kernel
theorem dX12_isSame_15 : decode cX12_isSame 15 = .ok (.iconst 0, 1) := by decide +kernel
theorem dX12_isSame_16 : decode cX12_isSame 16 = .ok (.ireturn, 1) := by decide +kernel
theorem dX12_isSame_17 : decode cX12_isSame 17 = .ok (.iconst 0, 1) := by decide +kernel
theorem dX12_isSame_18 : decode cX12_isSame 18 = .ok (.istore_n 3, 1) := by decide +kernel
theorem dX12_isSame_19 : decode cX12_isSame 19 = .ok (.iload_n 3, 1) := by decide +kernel
theorem dX12_isSame_20 : decode cX12_isSame 20 = .ok (.aload_n 0, 1) := by decide +kernel
theorem dX12_isSame_21 : decode cX12_isSame 21 = .ok (.getfield 34, 3) := by decide +kernel
theorem dX12_isSame_24 : decode cX12_isSame 24 = .ok (.iload_n 1, 1) := by decide +kernel
theorem dX12_isSame_25 : decode cX12_isSame 25 = .ok (.iaload, 1) := by decide +kernel
theorem dX12_isSame_26 : decode cX12_isSame 26 = .ok (.if_icmp .ge 26, 3) := by decide +kernel
theorem dX12_isSame_29 : decode cX12_isSame 29 = .ok (.aload_n 0, 1) := by decide +kernel
theorem dX12_isSame_30 : decode cX12_isSame 30 = .ok (.iload_n 1, 1) := by decide +kernel
theorem dX12_isSame_31 : decode cX12_isSame 31 = .ok (.iload_n 3, 1) := by decide +kernel
theorem dX12_isSame_32 : decode cX12_isSame 32 = .ok (.invokevirtual 199, 3) := by decide +kernel
theorem dX12_isSame_35 : decode cX12_isSame 35 = .ok (.aload_n 0, 1) := by decide +kernel
theorem dX12_isSame_36 : decode cX12_isSame 36 = .ok (.iload_n 2, 1) := by decide +kernel
theorem dX12_isSame_37 : decode cX12_isSame 37 = .ok (.iload_n 3, 1) := by decide +kernel
theorem dX12_isSame_38 : decode cX12_isSame 38 = .ok (.invokevirtual 199, 3) := by decide +kernel
theorem dX12_isSame_41 : decode cX12_isSame 41 = .ok (.if_icmp .eq 5, 3) := by decide +kernel
theorem dX12_isSame_44 : decode cX12_isSame 44 = .ok (.iconst 0, 1) := by decide +kernel
theorem dX12_isSame_45 : decode cX12_isSame 45 = .ok (.ireturn, 1) := by decide +kernel
theorem dX12_isSame_46 : decode cX12_isSame 46 = .ok (.iinc 3 1, 3) := by decide +kernel
theorem dX12_isSame_49 : decode cX12_isSame 49 = .ok (.goto (-30), 3) := by decide +kernel
theorem dX12_isSame_52 : decode cX12_isSame 52 = .ok (.iconst 1, 1) := by decide +kernel
theorem dX12_isSame_53 : decode cX12_isSame 53 = .ok (.ireturn, 1) := by decide +kernel
theorem dX12_twice_0 : decode cX12_twice 0 = .ok (.iconst 0, 1) := by decide +kernel
theorem dX12_twice_1 : decode cX12_twice 1 = .ok (.istore_n 1, 1) := by decide +kernel
theorem dX12_twice_2 : decode cX12_twice 2 = .ok (.iload_n 1, 1) := by decide +kernel
theorem dX12_twice_3 : decode cX12_twice 3 = .ok (.aload_n 0, 1) := by decide +kernel
theorem dX12_twice_4 : decode cX12_twice 4 = .ok (.getfield 161, 3) := by decide +kernel
theorem dX12_twice_7 : decode cX12_twice 7 = .ok (.if_icmp .ge 89, 3) := by decide +kernel
theorem dX12_twice_10 : decode cX12_twice 10 = .ok (.iload_n 1, 1) := by decide +kernel
theorem dX12_twice_11 : decode cX12_twice 11 = .ok (.aload_n 0, 1) := by decide +kernel
theorem dX12_twice_12 : decode cX12_twice 12 = .ok (.getfield 170, 3) := by decide +kernel
theorem dX12_twice_15 : decode cX12_twice 15 = .ok (.if_icmp .ge 7, 3) := by decide +kernel
theorem dX12_twice_18 : decode cX12_twice 18 = .ok (.iconst 0, 1) := by decide +kernel
theorem dX12_twice_19 : decode cX12_twice 19 = .ok (.goto 7, 3) := by decide +kernel
theorem dX12_twice_22 : decode cX12_twice 22 = .ok (.aload_n 0, 1) := by decide +kernel
theorem dX12_twice_23 : decode cX12_twice 23 = .ok (.getfield 170, 3) := by decide +kernel
theorem dX12_twice_26 : decode cX12_twice 26 = .ok (.istore_n 2, 1) := by decide +kernel
theorem dX12_twice_27 : decode cX12_twice 27 = .ok (.iload_n 2, 1) := by decide +kernel
theorem dX12_twice_28 : decode cX12_twice 28 = .ok (.istore_n 3, 1) := by decide +kernel
theorem dX12_twice_29 : decode cX12_twice 29 = .ok (.iload_n 3, 1) := by decide +kernel
theorem dX12_twice_30 : decode cX12_twice 30 = .ok (.iload_n 1, 1) := by decide +kernel
theorem dX12_twice_31 : decode cX12_twice 31 = .ok (.if_icmp .ge 59, 3) := by decide +kernel
theorem dX12_twice_34 : decode cX12_twice 34 = .ok (.aload_n 0, 1) := by decide +kernel
theorem dX12_twice_35 : decode cX12_twice 35 = .ok (.aload_n 0, 1) := by decide +kernel
theorem dX12_twice_36 : decode cX12_twice 36 = .ok (.aload_n 0, 1) := by decide +kernel
theorem dX12_twice_37 : decode cX12_twice 37 = .ok (.aload_n 0, 1) := by decide +kernel
theorem dX12_twice_38 : decode cX12_twice 38 = .ok (.getfield 41, 3) := by decide +kernel
theorem dX12_twice_41 : decode cX12_twice 41 = .ok (.iload_n 3, 1) := by decide +kernel
theorem dX12_twice_42 : decode cX12_twice 42 = .ok (.iaload, 1) := by decide +kernel
theorem dX12_twice_43 : decode cX12_twice 43 = .ok (.iconst 2, 1) := by decide +kernel
theorem dX12_twice_44 : decode cX12_twice 44 = .ok (.iadd, 1) := by decide +kernel
theorem dX12_twice_45 : decode cX12_twice 45 = .ok (.invokevirtual 128, 3) := by decide +kernel
theorem dX12_twice_48 : decode cX12_twice 48 = .ok (.aload_n 0, 1) := by decide +kernel
theorem dX12_twice_49 : decode cX12_twice 49 = .ok (.aload_n 0, 1) := by decide +kernel
theorem dX12_twice_50 : decode cX12_twice 50 = .ok (.getfield 41, 3) := by decide +kernel
theorem dX12_twice_53 : decode cX12_twice 53 = .ok (.iload_n 1, 1) := by decide +kernel
theorem dX12_twice_54 : decode cX12_twice 54 = .ok (.iaload, 1) := by decide +kernel
theorem dX12_twice_55 : decode cX12_twice 55 = .ok (.iconst 2, 1) := by decide +kernel
theorem dX12_twice_56 : decode cX12_twice 56 = .ok (.iadd, 1) := by decide +kernel
theorem dX12_twice_57 : decode cX12_twice 57 = .ok (.invokevirtual 128, 3) := by decide +kernel
theorem dX12_twice_60 : decode cX12_twice 60 = .ok (.invokevirtual 213, 3) := by decide +kernel
theorem dX12_twice_63 : decode cX12_twice 63 = .ok (.ifCond .ne 7, 3) := by decide +kernel
theorem dX12_twice_66 : decode cX12_twice 66 = .ok (.iconst 1, 1) := by decide +kernel
theorem dX12_twice_67 : decode cX12_twice 67 = .ok (.goto 4, 3) := by decide +kernel
theorem dX12_twice_70 : decode cX12_twice 70 = .ok (.iconst 0, 1) := by decide +kernel
theorem dX12_twice_71 : decode cX12_twice 71 = .ok (.bipush 11, 2) := by decide +kernel
theorem dX12_twice_73 : decode cX12_twice 73 = .ok (.aload_n 0, 1) := by decide +kernel
theorem dX12_twice_74 : decode cX12_twice 74 = .ok (.getfield 41, 3) := by decide +kernel
theorem dX12_twice_77 : decode cX12_twice 77 = .ok (.iload_n 1, 1) := by decide +kernel
theorem dX12_twice_78 : decode cX12_twice 78 = .ok (.iaload, 1) := by decide +kernel
theorem dX12_twice_79 : decode cX12_twice 79 = .ok (.iconst 2, 1) := by decide +kernel
theorem dX12_twice_80 : decode cX12_twice 80 = .ok (.iadd, 1) := by decide +kernel
theorem dX12_twice_81 : decode cX12_twice 81 = .ok (.invokevirtual 137, 3) := by decide +kernel
theorem dX12_twice_84 : decode cX12_twice 84 = .ok (.iinc 3 1, 3) := by decide +kernel
theorem dX12_twice_87 : decode cX12_twice 87 = .ok (.goto (-58), 3) := by decide +kernel
theorem dX12_twice_90 : decode cX12_twice 90 = .ok (.iinc 1 1, 3) := by decide +kernel
theorem dX12_twice_93 : decode cX12_twice 93 = .ok (.goto (-91), 3) := by decide +kernel
theorem dX12_twice_96 : decode cX12_twice 96 = .ok (.return_, 1) := by decide +kernel
theorem dX12_isText_0 : decode cX12_isText 0 = .ok (.aload_n 0, 1) := by decide +kernel
theorem dX12_isText_1 : decode cX12_isText 1 = .ok (.getfield 34, 3) := by decide +kernel
theorem dX12_isText_4 : decode cX12_isText 4 = .ok (.iload_n 1, 1) := by decide +kernel
theorem dX12_isText_5 : decode cX12_isText 5 = .ok (.iaload, 1) := by decide +kernel
theorem dX12_isText_6 : decode cX12_isText 6 = .ok (.aload_n 2, 1) := by decide +kernel
theorem dX12_isText_7 : decode cX12_isText 7 = .ok (.invokevirtual 216, 3) := by decide +kernel
theorem dX12_isText_10 : decode cX12_isText 10 = .ok (.if_icmp .eq 5, 3) := by decide +kernel
theorem dX12_isText_13 : decode cX12_isText 13 = .ok (.iconst 0, 1) := by decide +kernel
theorem dX12_isText_14 : decode cX12_isText 14 = .ok (.ireturn, 1) := by decide +kernel
theorem dX12_isText_15 : decode cX12_isText 15 = .ok (.iconst 0, 1) := by decide +kernel
theorem dX12_isText_16 : decode cX12_isText 16 = .ok (.istore_n 3, 1) := by decide +kernel
theorem dX12_isText_17 : decode cX12_isText 17 = .ok (.iload_n 3, 1) := by decide +kernel
theorem dX12_isText_18 : decode cX12_isText 18 = .ok (.aload_n 2, 1) := by decide +kernel
theorem dX12_isText_19 : decode cX12_isText 19 = .ok (.invokevirtual 216, 3) := by decide +kernel
theorem dX12_isText_22 : decode cX12_isText 22 = .ok (.if_icmp .ge 25, 3) := by decide +kernel
theorem dX12_isText_25 : decode cX12_isText 25 = .ok (.aload_n 0, 1) := by decide +kernel
theorem dX12_isText_26 : decode cX12_isText 26 = .ok (.iload_n 1, 1) := by decide +kernel
theorem dX12_isText_27 : decode cX12_isText 27 = .ok (.iload_n 3, 1) := by decide +kernel
theorem dX12_isText_28 : decode cX12_isText 28 = .ok (.invokevirtual 199, 3) := by decide +kernel
theorem dX12_isText_31 : decode cX12_isText 31 = .ok (.aload_n 2, 1) := by decide +kernel
theorem dX12_isText_32 : decode cX12_isText 32 = .ok (.iload_n 3, 1) := by decide +kernel
theorem dX12_isText_33 : decode cX12_isText 33 = .ok (.invokevirtual 222, 3) := by decide +kernel
theorem dX12_isText_36 : decode cX12_isText 36 = .ok (.if_icmp .eq 5, 3) := by decide +kernel
theorem dX12_isText_39 : decode cX12_isText 39 = .ok (.iconst 0, 1) := by decide +kernel
theorem dX12_isText_40 : decode cX12_isText 40 = .ok (.ireturn, 1) := by decide +kernel
theorem dX12_isText_41 : decode cX12_isText 41 = .ok (.iinc 3 1, 3) := by decide +kernel
theorem dX12_isText_44 : decode cX12_isText 44 = .ok (.goto (-27), 3) := by decide +kernel
theorem dX12_isText_47 : decode cX12_isText 47 = .ok (.iconst 1, 1) := by decide +kernel
theorem dX12_isText_48 : decode cX12_isText 48 = .ok (.ireturn, 1) := by decide +kernel
theorem dX12_codeOf_0 : decode cX12_codeOf 0 = .ok (.iconst (-1), 1) := by decide +kernel
theorem dX12_codeOf_1 : decode cX12_codeOf 1 = .ok (.istore_n 2, 1) := by decide +kernel
theorem dX12_codeOf_2 : decode cX12_codeOf 2 = .ok (.iconst 0, 1) := by decide +kernel
theorem dX12_codeOf_3 : decode cX12_codeOf 3 = .ok (.istore_n 3, 1) := by decide +kernel
theorem dX12_codeOf_4 : decode cX12_codeOf 4 = .ok (.iload_n 3, 1) := by decide +kernel
theorem dX12_codeOf_5 : decode cX12_codeOf 5 = .ok (.aload_n 0, 1) := by decide +kernel
theorem dX12_codeOf_6 : decode cX12_codeOf 6 = .ok (.getfield 164, 3) := by decide +kernel
theorem dX12_codeOf_9 : decode cX12_codeOf 9 = .ok (.if_icmp .ge 55, 3) := by decide +kernel
theorem dX12_codeOf_12 : decode cX12_codeOf 12 = .ok (.aload_n 0, 1) := by decide +kernel
theorem dX12_codeOf_13 : decode cX12_codeOf 13 = .ok (.getfield 47, 3) := by decide +kernel
theorem dX12_codeOf_16 : decode cX12_codeOf 16 = .ok (.iload_n 3, 1) := by decide +kernel
theorem dX12_codeOf_17 : decode cX12_codeOf 17 = .ok (.iaload, 1) := by decide +kernel
theorem dX12_codeOf_18 : decode cX12_codeOf 18 = .ok (.iload_n 1, 1) := by decide +kernel
theorem dX12_codeOf_19 : decode cX12_codeOf 19 = .ok (.if_icmp .ne 39, 3) := by decide +kernel
theorem dX12_codeOf_22 : decode cX12_codeOf 22 = .ok (.aload_n 0, 1) := by decide +kernel
theorem dX12_codeOf_23 : decode cX12_codeOf 23 = .ok (.aload_n 0, 1) := by decide +kernel
theorem dX12_codeOf_24 : decode cX12_codeOf 24 = .ok (.aload_n 0, 1) := by decide +kernel
theorem dX12_codeOf_25 : decode cX12_codeOf 25 = .ok (.getfield 44, 3) := by decide +kernel
theorem dX12_codeOf_28 : decode cX12_codeOf 28 = .ok (.iload_n 3, 1) := by decide +kernel
theorem dX12_codeOf_29 : decode cX12_codeOf 29 = .ok (.iaload, 1) := by decide +kernel
theorem dX12_codeOf_30 : decode cX12_codeOf 30 = .ok (.invokevirtual 128, 3) := by decide +kernel
theorem dX12_codeOf_33 : decode cX12_codeOf 33 = .ok (.ldc 226, 2) := by decide +kernel
theorem dX12_codeOf_35 : decode cX12_codeOf 35 = .ok (.invokevirtual 228, 3) := by decide +kernel
theorem dX12_codeOf_38 : decode cX12_codeOf 38 = .ok (.ifCond .ne 6, 3) := by decide +kernel
theorem dX12_codeOf_41 : decode cX12_codeOf 41 = .ok (.goto 17, 3) := by decide +kernel
theorem dX12_codeOf_44 : decode cX12_codeOf 44 = .ok (.iload_n 2, 1) := by decide +kernel
theorem dX12_codeOf_45 : decode cX12_codeOf 45 = .ok (.ifCond .lt 6, 3) := by decide +kernel
theorem dX12_codeOf_48 : decode cX12_codeOf 48 = .ok (.bipush (-2), 2) := by decide +kernel
theorem dX12_codeOf_50 : decode cX12_codeOf 50 = .ok (.ireturn, 1) := by decide +kernel
theorem dX12_codeOf_51 : decode cX12_codeOf 51 = .ok (.aload_n 0, 1) := by decide +kernel
theorem dX12_codeOf_52 : decode cX12_codeOf 52 = .ok (.getfield 44, 3) := by decide +kernel
theorem dX12_codeOf_55 : decode cX12_codeOf 55 = .ok (.iload_n 3, 1) := by decide +kernel
theorem dX12_codeOf_56 : decode cX12_codeOf 56 = .ok (.iaload, 1) := by decide +kernel
theorem dX12_codeOf_57 : decode cX12_codeOf 57 = .ok (.istore_n 2, 1) := by decide +kernel
theorem dX12_codeOf_58 : decode cX12_codeOf 58 = .ok (.iinc 3 1, 3) := by decide +kernel
theorem dX12_codeOf_61 : decode cX12_codeOf 61 = .ok (.goto (-57), 3) := by decide +kernel
theorem dX12_codeOf_64 : decode cX12_codeOf 64 = .ok (.iload_n 2, 1) := by decide +kernel
theorem dX12_codeOf_65 : decode cX12_codeOf 65 = .ok (.ireturn, 1) := by decide +kernel
theorem dX12_codes_0 : decode cX12_codes 0 = .ok (.aload_n 0, 1) := by decide +kernel
theorem dX12_codes_1 : decode cX12_codes 1 = .ok (.getfield 170, 3) := by decide +kernel
theorem dX12_codes_4 : decode cX12_codes 4 = .ok (.istore_n 1, 1) := by decide +kernel
theorem dX12_codes_5 : decode cX12_codes 5 = .ok (.iload_n 1, 1) := by decide +kernel
theorem dX12_codes_6 : decode cX12_codes 6 = .ok (.aload_n 0, 1) := by decide +kernel
theorem dX12_codes_7 : decode cX12_codes 7 = .ok (.getfield 161, 3) := by decide +kernel
theorem dX12_codes_10 : decode cX12_codes 10 = .ok (.if_icmp .ge 34, 3) := by decide +kernel
theorem dX12_codes_13 : decode cX12_codes 13 = .ok (.aload_n 0, 1) := by decide +kernel
theorem dX12_codes_14 : decode cX12_codes 14 = .ok (.aload_n 0, 1) := by decide +kernel
theorem dX12_codes_15 : decode cX12_codes 15 = .ok (.iload_n 1, 1) := by decide +kernel
theorem dX12_codes_16 : decode cX12_codes 16 = .ok (.invokevirtual 232, 3) := by decide +kernel
theorem dX12_codes_19 : decode cX12_codes 19 = .ok (.ifCond .lt 7, 3) := by decide +kernel
theorem dX12_codes_22 : decode cX12_codes 22 = .ok (.iconst 1, 1) := by decide +kernel
theorem dX12_codes_23 : decode cX12_codes 23 = .ok (.goto 4, 3) := by decide +kernel
theorem dX12_codes_26 : decode cX12_codes 26 = .ok (.iconst 0, 1) := by decide +kernel
theorem dX12_codes_27 : decode cX12_codes 27 = .ok (.bipush 12, 2) := by decide +kernel
theorem dX12_codes_29 : decode cX12_codes 29 = .ok (.aload_n 0, 1) := by decide +kernel
theorem dX12_codes_30 : decode cX12_codes 30 = .ok (.getfield 41, 3) := by decide +kernel
theorem dX12_codes_33 : decode cX12_codes 33 = .ok (.iload_n 1, 1) := by decide +kernel
theorem dX12_codes_34 : decode cX12_codes 34 = .ok (.iaload, 1) := by decide +kernel
theorem dX12_codes_35 : decode cX12_codes 35 = .ok (.invokevirtual 137, 3) := by decide +kernel
theorem dX12_codes_38 : decode cX12_codes 38 = .ok (.iinc 1 1, 3) := by decide +kernel
theorem dX12_codes_41 : decode cX12_codes 41 = .ok (.goto (-36), 3) := by decide +kernel
theorem dX12_codes_44 : decode cX12_codes 44 = .ok (.return_, 1) := by decide +kernel
theorem dX12_within_0 : decode cX12_within 0 = .ok (.aload_n 0, 1) := by decide +kernel
theorem dX12_within_1 : decode cX12_within 1 = .ok (.getfield 131, 3) := by decide +kernel
theorem dX12_within_4 : decode cX12_within 4 = .ok (.i2l, 1) := by decide +kernel
theorem dX12_within_5 : decode cX12_within 5 = .ok (.lload_n 1, 1) := by decide +kernel
theorem dX12_within_6 : decode cX12_within 6 = .ok (.ladd, 1) := by decide +kernel
theorem dX12_within_7 : decode cX12_within 7 = .ok (.aload_n 0, 1) := by decide +kernel
theorem dX12_within_8 : decode cX12_within 8 = .ok (.getfield 235, 3) := by decide +kernel
theorem dX12_within_11 : decode cX12_within 11 = .ok (.i2l, 1) := by decide +kernel
theorem dX12_within_12 : decode cX12_within 12 = .ok (.lcmp, 1) := by decide +kernel
theorem dX12_within_13 : decode cX12_within 13 = .ok (.ifCond .le 14, 3) := by decide +kernel
theorem dX12_within_16 : decode cX12_within 16 = .ok (.aload_n 0, 1) := by decide +kernel
theorem dX12_within_17 : decode cX12_within 17 = .ok (.bipush 14, 2) := by decide +kernel
theorem dX12_within_19 : decode cX12_within 19 = .ok (.aload_n 0, 1) := by decide +kernel
theorem dX12_within_20 : decode cX12_within 20 = .ok (.getfield 235, 3) := by decide +kernel
theorem dX12_within_23 : decode cX12_within 23 = .ok (.invokevirtual 117, 3) := by decide +kernel
theorem dX12_within_26 : decode cX12_within 26 = .ok (.athrow, 1) := by decide +kernel
theorem dX12_within_27 : decode cX12_within 27 = .ok (.aload_n 0, 1) := by decide +kernel
theorem dX12_within_28 : decode cX12_within 28 = .ok (.getfield 131, 3) := by decide +kernel
theorem dX12_within_31 : decode cX12_within 31 = .ok (.istore_n 3, 1) := by decide +kernel
theorem dX12_within_32 : decode cX12_within 32 = .ok (.aload_n 0, 1) := by decide +kernel
theorem dX12_within_33 : decode cX12_within 33 = .ok (.dup, 1) := by decide +kernel
theorem dX12_within_34 : decode cX12_within 34 = .ok (.getfield 131, 3) := by decide +kernel
theorem dX12_within_37 : decode cX12_within 37 = .ok (.lload_n 1, 1) := by decide +kernel
theorem dX12_within_38 : decode cX12_within 38 = .ok (.l2i, 1) := by decide +kernel
theorem dX12_within_39 : decode cX12_within 39 = .ok (.iadd, 1) := by decide +kernel
theorem dX12_within_40 : decode cX12_within 40 = .ok (.putfield 131, 3) := by decide +kernel
theorem dX12_within_43 : decode cX12_within 43 = .ok (.iload_n 3, 1) := by decide +kernel
theorem dX12_within_44 : decode cX12_within 44 = .ok (.ireturn, 1) := by decide +kernel
theorem dX12_codeItems_0 : decode cX12_codeItems 0 = .ok (.aload_n 0, 1) := by decide +kernel
theorem dX12_codeItems_1 : decode cX12_codeItems 1 = .ok (.aload_n 0, 1) := by decide +kernel
theorem dX12_codeItems_2 : decode cX12_codeItems 2 = .ok (.getfield 170, 3) := by decide +kernel
theorem dX12_codeItems_5 : decode cX12_codeItems 5 = .ok (.iload_n 1, 1) := by decide +kernel
theorem dX12_codeItems_6 : decode cX12_codeItems 6 = .ok (.iadd, 1) := by decide +kernel
theorem dX12_codeItems_7 : decode cX12_codeItems 7 = .ok (.invokevirtual 232, 3) := by decide +kernel
theorem dX12_codeItems_10 : decode cX12_codeItems 10 = .ok (.istore_n 2, 1) := by decide +kernel
theorem dX12_codeItems_11 : decode cX12_codeItems 11 = .ok (.aload_n 0, 1) := by decide +kernel
theorem dX12_codeItems_12 : decode cX12_codeItems 12 = .ok (.iload_n 2, 1) := by decide +kernel
theorem dX12_codeItems_13 : decode cX12_codeItems 13 = .ok (.bipush 6, 2) := by decide +kernel
theorem dX12_codeItems_15 : decode cX12_codeItems 15 = .ok (.iadd, 1) := by decide +kernel
theorem dX12_codeItems_16 : decode cX12_codeItems 16 = .ok (.putfield 131, 3) := by decide +kernel
theorem dX12_codeItems_19 : decode cX12_codeItems 19 = .ok (.aload_n 0, 1) := by decide +kernel
theorem dX12_codeItems_20 : decode cX12_codeItems 20 = .ok (.aload_n 0, 1) := by decide +kernel
theorem dX12_codeItems_21 : decode cX12_codeItems 21 = .ok (.getfield 131, 3) := by decide +kernel
theorem dX12_codeItems_24 : decode cX12_codeItems 24 = .ok (.i2l, 1) := by decide +kernel
theorem dX12_codeItems_25 : decode cX12_codeItems 25 = .ok (.aload_n 0, 1) := by decide +kernel
theorem dX12_codeItems_26 : decode cX12_codeItems 26 = .ok (.iload_n 2, 1) := by decide +kernel
theorem dX12_codeItems_27 : decode cX12_codeItems 27 = .ok (.iconst 2, 1) := by decide +kernel
theorem dX12_codeItems_28 : decode cX12_codeItems 28 = .ok (.iadd, 1) := by decide +kernel
theorem dX12_codeItems_29 : decode cX12_codeItems 29 = .ok (.invokevirtual 185, 3) := by decide +kernel
theorem dX12_codeItems_32 : decode cX12_codeItems 32 = .ok (.i2l, 1) := by decide +kernel
theorem dX12_codeItems_33 : decode cX12_codeItems 33 = .ok (.ldc2_w 190, 3) := by decide +kernel
theorem dX12_codeItems_36 : decode cX12_codeItems 36 = .ok (.land, 1) := by decide +kernel
theorem dX12_codeItems_37 : decode cX12_codeItems 37 = .ok (.ladd, 1) := by decide +kernel
theorem dX12_codeItems_38 : decode cX12_codeItems 38 = .ok (.l2i, 1) := by decide +kernel
theorem dX12_codeItems_39 : decode cX12_codeItems 39 = .ok (.putfield 235, 3) := by decide +kernel
theorem dX12_codeItems_42 : decode cX12_codeItems 42 = .ok (.aload_n 0, 1) := by decide +kernel
theorem dX12_codeItems_43 : decode cX12_codeItems 43 = .ok (.aload_n 0, 1) := by decide +kernel
theorem dX12_codeItems_44 : decode cX12_codeItems 44 = .ok (.aload_n 0, 1) := by decide +kernel
theorem dX12_codeItems_45 : decode cX12_codeItems 45 = .ok (.getfield 41, 3) := by decide +kernel
theorem dX12_codeItems_48 : decode cX12_codeItems 48 = .ok (.aload_n 0, 1) := by decide +kernel
theorem dX12_codeItems_49 : decode cX12_codeItems 49 = .ok (.getfield 170, 3) := by decide +kernel
theorem dX12_codeItems_52 : decode cX12_codeItems 52 = .ok (.iload_n 1, 1) := by decide +kernel
theorem dX12_codeItems_53 : decode cX12_codeItems 53 = .ok (.iadd, 1) := by decide +kernel
theorem dX12_codeItems_54 : decode cX12_codeItems 54 = .ok (.iaload, 1) := by decide +kernel
theorem dX12_codeItems_55 : decode cX12_codeItems 55 = .ok (.iconst 4, 1) := by decide +kernel
theorem dX12_codeItems_56 : decode cX12_codeItems 56 = .ok (.iadd, 1) := by decide +kernel
theorem dX12_codeItems_57 : decode cX12_codeItems 57 = .ok (.invokevirtual 128, 3) := by decide +kernel
theorem dX12_codeItems_60 : decode cX12_codeItems 60 = .ok (.invokevirtual 210, 3) := by decide +kernel
theorem dX12_codeItems_63 : decode cX12_codeItems 63 = .ok (.istore_n 3, 1) := by decide +kernel
theorem dX12_codeItems_64 : decode cX12_codeItems 64 = .ok (.aload_n 0, 1) := by decide +kernel
theorem dX12_codeItems_65 : decode cX12_codeItems 65 = .ok (.ldc2_w 144, 3) := by decide +kernel
theorem dX12_codeItems_68 : decode cX12_codeItems 68 = .ok (.invokevirtual 238, 3) := by decide +kernel
theorem dX12_codeItems_71 : decode cX12_codeItems 71 = .ok (.istore 4, 2) := by decide +kernel
theorem dX12_codeItems_73 : decode cX12_codeItems 73 = .ok (.aload_n 0, 1) := by decide +kernel
theorem dX12_codeItems_74 : decode cX12_codeItems 74 = .ok (.getfield 50, 3) := by decide +kernel
theorem dX12_codeItems_77 : decode cX12_codeItems 77 = .ok (.iload_n 1, 1) := by decide +kernel
theorem dX12_codeItems_78 : decode cX12_codeItems 78 = .ok (.aload_n 0, 1) := by decide +kernel
theorem dX12_codeItems_79 : decode cX12_codeItems 79 = .ok (.iload 4, 2) := by decide +kernel
theorem dX12_codeItems_81 : decode cX12_codeItems 81 = .ok (.invokevirtual 128, 3) := by decide +kernel
theorem dX12_codeItems_84 : decode cX12_codeItems 84 = .ok (.iastore, 1) := by decide +kernel
theorem dX12_codeItems_85 : decode cX12_codeItems 85 = .ok (.aload_n 0, 1) := by decide +kernel
theorem dX12_codeItems_86 : decode cX12_codeItems 86 = .ok (.aload_n 0, 1) := by decide +kernel
theorem dX12_codeItems_87 : decode cX12_codeItems 87 = .ok (.getfield 50, 3) := by decide +kernel
theorem dX12_codeItems_90 : decode cX12_codeItems 90 = .ok (.iload_n 1, 1) := by decide +kernel
theorem dX12_codeItems_91 : decode cX12_codeItems 91 = .ok (.iaload, 1) := by decide +kernel
theorem dX12_codeItems_92 : decode cX12_codeItems 92 = .ok (.bipush 24, 2) := by decide +kernel
theorem dX12_codeItems_94 : decode cX12_codeItems 94 = .ok (.if_icmp .gt 7, 3) := by decide +kernel
theorem dX12_codeItems_97 : decode cX12_codeItems 97 = .ok (.iconst 1, 1) := by decide +kernel
theorem dX12_codeItems_98 : decode cX12_codeItems 98 = .ok (.goto 4, 3) := by decide +kernel
theorem dX12_codeItems_101 : decode cX12_codeItems 101 = .ok (.iconst 0, 1) := by decide +kernel
theorem dX12_codeItems_102 : decode cX12_codeItems 102 = .ok (.bipush 13, 2) := by decide +kernel
theorem dX12_codeItems_104 : decode cX12_codeItems 104 = .ok (.iload 4, 2) := by decide +kernel
theorem dX12_codeItems_106 : decode cX12_codeItems 106 = .ok (.invokevirtual 137, 3) := by decide +kernel
theorem dX12_codeItems_109 : decode cX12_codeItems 109 = .ok (.aload_n 0, 1) := by decide +kernel
theorem dX12_codeItems_110 : decode cX12_codeItems 110 = .ok (.ldc2_w 144, 3) := by decide +kernel
theorem dX12_codeItems_113 : decode cX12_codeItems 113 = .ok (.invokevirtual 238, 3) := by decide +kernel
theorem dX12_codeItems_116 : decode cX12_codeItems 116 = .ok (.istore 4, 2) := by decide +kernel
theorem dX12_codeItems_118 : decode cX12_codeItems 118 = .ok (.aload_n 0, 1) := by decide +kernel
theorem dX12_codeItems_119 : decode cX12_codeItems 119 = .ok (.getfield 53, 3) := by decide +kernel
theorem dX12_codeItems_122 : decode cX12_codeItems 122 = .ok (.iload_n 1, 1) := by decide +kernel
theorem dX12_codeItems_123 : decode cX12_codeItems 123 = .ok (.aload_n 0, 1) := by decide +kernel
theorem dX12_codeItems_124 : decode cX12_codeItems 124 = .ok (.iload 4, 2) := by decide +kernel
theorem dX12_codeItems_126 : decode cX12_codeItems 126 = .ok (.invokevirtual 128, 3) := by decide +kernel
theorem dX12_codeItems_129 : decode cX12_codeItems 129 = .ok (.iastore, 1) := by decide +kernel
theorem dX12_codeItems_130 : decode cX12_codeItems 130 = .ok (.aload_n 0, 1) := by decide +kernel
theorem dX12_codeItems_131 : decode cX12_codeItems 131 = .ok (.aload_n 0, 1) := by decide +kernel
theorem dX12_codeItems_132 : decode cX12_codeItems 132 = .ok (.getfield 53, 3) := by decide +kernel
theorem dX12_codeItems_135 : decode cX12_codeItems 135 = .ok (.iload_n 1, 1) := by decide +kernel
theorem dX12_codeItems_136 : decode cX12_codeItems 136 = .ok (.iaload, 1) := by decide +kernel
theorem dX12_codeItems_137 : decode cX12_codeItems 137 = .ok (.bipush 24, 2) := by decide +kernel
theorem dX12_codeItems_139 : decode cX12_codeItems 139 = .ok (.if_icmp .gt 17, 3) := by decide +kernel
theorem dX12_codeItems_142 : decode cX12_codeItems 142 = .ok (.aload_n 0, 1) := by decide +kernel
theorem dX12_codeItems_143 : decode cX12_codeItems 143 = .ok (.getfield 53, 3) := by decide +kernel
theorem dX12_codeItems_146 : decode cX12_codeItems 146 = .ok (.iload_n 1, 1) := by decide +kernel
theorem dX12_codeItems_147 : decode cX12_codeItems 147 = .ok (.iaload, 1) := by decide +kernel
theorem dX12_codeItems_148 : decode cX12_codeItems 148 = .ok (.iload_n 3, 1) := by decide +kernel
theorem dX12_codeItems_149 : decode cX12_codeItems 149 = .ok (.if_icmp .lt 7, 3) := by decide +kernel
theorem dX12_codeItems_152 : decode cX12_codeItems 152 = .ok (.iconst 1, 1) := by decide +kernel
theorem dX12_codeItems_153 : decode cX12_codeItems 153 = .ok (.goto 4, 3) := by decide +kernel
theorem dX12_codeItems_156 : decode cX12_codeItems 156 = .ok (.iconst 0, 1) := by decide +kernel
theorem dX12_codeItems_157 : decode cX12_codeItems 157 = .ok (.bipush 13, 2) := by decide +kernel
theorem dX12_codeItems_159 : decode cX12_codeItems 159 = .ok (.iload 4, 2) := by decide +kernel
theorem dX12_codeItems_161 : decode cX12_codeItems 161 = .ok (.invokevirtual 137, 3) := by decide +kernel
theorem dX12_codeItems_164 : decode cX12_codeItems 164 = .ok (.aload_n 0, 1) := by decide +kernel
theorem dX12_codeItems_165 : decode cX12_codeItems 165 = .ok (.ldc2_w 183, 3) := by decide +kernel
theorem dX12_codeItems_168 : decode cX12_codeItems 168 = .ok (.invokevirtual 238, 3) := by decide +kernel
theorem dX12_codeItems_171 : decode cX12_codeItems 171 = .ok (.istore 4, 2) := by decide +kernel
theorem dX12_codeItems_173 : decode cX12_codeItems 173 = .ok (.aload_n 0, 1) := by decide +kernel
theorem dX12_codeItems_174 : decode cX12_codeItems 174 = .ok (.iload 4, 2) := by decide +kernel
theorem dX12_codeItems_176 : decode cX12_codeItems 176 = .ok (.invokevirtual 185, 3) := by decide +kernel
theorem dX12_codeItems_179 : decode cX12_codeItems 179 = .ok (.istore 5, 2) := by decide +kernel
theorem dX12_codeItems_181 : decode cX12_codeItems 181 = .ok (.aload_n 0, 1) := by decide +kernel
theorem dX12_codeItems_182 : decode cX12_codeItems 182 = .ok (.iload 5, 2) := by decide +kernel
theorem dX12_codeItems_184 : decode cX12_codeItems 184 = .ok (.iconst 1, 1) := by decide +kernel
theorem dX12_codeItems_185 : decode cX12_codeItems 185 = .ok (.if_icmp .lt 15, 3) := by decide +kernel
theorem dX12_codeItems_188 : decode cX12_codeItems 188 = .ok (.iload 5, 2) := by decide +kernel
theorem dX12_codeItems_190 : decode cX12_codeItems 190 = .ok (.sipush 1200, 3) := by decide +kernel
theorem dX12_codeItems_193 : decode cX12_codeItems 193 = .ok (.if_icmp .gt 7, 3) := by decide +kernel
theorem dX12_codeItems_196 : decode cX12_codeItems 196 = .ok (.iconst 1, 1) := by decide +kernel
theorem dX12_codeItems_197 : decode cX12_codeItems 197 = .ok (.goto 4, 3) := by decide +kernel
theorem dX12_codeItems_200 : decode cX12_codeItems 200 = .ok (.iconst 0, 1) := by decide +kernel
theorem dX12_codeItems_201 : decode cX12_codeItems 201 = .ok (.bipush 13, 2) := by decide +kernel
theorem dX12_codeItems_203 : decode cX12_codeItems 203 = .ok (.iload 4, 2) := by decide +kernel
theorem dX12_codeItems_205 : decode cX12_codeItems 205 = .ok (.invokevirtual 137, 3) := by decide +kernel
theorem dX12_codeItems_208 : decode cX12_codeItems 208 = .ok (.aload_n 0, 1) := by decide +kernel
theorem dX12_codeItems_209 : decode cX12_codeItems 209 = .ok (.getfield 56, 3) := by decide +kernel
theorem dX12_codeItems_212 : decode cX12_codeItems 212 = .ok (.iload_n 1, 1) := by decide +kernel
theorem dX12_codeItems_213 : decode cX12_codeItems 213 = .ok (.aload_n 0, 1) := by decide +kernel
theorem dX12_codeItems_214 : decode cX12_codeItems 214 = .ok (.iload 5, 2) := by decide +kernel
theorem dX12_codeItems_216 : decode cX12_codeItems 216 = .ok (.i2l, 1) := by decide +kernel
theorem dX12_codeItems_217 : decode cX12_codeItems 217 = .ok (.invokevirtual 238, 3) := by decide +kernel
theorem dX12_codeItems_220 : decode cX12_codeItems 220 = .ok (.iastore, 1) := by decide +kernel
theorem dX12_codeItems_221 : decode cX12_codeItems 221 = .ok (.aload_n 0, 1) := by decide +kernel
theorem dX12_codeItems_222 : decode cX12_codeItems 222 = .ok (.getfield 59, 3) := by decide +kernel
theorem dX12_codeItems_225 : decode cX12_codeItems 225 = .ok (.iload_n 1, 1) := by decide +kernel
theorem dX12_codeItems_226 : decode cX12_codeItems 226 = .ok (.iload 5, 2) := by decide +kernel
theorem dX12_codeItems_228 : decode cX12_codeItems 228 = .ok (.iastore, 1) := by decide +kernel
theorem dX12_codeItems_229 : decode cX12_codeItems 229 = .ok (.aload_n 0, 1) := by decide +kernel
theorem dX12_codeItems_230 : decode cX12_codeItems 230 = .ok (.ldc2_w 144, 3) := by decide +kernel
theorem dX12_codeItems_233 : decode cX12_codeItems 233 = .ok (.invokevirtual 238, 3) := by decide +kernel
theorem dX12_codeItems_236 : decode cX12_codeItems 236 = .ok (.istore 4, 2) := by decide +kernel
theorem dX12_codeItems_238 : decode cX12_codeItems 238 = .ok (.aload_n 0, 1) := by decide +kernel
theorem dX12_codeItems_239 : decode cX12_codeItems 239 = .ok (.getfield 65, 3) := by decide +kernel
theorem dX12_codeItems_242 : decode cX12_codeItems 242 = .ok (.iload_n 1, 1) := by decide +kernel
theorem dX12_codeItems_243 : decode cX12_codeItems 243 = .ok (.aload_n 0, 1) := by decide +kernel
theorem dX12_codeItems_244 : decode cX12_codeItems 244 = .ok (.iload 4, 2) := by decide +kernel
theorem dX12_codeItems_246 : decode cX12_codeItems 246 = .ok (.invokevirtual 128, 3) := by decide +kernel
theorem dX12_codeItems_249 : decode cX12_codeItems 249 = .ok (.iastore, 1) := by decide +kernel
theorem dX12_codeItems_250 : decode cX12_codeItems 250 = .ok (.aload_n 0, 1) := by decide +kernel
theorem dX12_codeItems_251 : decode cX12_codeItems 251 = .ok (.aload_n 0, 1) := by decide +kernel
theorem dX12_codeItems_252 : decode cX12_codeItems 252 = .ok (.getfield 65, 3) := by decide +kernel
theorem dX12_codeItems_255 : decode cX12_codeItems 255 = .ok (.iload_n 1, 1) := by decide +kernel
theorem dX12_codeItems_256 : decode cX12_codeItems 256 = .ok (.iaload, 1) := by decide +kernel
theorem dX12_codeItems_257 : decode cX12_codeItems 257 = .ok (.bipush 16, 2) := by decide +kernel
theorem dX12_codeItems_259 : decode cX12_codeItems 259 = .ok (.if_icmp .gt 7, 3) := by decide +kernel
theorem dX12_codeItems_262 : decode cX12_codeItems 262 = .ok (.iconst 1, 1) := by decide +kernel
theorem dX12_codeItems_263 : decode cX12_codeItems 263 = .ok (.goto 4, 3) := by decide +kernel
theorem dX12_codeItems_266 : decode cX12_codeItems 266 = .ok (.iconst 0, 1) := by decide +kernel
theorem dX12_codeItems_267 : decode cX12_codeItems 267 = .ok (.bipush 13, 2) := by decide +kernel
theorem dX12_codeItems_269 : decode cX12_codeItems 269 = .ok (.iload 4, 2) := by decide +kernel
theorem dX12_codeItems_271 : decode cX12_codeItems 271 = .ok (.invokevirtual 137, 3) := by decide +kernel
theorem dX12_codeItems_274 : decode cX12_codeItems 274 = .ok (.aload_n 0, 1) := by decide +kernel
theorem dX12_codeItems_275 : decode cX12_codeItems 275 = .ok (.getfield 62, 3) := by decide +kernel
theorem dX12_codeItems_278 : decode cX12_codeItems 278 = .ok (.iload_n 1, 1) := by decide +kernel
theorem dX12_codeItems_279 : decode cX12_codeItems 279 = .ok (.aload_n 0, 1) := by decide +kernel
theorem dX12_codeItems_280 : decode cX12_codeItems 280 = .ok (.getfield 131, 3) := by decide +kernel
theorem dX12_codeItems_283 : decode cX12_codeItems 283 = .ok (.iastore, 1) := by decide +kernel
theorem dX12_codeItems_284 : decode cX12_codeItems 284 = .ok (.iconst 0, 1) := by decide +kernel
theorem dX12_codeItems_285 : decode cX12_codeItems 285 = .ok (.istore 6, 2) := by decide +kernel
theorem dX12_codeItems_287 : decode cX12_codeItems 287 = .ok (.iload 6, 2) := by decide +kernel
theorem dX12_codeItems_289 : decode cX12_codeItems 289 = .ok (.aload_n 0, 1) := by decide +kernel
theorem dX12_codeItems_290 : decode cX12_codeItems 290 = .ok (.getfield 65, 3) := by decide +kernel
theorem dX12_codeItems_293 : decode cX12_codeItems 293 = .ok (.iload_n 1, 1) := by decide +kernel
theorem dX12_codeItems_294 : decode cX12_codeItems 294 = .ok (.iaload, 1) := by decide +kernel
theorem dX12_codeItems_295 : decode cX12_codeItems 295 = .ok (.if_icmp .ge 17, 3) := by decide +kernel
theorem dX12_codeItems_298 : decode cX12_codeItems 298 = .ok (.aload_n 0, 1) := by decide +kernel
theorem dX12_codeItems_299 : decode cX12_codeItems 299 = .ok (.ldc2_w 188, 3) := by decide +kernel
theorem dX12_codeItems_302 : decode cX12_codeItems 302 = .ok (.invokevirtual 238, 3) := by decide +kernel
theorem dX12_codeItems_305 : decode cX12_codeItems 305 = .ok (.pop, 1) := by decide +kernel
theorem dX12_codeItems_306 : decode cX12_codeItems 306 = .ok (.iinc 6 1, 3) := by decide +kernel
theorem dX12_codeItems_309 : decode cX12_codeItems 309 = .ok (.goto (-22), 3) := by decide +kernel
theorem dX12_codeItems_312 : decode cX12_codeItems 312 = .ok (.aload_n 0, 1) := by decide +kernel
theorem dX12_codeItems_313 : decode cX12_codeItems 313 = .ok (.aload_n 0, 1) := by decide +kernel
theorem dX12_codeItems_314 : decode cX12_codeItems 314 = .ok (.ldc2_w 144, 3) := by decide +kernel
theorem dX12_codeItems_317 : decode cX12_codeItems 317 = .ok (.invokevirtual 238, 3) := by decide +kernel
theorem dX12_codeItems_320 : decode cX12_codeItems 320 = .ok (.invokevirtual 128, 3) := by decide +kernel
theorem dX12_codeItems_323 : decode cX12_codeItems 323 = .ok (.istore 6, 2) := by decide +kernel
theorem dX12_codeItems_325 : decode cX12_codeItems 325 = .ok (.iconst 0, 1) := by decide +kernel
theorem dX12_codeItems_326 : decode cX12_codeItems 326 = .ok (.istore 7, 2) := by decide +kernel
theorem dX12_codeItems_328 : decode cX12_codeItems 328 = .ok (.iload 7, 2) := by decide +kernel
theorem dX12_codeItems_330 : decode cX12_codeItems 330 = .ok (.iload 6, 2) := by decide +kernel
theorem dX12_codeItems_332 : decode cX12_codeItems 332 = .ok (.if_icmp .ge 42, 3) := by decide +kernel
theorem dX12_codeItems_335 : decode cX12_codeItems 335 = .ok (.aload_n 0, 1) := by decide +kernel
theorem dX12_codeItems_336 : decode cX12_codeItems 336 = .ok (.ldc2_w 144, 3) := by decide +kernel
theorem dX12_codeItems_339 : decode cX12_codeItems 339 = .ok (.invokevirtual 238, 3) := by decide +kernel
theorem dX12_codeItems_342 : decode cX12_codeItems 342 = .ok (.pop, 1) := by decide +kernel
theorem dX12_codeItems_343 : decode cX12_codeItems 343 = .ok (.aload_n 0, 1) := by decide +kernel
theorem dX12_codeItems_344 : decode cX12_codeItems 344 = .ok (.ldc2_w 183, 3) := by decide +kernel
theorem dX12_codeItems_347 : decode cX12_codeItems 347 = .ok (.invokevirtual 238, 3) := by decide +kernel
theorem dX12_codeItems_350 : decode cX12_codeItems 350 = .ok (.istore 8, 2) := by decide +kernel
theorem dX12_codeItems_352 : decode cX12_codeItems 352 = .ok (.aload_n 0, 1) := by decide +kernel
theorem dX12_codeItems_353 : decode cX12_codeItems 353 = .ok (.aload_n 0, 1) := by decide +kernel
theorem dX12_codeItems_354 : decode cX12_codeItems 354 = .ok (.iload 8, 2) := by decide +kernel
theorem dX12_codeItems_356 : decode cX12_codeItems 356 = .ok (.invokevirtual 185, 3) := by decide +kernel
theorem dX12_codeItems_359 : decode cX12_codeItems 359 = .ok (.i2l, 1) := by decide +kernel
theorem dX12_codeItems_360 : decode cX12_codeItems 360 = .ok (.ldc2_w 190, 3) := by decide +kernel
theorem dX12_codeItems_363 : decode cX12_codeItems 363 = .ok (.land, 1) := by decide +kernel
theorem dX12_codeItems_364 : decode cX12_codeItems 364 = .ok (.invokevirtual 238, 3) := by decide +kernel
theorem dX12_codeItems_367 : decode cX12_codeItems 367 = .ok (.pop, 1) := by decide +kernel
theorem dX12_codeItems_368 : decode cX12_codeItems 368 = .ok (.iinc 7 1, 3) := by decide +kernel
theorem dX12_codeItems_371 : decode cX12_codeItems 371 = .ok (.goto (-43), 3) := by decide +kernel
theorem dX12_codeItems_374 : decode cX12_codeItems 374 = .ok (.aload_n 0, 1) := by decide +kernel
theorem dX12_codeItems_375 : decode cX12_codeItems 375 = .ok (.aload_n 0, 1) := by decide +kernel
theorem dX12_codeItems_376 : decode cX12_codeItems 376 = .ok (.getfield 131, 3) := by decide +kernel
theorem dX12_codeItems_379 : decode cX12_codeItems 379 = .ok (.aload_n 0, 1) := by decide +kernel
theorem dX12_codeItems_380 : decode cX12_codeItems 380 = .ok (.getfield 235, 3) := by decide +kernel
theorem dX12_codeItems_383 : decode cX12_codeItems 383 = .ok (.if_icmp .ne 7, 3) := by decide +kernel
theorem dX12_codeItems_386 : decode cX12_codeItems 386 = .ok (.iconst 1, 1) := by decide +kernel
theorem dX12_codeItems_387 : decode cX12_codeItems 387 = .ok (.goto 4, 3) := by decide +kernel
theorem dX12_codeItems_390 : decode cX12_codeItems 390 = .ok (.iconst 0, 1) := by decide +kernel
theorem dX12_codeItems_391 : decode cX12_codeItems 391 = .ok (.bipush 14, 2) := by decide +kernel
theorem dX12_codeItems_393 : decode cX12_codeItems 393 = .ok (.aload_n 0, 1) := by decide +kernel
theorem dX12_codeItems_394 : decode cX12_codeItems 394 = .ok (.getfield 131, 3) := by decide +kernel
theorem dX12_codeItems_397 : decode cX12_codeItems 397 = .ok (.invokevirtual 137, 3) := by decide +kernel
theorem dX12_codeItems_400 : decode cX12_codeItems 400 = .ok (.return_, 1) := by decide +kernel
theorem dX12_codeOctet_0 : decode cX12_codeOctet 0 = .ok (.aload_n 0, 1) := by decide +kernel
theorem dX12_codeOctet_1 : decode cX12_codeOctet 1 = .ok (.getfield 121, 3) := by decide +kernel
theorem dX12_codeOctet_4 : decode cX12_codeOctet 4 = .ok (.aload_n 0, 1) := by decide +kernel
theorem dX12_codeOctet_5 : decode cX12_codeOctet 5 = .ok (.getfield 241, 3) := by decide +kernel
theorem dX12_codeOctet_8 : decode cX12_codeOctet 8 = .ok (.iload_n 1, 1) := by decide +kernel
theorem dX12_codeOctet_9 : decode cX12_codeOctet 9 = .ok (.iadd, 1) := by decide +kernel
theorem dX12_codeOctet_10 : decode cX12_codeOctet 10 = .ok (.baload, 1) := by decide +kernel
theorem dX12_codeOctet_11 : decode cX12_codeOctet 11 = .ok (.sipush 255, 3) := by decide +kernel
theorem dX12_codeOctet_14 : decode cX12_codeOctet 14 = .ok (.iand, 1) := by decide +kernel
theorem dX12_codeOctet_15 : decode cX12_codeOctet 15 = .ok (.ireturn, 1) := by decide +kernel
theorem dX12_codeTwo_0 : decode cX12_codeTwo 0 = .ok (.aload_n 0, 1) := by decide +kernel
theorem dX12_codeTwo_1 : decode cX12_codeTwo 1 = .ok (.aload_n 0, 1) := by decide +kernel
theorem dX12_codeTwo_2 : decode cX12_codeTwo 2 = .ok (.getfield 241, 3) := by decide +kernel
theorem dX12_codeTwo_5 : decode cX12_codeTwo 5 = .ok (.iload_n 1, 1) := by decide +kernel
theorem dX12_codeTwo_6 : decode cX12_codeTwo 6 = .ok (.iadd, 1) := by decide +kernel
theorem dX12_codeTwo_7 : decode cX12_codeTwo 7 = .ok (.invokevirtual 128, 3) := by decide +kernel
theorem dX12_codeTwo_10 : decode cX12_codeTwo 10 = .ok (.i2s, 1) := by decide +kernel
theorem dX12_codeTwo_11 : decode cX12_codeTwo 11 = .ok (.ireturn, 1) := by decide +kernel
theorem dX12_codeFour_0 : decode cX12_codeFour 0 = .ok (.aload_n 0, 1) := by decide +kernel
theorem dX12_codeFour_1 : decode cX12_codeFour 1 = .ok (.aload_n 0, 1) := by decide +kernel
theorem dX12_codeFour_2 : decode cX12_codeFour 2 = .ok (.getfield 241, 3) := by decide +kernel
theorem dX12_codeFour_5 : decode cX12_codeFour 5 = .ok (.iload_n 1, 1) := by decide +kernel
theorem dX12_codeFour_6 : decode cX12_codeFour 6 = .ok (.iadd, 1) := by decide +kernel
theorem dX12_codeFour_7 : decode cX12_codeFour 7 = .ok (.invokevirtual 185, 3) := by decide +kernel
theorem dX12_codeFour_10 : decode cX12_codeFour 10 = .ok (.ireturn, 1) := by decide +kernel
theorem dX12_spanOf_0 : decode cX12_spanOf 0 = .ok (.iload_n 0, 1) := by decide +kernel
theorem dX12_spanOf_1 : decode cX12_spanOf 1 = .ok (.bipush 10, 2) := by decide +kernel
theorem dX12_spanOf_3 : decode cX12_spanOf 3 = .ok (.if_icmp .le 51, 3) := by decide +kernel
theorem dX12_spanOf_6 : decode cX12_spanOf 6 = .ok (.iload_n 0, 1) := by decide +kernel
theorem dX12_spanOf_7 : decode cX12_spanOf 7 = .ok (.bipush 26, 2) := by decide +kernel
theorem dX12_spanOf_9 : decode cX12_spanOf 9 = .ok (.if_icmp .lt 9, 3) := by decide +kernel
theorem dX12_spanOf_12 : decode cX12_spanOf 12 = .ok (.iload_n 0, 1) := by decide +kernel
theorem dX12_spanOf_13 : decode cX12_spanOf 13 = .ok (.bipush 33, 2) := by decide +kernel
theorem dX12_spanOf_15 : decode cX12_spanOf 15 = .ok (.if_icmp .le 39, 3) := by decide +kernel
theorem dX12_spanOf_18 : decode cX12_spanOf 18 = .ok (.iload_n 0, 1) := by decide +kernel
theorem dX12_spanOf_19 : decode cX12_spanOf 19 = .ok (.bipush 42, 2) := by decide +kernel
theorem dX12_spanOf_21 : decode cX12_spanOf 21 = .ok (.if_icmp .lt 9, 3) := by decide +kernel
theorem dX12_spanOf_24 : decode cX12_spanOf 24 = .ok (.iload_n 0, 1) := by decide +kernel
theorem dX12_spanOf_25 : decode cX12_spanOf 25 = .ok (.bipush 46, 2) := by decide +kernel
theorem dX12_spanOf_27 : decode cX12_spanOf 27 = .ok (.if_icmp .le 27, 3) := by decide +kernel
theorem dX12_spanOf_30 : decode cX12_spanOf 30 = .ok (.iload_n 0, 1) := by decide +kernel
theorem dX12_spanOf_31 : decode cX12_spanOf 31 = .ok (.bipush 59, 2) := by decide +kernel
theorem dX12_spanOf_33 : decode cX12_spanOf 33 = .ok (.if_icmp .lt 9, 3) := by decide +kernel
theorem dX12_spanOf_36 : decode cX12_spanOf 36 = .ok (.iload_n 0, 1) := by decide +kernel
theorem dX12_spanOf_37 : decode cX12_spanOf 37 = .ok (.bipush 66, 2) := by decide +kernel
theorem dX12_spanOf_39 : decode cX12_spanOf 39 = .ok (.if_icmp .le 15, 3) := by decide +kernel
theorem dX12_spanOf_42 : decode cX12_spanOf 42 = .ok (.iload_n 0, 1) := by decide +kernel
theorem dX12_spanOf_43 : decode cX12_spanOf 43 = .ok (.bipush 75, 2) := by decide +kernel
theorem dX12_spanOf_45 : decode cX12_spanOf 45 = .ok (.if_icmp .lt 11, 3) := by decide +kernel
theorem dX12_spanOf_48 : decode cX12_spanOf 48 = .ok (.iload_n 0, 1) := by decide +kernel
theorem dX12_spanOf_49 : decode cX12_spanOf 49 = .ok (.bipush 79, 2) := by decide +kernel
theorem dX12_spanOf_51 : decode cX12_spanOf 51 = .ok (.if_icmp .gt 5, 3) := by decide +kernel
theorem dX12_spanOf_54 : decode cX12_spanOf 54 = .ok (.iconst 1, 1) := by decide +kernel
theorem dX12_spanOf_55 : decode cX12_spanOf 55 = .ok (.ireturn, 1) := by decide +kernel
theorem dX12_spanOf_56 : decode cX12_spanOf 56 = .ok (.iload_n 0, 1) := by decide +kernel
theorem dX12_spanOf_57 : decode cX12_spanOf 57 = .ok (.bipush 87, 2) := by decide +kernel
theorem dX12_spanOf_59 : decode cX12_spanOf 59 = .ok (.if_icmp .lt 9, 3) := by decide +kernel
theorem dX12_spanOf_62 : decode cX12_spanOf 62 = .ok (.iload_n 0, 1) := by decide +kernel
theorem dX12_spanOf_63 : decode cX12_spanOf 63 = .ok (.bipush 90, 2) := by decide +kernel
theorem dX12_spanOf_65 : decode cX12_spanOf 65 = .ok (.if_icmp .le 47, 3) := by decide +kernel
theorem dX12_spanOf_68 : decode cX12_spanOf 68 = .ok (.iload_n 0, 1) := by decide +kernel
theorem dX12_spanOf_69 : decode cX12_spanOf 69 = .ok (.bipush 92, 2) := by decide +kernel
theorem dX12_spanOf_71 : decode cX12_spanOf 71 = .ok (.if_icmp .eq 41, 3) := by decide +kernel
theorem dX12_spanOf_74 : decode cX12_spanOf 74 = .ok (.iload_n 0, 1) := by decide +kernel
theorem dX12_spanOf_75 : decode cX12_spanOf 75 = .ok (.bipush 95, 2) := by decide +kernel
theorem dX12_spanOf_77 : decode cX12_spanOf 77 = .ok (.if_icmp .eq 35, 3) := by decide +kernel
theorem dX12_spanOf_80 : decode cX12_spanOf 80 = .ok (.iload_n 0, 1) := by decide +kernel
theorem dX12_spanOf_81 : decode cX12_spanOf 81 = .ok (.bipush 96, 2) := by decide +kernel
theorem dX12_spanOf_83 : decode cX12_spanOf 83 = .ok (.if_icmp .lt 16, 3) := by decide +kernel
theorem dX12_spanOf_86 : decode cX12_spanOf 86 = .ok (.iload_n 0, 1) := by decide +kernel
theorem dX12_spanOf_87 : decode cX12_spanOf 87 = .ok (.bipush 119, 2) := by decide +kernel
theorem dX12_spanOf_89 : decode cX12_spanOf 89 = .ok (.if_icmp .gt 10, 3) := by decide +kernel
theorem dX12_spanOf_92 : decode cX12_spanOf 92 = .ok (.iload_n 0, 1) := by decide +kernel
theorem dX12_spanOf_93 : decode cX12_spanOf 93 = .ok (.iconst 4, 1) := by decide +kernel
theorem dX12_spanOf_94 : decode cX12_spanOf 94 = .ok (.irem, 1) := by decide +kernel
theorem dX12_spanOf_95 : decode cX12_spanOf 95 = .ok (.iconst 2, 1) := by decide +kernel
theorem dX12_spanOf_96 : decode cX12_spanOf 96 = .ok (.if_icmp .lt 16, 3) := by decide +kernel
theorem dX12_spanOf_99 : decode cX12_spanOf 99 = .ok (.iload_n 0, 1) := by decide +kernel
theorem dX12_spanOf_100 : decode cX12_spanOf 100 = .ok (.bipush 120, 2) := by decide +kernel
theorem dX12_spanOf_102 : decode cX12_spanOf 102 = .ok (.if_icmp .lt 12, 3) := by decide +kernel
theorem dX12_spanOf_105 : decode cX12_spanOf 105 = .ok (.iload_n 0, 1) := by decide +kernel
theorem dX12_spanOf_106 : decode cX12_spanOf 106 = .ok (.sipush 131, 3) := by decide +kernel
theorem dX12_spanOf_109 : decode cX12_spanOf 109 = .ok (.if_icmp .gt 5, 3) := by decide +kernel
theorem dX12_spanOf_112 : decode cX12_spanOf 112 = .ok (.iconst 1, 1) := by decide +kernel
theorem dX12_spanOf_113 : decode cX12_spanOf 113 = .ok (.ireturn, 1) := by decide +kernel
theorem dX12_spanOf_114 : decode cX12_spanOf 114 = .ok (.iload_n 0, 1) := by decide +kernel
theorem dX12_spanOf_115 : decode cX12_spanOf 115 = .ok (.sipush 133, 3) := by decide +kernel
theorem dX12_spanOf_118 : decode cX12_spanOf 118 = .ok (.if_icmp .eq 66, 3) := by decide +kernel
theorem dX12_spanOf_121 : decode cX12_spanOf 121 = .ok (.iload_n 0, 1) := by decide +kernel
theorem dX12_spanOf_122 : decode cX12_spanOf 122 = .ok (.sipush 136, 3) := by decide +kernel
theorem dX12_spanOf_125 : decode cX12_spanOf 125 = .ok (.if_icmp .eq 59, 3) := by decide +kernel
theorem dX12_spanOf_128 : decode cX12_spanOf 128 = .ok (.iload_n 0, 1) := by decide +kernel
theorem dX12_spanOf_129 : decode cX12_spanOf 129 = .ok (.sipush 145, 3) := by decide +kernel
theorem dX12_spanOf_132 : decode cX12_spanOf 132 = .ok (.if_icmp .lt 10, 3) := by decide +kernel
theorem dX12_spanOf_135 : decode cX12_spanOf 135 = .ok (.iload_n 0, 1) := by decide +kernel
theorem dX12_spanOf_136 : decode cX12_spanOf 136 = .ok (.sipush 148, 3) := by decide +kernel
theorem dX12_spanOf_139 : decode cX12_spanOf 139 = .ok (.if_icmp .le 45, 3) := by decide +kernel
theorem dX12_spanOf_142 : decode cX12_spanOf 142 = .ok (.iload_n 0, 1) := by decide +kernel
theorem dX12_spanOf_143 : decode cX12_spanOf 143 = .ok (.sipush 172, 3) := by decide +kernel
theorem dX12_spanOf_146 : decode cX12_spanOf 146 = .ok (.if_icmp .eq 38, 3) := by decide +kernel
theorem dX12_spanOf_149 : decode cX12_spanOf 149 = .ok (.iload_n 0, 1) := by decide +kernel
theorem dX12_spanOf_150 : decode cX12_spanOf 150 = .ok (.sipush 173, 3) := by decide +kernel
theorem dX12_spanOf_153 : decode cX12_spanOf 153 = .ok (.if_icmp .eq 31, 3) := by decide +kernel
theorem dX12_spanOf_156 : decode cX12_spanOf 156 = .ok (.iload_n 0, 1) := by decide +kernel
theorem dX12_spanOf_157 : decode cX12_spanOf 157 = .ok (.sipush 176, 3) := by decide +kernel
theorem dX12_spanOf_160 : decode cX12_spanOf 160 = .ok (.if_icmp .eq 24, 3) := by decide +kernel
theorem dX12_spanOf_163 : decode cX12_spanOf 163 = .ok (.iload_n 0, 1) := by decide +kernel
theorem dX12_spanOf_164 : decode cX12_spanOf 164 = .ok (.sipush 177, 3) := by decide +kernel
theorem dX12_spanOf_167 : decode cX12_spanOf 167 = .ok (.if_icmp .eq 17, 3) := by decide +kernel
theorem dX12_spanOf_170 : decode cX12_spanOf 170 = .ok (.iload_n 0, 1) := by decide +kernel
theorem dX12_spanOf_171 : decode cX12_spanOf 171 = .ok (.sipush 190, 3) := by decide +kernel
theorem dX12_spanOf_174 : decode cX12_spanOf 174 = .ok (.if_icmp .eq 10, 3) := by decide +kernel
theorem dX12_spanOf_177 : decode cX12_spanOf 177 = .ok (.iload_n 0, 1) := by decide +kernel
theorem dX12_spanOf_178 : decode cX12_spanOf 178 = .ok (.sipush 191, 3) := by decide +kernel
theorem dX12_spanOf_181 : decode cX12_spanOf 181 = .ok (.if_icmp .ne 5, 3) := by decide +kernel
theorem dX12_spanOf_184 : decode cX12_spanOf 184 = .ok (.iconst 1, 1) := by decide +kernel
theorem dX12_spanOf_185 : decode cX12_spanOf 185 = .ok (.ireturn, 1) := by decide +kernel
theorem dX12_spanOf_186 : decode cX12_spanOf 186 = .ok (.iload_n 0, 1) := by decide +kernel
theorem dX12_spanOf_187 : decode cX12_spanOf 187 = .ok (.bipush 16, 2) := by decide +kernel
theorem dX12_spanOf_189 : decode cX12_spanOf 189 = .ok (.if_icmp .eq 52, 3) := by decide +kernel
theorem dX12_spanOf_192 : decode cX12_spanOf 192 = .ok (.iload_n 0, 1) := by decide +kernel
theorem dX12_spanOf_193 : decode cX12_spanOf 193 = .ok (.bipush 18, 2) := by decide +kernel
theorem dX12_spanOf_195 : decode cX12_spanOf 195 = .ok (.if_icmp .eq 46, 3) := by decide +kernel
theorem dX12_spanOf_198 : decode cX12_spanOf 198 = .ok (.iload_n 0, 1) := by decide +kernel
theorem dX12_spanOf_199 : decode cX12_spanOf 199 = .ok (.bipush 21, 2) := by decide +kernel
theorem dX12_spanOf_201 : decode cX12_spanOf 201 = .ok (.if_icmp .eq 40, 3) := by decide +kernel
theorem dX12_spanOf_204 : decode cX12_spanOf 204 = .ok (.iload_n 0, 1) := by decide +kernel
theorem dX12_spanOf_205 : decode cX12_spanOf 205 = .ok (.bipush 22, 2) := by decide +kernel
theorem dX12_spanOf_207 : decode cX12_spanOf 207 = .ok (.if_icmp .eq 34, 3) := by decide +kernel
theorem dX12_spanOf_210 : decode cX12_spanOf 210 = .ok (.iload_n 0, 1) := by decide +kernel
theorem dX12_spanOf_211 : decode cX12_spanOf 211 = .ok (.bipush 25, 2) := by decide +kernel
theorem dX12_spanOf_213 : decode cX12_spanOf 213 = .ok (.if_icmp .eq 28, 3) := by decide +kernel
theorem dX12_spanOf_216 : decode cX12_spanOf 216 = .ok (.iload_n 0, 1) := by decide +kernel
theorem dX12_spanOf_217 : decode cX12_spanOf 217 = .ok (.bipush 54, 2) := by decide +kernel
theorem dX12_spanOf_219 : decode cX12_spanOf 219 = .ok (.if_icmp .eq 22, 3) := by decide +kernel
theorem dX12_spanOf_222 : decode cX12_spanOf 222 = .ok (.iload_n 0, 1) := by decide +kernel
theorem dX12_spanOf_223 : decode cX12_spanOf 223 = .ok (.bipush 55, 2) := by decide +kernel
theorem dX12_spanOf_225 : decode cX12_spanOf 225 = .ok (.if_icmp .eq 16, 3) := by decide +kernel
theorem dX12_spanOf_228 : decode cX12_spanOf 228 = .ok (.iload_n 0, 1) := by decide +kernel
theorem dX12_spanOf_229 : decode cX12_spanOf 229 = .ok (.bipush 58, 2) := by decide +kernel
theorem dX12_spanOf_231 : decode cX12_spanOf 231 = .ok (.if_icmp .eq 10, 3) := by decide +kernel
theorem dX12_spanOf_234 : decode cX12_spanOf 234 = .ok (.iload_n 0, 1) := by decide +kernel
theorem dX12_spanOf_235 : decode cX12_spanOf 235 = .ok (.sipush 188, 3) := by decide +kernel
theorem dX12_spanOf_238 : decode cX12_spanOf 238 = .ok (.if_icmp .ne 5, 3) := by decide +kernel
theorem dX12_spanOf_241 : decode cX12_spanOf 241 = .ok (.iconst 2, 1) := by decide +kernel
theorem dX12_spanOf_242 : decode cX12_spanOf 242 = .ok (.ireturn, 1) := by decide +kernel
theorem dX12_spanOf_243 : decode cX12_spanOf 243 = .ok (.iload_n 0, 1) := by decide +kernel
theorem dX12_spanOf_244 : decode cX12_spanOf 244 = .ok (.bipush 17, 2) := by decide +kernel
theorem dX12_spanOf_246 : decode cX12_spanOf 246 = .ok (.if_icmp .eq 71, 3) := by decide +kernel
theorem dX12_spanOf_249 : decode cX12_spanOf 249 = .ok (.iload_n 0, 1) := by decide +kernel
theorem dX12_spanOf_250 : decode cX12_spanOf 250 = .ok (.bipush 19, 2) := by decide +kernel
theorem dX12_spanOf_252 : decode cX12_spanOf 252 = .ok (.if_icmp .eq 65, 3) := by decide +kernel
theorem dX12_spanOf_255 : decode cX12_spanOf 255 = .ok (.iload_n 0, 1) := by decide +kernel
theorem dX12_spanOf_256 : decode cX12_spanOf 256 = .ok (.bipush 20, 2) := by decide +kernel
theorem dX12_spanOf_258 : decode cX12_spanOf 258 = .ok (.if_icmp .eq 59, 3) := by decide +kernel
theorem dX12_spanOf_261 : decode cX12_spanOf 261 = .ok (.iload_n 0, 1) := by decide +kernel
theorem dX12_spanOf_262 : decode cX12_spanOf 262 = .ok (.sipush 132, 3) := by decide +kernel
theorem dX12_spanOf_265 : decode cX12_spanOf 265 = .ok (.if_icmp .eq 52, 3) := by decide +kernel
theorem dX12_spanOf_268 : decode cX12_spanOf 268 = .ok (.iload_n 0, 1) := by decide +kernel
theorem dX12_spanOf_269 : decode cX12_spanOf 269 = .ok (.sipush 153, 3) := by decide +kernel
theorem dX12_spanOf_272 : decode cX12_spanOf 272 = .ok (.if_icmp .lt 10, 3) := by decide +kernel
theorem dX12_spanOf_275 : decode cX12_spanOf 275 = .ok (.iload_n 0, 1) := by decide +kernel
theorem dX12_spanOf_276 : decode cX12_spanOf 276 = .ok (.sipush 167, 3) := by decide +kernel
theorem dX12_spanOf_279 : decode cX12_spanOf 279 = .ok (.if_icmp .le 38, 3) := by decide +kernel
theorem dX12_spanOf_282 : decode cX12_spanOf 282 = .ok (.iload_n 0, 1) := by decide +kernel
theorem dX12_spanOf_283 : decode cX12_spanOf 283 = .ok (.sipush 178, 3) := by decide +kernel
theorem dX12_spanOf_286 : decode cX12_spanOf 286 = .ok (.if_icmp .eq 31, 3) := by decide +kernel
theorem dX12_spanOf_289 : decode cX12_spanOf 289 = .ok (.iload_n 0, 1) := by decide +kernel
theorem dX12_spanOf_290 : decode cX12_spanOf 290 = .ok (.sipush 179, 3) := by decide +kernel
theorem dX12_spanOf_293 : decode cX12_spanOf 293 = .ok (.if_icmp .eq 24, 3) := by decide +kernel
theorem dX12_spanOf_296 : decode cX12_spanOf 296 = .ok (.iload_n 0, 1) := by decide +kernel
theorem dX12_spanOf_297 : decode cX12_spanOf 297 = .ok (.sipush 184, 3) := by decide +kernel
theorem dX12_spanOf_300 : decode cX12_spanOf 300 = .ok (.if_icmp .eq 17, 3) := by decide +kernel
theorem dX12_spanOf_303 : decode cX12_spanOf 303 = .ok (.iload_n 0, 1) := by decide +kernel
theorem dX12_spanOf_304 : decode cX12_spanOf 304 = .ok (.sipush 198, 3) := by decide +kernel
theorem dX12_spanOf_307 : decode cX12_spanOf 307 = .ok (.if_icmp .eq 10, 3) := by decide +kernel
theorem dX12_spanOf_310 : decode cX12_spanOf 310 = .ok (.iload_n 0, 1) := by decide +kernel
theorem dX12_spanOf_311 : decode cX12_spanOf 311 = .ok (.sipush 199, 3) := by decide +kernel
theorem dX12_spanOf_314 : decode cX12_spanOf 314 = .ok (.if_icmp .ne 5, 3) := by decide +kernel
theorem dX12_spanOf_317 : decode cX12_spanOf 317 = .ok (.iconst 3, 1) := by decide +kernel
theorem dX12_spanOf_318 : decode cX12_spanOf 318 = .ok (.ireturn, 1) := by decide +kernel
theorem dX12_spanOf_319 : decode cX12_spanOf 319 = .ok (.iload_n 0, 1) := by decide +kernel
theorem dX12_spanOf_320 : decode cX12_spanOf 320 = .ok (.sipush 200, 3) := by decide +kernel
theorem dX12_spanOf_323 : decode cX12_spanOf 323 = .ok (.if_icmp .ne 7, 3) := by decide +kernel
theorem dX12_spanOf_326 : decode cX12_spanOf 326 = .ok (.iconst 5, 1) := by decide +kernel
theorem dX12_spanOf_327 : decode cX12_spanOf 327 = .ok (.goto 34, 3) := by decide +kernel
theorem dX12_spanOf_330 : decode cX12_spanOf 330 = .ok (.iload_n 0, 1) := by decide +kernel
theorem dX12_spanOf_331 : decode cX12_spanOf 331 = .ok (.sipush 170, 3) := by decide +kernel
theorem dX12_spanOf_334 : decode cX12_spanOf 334 = .ok (.if_icmp .eq 10, 3) := by decide +kernel
theorem dX12_spanOf_337 : decode cX12_spanOf 337 = .ok (.iload_n 0, 1) := by decide +kernel
theorem dX12_spanOf_338 : decode cX12_spanOf 338 = .ok (.sipush 171, 3) := by decide +kernel
theorem dX12_spanOf_341 : decode cX12_spanOf 341 = .ok (.if_icmp .ne 7, 3) := by decide +kernel
theorem dX12_spanOf_344 : decode cX12_spanOf 344 = .ok (.iconst (-1), 1) := by decide +kernel
theorem dX12_spanOf_345 : decode cX12_spanOf 345 = .ok (.goto 16, 3) := by decide +kernel
theorem dX12_spanOf_348 : decode cX12_spanOf 348 = .ok (.iload_n 0, 1) := by decide +kernel
theorem dX12_spanOf_349 : decode cX12_spanOf 349 = .ok (.sipush 196, 3) := by decide +kernel
theorem dX12_spanOf_352 : decode cX12_spanOf 352 = .ok (.if_icmp .ne 8, 3) := by decide +kernel
theorem dX12_spanOf_355 : decode cX12_spanOf 355 = .ok (.bipush (-2), 2) := by decide +kernel
theorem dX12_spanOf_357 : decode cX12_spanOf 357 = .ok (.goto 4, 3) := by decide +kernel
theorem dX12_spanOf_360 : decode cX12_spanOf 360 = .ok (.iconst 0, 1) := by decide +kernel
theorem dX12_spanOf_361 : decode cX12_spanOf 361 = .ok (.ireturn, 1) := by decide +kernel
theorem dX12_span_0 : decode cX12_span 0 = .ok (.aload_n 0, 1) := by decide +kernel
theorem dX12_span_1 : decode cX12_span 1 = .ok (.iload_n 1, 1) := by decide +kernel
theorem dX12_span_2 : decode cX12_span 2 = .ok (.invokevirtual 244, 3) := by decide +kernel
theorem dX12_span_5 : decode cX12_span 5 = .ok (.istore_n 2, 1) := by decide +kernel
theorem dX12_span_6 : decode cX12_span 6 = .ok (.iload_n 2, 1) := by decide +kernel
theorem dX12_span_7 : decode cX12_span 7 = .ok (.invokestatic 247, 3) := by decide +kernel
theorem dX12_span_10 : decode cX12_span 10 = .ok (.istore_n 3, 1) := by decide +kernel
theorem dX12_span_11 : decode cX12_span 11 = .ok (.iload_n 3, 1) := by decide +kernel
theorem dX12_span_12 : decode cX12_span 12 = .ok (.bipush (-2), 2) := by decide +kernel
theorem dX12_span_14 : decode cX12_span 14 = .ok (.if_icmp .ne 87, 3) := by decide +kernel
theorem dX12_span_17 : decode cX12_span 17 = .ok (.iload_n 1, 1) := by decide +kernel
theorem dX12_span_18 : decode cX12_span 18 = .ok (.iconst 1, 1) := by decide +kernel
theorem dX12_span_19 : decode cX12_span 19 = .ok (.iadd, 1) := by decide +kernel
theorem dX12_span_20 : decode cX12_span 20 = .ok (.aload_n 0, 1) := by decide +kernel
theorem dX12_span_21 : decode cX12_span 21 = .ok (.getfield 250, 3) := by decide +kernel
theorem dX12_span_24 : decode cX12_span 24 = .ok (.if_icmp .ge 13, 3) := by decide +kernel
theorem dX12_span_27 : decode cX12_span 27 = .ok (.aload_n 0, 1) := by decide +kernel
theorem dX12_span_28 : decode cX12_span 28 = .ok (.iload_n 1, 1) := by decide +kernel
theorem dX12_span_29 : decode cX12_span 29 = .ok (.iconst 1, 1) := by decide +kernel
theorem dX12_span_30 : decode cX12_span 30 = .ok (.iadd, 1) := by decide +kernel
theorem dX12_span_31 : decode cX12_span 31 = .ok (.invokevirtual 244, 3) := by decide +kernel
theorem dX12_span_34 : decode cX12_span 34 = .ok (.goto 4, 3) := by decide +kernel
theorem dX12_span_37 : decode cX12_span 37 = .ok (.iconst 0, 1) := by decide +kernel
theorem dX12_span_38 : decode cX12_span 38 = .ok (.istore 4, 2) := by decide +kernel
theorem dX12_span_40 : decode cX12_span 40 = .ok (.iload 4, 2) := by decide +kernel
theorem dX12_span_42 : decode cX12_span 42 = .ok (.sipush 132, 3) := by decide +kernel
theorem dX12_span_45 : decode cX12_span 45 = .ok (.if_icmp .ne 8, 3) := by decide +kernel
theorem dX12_span_48 : decode cX12_span 48 = .ok (.bipush 6, 2) := by decide +kernel
theorem dX12_span_50 : decode cX12_span 50 = .ok (.goto 50, 3) := by decide +kernel
theorem dX12_span_53 : decode cX12_span 53 = .ok (.iload 4, 2) := by decide +kernel
theorem dX12_span_55 : decode cX12_span 55 = .ok (.bipush 21, 2) := by decide +kernel
theorem dX12_span_57 : decode cX12_span 57 = .ok (.if_icmp .eq 38, 3) := by decide +kernel
theorem dX12_span_60 : decode cX12_span 60 = .ok (.iload 4, 2) := by decide +kernel
theorem dX12_span_62 : decode cX12_span 62 = .ok (.bipush 22, 2) := by decide +kernel
theorem dX12_span_64 : decode cX12_span 64 = .ok (.if_icmp .eq 31, 3) := by decide +kernel
theorem dX12_span_67 : decode cX12_span 67 = .ok (.iload 4, 2) := by decide +kernel
theorem dX12_span_69 : decode cX12_span 69 = .ok (.bipush 25, 2) := by decide +kernel
theorem dX12_span_71 : decode cX12_span 71 = .ok (.if_icmp .eq 24, 3) := by decide +kernel
theorem dX12_span_74 : decode cX12_span 74 = .ok (.iload 4, 2) := by decide +kernel
theorem dX12_span_76 : decode cX12_span 76 = .ok (.bipush 54, 2) := by decide +kernel
theorem dX12_span_78 : decode cX12_span 78 = .ok (.if_icmp .eq 17, 3) := by decide +kernel
theorem dX12_span_81 : decode cX12_span 81 = .ok (.iload 4, 2) := by decide +kernel
theorem dX12_span_83 : decode cX12_span 83 = .ok (.bipush 55, 2) := by decide +kernel
theorem dX12_span_85 : decode cX12_span 85 = .ok (.if_icmp .eq 10, 3) := by decide +kernel
theorem dX12_span_88 : decode cX12_span 88 = .ok (.iload 4, 2) := by decide +kernel
theorem dX12_span_90 : decode cX12_span 90 = .ok (.bipush 58, 2) := by decide +kernel
theorem dX12_span_92 : decode cX12_span 92 = .ok (.if_icmp .ne 7, 3) := by decide +kernel
theorem dX12_span_95 : decode cX12_span 95 = .ok (.iconst 4, 1) := by decide +kernel
theorem dX12_span_96 : decode cX12_span 96 = .ok (.goto 4, 3) := by decide +kernel
theorem dX12_span_99 : decode cX12_span 99 = .ok (.iconst 0, 1) := by decide +kernel
theorem dX12_span_100 : decode cX12_span 100 = .ok (.istore_n 3, 1) := by decide +kernel
theorem dX12_span_101 : decode cX12_span 101 = .ok (.iload_n 3, 1) := by decide +kernel
theorem dX12_span_102 : decode cX12_span 102 = .ok (.iconst (-1), 1) := by decide +kernel
theorem dX12_span_103 : decode cX12_span 103 = .ok (.if_icmp .ne 10, 3) := by decide +kernel
theorem dX12_span_106 : decode cX12_span 106 = .ok (.aload_n 0, 1) := by decide +kernel
theorem dX12_span_107 : decode cX12_span 107 = .ok (.iload_n 1, 1) := by decide +kernel
theorem dX12_span_108 : decode cX12_span 108 = .ok (.iload_n 2, 1) := by decide +kernel
theorem dX12_span_109 : decode cX12_span 109 = .ok (.invokevirtual 253, 3) := by decide +kernel
theorem dX12_span_112 : decode cX12_span 112 = .ok (.istore_n 3, 1) := by decide +kernel
theorem dX12_span_113 : decode cX12_span 113 = .ok (.iload_n 3, 1) := by decide +kernel
theorem dX12_span_114 : decode cX12_span 114 = .ok (.ifCond .le 13, 3) := by decide +kernel
theorem dX12_span_117 : decode cX12_span 117 = .ok (.iload_n 1, 1) := by decide +kernel
theorem dX12_span_118 : decode cX12_span 118 = .ok (.iload_n 3, 1) := by decide +kernel
theorem dX12_span_119 : decode cX12_span 119 = .ok (.iadd, 1) := by decide +kernel
theorem dX12_span_120 : decode cX12_span 120 = .ok (.aload_n 0, 1) := by decide +kernel
theorem dX12_span_121 : decode cX12_span 121 = .ok (.getfield 250, 3) := by decide +kernel
theorem dX12_span_124 : decode cX12_span 124 = .ok (.if_icmp .le 5, 3) := by decide +kernel
theorem dX12_span_127 : decode cX12_span 127 = .ok (.iconst (-1), 1) := by decide +kernel
theorem dX12_span_128 : decode cX12_span 128 = .ok (.ireturn, 1) := by decide +kernel
theorem dX12_span_129 : decode cX12_span 129 = .ok (.iload_n 2, 1) := by decide +kernel
theorem dX12_span_130 : decode cX12_span 130 = .ok (.sipush 188, 3) := by decide +kernel
theorem dX12_span_133 : decode cX12_span 133 = .ok (.if_icmp .ne 19, 3) := by decide +kernel
theorem dX12_span_136 : decode cX12_span 136 = .ok (.aload_n 0, 1) := by decide +kernel
theorem dX12_span_137 : decode cX12_span 137 = .ok (.iload_n 1, 1) := by decide +kernel
theorem dX12_span_138 : decode cX12_span 138 = .ok (.iconst 1, 1) := by decide +kernel
theorem dX12_span_139 : decode cX12_span 139 = .ok (.iadd, 1) := by decide +kernel
theorem dX12_span_140 : decode cX12_span 140 = .ok (.invokevirtual 244, 3) := by decide +kernel
theorem dX12_span_143 : decode cX12_span 143 = .ok (.bipush 10, 2) := by decide +kernel
theorem dX12_span_145 : decode cX12_span 145 = .ok (.if_icmp .eq 7, 3) := by decide +kernel
theorem dX12_span_148 : decode cX12_span 148 = .ok (.iconst (-1), 1) := by decide +kernel
theorem dX12_span_149 : decode cX12_span 149 = .ok (.goto 4, 3) := by decide +kernel
theorem dX12_span_152 : decode cX12_span 152 = .ok (.iload_n 3, 1) := by decide +kernel
theorem dX12_span_153 : decode cX12_span 153 = .ok (.ireturn, 1) := by decide +kernel
theorem dX12_switchFrom_0 : decode cX12_switchFrom 0 = .ok (.iload_n 0, 1) := by decide +kernel
theorem dX12_switchFrom_1 : decode cX12_switchFrom 1 = .ok (.iconst 1, 1) := by decide +kernel
theorem dX12_switchFrom_2 : decode cX12_switchFrom 2 = .ok (.iadd, 1) := by decide +kernel
theorem dX12_switchFrom_3 : decode cX12_switchFrom 3 = .ok (.iconst 3, 1) := by decide +kernel
theorem dX12_switchFrom_4 : decode cX12_switchFrom 4 = .ok (.iload_n 0, 1) := by decide +kernel
theorem dX12_switchFrom_5 : decode cX12_switchFrom 5 = .ok (.iconst 4, 1) := by decide +kernel
theorem dX12_switchFrom_6 : decode cX12_switchFrom 6 = .ok (.irem, 1) := by decide +kernel
theorem dX12_switchFrom_7 : decode cX12_switchFrom 7 = .ok (.isub, 1) := by decide +kernel
theorem dX12_switchFrom_8 : decode cX12_switchFrom 8 = .ok (.iadd, 1) := by decide +kernel
theorem dX12_switchFrom_9 : decode cX12_switchFrom 9 = .ok (.ireturn, 1) := by decide +kernel
theorem dX12_switchSpan_0 : decode cX12_switchSpan 0 = .ok (.iload_n 1, 1) := by decide +kernel
theorem dX12_switchSpan_1 : decode cX12_switchSpan 1 = .ok (.invokestatic 256, 3) := by decide +kernel
theorem dX12_switchSpan_4 : decode cX12_switchSpan 4 = .ok (.istore_n 3, 1) := by decide +kernel
theorem dX12_switchSpan_5 : decode cX12_switchSpan 5 = .ok (.iload_n 3, 1) := by decide +kernel
theorem dX12_switchSpan_6 : decode cX12_switchSpan 6 = .ok (.iload_n 2, 1) := by decide +kernel
theorem dX12_switchSpan_7 : decode cX12_switchSpan 7 = .ok (.sipush 170, 3) := by decide +kernel
theorem dX12_switchSpan_10 : decode cX12_switchSpan 10 = .ok (.if_icmp .ne 8, 3) := by decide +kernel
theorem dX12_switchSpan_13 : decode cX12_switchSpan 13 = .ok (.bipush 12, 2) := by decide +kernel
theorem dX12_switchSpan_15 : decode cX12_switchSpan 15 = .ok (.goto 5, 3) := by decide +kernel
theorem dX12_switchSpan_18 : decode cX12_switchSpan 18 = .ok (.bipush 8, 2) := by decide +kernel
theorem dX12_switchSpan_20 : decode cX12_switchSpan 20 = .ok (.iadd, 1) := by decide +kernel
theorem dX12_switchSpan_21 : decode cX12_switchSpan 21 = .ok (.aload_n 0, 1) := by decide +kernel
theorem dX12_switchSpan_22 : decode cX12_switchSpan 22 = .ok (.getfield 250, 3) := by decide +kernel
theorem dX12_switchSpan_25 : decode cX12_switchSpan 25 = .ok (.if_icmp .le 5, 3) := by decide +kernel
theorem dX12_switchSpan_28 : decode cX12_switchSpan 28 = .ok (.iconst 0, 1) := by decide +kernel
theorem dX12_switchSpan_29 : decode cX12_switchSpan 29 = .ok (.ireturn, 1) := by decide +kernel
theorem dX12_switchSpan_30 : decode cX12_switchSpan 30 = .ok (.iload_n 2, 1) := by decide +kernel
theorem dX12_switchSpan_31 : decode cX12_switchSpan 31 = .ok (.sipush 170, 3) := by decide +kernel
theorem dX12_switchSpan_34 : decode cX12_switchSpan 34 = .ok (.if_icmp .ne 58, 3) := by decide +kernel
theorem dX12_switchSpan_37 : decode cX12_switchSpan 37 = .ok (.aload_n 0, 1) := by decide +kernel
theorem dX12_switchSpan_38 : decode cX12_switchSpan 38 = .ok (.iload_n 3, 1) := by decide +kernel
theorem dX12_switchSpan_39 : decode cX12_switchSpan 39 = .ok (.bipush 8, 2) := by decide +kernel
theorem dX12_switchSpan_41 : decode cX12_switchSpan 41 = .ok (.iadd, 1) := by decide +kernel
theorem dX12_switchSpan_42 : decode cX12_switchSpan 42 = .ok (.invokevirtual 259, 3) := by decide +kernel
theorem dX12_switchSpan_45 : decode cX12_switchSpan 45 = .ok (.i2l, 1) := by decide +kernel
theorem dX12_switchSpan_46 : decode cX12_switchSpan 46 = .ok (.aload_n 0, 1) := by decide +kernel
theorem dX12_switchSpan_47 : decode cX12_switchSpan 47 = .ok (.iload_n 3, 1) := by decide +kernel
theorem dX12_switchSpan_48 : decode cX12_switchSpan 48 = .ok (.iconst 4, 1) := by decide +kernel
theorem dX12_switchSpan_49 : decode cX12_switchSpan 49 = .ok (.iadd, 1) := by decide +kernel
theorem dX12_switchSpan_50 : decode cX12_switchSpan 50 = .ok (.invokevirtual 259, 3) := by decide +kernel
theorem dX12_switchSpan_53 : decode cX12_switchSpan 53 = .ok (.i2l, 1) := by decide +kernel
theorem dX12_switchSpan_54 : decode cX12_switchSpan 54 = .ok (.lsub, 1) := by decide +kernel
theorem dX12_switchSpan_55 : decode cX12_switchSpan 55 = .ok (.lstore 4, 2) := by decide +kernel
theorem dX12_switchSpan_57 : decode cX12_switchSpan 57 = .ok (.lload 4, 2) := by decide +kernel
theorem dX12_switchSpan_59 : decode cX12_switchSpan 59 = .ok (.lconst 0, 1) := by decide +kernel
theorem dX12_switchSpan_60 : decode cX12_switchSpan 60 = .ok (.lcmp, 1) := by decide +kernel
theorem dX12_switchSpan_61 : decode cX12_switchSpan 61 = .ok (.ifCond .lt 12, 3) := by decide +kernel
theorem dX12_switchSpan_64 : decode cX12_switchSpan 64 = .ok (.lload 4, 2) := by decide +kernel
