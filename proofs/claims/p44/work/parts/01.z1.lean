theorem dJ13_bitCount_95d88_0 : decode cJ13_bitCount_95d88 0 = .ok (.lload_n 0, 1) := by decide +kernel
theorem dJ13_bitCount_95d88_1 : decode cJ13_bitCount_95d88 1 = .ok (.lload_n 0, 1) := by decide +kernel
theorem dJ13_bitCount_95d88_2 : decode cJ13_bitCount_95d88 2 = .ok (.iconst 1, 1) := by decide +kernel
theorem dJ13_bitCount_95d88_3 : decode cJ13_bitCount_95d88 3 = .ok (.lushr, 1) := by decide +kernel
theorem dJ13_bitCount_95d88_4 : decode cJ13_bitCount_95d88 4 = .ok (.ldc2_w 314, 3) := by decide +kernel
theorem dJ13_bitCount_95d88_7 : decode cJ13_bitCount_95d88 7 = .ok (.land, 1) := by decide +kernel
theorem dJ13_bitCount_95d88_8 : decode cJ13_bitCount_95d88 8 = .ok (.lsub, 1) := by decide +kernel
theorem dJ13_bitCount_95d88_9 : decode cJ13_bitCount_95d88 9 = .ok (.lstore_n 0, 1) := by decide +kernel
theorem dJ13_bitCount_95d88_10 : decode cJ13_bitCount_95d88 10 = .ok (.lload_n 0, 1) := by decide +kernel
theorem dJ13_bitCount_95d88_11 : decode cJ13_bitCount_95d88 11 = .ok (.ldc2_w 316, 3) := by decide +kernel
theorem dJ13_bitCount_95d88_14 : decode cJ13_bitCount_95d88 14 = .ok (.land, 1) := by decide +kernel
theorem dJ13_bitCount_95d88_15 : decode cJ13_bitCount_95d88 15 = .ok (.lload_n 0, 1) := by decide +kernel
theorem dJ13_bitCount_95d88_16 : decode cJ13_bitCount_95d88 16 = .ok (.iconst 2, 1) := by decide +kernel
theorem dJ13_bitCount_95d88_17 : decode cJ13_bitCount_95d88 17 = .ok (.lushr, 1) := by decide +kernel
theorem dJ13_bitCount_95d88_18 : decode cJ13_bitCount_95d88 18 = .ok (.ldc2_w 316, 3) := by decide +kernel
theorem dJ13_bitCount_95d88_21 : decode cJ13_bitCount_95d88 21 = .ok (.land, 1) := by decide +kernel
theorem dJ13_bitCount_95d88_22 : decode cJ13_bitCount_95d88 22 = .ok (.ladd, 1) := by decide +kernel
theorem dJ13_bitCount_95d88_23 : decode cJ13_bitCount_95d88 23 = .ok (.lstore_n 0, 1) := by decide +kernel
theorem dJ13_bitCount_95d88_24 : decode cJ13_bitCount_95d88 24 = .ok (.lload_n 0, 1) := by decide +kernel
theorem dJ13_bitCount_95d88_25 : decode cJ13_bitCount_95d88 25 = .ok (.lload_n 0, 1) := by decide +kernel
theorem dJ13_bitCount_95d88_26 : decode cJ13_bitCount_95d88 26 = .ok (.iconst 4, 1) := by decide +kernel
theorem dJ13_bitCount_95d88_27 : decode cJ13_bitCount_95d88 27 = .ok (.lushr, 1) := by decide +kernel
theorem dJ13_bitCount_95d88_28 : decode cJ13_bitCount_95d88 28 = .ok (.ladd, 1) := by decide +kernel
theorem dJ13_bitCount_95d88_29 : decode cJ13_bitCount_95d88 29 = .ok (.ldc2_w 318, 3) := by decide +kernel
theorem dJ13_bitCount_95d88_32 : decode cJ13_bitCount_95d88 32 = .ok (.land, 1) := by decide +kernel
theorem dJ13_bitCount_95d88_33 : decode cJ13_bitCount_95d88 33 = .ok (.lstore_n 0, 1) := by decide +kernel
theorem dJ13_bitCount_95d88_34 : decode cJ13_bitCount_95d88 34 = .ok (.lload_n 0, 1) := by decide +kernel
theorem dJ13_bitCount_95d88_35 : decode cJ13_bitCount_95d88 35 = .ok (.lload_n 0, 1) := by decide +kernel
theorem dJ13_bitCount_95d88_36 : decode cJ13_bitCount_95d88 36 = .ok (.bipush 8, 2) := by decide +kernel
theorem dJ13_bitCount_95d88_38 : decode cJ13_bitCount_95d88 38 = .ok (.lushr, 1) := by decide +kernel
theorem dJ13_bitCount_95d88_39 : decode cJ13_bitCount_95d88 39 = .ok (.ladd, 1) := by decide +kernel
theorem dJ13_bitCount_95d88_40 : decode cJ13_bitCount_95d88 40 = .ok (.lstore_n 0, 1) := by decide +kernel
theorem dJ13_bitCount_95d88_41 : decode cJ13_bitCount_95d88 41 = .ok (.lload_n 0, 1) := by decide +kernel
theorem dJ13_bitCount_95d88_42 : decode cJ13_bitCount_95d88 42 = .ok (.lload_n 0, 1) := by decide +kernel
theorem dJ13_bitCount_95d88_43 : decode cJ13_bitCount_95d88 43 = .ok (.bipush 16, 2) := by decide +kernel
theorem dJ13_bitCount_95d88_45 : decode cJ13_bitCount_95d88 45 = .ok (.lushr, 1) := by decide +kernel
theorem dJ13_bitCount_95d88_46 : decode cJ13_bitCount_95d88 46 = .ok (.ladd, 1) := by decide +kernel
theorem dJ13_bitCount_95d88_47 : decode cJ13_bitCount_95d88 47 = .ok (.lstore_n 0, 1) := by decide +kernel
theorem dJ13_bitCount_95d88_48 : decode cJ13_bitCount_95d88 48 = .ok (.lload_n 0, 1) := by decide +kernel
theorem dJ13_bitCount_95d88_49 : decode cJ13_bitCount_95d88 49 = .ok (.lload_n 0, 1) := by decide +kernel
theorem dJ13_bitCount_95d88_50 : decode cJ13_bitCount_95d88 50 = .ok (.bipush 32, 2) := by decide +kernel
theorem dJ13_bitCount_95d88_52 : decode cJ13_bitCount_95d88 52 = .ok (.lushr, 1) := by decide +kernel
theorem dJ13_bitCount_95d88_53 : decode cJ13_bitCount_95d88 53 = .ok (.ladd, 1) := by decide +kernel
theorem dJ13_bitCount_95d88_54 : decode cJ13_bitCount_95d88 54 = .ok (.lstore_n 0, 1) := by decide +kernel
theorem dJ13_bitCount_95d88_55 : decode cJ13_bitCount_95d88 55 = .ok (.lload_n 0, 1) := by decide +kernel
theorem dJ13_bitCount_95d88_56 : decode cJ13_bitCount_95d88 56 = .ok (.l2i, 1) := by decide +kernel
theorem dJ13_bitCount_95d88_57 : decode cJ13_bitCount_95d88 57 = .ok (.bipush 127, 2) := by decide +kernel
theorem dJ13_bitCount_95d88_59 : decode cJ13_bitCount_95d88 59 = .ok (.iand, 1) := by decide +kernel
theorem dJ13_bitCount_95d88_60 : decode cJ13_bitCount_95d88 60 = .ok (.ireturn, 1) := by decide +kernel
theorem dJ9_abs_0f7a4_0 : decode cJ9_abs_0f7a4 0 = .ok (.iload_n 0, 1) := by decide +kernel
theorem dJ9_abs_0f7a4_1 : decode cJ9_abs_0f7a4 1 = .ok (.ifCond .ge 8, 3) := by decide +kernel
theorem dJ9_abs_0f7a4_4 : decode cJ9_abs_0f7a4 4 = .ok (.iload_n 0, 1) := by decide +kernel
theorem dJ9_abs_0f7a4_5 : decode cJ9_abs_0f7a4 5 = .ok (.ineg, 1) := by decide +kernel
theorem dJ9_abs_0f7a4_6 : decode cJ9_abs_0f7a4 6 = .ok (.goto 4, 3) := by decide +kernel
theorem dJ9_abs_0f7a4_9 : decode cJ9_abs_0f7a4 9 = .ok (.iload_n 0, 1) := by decide +kernel
theorem dJ9_abs_0f7a4_10 : decode cJ9_abs_0f7a4 10 = .ok (.ireturn, 1) := by decide +kernel
theorem dJ9_max_7cf53_0 : decode cJ9_max_7cf53 0 = .ok (.iload_n 0, 1) := by decide +kernel
theorem dJ9_max_7cf53_1 : decode cJ9_max_7cf53 1 = .ok (.iload_n 1, 1) := by decide +kernel
theorem dJ9_max_7cf53_2 : decode cJ9_max_7cf53 2 = .ok (.if_icmp .lt 7, 3) := by decide +kernel
theorem dJ9_max_7cf53_5 : decode cJ9_max_7cf53 5 = .ok (.iload_n 0, 1) := by decide +kernel
theorem dJ9_max_7cf53_6 : decode cJ9_max_7cf53 6 = .ok (.goto 4, 3) := by decide +kernel
theorem dJ9_max_7cf53_9 : decode cJ9_max_7cf53 9 = .ok (.iload_n 1, 1) := by decide +kernel
theorem dJ9_max_7cf53_10 : decode cJ9_max_7cf53 10 = .ok (.ireturn, 1) := by decide +kernel
theorem dJ9_min_7cf53_0 : decode cJ9_min_7cf53 0 = .ok (.iload_n 0, 1) := by decide +kernel
theorem dJ9_min_7cf53_1 : decode cJ9_min_7cf53 1 = .ok (.iload_n 1, 1) := by decide +kernel
theorem dJ9_min_7cf53_2 : decode cJ9_min_7cf53 2 = .ok (.if_icmp .gt 7, 3) := by decide +kernel
theorem dJ9_min_7cf53_5 : decode cJ9_min_7cf53 5 = .ok (.iload_n 0, 1) := by decide +kernel
theorem dJ9_min_7cf53_6 : decode cJ9_min_7cf53 6 = .ok (.goto 4, 3) := by decide +kernel
theorem dJ9_min_7cf53_9 : decode cJ9_min_7cf53 9 = .ok (.iload_n 1, 1) := by decide +kernel
theorem dJ9_min_7cf53_10 : decode cJ9_min_7cf53 10 = .ok (.ireturn, 1) := by decide +kernel
theorem dX0_init_0 : decode cX0_init 0 = .ok (.aload_n 0, 1) := by decide +kernel
theorem dX0_init_1 : decode cX0_init 1 = .ok (.invokespecial 3, 3) := by decide +kernel
theorem dX0_init_4 : decode cX0_init 4 = .ok (.aload_n 0, 1) := by decide +kernel
theorem dX0_init_5 : decode cX0_init 5 = .ok (.bipush 120, 2) := by decide +kernel
theorem dX0_init_7 : decode cX0_init 7 = .ok (.newarray .int, 2) := by decide +kernel
theorem dX0_init_9 : decode cX0_init 9 = .ok (.putfield 11, 3) := by decide +kernel
theorem dX0_init_12 : decode cX0_init 12 = .ok (.return_, 1) := by decide +kernel
theorem dX0_write_0 : decode cX0_write 0 = .ok (.aload_n 0, 1) := by decide +kernel
theorem dX0_write_1 : decode cX0_write 1 = .ok (.getfield 15, 3) := by decide +kernel
theorem dX0_write_4 : decode cX0_write 4 = .ok (.bipush 120, 2) := by decide +kernel
theorem dX0_write_6 : decode cX0_write 6 = .ok (.if_icmp .ge 23, 3) := by decide +kernel
theorem dX0_write_9 : decode cX0_write 9 = .ok (.aload_n 0, 1) := by decide +kernel
theorem dX0_write_10 : decode cX0_write 10 = .ok (.getfield 11, 3) := by decide +kernel
theorem dX0_write_13 : decode cX0_write 13 = .ok (.aload_n 0, 1) := by decide +kernel
theorem dX0_write_14 : decode cX0_write 14 = .ok (.getfield 15, 3) := by decide +kernel
theorem dX0_write_17 : decode cX0_write 17 = .ok (.iload_n 1, 1) := by decide +kernel
theorem dX0_write_18 : decode cX0_write 18 = .ok (.iastore, 1) := by decide +kernel
theorem dX0_write_19 : decode cX0_write 19 = .ok (.aload_n 0, 1) := by decide +kernel
theorem dX0_write_20 : decode cX0_write 20 = .ok (.dup, 1) := by decide +kernel
theorem dX0_write_21 : decode cX0_write 21 = .ok (.getfield 15, 3) := by decide +kernel
theorem dX0_write_24 : decode cX0_write 24 = .ok (.iconst 1, 1) := by decide +kernel
theorem dX0_write_25 : decode cX0_write 25 = .ok (.iadd, 1) := by decide +kernel
theorem dX0_write_26 : decode cX0_write 26 = .ok (.putfield 15, 3) := by decide +kernel
theorem dX0_write_29 : decode cX0_write 29 = .ok (.return_, 1) := by decide +kernel
theorem dX0_readInto_0 : decode cX0_readInto 0 = .ok (.aload_n 1, 1) := by decide +kernel
theorem dX0_readInto_1 : decode cX0_readInto 1 = .ok (.iconst 0, 1) := by decide +kernel
theorem dX0_readInto_2 : decode cX0_readInto 2 = .ok (.putfield 19, 3) := by decide +kernel
theorem dX0_readInto_5 : decode cX0_readInto 5 = .ok (.aload_n 0, 1) := by decide +kernel
theorem dX0_readInto_6 : decode cX0_readInto 6 = .ok (.iconst 0, 1) := by decide +kernel
theorem dX0_readInto_7 : decode cX0_readInto 7 = .ok (.putfield 24, 3) := by decide +kernel
theorem dX0_readInto_10 : decode cX0_readInto 10 = .ok (.iconst 0, 1) := by decide +kernel
theorem dX0_readInto_11 : decode cX0_readInto 11 = .ok (.istore_n 2, 1) := by decide +kernel
theorem dX0_readInto_12 : decode cX0_readInto 12 = .ok (.iload_n 2, 1) := by decide +kernel
theorem dX0_readInto_13 : decode cX0_readInto 13 = .ok (.aload_n 0, 1) := by decide +kernel
theorem dX0_readInto_14 : decode cX0_readInto 14 = .ok (.getfield 15, 3) := by decide +kernel
theorem dX0_readInto_17 : decode cX0_readInto 17 = .ok (.if_icmp .ge 25, 3) := by decide +kernel
theorem dX0_readInto_20 : decode cX0_readInto 20 = .ok (.aload_n 0, 1) := by decide +kernel
theorem dX0_readInto_21 : decode cX0_readInto 21 = .ok (.aload_n 0, 1) := by decide +kernel
theorem dX0_readInto_22 : decode cX0_readInto 22 = .ok (.getfield 11, 3) := by decide +kernel
theorem dX0_readInto_25 : decode cX0_readInto 25 = .ok (.iload_n 2, 1) := by decide +kernel
theorem dX0_readInto_26 : decode cX0_readInto 26 = .ok (.iaload, 1) := by decide +kernel
theorem dX0_readInto_27 : decode cX0_readInto 27 = .ok (.aload_n 1, 1) := by decide +kernel
theorem dX0_readInto_28 : decode cX0_readInto 28 = .ok (.invokevirtual 27, 3) := by decide +kernel
theorem dX0_readInto_31 : decode cX0_readInto 31 = .ok (.ifCond .ne 5, 3) := by decide +kernel
theorem dX0_readInto_34 : decode cX0_readInto 34 = .ok (.iload_n 2, 1) := by decide +kernel
theorem dX0_readInto_35 : decode cX0_readInto 35 = .ok (.ireturn, 1) := by decide +kernel
theorem dX0_readInto_36 : decode cX0_readInto 36 = .ok (.iinc 2 1, 3) := by decide +kernel
theorem dX0_readInto_39 : decode cX0_readInto 39 = .ok (.goto (-27), 3) := by decide +kernel
theorem dX0_readInto_42 : decode cX0_readInto 42 = .ok (.aload_n 0, 1) := by decide +kernel
theorem dX0_readInto_43 : decode cX0_readInto 43 = .ok (.getfield 24, 3) := by decide +kernel
theorem dX0_readInto_46 : decode cX0_readInto 46 = .ok (.ifCond .ne 9, 3) := by decide +kernel
theorem dX0_readInto_49 : decode cX0_readInto 49 = .ok (.sipush (-1004), 3) := by decide +kernel
theorem dX0_readInto_52 : decode cX0_readInto 52 = .ok (.goto 7, 3) := by decide +kernel
theorem dX0_readInto_55 : decode cX0_readInto 55 = .ok (.aload_n 0, 1) := by decide +kernel
theorem dX0_readInto_56 : decode cX0_readInto 56 = .ok (.getfield 15, 3) := by decide +kernel
theorem dX0_readInto_59 : decode cX0_readInto 59 = .ok (.ireturn, 1) := by decide +kernel
theorem dX0_follows_0 : decode cX0_follows 0 = .ok (.aload_n 0, 1) := by decide +kernel
theorem dX0_follows_1 : decode cX0_follows 1 = .ok (.getfield 24, 3) := by decide +kernel
theorem dX0_follows_4 : decode cX0_follows 4 = .ok (.ifCond .ne 9, 3) := by decide +kernel
theorem dX0_follows_7 : decode cX0_follows 7 = .ok (.aload_n 0, 1) := by decide +kernel
theorem dX0_follows_8 : decode cX0_follows 8 = .ok (.iload_n 1, 1) := by decide +kernel
theorem dX0_follows_9 : decode cX0_follows 9 = .ok (.invokevirtual 31, 3) := by decide +kernel
theorem dX0_follows_12 : decode cX0_follows 12 = .ok (.ireturn, 1) := by decide +kernel
theorem dX0_follows_13 : decode cX0_follows 13 = .ok (.iload_n 1, 1) := by decide +kernel
theorem dX0_follows_14 : decode cX0_follows 14 = .ok (.bipush 48, 2) := by decide +kernel
theorem dX0_follows_16 : decode cX0_follows 16 = .ok (.if_icmp .lt 49, 3) := by decide +kernel
theorem dX0_follows_19 : decode cX0_follows 19 = .ok (.iload_n 1, 1) := by decide +kernel
theorem dX0_follows_20 : decode cX0_follows 20 = .ok (.bipush 57, 2) := by decide +kernel
theorem dX0_follows_22 : decode cX0_follows 22 = .ok (.if_icmp .gt 43, 3) := by decide +kernel
theorem dX0_follows_25 : decode cX0_follows 25 = .ok (.aload_n 0, 1) := by decide +kernel
theorem dX0_follows_26 : decode cX0_follows 26 = .ok (.bipush 10, 2) := by decide +kernel
theorem dX0_follows_28 : decode cX0_follows 28 = .ok (.aload_n 0, 1) := by decide +kernel
theorem dX0_follows_29 : decode cX0_follows 29 = .ok (.getfield 35, 3) := by decide +kernel
theorem dX0_follows_32 : decode cX0_follows 32 = .ok (.imul, 1) := by decide +kernel
theorem dX0_follows_33 : decode cX0_follows 33 = .ok (.iload_n 1, 1) := by decide +kernel
theorem dX0_follows_34 : decode cX0_follows 34 = .ok (.iadd, 1) := by decide +kernel
theorem dX0_follows_35 : decode cX0_follows 35 = .ok (.bipush 48, 2) := by decide +kernel
theorem dX0_follows_37 : decode cX0_follows 37 = .ok (.isub, 1) := by decide +kernel
theorem dX0_follows_38 : decode cX0_follows 38 = .ok (.putfield 35, 3) := by decide +kernel
theorem dX0_follows_41 : decode cX0_follows 41 = .ok (.aload_n 0, 1) := by decide +kernel
theorem dX0_follows_42 : decode cX0_follows 42 = .ok (.dup, 1) := by decide +kernel
theorem dX0_follows_43 : decode cX0_follows 43 = .ok (.getfield 38, 3) := by decide +kernel
theorem dX0_follows_46 : decode cX0_follows 46 = .ok (.iconst 1, 1) := by decide +kernel
theorem dX0_follows_47 : decode cX0_follows 47 = .ok (.iadd, 1) := by decide +kernel
theorem dX0_follows_48 : decode cX0_follows 48 = .ok (.putfield 38, 3) := by decide +kernel
theorem dX0_follows_51 : decode cX0_follows 51 = .ok (.aload_n 0, 1) := by decide +kernel
theorem dX0_follows_52 : decode cX0_follows 52 = .ok (.getfield 38, 3) := by decide +kernel
theorem dX0_follows_55 : decode cX0_follows 55 = .ok (.iconst 4, 1) := by decide +kernel
theorem dX0_follows_56 : decode cX0_follows 56 = .ok (.if_icmp .gt 7, 3) := by decide +kernel
theorem dX0_follows_59 : decode cX0_follows 59 = .ok (.iconst 1, 1) := by decide +kernel
theorem dX0_follows_60 : decode cX0_follows 60 = .ok (.goto 4, 3) := by decide +kernel
theorem dX0_follows_63 : decode cX0_follows 63 = .ok (.iconst 0, 1) := by decide +kernel
theorem dX0_follows_64 : decode cX0_follows 64 = .ok (.ireturn, 1) := by decide +kernel
theorem dX0_follows_65 : decode cX0_follows 65 = .ok (.aload_n 0, 1) := by decide +kernel
theorem dX0_follows_66 : decode cX0_follows 66 = .ok (.getfield 38, 3) := by decide +kernel
theorem dX0_follows_69 : decode cX0_follows 69 = .ok (.ifCond .eq 11, 3) := by decide +kernel
theorem dX0_follows_72 : decode cX0_follows 72 = .ok (.iload_n 1, 1) := by decide +kernel
theorem dX0_follows_73 : decode cX0_follows 73 = .ok (.aload_n 0, 1) := by decide +kernel
theorem dX0_follows_74 : decode cX0_follows 74 = .ok (.invokevirtual 41, 3) := by decide +kernel
theorem dX0_follows_77 : decode cX0_follows 77 = .ok (.if_icmp .eq 5, 3) := by decide +kernel
theorem dX0_follows_80 : decode cX0_follows 80 = .ok (.iconst 0, 1) := by decide +kernel
theorem dX0_follows_81 : decode cX0_follows 81 = .ok (.ireturn, 1) := by decide +kernel
theorem dX0_follows_82 : decode cX0_follows 82 = .ok (.aload_n 0, 1) := by decide +kernel
theorem dX0_follows_83 : decode cX0_follows 83 = .ok (.aload_n 2, 1) := by decide +kernel
theorem dX0_follows_84 : decode cX0_follows 84 = .ok (.invokevirtual 45, 3) := by decide +kernel
theorem dX0_follows_87 : decode cX0_follows 87 = .ok (.iconst 1, 1) := by decide +kernel
theorem dX0_follows_88 : decode cX0_follows 88 = .ok (.ireturn, 1) := by decide +kernel
theorem dX0_beginsEntry_0 : decode cX0_beginsEntry 0 = .ok (.iload_n 1, 1) := by decide +kernel
theorem dX0_beginsEntry_1 : decode cX0_beginsEntry 1 = .ok (.lookupswitch 71 #[(99, 59), (100, 35), (114, 47)], 35) := by decide +kernel
theorem dX0_beginsEntry_36 : decode cX0_beginsEntry 36 = .ok (.aload_n 0, 1) := by decide +kernel
theorem dX0_beginsEntry_37 : decode cX0_beginsEntry 37 = .ok (.iconst 0, 1) := by decide +kernel
theorem dX0_beginsEntry_38 : decode cX0_beginsEntry 38 = .ok (.putfield 49, 3) := by decide +kernel
theorem dX0_beginsEntry_41 : decode cX0_beginsEntry 41 = .ok (.aload_n 0, 1) := by decide +kernel
theorem dX0_beginsEntry_42 : decode cX0_beginsEntry 42 = .ok (.iconst 1, 1) := by decide +kernel
theorem dX0_beginsEntry_43 : decode cX0_beginsEntry 43 = .ok (.invokevirtual 52, 3) := by decide +kernel
theorem dX0_beginsEntry_46 : decode cX0_beginsEntry 46 = .ok (.iconst 1, 1) := by decide +kernel
theorem dX0_beginsEntry_47 : decode cX0_beginsEntry 47 = .ok (.ireturn, 1) := by decide +kernel
theorem dX0_beginsEntry_48 : decode cX0_beginsEntry 48 = .ok (.aload_n 0, 1) := by decide +kernel
theorem dX0_beginsEntry_49 : decode cX0_beginsEntry 49 = .ok (.iconst 1, 1) := by decide +kernel
theorem dX0_beginsEntry_50 : decode cX0_beginsEntry 50 = .ok (.putfield 49, 3) := by decide +kernel
theorem dX0_beginsEntry_53 : decode cX0_beginsEntry 53 = .ok (.aload_n 0, 1) := by decide +kernel
theorem dX0_beginsEntry_54 : decode cX0_beginsEntry 54 = .ok (.iconst 2, 1) := by decide +kernel
theorem dX0_beginsEntry_55 : decode cX0_beginsEntry 55 = .ok (.invokevirtual 52, 3) := by decide +kernel
theorem dX0_beginsEntry_58 : decode cX0_beginsEntry 58 = .ok (.iconst 1, 1) := by decide +kernel
theorem dX0_beginsEntry_59 : decode cX0_beginsEntry 59 = .ok (.ireturn, 1) := by decide +kernel
theorem dX0_beginsEntry_60 : decode cX0_beginsEntry 60 = .ok (.aload_n 0, 1) := by decide +kernel
theorem dX0_beginsEntry_61 : decode cX0_beginsEntry 61 = .ok (.iconst 2, 1) := by decide +kernel
theorem dX0_beginsEntry_62 : decode cX0_beginsEntry 62 = .ok (.putfield 49, 3) := by decide +kernel
theorem dX0_beginsEntry_65 : decode cX0_beginsEntry 65 = .ok (.aload_n 0, 1) := by decide +kernel
theorem dX0_beginsEntry_66 : decode cX0_beginsEntry 66 = .ok (.iconst 2, 1) := by decide +kernel
theorem dX0_beginsEntry_67 : decode cX0_beginsEntry 67 = .ok (.invokevirtual 52, 3) := by decide +kernel
theorem dX0_beginsEntry_70 : decode cX0_beginsEntry 70 = .ok (.iconst 1, 1) := by decide +kernel
theorem dX0_beginsEntry_71 : decode cX0_beginsEntry 71 = .ok (.ireturn, 1) := by decide +kernel
theorem dX0_beginsEntry_72 : decode cX0_beginsEntry 72 = .ok (.iconst 0, 1) := by decide +kernel
theorem dX0_beginsEntry_73 : decode cX0_beginsEntry 73 = .ok (.ireturn, 1) := by decide +kernel
theorem dX0_endOfNumber_0 : decode cX0_endOfNumber 0 = .ok (.aload_n 0, 1) := by decide +kernel
theorem dX0_endOfNumber_1 : decode cX0_endOfNumber 1 = .ok (.getfield 24, 3) := by decide +kernel
theorem dX0_endOfNumber_4 : decode cX0_endOfNumber 4 = .ok (.lookupswitch 34 #[(2, 28), (4, 31)], 28) := by decide +kernel
theorem dX0_endOfNumber_32 : decode cX0_endOfNumber 32 = .ok (.bipush 46, 2) := by decide +kernel
theorem dX0_endOfNumber_34 : decode cX0_endOfNumber 34 = .ok (.ireturn, 1) := by decide +kernel
theorem dX0_endOfNumber_35 : decode cX0_endOfNumber 35 = .ok (.bipush 59, 2) := by decide +kernel
theorem dX0_endOfNumber_37 : decode cX0_endOfNumber 37 = .ok (.ireturn, 1) := by decide +kernel
theorem dX0_endOfNumber_38 : decode cX0_endOfNumber 38 = .ok (.bipush 64, 2) := by decide +kernel
theorem dX0_endOfNumber_40 : decode cX0_endOfNumber 40 = .ok (.ireturn, 1) := by decide +kernel
theorem dX0_endNumber_0 : decode cX0_endNumber 0 = .ok (.aload_n 0, 1) := by decide +kernel
theorem dX0_endNumber_1 : decode cX0_endNumber 1 = .ok (.getfield 24, 3) := by decide +kernel
theorem dX0_endNumber_4 : decode cX0_endNumber 4 = .ok (.tableswitch 88 2 4 #[28, 44, 60], 28) := by decide +kernel
theorem dX0_endNumber_32 : decode cX0_endNumber 32 = .ok (.aload_n 0, 1) := by decide +kernel
theorem dX0_endNumber_33 : decode cX0_endNumber 33 = .ok (.aload_n 0, 1) := by decide +kernel
theorem dX0_endNumber_34 : decode cX0_endNumber 34 = .ok (.getfield 35, 3) := by decide +kernel
theorem dX0_endNumber_37 : decode cX0_endNumber 37 = .ok (.putfield 56, 3) := by decide +kernel
theorem dX0_endNumber_40 : decode cX0_endNumber 40 = .ok (.aload_n 0, 1) := by decide +kernel
theorem dX0_endNumber_41 : decode cX0_endNumber 41 = .ok (.iconst 3, 1) := by decide +kernel
theorem dX0_endNumber_42 : decode cX0_endNumber 42 = .ok (.invokevirtual 52, 3) := by decide +kernel
theorem dX0_endNumber_45 : decode cX0_endNumber 45 = .ok (.goto 60, 3) := by decide +kernel
theorem dX0_endNumber_48 : decode cX0_endNumber 48 = .ok (.aload_n 0, 1) := by decide +kernel
theorem dX0_endNumber_49 : decode cX0_endNumber 49 = .ok (.aload_n 0, 1) := by decide +kernel
theorem dX0_endNumber_50 : decode cX0_endNumber 50 = .ok (.getfield 35, 3) := by decide +kernel
theorem dX0_endNumber_53 : decode cX0_endNumber 53 = .ok (.putfield 59, 3) := by decide +kernel
theorem dX0_endNumber_56 : decode cX0_endNumber 56 = .ok (.aload_n 0, 1) := by decide +kernel
theorem dX0_endNumber_57 : decode cX0_endNumber 57 = .ok (.iconst 4, 1) := by decide +kernel
theorem dX0_endNumber_58 : decode cX0_endNumber 58 = .ok (.invokevirtual 52, 3) := by decide +kernel
theorem dX0_endNumber_61 : decode cX0_endNumber 61 = .ok (.goto 44, 3) := by decide +kernel
theorem dX0_endNumber_64 : decode cX0_endNumber 64 = .ok (.aload_n 1, 1) := by decide +kernel
theorem dX0_endNumber_65 : decode cX0_endNumber 65 = .ok (.aload_n 0, 1) := by decide +kernel
theorem dX0_endNumber_66 : decode cX0_endNumber 66 = .ok (.getfield 49, 3) := by decide +kernel
theorem dX0_endNumber_69 : decode cX0_endNumber 69 = .ok (.aload_n 0, 1) := by decide +kernel
theorem dX0_endNumber_70 : decode cX0_endNumber 70 = .ok (.getfield 56, 3) := by decide +kernel
theorem dX0_endNumber_73 : decode cX0_endNumber 73 = .ok (.aload_n 0, 1) := by decide +kernel
theorem dX0_endNumber_74 : decode cX0_endNumber 74 = .ok (.getfield 59, 3) := by decide +kernel
theorem dX0_endNumber_77 : decode cX0_endNumber 77 = .ok (.aload_n 0, 1) := by decide +kernel
theorem dX0_endNumber_78 : decode cX0_endNumber 78 = .ok (.getfield 35, 3) := by decide +kernel
theorem dX0_endNumber_81 : decode cX0_endNumber 81 = .ok (.invokevirtual 62, 3) := by decide +kernel
theorem dX0_endNumber_84 : decode cX0_endNumber 84 = .ok (.aload_n 0, 1) := by decide +kernel
theorem dX0_endNumber_85 : decode cX0_endNumber 85 = .ok (.iconst 0, 1) := by decide +kernel
theorem dX0_endNumber_86 : decode cX0_endNumber 86 = .ok (.invokevirtual 52, 3) := by decide +kernel
theorem dX0_endNumber_89 : decode cX0_endNumber 89 = .ok (.goto 16, 3) := by decide +kernel
theorem dX0_endNumber_92 : decode cX0_endNumber 92 = .ok (.aload_n 0, 1) := by decide +kernel
theorem dX0_endNumber_93 : decode cX0_endNumber 93 = .ok (.aload_n 0, 1) := by decide +kernel
theorem dX0_endNumber_94 : decode cX0_endNumber 94 = .ok (.getfield 35, 3) := by decide +kernel
theorem dX0_endNumber_97 : decode cX0_endNumber 97 = .ok (.putfield 56, 3) := by decide +kernel
theorem dX0_endNumber_100 : decode cX0_endNumber 100 = .ok (.aload_n 0, 1) := by decide +kernel
theorem dX0_endNumber_101 : decode cX0_endNumber 101 = .ok (.iconst 4, 1) := by decide +kernel
theorem dX0_endNumber_102 : decode cX0_endNumber 102 = .ok (.invokevirtual 52, 3) := by decide +kernel
theorem dX0_endNumber_105 : decode cX0_endNumber 105 = .ok (.return_, 1) := by decide +kernel
theorem dX0_expect_0 : decode cX0_expect 0 = .ok (.aload_n 0, 1) := by decide +kernel
theorem dX0_expect_1 : decode cX0_expect 1 = .ok (.iload_n 1, 1) := by decide +kernel
theorem dX0_expect_2 : decode cX0_expect 2 = .ok (.putfield 24, 3) := by decide +kernel
theorem dX0_expect_5 : decode cX0_expect 5 = .ok (.aload_n 0, 1) := by decide +kernel
theorem dX0_expect_6 : decode cX0_expect 6 = .ok (.iconst 0, 1) := by decide +kernel
theorem dX0_expect_7 : decode cX0_expect 7 = .ok (.putfield 38, 3) := by decide +kernel
theorem dX0_expect_10 : decode cX0_expect 10 = .ok (.aload_n 0, 1) := by decide +kernel
theorem dX0_expect_11 : decode cX0_expect 11 = .ok (.iconst 0, 1) := by decide +kernel
theorem dX0_expect_12 : decode cX0_expect 12 = .ok (.putfield 35, 3) := by decide +kernel
theorem dX0_expect_15 : decode cX0_expect 15 = .ok (.return_, 1) := by decide +kernel
theorem dX1_init_0 : decode cX1_init 0 = .ok (.aload_n 0, 1) := by decide +kernel
theorem dX1_init_1 : decode cX1_init 1 = .ok (.invokespecial 1, 3) := by decide +kernel
theorem dX1_init_4 : decode cX1_init 4 = .ok (.aload_n 0, 1) := by decide +kernel
theorem dX1_init_5 : decode cX1_init 5 = .ok (.bipush 24, 2) := by decide +kernel
theorem dX1_init_7 : decode cX1_init 7 = .ok (.newarray .int, 2) := by decide +kernel
theorem dX1_init_9 : decode cX1_init 9 = .ok (.putfield 9, 3) := by decide +kernel
theorem dX1_init_12 : decode cX1_init 12 = .ok (.aload_n 0, 1) := by decide +kernel
theorem dX1_init_13 : decode cX1_init 13 = .ok (.bipush 24, 2) := by decide +kernel
theorem dX1_init_15 : decode cX1_init 15 = .ok (.newarray .int, 2) := by decide +kernel
theorem dX1_init_17 : decode cX1_init 17 = .ok (.putfield 13, 3) := by decide +kernel
theorem dX1_init_20 : decode cX1_init 20 = .ok (.aload_n 0, 1) := by decide +kernel
theorem dX1_init_21 : decode cX1_init 21 = .ok (.bipush 24, 2) := by decide +kernel
theorem dX1_init_23 : decode cX1_init 23 = .ok (.newarray .int, 2) := by decide +kernel
theorem dX1_init_25 : decode cX1_init 25 = .ok (.putfield 16, 3) := by decide +kernel
theorem dX1_init_28 : decode cX1_init 28 = .ok (.aload_n 0, 1) := by decide +kernel
theorem dX1_init_29 : decode cX1_init 29 = .ok (.bipush 24, 2) := by decide +kernel
theorem dX1_init_31 : decode cX1_init 31 = .ok (.newarray .int, 2) := by decide +kernel
theorem dX1_init_33 : decode cX1_init 33 = .ok (.putfield 19, 3) := by decide +kernel
theorem dX1_init_36 : decode cX1_init 36 = .ok (.return_, 1) := by decide +kernel
theorem dX1_copyFrom_0 : decode cX1_copyFrom 0 = .ok (.aload_n 0, 1) := by decide +kernel
theorem dX1_copyFrom_1 : decode cX1_copyFrom 1 = .ok (.iconst 0, 1) := by decide +kernel
theorem dX1_copyFrom_2 : decode cX1_copyFrom 2 = .ok (.putfield 22, 3) := by decide +kernel
theorem dX1_copyFrom_5 : decode cX1_copyFrom 5 = .ok (.aload_n 0, 1) := by decide +kernel
theorem dX1_copyFrom_6 : decode cX1_copyFrom 6 = .ok (.aload_n 1, 1) := by decide +kernel
theorem dX1_copyFrom_7 : decode cX1_copyFrom 7 = .ok (.invokevirtual 26, 3) := by decide +kernel
theorem dX1_copyFrom_10 : decode cX1_copyFrom 10 = .ok (.return_, 1) := by decide +kernel
theorem dX1_addAll_0 : decode cX1_addAll 0 = .ok (.iconst 0, 1) := by decide +kernel
theorem dX1_addAll_1 : decode cX1_addAll 1 = .ok (.istore_n 2, 1) := by decide +kernel
theorem dX1_addAll_2 : decode cX1_addAll 2 = .ok (.iload_n 2, 1) := by decide +kernel
theorem dX1_addAll_3 : decode cX1_addAll 3 = .ok (.aload_n 1, 1) := by decide +kernel
theorem dX1_addAll_4 : decode cX1_addAll 4 = .ok (.getfield 22, 3) := by decide +kernel
theorem dX1_addAll_7 : decode cX1_addAll 7 = .ok (.if_icmp .ge 37, 3) := by decide +kernel
theorem dX1_addAll_10 : decode cX1_addAll 10 = .ok (.aload_n 0, 1) := by decide +kernel
theorem dX1_addAll_11 : decode cX1_addAll 11 = .ok (.aload_n 1, 1) := by decide +kernel
theorem dX1_addAll_12 : decode cX1_addAll 12 = .ok (.getfield 9, 3) := by decide +kernel
theorem dX1_addAll_15 : decode cX1_addAll 15 = .ok (.iload_n 2, 1) := by decide +kernel
theorem dX1_addAll_16 : decode cX1_addAll 16 = .ok (.iaload, 1) := by decide +kernel
theorem dX1_addAll_17 : decode cX1_addAll 17 = .ok (.aload_n 1, 1) := by decide +kernel
theorem dX1_addAll_18 : decode cX1_addAll 18 = .ok (.getfield 13, 3) := by decide +kernel
theorem dX1_addAll_21 : decode cX1_addAll 21 = .ok (.iload_n 2, 1) := by decide +kernel
theorem dX1_addAll_22 : decode cX1_addAll 22 = .ok (.iaload, 1) := by decide +kernel
theorem dX1_addAll_23 : decode cX1_addAll 23 = .ok (.aload_n 1, 1) := by decide +kernel
theorem dX1_addAll_24 : decode cX1_addAll 24 = .ok (.getfield 16, 3) := by decide +kernel
theorem dX1_addAll_27 : decode cX1_addAll 27 = .ok (.iload_n 2, 1) := by decide +kernel
theorem dX1_addAll_28 : decode cX1_addAll 28 = .ok (.iaload, 1) := by decide +kernel
theorem dX1_addAll_29 : decode cX1_addAll 29 = .ok (.aload_n 1, 1) := by decide +kernel
theorem dX1_addAll_30 : decode cX1_addAll 30 = .ok (.getfield 19, 3) := by decide +kernel
theorem dX1_addAll_33 : decode cX1_addAll 33 = .ok (.iload_n 2, 1) := by decide +kernel
theorem dX1_addAll_34 : decode cX1_addAll 34 = .ok (.iaload, 1) := by decide +kernel
theorem dX1_addAll_35 : decode cX1_addAll 35 = .ok (.invokevirtual 30, 3) := by decide +kernel
theorem dX1_addAll_38 : decode cX1_addAll 38 = .ok (.iinc 2 1, 3) := by decide +kernel
theorem dX1_addAll_41 : decode cX1_addAll 41 = .ok (.goto (-39), 3) := by decide +kernel
theorem dX1_addAll_44 : decode cX1_addAll 44 = .ok (.return_, 1) := by decide +kernel
theorem dX1_add_0 : decode cX1_add 0 = .ok (.aload_n 0, 1) := by decide +kernel
theorem dX1_add_1 : decode cX1_add 1 = .ok (.getfield 22, 3) := by decide +kernel
theorem dX1_add_4 : decode cX1_add 4 = .ok (.bipush 24, 2) := by decide +kernel
theorem dX1_add_6 : decode cX1_add 6 = .ok (.if_icmp .ge 54, 3) := by decide +kernel
theorem dX1_add_9 : decode cX1_add 9 = .ok (.aload_n 0, 1) := by decide +kernel
theorem dX1_add_10 : decode cX1_add 10 = .ok (.getfield 9, 3) := by decide +kernel
theorem dX1_add_13 : decode cX1_add 13 = .ok (.aload_n 0, 1) := by decide +kernel
theorem dX1_add_14 : decode cX1_add 14 = .ok (.getfield 22, 3) := by decide +kernel
theorem dX1_add_17 : decode cX1_add 17 = .ok (.iload_n 1, 1) := by decide +kernel
theorem dX1_add_18 : decode cX1_add 18 = .ok (.iastore, 1) := by decide +kernel
theorem dX1_add_19 : decode cX1_add 19 = .ok (.aload_n 0, 1) := by decide +kernel
theorem dX1_add_20 : decode cX1_add 20 = .ok (.getfield 13, 3) := by decide +kernel
theorem dX1_add_23 : decode cX1_add 23 = .ok (.aload_n 0, 1) := by decide +kernel
theorem dX1_add_24 : decode cX1_add 24 = .ok (.getfield 22, 3) := by decide +kernel
theorem dX1_add_27 : decode cX1_add 27 = .ok (.iload_n 2, 1) := by decide +kernel
theorem dX1_add_28 : decode cX1_add 28 = .ok (.iastore, 1) := by decide +kernel
theorem dX1_add_29 : decode cX1_add 29 = .ok (.aload_n 0, 1) := by decide +kernel
theorem dX1_add_30 : decode cX1_add 30 = .ok (.getfield 16, 3) := by decide +kernel
theorem dX1_add_33 : decode cX1_add 33 = .ok (.aload_n 0, 1) := by decide +kernel
theorem dX1_add_34 : decode cX1_add 34 = .ok (.getfield 22, 3) := by decide +kernel
theorem dX1_add_37 : decode cX1_add 37 = .ok (.iload_n 3, 1) := by decide +kernel
theorem dX1_add_38 : decode cX1_add 38 = .ok (.iastore, 1) := by decide +kernel
theorem dX1_add_39 : decode cX1_add 39 = .ok (.aload_n 0, 1) := by decide +kernel
theorem dX1_add_40 : decode cX1_add 40 = .ok (.getfield 19, 3) := by decide +kernel
theorem dX1_add_43 : decode cX1_add 43 = .ok (.aload_n 0, 1) := by decide +kernel
theorem dX1_add_44 : decode cX1_add 44 = .ok (.getfield 22, 3) := by decide +kernel
theorem dX1_add_47 : decode cX1_add 47 = .ok (.iload 4, 2) := by decide +kernel
theorem dX1_add_49 : decode cX1_add 49 = .ok (.iastore, 1) := by decide +kernel
theorem dX1_add_50 : decode cX1_add 50 = .ok (.aload_n 0, 1) := by decide +kernel
theorem dX1_add_51 : decode cX1_add 51 = .ok (.dup, 1) := by decide +kernel
theorem dX1_add_52 : decode cX1_add 52 = .ok (.getfield 22, 3) := by decide +kernel
theorem dX1_add_55 : decode cX1_add 55 = .ok (.iconst 1, 1) := by decide +kernel
theorem dX1_add_56 : decode cX1_add 56 = .ok (.iadd, 1) := by decide +kernel
theorem dX1_add_57 : decode cX1_add 57 = .ok (.putfield 22, 3) := by decide +kernel
theorem dX1_add_60 : decode cX1_add 60 = .ok (.return_, 1) := by decide +kernel
theorem dX1_removeAllAt_0 : decode cX1_removeAllAt 0 = .ok (.aload_n 0, 1) := by decide +kernel
theorem dX1_removeAllAt_1 : decode cX1_removeAllAt 1 = .ok (.getfield 22, 3) := by decide +kernel
theorem dX1_removeAllAt_4 : decode cX1_removeAllAt 4 = .ok (.istore_n 2, 1) := by decide +kernel
theorem dX1_removeAllAt_5 : decode cX1_removeAllAt 5 = .ok (.aload_n 0, 1) := by decide +kernel
theorem dX1_removeAllAt_6 : decode cX1_removeAllAt 6 = .ok (.iconst 0, 1) := by decide +kernel
theorem dX1_removeAllAt_7 : decode cX1_removeAllAt 7 = .ok (.putfield 22, 3) := by decide +kernel
theorem dX1_removeAllAt_10 : decode cX1_removeAllAt 10 = .ok (.iconst 0, 1) := by decide +kernel
theorem dX1_removeAllAt_11 : decode cX1_removeAllAt 11 = .ok (.istore_n 3, 1) := by decide +kernel
theorem dX1_removeAllAt_12 : decode cX1_removeAllAt 12 = .ok (.iload_n 3, 1) := by decide +kernel
theorem dX1_removeAllAt_13 : decode cX1_removeAllAt 13 = .ok (.iload_n 2, 1) := by decide +kernel
theorem dX1_removeAllAt_14 : decode cX1_removeAllAt 14 = .ok (.if_icmp .ge 47, 3) := by decide +kernel
theorem dX1_removeAllAt_17 : decode cX1_removeAllAt 17 = .ok (.aload_n 0, 1) := by decide +kernel
theorem dX1_removeAllAt_18 : decode cX1_removeAllAt 18 = .ok (.getfield 19, 3) := by decide +kernel
theorem dX1_removeAllAt_21 : decode cX1_removeAllAt 21 = .ok (.iload_n 3, 1) := by decide +kernel
theorem dX1_removeAllAt_22 : decode cX1_removeAllAt 22 = .ok (.iaload, 1) := by decide +kernel
theorem dX1_removeAllAt_23 : decode cX1_removeAllAt 23 = .ok (.iload_n 1, 1) := by decide +kernel
theorem dX1_removeAllAt_24 : decode cX1_removeAllAt 24 = .ok (.if_icmp .eq 31, 3) := by decide +kernel
theorem dX1_removeAllAt_27 : decode cX1_removeAllAt 27 = .ok (.aload_n 0, 1) := by decide +kernel
theorem dX1_removeAllAt_28 : decode cX1_removeAllAt 28 = .ok (.aload_n 0, 1) := by decide +kernel
theorem dX1_removeAllAt_29 : decode cX1_removeAllAt 29 = .ok (.getfield 9, 3) := by decide +kernel
theorem dX1_removeAllAt_32 : decode cX1_removeAllAt 32 = .ok (.iload_n 3, 1) := by decide +kernel
theorem dX1_removeAllAt_33 : decode cX1_removeAllAt 33 = .ok (.iaload, 1) := by decide +kernel
theorem dX1_removeAllAt_34 : decode cX1_removeAllAt 34 = .ok (.aload_n 0, 1) := by decide +kernel
theorem dX1_removeAllAt_35 : decode cX1_removeAllAt 35 = .ok (.getfield 13, 3) := by decide +kernel
theorem dX1_removeAllAt_38 : decode cX1_removeAllAt 38 = .ok (.iload_n 3, 1) := by decide +kernel
theorem dX1_removeAllAt_39 : decode cX1_removeAllAt 39 = .ok (.iaload, 1) := by decide +kernel
theorem dX1_removeAllAt_40 : decode cX1_removeAllAt 40 = .ok (.aload_n 0, 1) := by decide +kernel
theorem dX1_removeAllAt_41 : decode cX1_removeAllAt 41 = .ok (.getfield 16, 3) := by decide +kernel
theorem dX1_removeAllAt_44 : decode cX1_removeAllAt 44 = .ok (.iload_n 3, 1) := by decide +kernel
theorem dX1_removeAllAt_45 : decode cX1_removeAllAt 45 = .ok (.iaload, 1) := by decide +kernel
theorem dX1_removeAllAt_46 : decode cX1_removeAllAt 46 = .ok (.aload_n 0, 1) := by decide +kernel
theorem dX1_removeAllAt_47 : decode cX1_removeAllAt 47 = .ok (.getfield 19, 3) := by decide +kernel
theorem dX1_removeAllAt_50 : decode cX1_removeAllAt 50 = .ok (.iload_n 3, 1) := by decide +kernel
theorem dX1_removeAllAt_51 : decode cX1_removeAllAt 51 = .ok (.iaload, 1) := by decide +kernel
theorem dX1_removeAllAt_52 : decode cX1_removeAllAt 52 = .ok (.invokevirtual 30, 3) := by decide +kernel
theorem dX1_removeAllAt_55 : decode cX1_removeAllAt 55 = .ok (.iinc 3 1, 3) := by decide +kernel
theorem dX1_removeAllAt_58 : decode cX1_removeAllAt 58 = .ok (.goto (-46), 3) := by decide +kernel
theorem dX1_removeAllAt_61 : decode cX1_removeAllAt 61 = .ok (.return_, 1) := by decide +kernel
theorem dX2_init_0 : decode cX2_init 0 = .ok (.aload_n 0, 1) := by decide +kernel
theorem dX2_init_1 : decode cX2_init 1 = .ok (.invokespecial 3, 3) := by decide +kernel
theorem dX2_init_4 : decode cX2_init 4 = .ok (.return_, 1) := by decide +kernel
theorem dX2_copyFrom_0 : decode cX2_copyFrom 0 = .ok (.aload_n 0, 1) := by decide +kernel
theorem dX2_copyFrom_1 : decode cX2_copyFrom 1 = .ok (.aload_n 1, 1) := by decide +kernel
theorem dX2_copyFrom_2 : decode cX2_copyFrom 2 = .ok (.getfield 9, 3) := by decide +kernel
theorem dX2_copyFrom_5 : decode cX2_copyFrom 5 = .ok (.putfield 9, 3) := by decide +kernel
theorem dX2_copyFrom_8 : decode cX2_copyFrom 8 = .ok (.aload_n 0, 1) := by decide +kernel
theorem dX2_copyFrom_9 : decode cX2_copyFrom 9 = .ok (.aload_n 1, 1) := by decide +kernel
theorem dX2_copyFrom_10 : decode cX2_copyFrom 10 = .ok (.getfield 15, 3) := by decide +kernel
theorem dX2_copyFrom_13 : decode cX2_copyFrom 13 = .ok (.putfield 15, 3) := by decide +kernel
theorem dX2_copyFrom_16 : decode cX2_copyFrom 16 = .ok (.aload_n 0, 1) := by decide +kernel
theorem dX2_copyFrom_17 : decode cX2_copyFrom 17 = .ok (.aload_n 1, 1) := by decide +kernel
theorem dX2_copyFrom_18 : decode cX2_copyFrom 18 = .ok (.getfield 18, 3) := by decide +kernel
theorem dX2_copyFrom_21 : decode cX2_copyFrom 21 = .ok (.putfield 18, 3) := by decide +kernel
theorem dX2_copyFrom_24 : decode cX2_copyFrom 24 = .ok (.aload_n 0, 1) := by decide +kernel
theorem dX2_copyFrom_25 : decode cX2_copyFrom 25 = .ok (.aload_n 1, 1) := by decide +kernel
theorem dX2_copyFrom_26 : decode cX2_copyFrom 26 = .ok (.getfield 21, 3) := by decide +kernel
theorem dX2_copyFrom_29 : decode cX2_copyFrom 29 = .ok (.putfield 21, 3) := by decide +kernel
theorem dX2_copyFrom_32 : decode cX2_copyFrom 32 = .ok (.aload_n 0, 1) := by decide +kernel
theorem dX2_copyFrom_33 : decode cX2_copyFrom 33 = .ok (.aload_n 1, 1) := by decide +kernel
theorem dX2_copyFrom_34 : decode cX2_copyFrom 34 = .ok (.getfield 24, 3) := by decide +kernel
theorem dX2_copyFrom_37 : decode cX2_copyFrom 37 = .ok (.putfield 24, 3) := by decide +kernel
theorem dX2_copyFrom_40 : decode cX2_copyFrom 40 = .ok (.aload_n 0, 1) := by decide +kernel
theorem dX2_copyFrom_41 : decode cX2_copyFrom 41 = .ok (.aload_n 1, 1) := by decide +kernel
theorem dX2_copyFrom_42 : decode cX2_copyFrom 42 = .ok (.getfield 27, 3) := by decide +kernel
theorem dX2_copyFrom_45 : decode cX2_copyFrom 45 = .ok (.putfield 27, 3) := by decide +kernel
theorem dX2_copyFrom_48 : decode cX2_copyFrom 48 = .ok (.aload_n 0, 1) := by decide +kernel
theorem dX2_copyFrom_49 : decode cX2_copyFrom 49 = .ok (.aload_n 1, 1) := by decide +kernel
theorem dX2_copyFrom_50 : decode cX2_copyFrom 50 = .ok (.getfield 30, 3) := by decide +kernel
theorem dX2_copyFrom_53 : decode cX2_copyFrom 53 = .ok (.putfield 30, 3) := by decide +kernel
theorem dX2_copyFrom_56 : decode cX2_copyFrom 56 = .ok (.aload_n 0, 1) := by decide +kernel
theorem dX2_copyFrom_57 : decode cX2_copyFrom 57 = .ok (.aload_n 1, 1) := by decide +kernel
theorem dX2_copyFrom_58 : decode cX2_copyFrom 58 = .ok (.getfield 33, 3) := by decide +kernel
theorem dX2_copyFrom_61 : decode cX2_copyFrom 61 = .ok (.putfield 33, 3) := by decide +kernel
theorem dX2_copyFrom_64 : decode cX2_copyFrom 64 = .ok (.aload_n 0, 1) := by decide +kernel
theorem dX2_copyFrom_65 : decode cX2_copyFrom 65 = .ok (.aload_n 1, 1) := by decide +kernel
theorem dX2_copyFrom_66 : decode cX2_copyFrom 66 = .ok (.getfield 36, 3) := by decide +kernel
theorem dX2_copyFrom_69 : decode cX2_copyFrom 69 = .ok (.putfield 36, 3) := by decide +kernel
theorem dX2_copyFrom_72 : decode cX2_copyFrom 72 = .ok (.return_, 1) := by decide +kernel
theorem dX2_takenAs_0 : decode cX2_takenAs 0 = .ok (.iload_n 1, 1) := by decide +kernel
theorem dX2_takenAs_1 : decode cX2_takenAs 1 = .ok (.iconst 3, 1) := by decide +kernel
theorem dX2_takenAs_2 : decode cX2_takenAs 2 = .ok (.if_icmp .ne 8, 3) := by decide +kernel
theorem dX2_takenAs_5 : decode cX2_takenAs 5 = .ok (.aload_n 0, 1) := by decide +kernel
theorem dX2_takenAs_6 : decode cX2_takenAs 6 = .ok (.getfield 18, 3) := by decide +kernel
theorem dX2_takenAs_9 : decode cX2_takenAs 9 = .ok (.ireturn, 1) := by decide +kernel
theorem dX2_takenAs_10 : decode cX2_takenAs 10 = .ok (.iload_n 1, 1) := by decide +kernel
theorem dX2_takenAs_11 : decode cX2_takenAs 11 = .ok (.iconst 1, 1) := by decide +kernel
theorem dX2_takenAs_12 : decode cX2_takenAs 12 = .ok (.if_icmp .ne 10, 3) := by decide +kernel
theorem dX2_takenAs_15 : decode cX2_takenAs 15 = .ok (.aload_n 0, 1) := by decide +kernel
theorem dX2_takenAs_16 : decode cX2_takenAs 16 = .ok (.getfield 9, 3) := by decide +kernel
theorem dX2_takenAs_19 : decode cX2_takenAs 19 = .ok (.goto 7, 3) := by decide +kernel
theorem dX2_takenAs_22 : decode cX2_takenAs 22 = .ok (.aload_n 0, 1) := by decide +kernel
theorem dX2_takenAs_23 : decode cX2_takenAs 23 = .ok (.getfield 15, 3) := by decide +kernel
theorem dX2_takenAs_26 : decode cX2_takenAs 26 = .ok (.ireturn, 1) := by decide +kernel
theorem dX2_countKnown_0 : decode cX2_countKnown 0 = .ok (.iload_n 1, 1) := by decide +kernel
theorem dX2_countKnown_1 : decode cX2_countKnown 1 = .ok (.iconst 1, 1) := by decide +kernel
theorem dX2_countKnown_2 : decode cX2_countKnown 2 = .ok (.if_icmp .ne 16, 3) := by decide +kernel
theorem dX2_countKnown_5 : decode cX2_countKnown 5 = .ok (.aload_n 0, 1) := by decide +kernel
theorem dX2_countKnown_6 : decode cX2_countKnown 6 = .ok (.dup, 1) := by decide +kernel
theorem dX2_countKnown_7 : decode cX2_countKnown 7 = .ok (.getfield 9, 3) := by decide +kernel
theorem dX2_countKnown_10 : decode cX2_countKnown 10 = .ok (.iconst 1, 1) := by decide +kernel
theorem dX2_countKnown_11 : decode cX2_countKnown 11 = .ok (.iadd, 1) := by decide +kernel
theorem dX2_countKnown_12 : decode cX2_countKnown 12 = .ok (.putfield 9, 3) := by decide +kernel
theorem dX2_countKnown_15 : decode cX2_countKnown 15 = .ok (.goto 13, 3) := by decide +kernel
theorem dX2_countKnown_18 : decode cX2_countKnown 18 = .ok (.aload_n 0, 1) := by decide +kernel
theorem dX2_countKnown_19 : decode cX2_countKnown 19 = .ok (.dup, 1) := by decide +kernel
theorem dX2_countKnown_20 : decode cX2_countKnown 20 = .ok (.getfield 15, 3) := by decide +kernel
theorem dX2_countKnown_23 : decode cX2_countKnown 23 = .ok (.iconst 1, 1) := by decide +kernel
theorem dX2_countKnown_24 : decode cX2_countKnown 24 = .ok (.iadd, 1) := by decide +kernel
theorem dX2_countKnown_25 : decode cX2_countKnown 25 = .ok (.putfield 15, 3) := by decide +kernel
theorem dX2_countKnown_28 : decode cX2_countKnown 28 = .ok (.aload_n 0, 1) := by decide +kernel
theorem dX2_countKnown_29 : decode cX2_countKnown 29 = .ok (.iconst 0, 1) := by decide +kernel
theorem dX2_countKnown_30 : decode cX2_countKnown 30 = .ok (.putfield 33, 3) := by decide +kernel
theorem dX2_countKnown_33 : decode cX2_countKnown 33 = .ok (.return_, 1) := by decide +kernel
theorem dX2_countConcealed_0 : decode cX2_countConcealed 0 = .ok (.aload_n 0, 1) := by decide +kernel
theorem dX2_countConcealed_1 : decode cX2_countConcealed 1 = .ok (.dup, 1) := by decide +kernel
theorem dX2_countConcealed_2 : decode cX2_countConcealed 2 = .ok (.getfield 18, 3) := by decide +kernel
theorem dX2_countConcealed_5 : decode cX2_countConcealed 5 = .ok (.iconst 1, 1) := by decide +kernel
theorem dX2_countConcealed_6 : decode cX2_countConcealed 6 = .ok (.iadd, 1) := by decide +kernel
theorem dX2_countConcealed_7 : decode cX2_countConcealed 7 = .ok (.putfield 18, 3) := by decide +kernel
theorem dX2_countConcealed_10 : decode cX2_countConcealed 10 = .ok (.aload_n 0, 1) := by decide +kernel
theorem dX2_countConcealed_11 : decode cX2_countConcealed 11 = .ok (.dup, 1) := by decide +kernel
theorem dX2_countConcealed_12 : decode cX2_countConcealed 12 = .ok (.getfield 33, 3) := by decide +kernel
theorem dX2_countConcealed_15 : decode cX2_countConcealed 15 = .ok (.iconst 1, 1) := by decide +kernel
theorem dX2_countConcealed_16 : decode cX2_countConcealed 16 = .ok (.iadd, 1) := by decide +kernel
theorem dX2_countConcealed_17 : decode cX2_countConcealed 17 = .ok (.putfield 33, 3) := by decide +kernel
theorem dX2_countConcealed_20 : decode cX2_countConcealed 20 = .ok (.aload_n 0, 1) := by decide +kernel
theorem dX2_countConcealed_21 : decode cX2_countConcealed 21 = .ok (.aload_n 0, 1) := by decide +kernel
theorem dX2_countConcealed_22 : decode cX2_countConcealed 22 = .ok (.getfield 36, 3) := by decide +kernel
theorem dX2_countConcealed_25 : decode cX2_countConcealed 25 = .ok (.aload_n 0, 1) := by decide +kernel
theorem dX2_countConcealed_26 : decode cX2_countConcealed 26 = .ok (.getfield 33, 3) := by decide +kernel
theorem dX2_countConcealed_29 : decode cX2_countConcealed 29 = .ok (.invokestatic 39, 3) := by decide +kernel
theorem dX2_countConcealed_32 : decode cX2_countConcealed 32 = .ok (.putfield 36, 3) := by decide +kernel
theorem dX2_countConcealed_35 : decode cX2_countConcealed 35 = .ok (.return_, 1) := by decide +kernel
theorem dX3_init_0 : decode cX3_init 0 = .ok (.aload_n 0, 1) := by decide +kernel
theorem dX3_init_1 : decode cX3_init 1 = .ok (.invokespecial 5, 3) := by decide +kernel
theorem dX3_init_4 : decode cX3_init 4 = .ok (.aload_n 0, 1) := by decide +kernel
theorem dX3_init_5 : decode cX3_init 5 = .ok (.sipush 250, 3) := by decide +kernel
theorem dX3_init_8 : decode cX3_init 8 = .ok (.newarray .long, 2) := by decide +kernel
theorem dX3_init_10 : decode cX3_init 10 = .ok (.putfield 13, 3) := by decide +kernel
theorem dX3_init_13 : decode cX3_init 13 = .ok (.aload_n 0, 1) := by decide +kernel
theorem dX3_init_14 : decode cX3_init 14 = .ok (.sipush 250, 3) := by decide +kernel
theorem dX3_init_17 : decode cX3_init 17 = .ok (.newarray .long, 2) := by decide +kernel
theorem dX3_init_19 : decode cX3_init 19 = .ok (.putfield 17, 3) := by decide +kernel
theorem dX3_init_22 : decode cX3_init 22 = .ok (.aload_n 0, 1) := by decide +kernel
theorem dX3_init_23 : decode cX3_init 23 = .ok (.sipush 250, 3) := by decide +kernel
theorem dX3_init_26 : decode cX3_init 26 = .ok (.newarray .int, 2) := by decide +kernel
theorem dX3_init_28 : decode cX3_init 28 = .ok (.putfield 20, 3) := by decide +kernel
theorem dX3_init_31 : decode cX3_init 31 = .ok (.return_, 1) := by decide +kernel
theorem dX3_copyFrom_0 : decode cX3_copyFrom 0 = .ok (.aload_n 1, 1) := by decide +kernel
theorem dX3_copyFrom_1 : decode cX3_copyFrom 1 = .ok (.getfield 13, 3) := by decide +kernel
theorem dX3_copyFrom_4 : decode cX3_copyFrom 4 = .ok (.iconst 0, 1) := by decide +kernel
theorem dX3_copyFrom_5 : decode cX3_copyFrom 5 = .ok (.aload_n 0, 1) := by decide +kernel
theorem dX3_copyFrom_6 : decode cX3_copyFrom 6 = .ok (.getfield 13, 3) := by decide +kernel
theorem dX3_copyFrom_9 : decode cX3_copyFrom 9 = .ok (.iconst 0, 1) := by decide +kernel
theorem dX3_copyFrom_10 : decode cX3_copyFrom 10 = .ok (.sipush 250, 3) := by decide +kernel
theorem dX3_copyFrom_13 : decode cX3_copyFrom 13 = .ok (.invokestatic 24, 3) := by decide +kernel
theorem dX3_copyFrom_16 : decode cX3_copyFrom 16 = .ok (.aload_n 1, 1) := by decide +kernel
theorem dX3_copyFrom_17 : decode cX3_copyFrom 17 = .ok (.getfield 17, 3) := by decide +kernel
theorem dX3_copyFrom_20 : decode cX3_copyFrom 20 = .ok (.iconst 0, 1) := by decide +kernel
theorem dX3_copyFrom_21 : decode cX3_copyFrom 21 = .ok (.aload_n 0, 1) := by decide +kernel
theorem dX3_copyFrom_22 : decode cX3_copyFrom 22 = .ok (.getfield 17, 3) := by decide +kernel
theorem dX3_copyFrom_25 : decode cX3_copyFrom 25 = .ok (.iconst 0, 1) := by decide +kernel
theorem dX3_copyFrom_26 : decode cX3_copyFrom 26 = .ok (.sipush 250, 3) := by decide +kernel
theorem dX3_copyFrom_29 : decode cX3_copyFrom 29 = .ok (.invokestatic 24, 3) := by decide +kernel
theorem dX3_copyFrom_32 : decode cX3_copyFrom 32 = .ok (.aload_n 1, 1) := by decide +kernel
theorem dX3_copyFrom_33 : decode cX3_copyFrom 33 = .ok (.getfield 20, 3) := by decide +kernel
theorem dX3_copyFrom_36 : decode cX3_copyFrom 36 = .ok (.iconst 0, 1) := by decide +kernel
theorem dX3_copyFrom_37 : decode cX3_copyFrom 37 = .ok (.aload_n 0, 1) := by decide +kernel
theorem dX3_copyFrom_38 : decode cX3_copyFrom 38 = .ok (.getfield 20, 3) := by decide +kernel
theorem dX3_copyFrom_41 : decode cX3_copyFrom 41 = .ok (.iconst 0, 1) := by decide +kernel
theorem dX3_copyFrom_42 : decode cX3_copyFrom 42 = .ok (.sipush 250, 3) := by decide +kernel
theorem dX3_copyFrom_45 : decode cX3_copyFrom 45 = .ok (.invokestatic 24, 3) := by decide +kernel
theorem dX3_copyFrom_48 : decode cX3_copyFrom 48 = .ok (.return_, 1) := by decide +kernel
theorem dX3_stateOf_0 : decode cX3_stateOf 0 = .ok (.iload_n 2, 1) := by decide +kernel
theorem dX3_stateOf_1 : decode cX3_stateOf 1 = .ok (.aload_n 1, 1) := by decide +kernel
theorem dX3_stateOf_2 : decode cX3_stateOf 2 = .ok (.invokevirtual 30, 3) := by decide +kernel
theorem dX3_stateOf_5 : decode cX3_stateOf 5 = .ok (.idiv, 1) := by decide +kernel
theorem dX3_stateOf_6 : decode cX3_stateOf 6 = .ok (.istore_n 3, 1) := by decide +kernel
theorem dX3_stateOf_7 : decode cX3_stateOf 7 = .ok (.iload_n 2, 1) := by decide +kernel
theorem dX3_stateOf_8 : decode cX3_stateOf 8 = .ok (.aload_n 1, 1) := by decide +kernel
theorem dX3_stateOf_9 : decode cX3_stateOf 9 = .ok (.invokevirtual 30, 3) := by decide +kernel
theorem dX3_stateOf_12 : decode cX3_stateOf 12 = .ok (.irem, 1) := by decide +kernel
theorem dX3_stateOf_13 : decode cX3_stateOf 13 = .ok (.istore 4, 2) := by decide +kernel
theorem dX3_stateOf_15 : decode cX3_stateOf 15 = .ok (.aload_n 0, 1) := by decide +kernel
theorem dX3_stateOf_16 : decode cX3_stateOf 16 = .ok (.getfield 17, 3) := by decide +kernel
theorem dX3_stateOf_19 : decode cX3_stateOf 19 = .ok (.iload_n 3, 1) := by decide +kernel
theorem dX3_stateOf_20 : decode cX3_stateOf 20 = .ok (.laload, 1) := by decide +kernel
theorem dX3_stateOf_21 : decode cX3_stateOf 21 = .ok (.iload 4, 2) := by decide +kernel
theorem dX3_stateOf_23 : decode cX3_stateOf 23 = .ok (.lshr, 1) := by decide +kernel
theorem dX3_stateOf_24 : decode cX3_stateOf 24 = .ok (.lconst 1, 1) := by decide +kernel
theorem dX3_stateOf_25 : decode cX3_stateOf 25 = .ok (.land, 1) := by decide +kernel
theorem dX3_stateOf_26 : decode cX3_stateOf 26 = .ok (.lconst 0, 1) := by decide +kernel
theorem dX3_stateOf_27 : decode cX3_stateOf 27 = .ok (.lcmp, 1) := by decide +kernel
theorem dX3_stateOf_28 : decode cX3_stateOf 28 = .ok (.ifCond .eq 5, 3) := by decide +kernel
theorem dX3_stateOf_31 : decode cX3_stateOf 31 = .ok (.iconst 2, 1) := by decide +kernel
theorem dX3_stateOf_32 : decode cX3_stateOf 32 = .ok (.ireturn, 1) := by decide +kernel
theorem dX3_stateOf_33 : decode cX3_stateOf 33 = .ok (.aload_n 0, 1) := by decide +kernel
theorem dX3_stateOf_34 : decode cX3_stateOf 34 = .ok (.getfield 13, 3) := by decide +kernel
theorem dX3_stateOf_37 : decode cX3_stateOf 37 = .ok (.iload_n 3, 1) := by decide +kernel
theorem dX3_stateOf_38 : decode cX3_stateOf 38 = .ok (.laload, 1) := by decide +kernel
theorem dX3_stateOf_39 : decode cX3_stateOf 39 = .ok (.iload 4, 2) := by decide +kernel
theorem dX3_stateOf_41 : decode cX3_stateOf 41 = .ok (.lshr, 1) := by decide +kernel
theorem dX3_stateOf_42 : decode cX3_stateOf 42 = .ok (.lconst 1, 1) := by decide +kernel
theorem dX3_stateOf_43 : decode cX3_stateOf 43 = .ok (.land, 1) := by decide +kernel
theorem dX3_stateOf_44 : decode cX3_stateOf 44 = .ok (.lconst 0, 1) := by decide +kernel
theorem dX3_stateOf_45 : decode cX3_stateOf 45 = .ok (.lcmp, 1) := by decide +kernel
theorem dX3_stateOf_46 : decode cX3_stateOf 46 = .ok (.ifCond .eq 7, 3) := by decide +kernel
theorem dX3_stateOf_49 : decode cX3_stateOf 49 = .ok (.iconst 1, 1) := by decide +kernel
theorem dX3_stateOf_50 : decode cX3_stateOf 50 = .ok (.goto 4, 3) := by decide +kernel
theorem dX3_stateOf_53 : decode cX3_stateOf 53 = .ok (.iconst 0, 1) := by decide +kernel
theorem dX3_stateOf_54 : decode cX3_stateOf 54 = .ok (.ireturn, 1) := by decide +kernel
theorem dX3_hasPacket_0 : decode cX3_hasPacket 0 = .ok (.aload_n 0, 1) := by decide +kernel
theorem dX3_hasPacket_1 : decode cX3_hasPacket 1 = .ok (.getfield 20, 3) := by decide +kernel
theorem dX3_hasPacket_4 : decode cX3_hasPacket 4 = .ok (.iload_n 2, 1) := by decide +kernel
theorem dX3_hasPacket_5 : decode cX3_hasPacket 5 = .ok (.iaload, 1) := by decide +kernel
theorem dX3_hasPacket_6 : decode cX3_hasPacket 6 = .ok (.iload_n 1, 1) := by decide +kernel
theorem dX3_hasPacket_7 : decode cX3_hasPacket 7 = .ok (.iload_n 3, 1) := by decide +kernel
theorem dX3_hasPacket_8 : decode cX3_hasPacket 8 = .ok (.invokestatic 34, 3) := by decide +kernel
theorem dX3_hasPacket_11 : decode cX3_hasPacket 11 = .ok (.iand, 1) := by decide +kernel
theorem dX3_hasPacket_12 : decode cX3_hasPacket 12 = .ok (.ifCond .eq 7, 3) := by decide +kernel
theorem dX3_hasPacket_15 : decode cX3_hasPacket 15 = .ok (.iconst 1, 1) := by decide +kernel
theorem dX3_hasPacket_16 : decode cX3_hasPacket 16 = .ok (.goto 4, 3) := by decide +kernel
theorem dX3_hasPacket_19 : decode cX3_hasPacket 19 = .ok (.iconst 0, 1) := by decide +kernel
theorem dX3_hasPacket_20 : decode cX3_hasPacket 20 = .ok (.ireturn, 1) := by decide +kernel
theorem dX3_addFrame_0 : decode cX3_addFrame 0 = .ok (.iload_n 2, 1) := by decide +kernel
theorem dX3_addFrame_1 : decode cX3_addFrame 1 = .ok (.aload_n 1, 1) := by decide +kernel
theorem dX3_addFrame_2 : decode cX3_addFrame 2 = .ok (.invokevirtual 30, 3) := by decide +kernel
theorem dX3_addFrame_5 : decode cX3_addFrame 5 = .ok (.idiv, 1) := by decide +kernel
theorem dX3_addFrame_6 : decode cX3_addFrame 6 = .ok (.istore_n 3, 1) := by decide +kernel
theorem dX3_addFrame_7 : decode cX3_addFrame 7 = .ok (.lconst 1, 1) := by decide +kernel
theorem dX3_addFrame_8 : decode cX3_addFrame 8 = .ok (.iload_n 2, 1) := by decide +kernel
theorem dX3_addFrame_9 : decode cX3_addFrame 9 = .ok (.aload_n 1, 1) := by decide +kernel
theorem dX3_addFrame_10 : decode cX3_addFrame 10 = .ok (.invokevirtual 30, 3) := by decide +kernel
theorem dX3_addFrame_13 : decode cX3_addFrame 13 = .ok (.irem, 1) := by decide +kernel
theorem dX3_addFrame_14 : decode cX3_addFrame 14 = .ok (.lshl, 1) := by decide +kernel
theorem dX3_addFrame_15 : decode cX3_addFrame 15 = .ok (.lstore 4, 2) := by decide +kernel
theorem dX3_addFrame_17 : decode cX3_addFrame 17 = .ok (.aload_n 0, 1) := by decide +kernel
theorem dX3_addFrame_18 : decode cX3_addFrame 18 = .ok (.getfield 17, 3) := by decide +kernel
theorem dX3_addFrame_21 : decode cX3_addFrame 21 = .ok (.iload_n 3, 1) := by decide +kernel
theorem dX3_addFrame_22 : decode cX3_addFrame 22 = .ok (.dup2, 1) := by decide +kernel
theorem dX3_addFrame_23 : decode cX3_addFrame 23 = .ok (.laload, 1) := by decide +kernel
theorem dX3_addFrame_24 : decode cX3_addFrame 24 = .ok (.lload 4, 2) := by decide +kernel
theorem dX3_addFrame_26 : decode cX3_addFrame 26 = .ok (.lor, 1) := by decide +kernel
theorem dX3_addFrame_27 : decode cX3_addFrame 27 = .ok (.lastore, 1) := by decide +kernel
theorem dX3_addFrame_28 : decode cX3_addFrame 28 = .ok (.aload_n 0, 1) := by decide +kernel
theorem dX3_addFrame_29 : decode cX3_addFrame 29 = .ok (.getfield 13, 3) := by decide +kernel
theorem dX3_addFrame_32 : decode cX3_addFrame 32 = .ok (.iload_n 3, 1) := by decide +kernel
theorem dX3_addFrame_33 : decode cX3_addFrame 33 = .ok (.dup2, 1) := by decide +kernel
theorem dX3_addFrame_34 : decode cX3_addFrame 34 = .ok (.laload, 1) := by decide +kernel
theorem dX3_addFrame_35 : decode cX3_addFrame 35 = .ok (.lload 4, 2) := by decide +kernel
theorem dX3_addFrame_37 : decode cX3_addFrame 37 = .ok (.lor, 1) := by decide +kernel
theorem dX3_addFrame_38 : decode cX3_addFrame 38 = .ok (.lastore, 1) := by decide +kernel
theorem dX3_addFrame_39 : decode cX3_addFrame 39 = .ok (.return_, 1) := by decide +kernel
theorem dX3_addPacket_0 : decode cX3_addPacket 0 = .ok (.aload_n 0, 1) := by decide +kernel
theorem dX3_addPacket_1 : decode cX3_addPacket 1 = .ok (.getfield 20, 3) := by decide +kernel
theorem dX3_addPacket_4 : decode cX3_addPacket 4 = .ok (.iload_n 2, 1) := by decide +kernel
theorem dX3_addPacket_5 : decode cX3_addPacket 5 = .ok (.dup2, 1) := by decide +kernel
theorem dX3_addPacket_6 : decode cX3_addPacket 6 = .ok (.iaload, 1) := by decide +kernel
theorem dX3_addPacket_7 : decode cX3_addPacket 7 = .ok (.iload_n 1, 1) := by decide +kernel
theorem dX3_addPacket_8 : decode cX3_addPacket 8 = .ok (.iload_n 3, 1) := by decide +kernel
theorem dX3_addPacket_9 : decode cX3_addPacket 9 = .ok (.invokestatic 34, 3) := by decide +kernel
theorem dX3_addPacket_12 : decode cX3_addPacket 12 = .ok (.ior, 1) := by decide +kernel
theorem dX3_addPacket_13 : decode cX3_addPacket 13 = .ok (.iastore, 1) := by decide +kernel
theorem dX3_addPacket_14 : decode cX3_addPacket 14 = .ok (.return_, 1) := by decide +kernel
theorem dX3_restoreIn_0 : decode cX3_restoreIn 0 = .ok (.aload_n 0, 1) := by decide +kernel
theorem dX3_restoreIn_1 : decode cX3_restoreIn 1 = .ok (.aload_n 1, 1) := by decide +kernel
theorem dX3_restoreIn_2 : decode cX3_restoreIn 2 = .ok (.iload_n 2, 1) := by decide +kernel
theorem dX3_restoreIn_3 : decode cX3_restoreIn 3 = .ok (.invokevirtual 38, 3) := by decide +kernel
theorem dX3_restoreIn_6 : decode cX3_restoreIn 6 = .ok (.lstore_n 3, 1) := by decide +kernel
theorem dX3_restoreIn_7 : decode cX3_restoreIn 7 = .ok (.aload_n 1, 1) := by decide +kernel
theorem dX3_restoreIn_8 : decode cX3_restoreIn 8 = .ok (.lload_n 3, 1) := by decide +kernel
theorem dX3_restoreIn_9 : decode cX3_restoreIn 9 = .ok (.aload_n 0, 1) := by decide +kernel
theorem dX3_restoreIn_10 : decode cX3_restoreIn 10 = .ok (.getfield 20, 3) := by decide +kernel
theorem dX3_restoreIn_13 : decode cX3_restoreIn 13 = .ok (.iload_n 2, 1) := by decide +kernel
theorem dX3_restoreIn_14 : decode cX3_restoreIn 14 = .ok (.iaload, 1) := by decide +kernel
theorem dX3_restoreIn_15 : decode cX3_restoreIn 15 = .ok (.invokestatic 42, 3) := by decide +kernel
theorem dX3_restoreIn_18 : decode cX3_restoreIn 18 = .ok (.lstore 5, 2) := by decide +kernel
theorem dX3_restoreIn_20 : decode cX3_restoreIn 20 = .ok (.aload_n 0, 1) := by decide +kernel
theorem dX3_restoreIn_21 : decode cX3_restoreIn 21 = .ok (.getfield 13, 3) := by decide +kernel
theorem dX3_restoreIn_24 : decode cX3_restoreIn 24 = .ok (.iload_n 2, 1) := by decide +kernel
theorem dX3_restoreIn_25 : decode cX3_restoreIn 25 = .ok (.lload 5, 2) := by decide +kernel
theorem dX3_restoreIn_27 : decode cX3_restoreIn 27 = .ok (.lastore, 1) := by decide +kernel
theorem dX3_restoreIn_28 : decode cX3_restoreIn 28 = .ok (.lload 5, 2) := by decide +kernel
theorem dX3_restoreIn_30 : decode cX3_restoreIn 30 = .ok (.lload_n 3, 1) := by decide +kernel
theorem dX3_restoreIn_31 : decode cX3_restoreIn 31 = .ok (.ldc2_w 46, 3) := by decide +kernel
theorem dX3_restoreIn_34 : decode cX3_restoreIn 34 = .ok (.lxor, 1) := by decide +kernel
theorem dX3_restoreIn_35 : decode cX3_restoreIn 35 = .ok (.land, 1) := by decide +kernel
theorem dX3_restoreIn_36 : decode cX3_restoreIn 36 = .ok (.invokestatic 48, 3) := by decide +kernel
theorem dX3_restoreIn_39 : decode cX3_restoreIn 39 = .ok (.ireturn, 1) := by decide +kernel
theorem dX3_missingIn_0 : decode cX3_missingIn 0 = .ok (.aload_n 1, 1) := by decide +kernel
theorem dX3_missingIn_1 : decode cX3_missingIn 1 = .ok (.iload_n 2, 1) := by decide +kernel
theorem dX3_missingIn_2 : decode cX3_missingIn 2 = .ok (.iload 4, 2) := by decide +kernel
theorem dX3_missingIn_4 : decode cX3_missingIn 4 = .ok (.invokestatic 54, 3) := by decide +kernel
theorem dX3_missingIn_7 : decode cX3_missingIn 7 = .ok (.aload_n 0, 1) := by decide +kernel
theorem dX3_missingIn_8 : decode cX3_missingIn 8 = .ok (.aload_n 1, 1) := by decide +kernel
theorem dX3_missingIn_9 : decode cX3_missingIn 9 = .ok (.iload_n 3, 1) := by decide +kernel
theorem dX3_missingIn_10 : decode cX3_missingIn 10 = .ok (.invokevirtual 38, 3) := by decide +kernel
theorem dX3_missingIn_13 : decode cX3_missingIn 13 = .ok (.ldc2_w 46, 3) := by decide +kernel
theorem dX3_missingIn_16 : decode cX3_missingIn 16 = .ok (.lxor, 1) := by decide +kernel
theorem dX3_missingIn_17 : decode cX3_missingIn 17 = .ok (.land, 1) := by decide +kernel
theorem dX3_missingIn_18 : decode cX3_missingIn 18 = .ok (.invokestatic 48, 3) := by decide +kernel
theorem dX3_missingIn_21 : decode cX3_missingIn 21 = .ok (.ireturn, 1) := by decide +kernel
theorem dX3_unrestorableIn_0 : decode cX3_unrestorableIn 0 = .ok (.lconst 1, 1) := by decide +kernel
theorem dX3_unrestorableIn_1 : decode cX3_unrestorableIn 1 = .ok (.aload_n 1, 1) := by decide +kernel
theorem dX3_unrestorableIn_2 : decode cX3_unrestorableIn 2 = .ok (.invokevirtual 30, 3) := by decide +kernel
theorem dX3_unrestorableIn_5 : decode cX3_unrestorableIn 5 = .ok (.lshl, 1) := by decide +kernel
theorem dX3_unrestorableIn_6 : decode cX3_unrestorableIn 6 = .ok (.lconst 1, 1) := by decide +kernel
theorem dX3_unrestorableIn_7 : decode cX3_unrestorableIn 7 = .ok (.lsub, 1) := by decide +kernel
theorem dX3_unrestorableIn_8 : decode cX3_unrestorableIn 8 = .ok (.lstore_n 3, 1) := by decide +kernel
theorem dX3_unrestorableIn_9 : decode cX3_unrestorableIn 9 = .ok (.lload_n 3, 1) := by decide +kernel
theorem dX3_unrestorableIn_10 : decode cX3_unrestorableIn 10 = .ok (.aload_n 1, 1) := by decide +kernel
theorem dX3_unrestorableIn_11 : decode cX3_unrestorableIn 11 = .ok (.aload_n 0, 1) := by decide +kernel
theorem dX3_unrestorableIn_12 : decode cX3_unrestorableIn 12 = .ok (.aload_n 1, 1) := by decide +kernel
theorem dX3_unrestorableIn_13 : decode cX3_unrestorableIn 13 = .ok (.iload_n 2, 1) := by decide +kernel
theorem dX3_unrestorableIn_14 : decode cX3_unrestorableIn 14 = .ok (.invokevirtual 38, 3) := by decide +kernel
theorem dX3_unrestorableIn_17 : decode cX3_unrestorableIn 17 = .ok (.iconst (-1), 1) := by decide +kernel
theorem dX3_unrestorableIn_18 : decode cX3_unrestorableIn 18 = .ok (.invokestatic 42, 3) := by decide +kernel
theorem dX3_unrestorableIn_21 : decode cX3_unrestorableIn 21 = .ok (.ldc2_w 46, 3) := by decide +kernel
theorem dX3_unrestorableIn_24 : decode cX3_unrestorableIn 24 = .ok (.lxor, 1) := by decide +kernel
theorem dX3_unrestorableIn_25 : decode cX3_unrestorableIn 25 = .ok (.land, 1) := by decide +kernel
theorem dX3_unrestorableIn_26 : decode cX3_unrestorableIn 26 = .ok (.invokestatic 48, 3) := by decide +kernel
theorem dX3_unrestorableIn_29 : decode cX3_unrestorableIn 29 = .ok (.ireturn, 1) := by decide +kernel
theorem dX3_knownFrom_0 : decode cX3_knownFrom 0 = .ok (.iload_n 2, 1) := by decide +kernel
theorem dX3_knownFrom_1 : decode cX3_knownFrom 1 = .ok (.istore_n 3, 1) := by decide +kernel
theorem dX3_knownFrom_2 : decode cX3_knownFrom 2 = .ok (.iload_n 3, 1) := by decide +kernel
theorem dX3_knownFrom_3 : decode cX3_knownFrom 3 = .ok (.sipush 999, 3) := by decide +kernel
theorem dX3_knownFrom_6 : decode cX3_knownFrom 6 = .ok (.if_icmp .gt 21, 3) := by decide +kernel
theorem dX3_knownFrom_9 : decode cX3_knownFrom 9 = .ok (.aload_n 0, 1) := by decide +kernel
theorem dX3_knownFrom_10 : decode cX3_knownFrom 10 = .ok (.aload_n 1, 1) := by decide +kernel
theorem dX3_knownFrom_11 : decode cX3_knownFrom 11 = .ok (.iload_n 3, 1) := by decide +kernel
theorem dX3_knownFrom_12 : decode cX3_knownFrom 12 = .ok (.invokevirtual 58, 3) := by decide +kernel
theorem dX3_knownFrom_15 : decode cX3_knownFrom 15 = .ok (.ifCond .ne 6, 3) := by decide +kernel
theorem dX3_knownFrom_18 : decode cX3_knownFrom 18 = .ok (.goto 9, 3) := by decide +kernel
theorem dX3_knownFrom_21 : decode cX3_knownFrom 21 = .ok (.iinc 3 1, 3) := by decide +kernel
theorem dX3_knownFrom_24 : decode cX3_knownFrom 24 = .ok (.goto (-22), 3) := by decide +kernel
theorem dX3_knownFrom_27 : decode cX3_knownFrom 27 = .ok (.iload_n 3, 1) := by decide +kernel
theorem dX3_knownFrom_28 : decode cX3_knownFrom 28 = .ok (.iload_n 2, 1) := by decide +kernel
theorem dX3_knownFrom_29 : decode cX3_knownFrom 29 = .ok (.isub, 1) := by decide +kernel
theorem dX3_knownFrom_30 : decode cX3_knownFrom 30 = .ok (.ireturn, 1) := by decide +kernel
theorem dX3_knownIn_0 : decode cX3_knownIn 0 = .ok (.sipush 1000, 3) := by decide +kernel
theorem dX3_knownIn_3 : decode cX3_knownIn 3 = .ok (.iload_n 2, 1) := by decide +kernel
theorem dX3_knownIn_4 : decode cX3_knownIn 4 = .ok (.aload_n 1, 1) := by decide +kernel
theorem dX3_knownIn_5 : decode cX3_knownIn 5 = .ok (.invokevirtual 30, 3) := by decide +kernel
theorem dX3_knownIn_8 : decode cX3_knownIn 8 = .ok (.imul, 1) := by decide +kernel
theorem dX3_knownIn_9 : decode cX3_knownIn 9 = .ok (.isub, 1) := by decide +kernel
theorem dX3_knownIn_10 : decode cX3_knownIn 10 = .ok (.istore_n 3, 1) := by decide +kernel
theorem dX3_knownIn_11 : decode cX3_knownIn 11 = .ok (.iload_n 3, 1) := by decide +kernel
theorem dX3_knownIn_12 : decode cX3_knownIn 12 = .ok (.bipush 64, 2) := by decide +kernel
theorem dX3_knownIn_14 : decode cX3_knownIn 14 = .ok (.if_icmp .ge 11, 3) := by decide +kernel
theorem dX3_knownIn_17 : decode cX3_knownIn 17 = .ok (.ldc2_w 46, 3) := by decide +kernel
theorem dX3_knownIn_20 : decode cX3_knownIn 20 = .ok (.iload_n 3, 1) := by decide +kernel
theorem dX3_knownIn_21 : decode cX3_knownIn 21 = .ok (.lshl, 1) := by decide +kernel
theorem dX3_knownIn_22 : decode cX3_knownIn 22 = .ok (.goto 4, 3) := by decide +kernel
theorem dX3_knownIn_25 : decode cX3_knownIn 25 = .ok (.lconst 0, 1) := by decide +kernel
theorem dX3_knownIn_26 : decode cX3_knownIn 26 = .ok (.lstore 4, 2) := by decide +kernel
theorem dX3_knownIn_28 : decode cX3_knownIn 28 = .ok (.aload_n 0, 1) := by decide +kernel
theorem dX3_knownIn_29 : decode cX3_knownIn 29 = .ok (.getfield 13, 3) := by decide +kernel
theorem dX3_knownIn_32 : decode cX3_knownIn 32 = .ok (.iload_n 2, 1) := by decide +kernel
theorem dX3_knownIn_33 : decode cX3_knownIn 33 = .ok (.laload, 1) := by decide +kernel
theorem dX3_knownIn_34 : decode cX3_knownIn 34 = .ok (.lload 4, 2) := by decide +kernel
theorem dX3_knownIn_36 : decode cX3_knownIn 36 = .ok (.lor, 1) := by decide +kernel
theorem dX3_knownIn_37 : decode cX3_knownIn 37 = .ok (.lreturn, 1) := by decide +kernel
theorem dX3_completed_0 : decode cX3_completed 0 = .ok (.lload_n 1, 1) := by decide +kernel
theorem dX3_completed_1 : decode cX3_completed 1 = .ok (.lstore 4, 2) := by decide +kernel
theorem dX3_completed_3 : decode cX3_completed 3 = .ok (.iconst 0, 1) := by decide +kernel
theorem dX3_completed_4 : decode cX3_completed 4 = .ok (.istore 6, 2) := by decide +kernel
theorem dX3_completed_6 : decode cX3_completed 6 = .ok (.iload 6, 2) := by decide +kernel
theorem dX3_completed_8 : decode cX3_completed 8 = .ok (.bipush 36, 2) := by decide +kernel
theorem dX3_completed_10 : decode cX3_completed 10 = .ok (.if_icmp .gt 84, 3) := by decide +kernel
theorem dX3_completed_13 : decode cX3_completed 13 = .ok (.lload 4, 2) := by decide +kernel
theorem dX3_completed_15 : decode cX3_completed 15 = .ok (.lstore 7, 2) := by decide +kernel
theorem dX3_completed_17 : decode cX3_completed 17 = .ok (.iconst 0, 1) := by decide +kernel
theorem dX3_completed_18 : decode cX3_completed 18 = .ok (.istore 9, 2) := by decide +kernel
theorem dX3_completed_20 : decode cX3_completed 20 = .ok (.iload 9, 2) := by decide +kernel
theorem dX3_completed_22 : decode cX3_completed 22 = .ok (.aload_n 0, 1) := by decide +kernel
theorem dX3_completed_23 : decode cX3_completed 23 = .ok (.getfield 62, 3) := by decide +kernel
theorem dX3_completed_26 : decode cX3_completed 26 = .ok (.if_icmp .ge 21, 3) := by decide +kernel
theorem dX3_completed_29 : decode cX3_completed 29 = .ok (.aload_n 0, 1) := by decide +kernel
theorem dX3_completed_30 : decode cX3_completed 30 = .ok (.lload 4, 2) := by decide +kernel
theorem dX3_completed_32 : decode cX3_completed 32 = .ok (.iload_n 3, 1) := by decide +kernel
theorem dX3_completed_33 : decode cX3_completed 33 = .ok (.iconst 1, 1) := by decide +kernel
theorem dX3_completed_34 : decode cX3_completed 34 = .ok (.iload 9, 2) := by decide +kernel
theorem dX3_completed_36 : decode cX3_completed 36 = .ok (.invokestatic 66, 3) := by decide +kernel
theorem dX3_completed_39 : decode cX3_completed 39 = .ok (.lstore 4, 2) := by decide +kernel
theorem dX3_completed_41 : decode cX3_completed 41 = .ok (.iinc 9 1, 3) := by decide +kernel
theorem dX3_completed_44 : decode cX3_completed 44 = .ok (.goto (-24), 3) := by decide +kernel
theorem dX3_completed_47 : decode cX3_completed 47 = .ok (.iconst 0, 1) := by decide +kernel
theorem dX3_completed_48 : decode cX3_completed 48 = .ok (.istore 9, 2) := by decide +kernel
theorem dX3_completed_50 : decode cX3_completed 50 = .ok (.iload 9, 2) := by decide +kernel
theorem dX3_completed_52 : decode cX3_completed 52 = .ok (.aload_n 0, 1) := by decide +kernel
theorem dX3_completed_53 : decode cX3_completed 53 = .ok (.getfield 70, 3) := by decide +kernel
theorem dX3_completed_56 : decode cX3_completed 56 = .ok (.if_icmp .ge 21, 3) := by decide +kernel
theorem dX3_completed_59 : decode cX3_completed 59 = .ok (.aload_n 0, 1) := by decide +kernel
theorem dX3_completed_60 : decode cX3_completed 60 = .ok (.lload 4, 2) := by decide +kernel
theorem dX3_completed_62 : decode cX3_completed 62 = .ok (.iload_n 3, 1) := by decide +kernel
theorem dX3_completed_63 : decode cX3_completed 63 = .ok (.iconst 0, 1) := by decide +kernel
theorem dX3_completed_64 : decode cX3_completed 64 = .ok (.iload 9, 2) := by decide +kernel
theorem dX3_completed_66 : decode cX3_completed 66 = .ok (.invokestatic 66, 3) := by decide +kernel
theorem dX3_completed_69 : decode cX3_completed 69 = .ok (.lstore 4, 2) := by decide +kernel
theorem dX3_completed_71 : decode cX3_completed 71 = .ok (.iinc 9 1, 3) := by decide +kernel
theorem dX3_completed_74 : decode cX3_completed 74 = .ok (.goto (-24), 3) := by decide +kernel
theorem dX3_completed_77 : decode cX3_completed 77 = .ok (.lload 4, 2) := by decide +kernel
theorem dX3_completed_79 : decode cX3_completed 79 = .ok (.lload 7, 2) := by decide +kernel
theorem dX3_completed_81 : decode cX3_completed 81 = .ok (.lcmp, 1) := by decide +kernel
theorem dX3_completed_82 : decode cX3_completed 82 = .ok (.ifCond .ne 6, 3) := by decide +kernel
theorem dX3_completed_85 : decode cX3_completed 85 = .ok (.goto 9, 3) := by decide +kernel
theorem dX3_completed_88 : decode cX3_completed 88 = .ok (.iinc 6 1, 3) := by decide +kernel
theorem dX3_completed_91 : decode cX3_completed 91 = .ok (.goto (-85), 3) := by decide +kernel
theorem dX3_completed_94 : decode cX3_completed 94 = .ok (.lload 4, 2) := by decide +kernel
theorem dX3_completed_96 : decode cX3_completed 96 = .ok (.lreturn, 1) := by decide +kernel
theorem dX3_withLine_0 : decode cX3_withLine 0 = .ok (.iload_n 3, 1) := by decide +kernel
theorem dX3_withLine_1 : decode cX3_withLine 1 = .ok (.iload 4, 2) := by decide +kernel
theorem dX3_withLine_3 : decode cX3_withLine 3 = .ok (.iload 5, 2) := by decide +kernel
theorem dX3_withLine_5 : decode cX3_withLine 5 = .ok (.invokestatic 34, 3) := by decide +kernel
theorem dX3_withLine_8 : decode cX3_withLine 8 = .ok (.iand, 1) := by decide +kernel
theorem dX3_withLine_9 : decode cX3_withLine 9 = .ok (.ifCond .ne 5, 3) := by decide +kernel
theorem dX3_withLine_12 : decode cX3_withLine 12 = .ok (.lload_n 1, 1) := by decide +kernel
theorem dX3_withLine_13 : decode cX3_withLine 13 = .ok (.lreturn, 1) := by decide +kernel
theorem dX3_withLine_14 : decode cX3_withLine 14 = .ok (.aload_n 0, 1) := by decide +kernel
theorem dX3_withLine_15 : decode cX3_withLine 15 = .ok (.iload 4, 2) := by decide +kernel
theorem dX3_withLine_17 : decode cX3_withLine 17 = .ok (.iload 5, 2) := by decide +kernel
theorem dX3_withLine_19 : decode cX3_withLine 19 = .ok (.invokestatic 54, 3) := by decide +kernel
theorem dX3_withLine_22 : decode cX3_withLine 22 = .ok (.lload_n 1, 1) := by decide +kernel
theorem dX3_withLine_23 : decode cX3_withLine 23 = .ok (.ldc2_w 46, 3) := by decide +kernel
theorem dX3_withLine_26 : decode cX3_withLine 26 = .ok (.lxor, 1) := by decide +kernel
theorem dX3_withLine_27 : decode cX3_withLine 27 = .ok (.land, 1) := by decide +kernel
theorem dX3_withLine_28 : decode cX3_withLine 28 = .ok (.lstore 6, 2) := by decide +kernel
theorem dX3_withLine_30 : decode cX3_withLine 30 = .ok (.lload 6, 2) := by decide +kernel
theorem dX3_withLine_32 : decode cX3_withLine 32 = .ok (.invokestatic 48, 3) := by decide +kernel
theorem dX3_withLine_35 : decode cX3_withLine 35 = .ok (.iconst 1, 1) := by decide +kernel
theorem dX3_withLine_36 : decode cX3_withLine 36 = .ok (.if_icmp .ne 10, 3) := by decide +kernel
theorem dX3_withLine_39 : decode cX3_withLine 39 = .ok (.lload_n 1, 1) := by decide +kernel
theorem dX3_withLine_40 : decode cX3_withLine 40 = .ok (.lload 6, 2) := by decide +kernel
theorem dX3_withLine_42 : decode cX3_withLine 42 = .ok (.lor, 1) := by decide +kernel
theorem dX3_withLine_43 : decode cX3_withLine 43 = .ok (.goto 4, 3) := by decide +kernel
theorem dX3_withLine_46 : decode cX3_withLine 46 = .ok (.lload_n 1, 1) := by decide +kernel
theorem dX3_withLine_47 : decode cX3_withLine 47 = .ok (.lreturn, 1) := by decide +kernel
theorem dX3_packetBit_0 : decode cX3_packetBit 0 = .ok (.iconst 1, 1) := by decide +kernel
theorem dX3_packetBit_1 : decode cX3_packetBit 1 = .ok (.iload_n 0, 1) := by decide +kernel
theorem dX3_packetBit_2 : decode cX3_packetBit 2 = .ok (.ifCond .eq 7, 3) := by decide +kernel
theorem dX3_packetBit_5 : decode cX3_packetBit 5 = .ok (.iload_n 1, 1) := by decide +kernel
theorem dX3_packetBit_6 : decode cX3_packetBit 6 = .ok (.goto 7, 3) := by decide +kernel
theorem dX3_packetBit_9 : decode cX3_packetBit 9 = .ok (.bipush 6, 2) := by decide +kernel
theorem dX3_packetBit_11 : decode cX3_packetBit 11 = .ok (.iload_n 1, 1) := by decide +kernel
theorem dX3_packetBit_12 : decode cX3_packetBit 12 = .ok (.iadd, 1) := by decide +kernel
theorem dX3_packetBit_13 : decode cX3_packetBit 13 = .ok (.ishl, 1) := by decide +kernel
theorem dX3_packetBit_14 : decode cX3_packetBit 14 = .ok (.ireturn, 1) := by decide +kernel
theorem dX3_lineBits_0 : decode cX3_lineBits 0 = .ok (.iload_n 1, 1) := by decide +kernel
theorem dX3_lineBits_1 : decode cX3_lineBits 1 = .ok (.ifCond .eq 19, 3) := by decide +kernel
theorem dX3_lineBits_4 : decode cX3_lineBits 4 = .ok (.lconst 1, 1) := by decide +kernel
theorem dX3_lineBits_5 : decode cX3_lineBits 5 = .ok (.aload_n 0, 1) := by decide +kernel
theorem dX3_lineBits_6 : decode cX3_lineBits 6 = .ok (.getfield 70, 3) := by decide +kernel
theorem dX3_lineBits_9 : decode cX3_lineBits 9 = .ok (.lshl, 1) := by decide +kernel
theorem dX3_lineBits_10 : decode cX3_lineBits 10 = .ok (.lconst 1, 1) := by decide +kernel
theorem dX3_lineBits_11 : decode cX3_lineBits 11 = .ok (.lsub, 1) := by decide +kernel
theorem dX3_lineBits_12 : decode cX3_lineBits 12 = .ok (.iload_n 2, 1) := by decide +kernel
theorem dX3_lineBits_13 : decode cX3_lineBits 13 = .ok (.aload_n 0, 1) := by decide +kernel
theorem dX3_lineBits_14 : decode cX3_lineBits 14 = .ok (.getfield 70, 3) := by decide +kernel
theorem dX3_lineBits_17 : decode cX3_lineBits 17 = .ok (.imul, 1) := by decide +kernel
theorem dX3_lineBits_18 : decode cX3_lineBits 18 = .ok (.lshl, 1) := by decide +kernel
theorem dX3_lineBits_19 : decode cX3_lineBits 19 = .ok (.lreturn, 1) := by decide +kernel
theorem dX3_lineBits_20 : decode cX3_lineBits 20 = .ok (.lconst 0, 1) := by decide +kernel
theorem dX3_lineBits_21 : decode cX3_lineBits 21 = .ok (.lstore_n 3, 1) := by decide +kernel
theorem dX3_lineBits_22 : decode cX3_lineBits 22 = .ok (.iconst 0, 1) := by decide +kernel
theorem dX3_lineBits_23 : decode cX3_lineBits 23 = .ok (.istore 5, 2) := by decide +kernel
theorem dX3_lineBits_25 : decode cX3_lineBits 25 = .ok (.iload 5, 2) := by decide +kernel
theorem dX3_lineBits_27 : decode cX3_lineBits 27 = .ok (.aload_n 0, 1) := by decide +kernel
theorem dX3_lineBits_28 : decode cX3_lineBits 28 = .ok (.getfield 62, 3) := by decide +kernel
theorem dX3_lineBits_31 : decode cX3_lineBits 31 = .ok (.if_icmp .ge 23, 3) := by decide +kernel
theorem dX3_lineBits_34 : decode cX3_lineBits 34 = .ok (.lload_n 3, 1) := by decide +kernel
theorem dX3_lineBits_35 : decode cX3_lineBits 35 = .ok (.lconst 1, 1) := by decide +kernel
theorem dX3_lineBits_36 : decode cX3_lineBits 36 = .ok (.iload 5, 2) := by decide +kernel
theorem dX3_lineBits_38 : decode cX3_lineBits 38 = .ok (.aload_n 0, 1) := by decide +kernel
theorem dX3_lineBits_39 : decode cX3_lineBits 39 = .ok (.getfield 70, 3) := by decide +kernel
theorem dX3_lineBits_42 : decode cX3_lineBits 42 = .ok (.imul, 1) := by decide +kernel
theorem dX3_lineBits_43 : decode cX3_lineBits 43 = .ok (.iload_n 2, 1) := by decide +kernel
theorem dX3_lineBits_44 : decode cX3_lineBits 44 = .ok (.iadd, 1) := by decide +kernel
theorem dX3_lineBits_45 : decode cX3_lineBits 45 = .ok (.lshl, 1) := by decide +kernel
theorem dX3_lineBits_46 : decode cX3_lineBits 46 = .ok (.lor, 1) := by decide +kernel
theorem dX3_lineBits_47 : decode cX3_lineBits 47 = .ok (.lstore_n 3, 1) := by decide +kernel
theorem dX3_lineBits_48 : decode cX3_lineBits 48 = .ok (.iinc 5 1, 3) := by decide +kernel
theorem dX3_lineBits_51 : decode cX3_lineBits 51 = .ok (.goto (-26), 3) := by decide +kernel
theorem dX3_lineBits_54 : decode cX3_lineBits 54 = .ok (.lload_n 3, 1) := by decide +kernel
theorem dX3_lineBits_55 : decode cX3_lineBits 55 = .ok (.lreturn, 1) := by decide +kernel
theorem dX4_init_0 : decode cX4_init 0 = .ok (.aload_n 0, 1) := by decide +kernel
theorem dX4_init_1 : decode cX4_init 1 = .ok (.invokespecial 3, 3) := by decide +kernel
theorem dX4_init_4 : decode cX4_init 4 = .ok (.aload_n 0, 1) := by decide +kernel
theorem dX4_init_5 : decode cX4_init 5 = .ok (.bipush 24, 2) := by decide +kernel
theorem dX4_init_7 : decode cX4_init 7 = .ok (.newarray .int, 2) := by decide +kernel
theorem dX4_init_9 : decode cX4_init 9 = .ok (.putfield 11, 3) := by decide +kernel
theorem dX4_init_12 : decode cX4_init 12 = .ok (.aload_n 0, 1) := by decide +kernel
theorem dX4_init_13 : decode cX4_init 13 = .ok (.sipush 256, 3) := by decide +kernel
theorem dX4_init_16 : decode cX4_init 16 = .ok (.newarray .int, 2) := by decide +kernel
theorem dX4_init_18 : decode cX4_init 18 = .ok (.putfield 15, 3) := by decide +kernel
theorem dX4_init_21 : decode cX4_init 21 = .ok (.aload_n 0, 1) := by decide +kernel
theorem dX4_init_22 : decode cX4_init 22 = .ok (.bipush 32, 2) := by decide +kernel
theorem dX4_init_24 : decode cX4_init 24 = .ok (.newarray .int, 2) := by decide +kernel
theorem dX4_init_26 : decode cX4_init 26 = .ok (.putfield 18, 3) := by decide +kernel
theorem dX4_init_29 : decode cX4_init 29 = .ok (.aload_n 0, 1) := by decide +kernel
theorem dX4_init_30 : decode cX4_init 30 = .ok (.bipush 32, 2) := by decide +kernel
theorem dX4_init_32 : decode cX4_init 32 = .ok (.newarray .int, 2) := by decide +kernel
theorem dX4_init_34 : decode cX4_init 34 = .ok (.putfield 21, 3) := by decide +kernel
theorem dX4_init_37 : decode cX4_init 37 = .ok (.return_, 1) := by decide +kernel
theorem dX4_copyFrom_0 : decode cX4_copyFrom 0 = .ok (.aload_n 1, 1) := by decide +kernel
theorem dX4_copyFrom_1 : decode cX4_copyFrom 1 = .ok (.getfield 11, 3) := by decide +kernel
theorem dX4_copyFrom_4 : decode cX4_copyFrom 4 = .ok (.iconst 0, 1) := by decide +kernel
theorem dX4_copyFrom_5 : decode cX4_copyFrom 5 = .ok (.aload_n 0, 1) := by decide +kernel
theorem dX4_copyFrom_6 : decode cX4_copyFrom 6 = .ok (.getfield 11, 3) := by decide +kernel
theorem dX4_copyFrom_9 : decode cX4_copyFrom 9 = .ok (.iconst 0, 1) := by decide +kernel
theorem dX4_copyFrom_10 : decode cX4_copyFrom 10 = .ok (.bipush 24, 2) := by decide +kernel
theorem dX4_copyFrom_12 : decode cX4_copyFrom 12 = .ok (.invokestatic 24, 3) := by decide +kernel
theorem dX4_copyFrom_15 : decode cX4_copyFrom 15 = .ok (.aload_n 0, 1) := by decide +kernel
theorem dX4_copyFrom_16 : decode cX4_copyFrom 16 = .ok (.aload_n 1, 1) := by decide +kernel
theorem dX4_copyFrom_17 : decode cX4_copyFrom 17 = .ok (.getfield 30, 3) := by decide +kernel
theorem dX4_copyFrom_20 : decode cX4_copyFrom 20 = .ok (.putfield 30, 3) := by decide +kernel
theorem dX4_copyFrom_23 : decode cX4_copyFrom 23 = .ok (.aload_n 0, 1) := by decide +kernel
theorem dX4_copyFrom_24 : decode cX4_copyFrom 24 = .ok (.aload_n 1, 1) := by decide +kernel
theorem dX4_copyFrom_25 : decode cX4_copyFrom 25 = .ok (.getfield 34, 3) := by decide +kernel
theorem dX4_copyFrom_28 : decode cX4_copyFrom 28 = .ok (.putfield 34, 3) := by decide +kernel
theorem dX4_copyFrom_31 : decode cX4_copyFrom 31 = .ok (.aload_n 1, 1) := by decide +kernel
theorem dX4_copyFrom_32 : decode cX4_copyFrom 32 = .ok (.getfield 15, 3) := by decide +kernel
theorem dX4_copyFrom_35 : decode cX4_copyFrom 35 = .ok (.iconst 0, 1) := by decide +kernel
theorem dX4_copyFrom_36 : decode cX4_copyFrom 36 = .ok (.aload_n 0, 1) := by decide +kernel
theorem dX4_copyFrom_37 : decode cX4_copyFrom 37 = .ok (.getfield 15, 3) := by decide +kernel
theorem dX4_copyFrom_40 : decode cX4_copyFrom 40 = .ok (.iconst 0, 1) := by decide +kernel
theorem dX4_copyFrom_41 : decode cX4_copyFrom 41 = .ok (.sipush 256, 3) := by decide +kernel
theorem dX4_copyFrom_44 : decode cX4_copyFrom 44 = .ok (.invokestatic 24, 3) := by decide +kernel
theorem dX4_copyFrom_47 : decode cX4_copyFrom 47 = .ok (.aload_n 0, 1) := by decide +kernel
theorem dX4_copyFrom_48 : decode cX4_copyFrom 48 = .ok (.aload_n 1, 1) := by decide +kernel
theorem dX4_copyFrom_49 : decode cX4_copyFrom 49 = .ok (.getfield 37, 3) := by decide +kernel
theorem dX4_copyFrom_52 : decode cX4_copyFrom 52 = .ok (.putfield 37, 3) := by decide +kernel
theorem dX4_copyFrom_55 : decode cX4_copyFrom 55 = .ok (.aload_n 1, 1) := by decide +kernel
theorem dX4_copyFrom_56 : decode cX4_copyFrom 56 = .ok (.getfield 18, 3) := by decide +kernel
theorem dX4_copyFrom_59 : decode cX4_copyFrom 59 = .ok (.iconst 0, 1) := by decide +kernel
theorem dX4_copyFrom_60 : decode cX4_copyFrom 60 = .ok (.aload_n 0, 1) := by decide +kernel
theorem dX4_copyFrom_61 : decode cX4_copyFrom 61 = .ok (.getfield 18, 3) := by decide +kernel
theorem dX4_copyFrom_64 : decode cX4_copyFrom 64 = .ok (.iconst 0, 1) := by decide +kernel
theorem dX4_copyFrom_65 : decode cX4_copyFrom 65 = .ok (.bipush 32, 2) := by decide +kernel
theorem dX4_copyFrom_67 : decode cX4_copyFrom 67 = .ok (.invokestatic 24, 3) := by decide +kernel
theorem dX4_copyFrom_70 : decode cX4_copyFrom 70 = .ok (.aload_n 0, 1) := by decide +kernel
theorem dX4_copyFrom_71 : decode cX4_copyFrom 71 = .ok (.aload_n 1, 1) := by decide +kernel
theorem dX4_copyFrom_72 : decode cX4_copyFrom 72 = .ok (.getfield 40, 3) := by decide +kernel
theorem dX4_copyFrom_75 : decode cX4_copyFrom 75 = .ok (.putfield 40, 3) := by decide +kernel
theorem dX4_copyFrom_78 : decode cX4_copyFrom 78 = .ok (.return_, 1) := by decide +kernel
theorem dX4_remaining_0 : decode cX4_remaining 0 = .ok (.aload_n 0, 1) := by decide +kernel
theorem dX4_remaining_1 : decode cX4_remaining 1 = .ok (.getfield 30, 3) := by decide +kernel
theorem dX4_remaining_4 : decode cX4_remaining 4 = .ok (.aload_n 0, 1) := by decide +kernel
theorem dX4_remaining_5 : decode cX4_remaining 5 = .ok (.getfield 34, 3) := by decide +kernel
theorem dX4_remaining_8 : decode cX4_remaining 8 = .ok (.isub, 1) := by decide +kernel
theorem dX4_remaining_9 : decode cX4_remaining 9 = .ok (.ireturn, 1) := by decide +kernel
theorem dX4_outputAt_0 : decode cX4_outputAt 0 = .ok (.aload_n 0, 1) := by decide +kernel
theorem dX4_outputAt_1 : decode cX4_outputAt 1 = .ok (.getfield 15, 3) := by decide +kernel
theorem dX4_outputAt_4 : decode cX4_outputAt 4 = .ok (.aload_n 0, 1) := by decide +kernel
theorem dX4_outputAt_5 : decode cX4_outputAt 5 = .ok (.getfield 37, 3) := by decide +kernel
theorem dX4_outputAt_8 : decode cX4_outputAt 8 = .ok (.iload_n 1, 1) := by decide +kernel
theorem dX4_outputAt_9 : decode cX4_outputAt 9 = .ok (.isub, 1) := by decide +kernel
theorem dX4_outputAt_10 : decode cX4_outputAt 10 = .ok (.sipush 256, 3) := by decide +kernel
theorem dX4_outputAt_13 : decode cX4_outputAt 13 = .ok (.irem, 1) := by decide +kernel
theorem dX4_outputAt_14 : decode cX4_outputAt 14 = .ok (.iaload, 1) := by decide +kernel
theorem dX4_outputAt_15 : decode cX4_outputAt 15 = .ok (.ireturn, 1) := by decide +kernel
theorem dX4_kindAt_0 : decode cX4_kindAt 0 = .ok (.aload_n 0, 1) := by decide +kernel
theorem dX4_kindAt_1 : decode cX4_kindAt 1 = .ok (.getfield 18, 3) := by decide +kernel
theorem dX4_kindAt_4 : decode cX4_kindAt 4 = .ok (.aload_n 0, 1) := by decide +kernel
theorem dX4_kindAt_5 : decode cX4_kindAt 5 = .ok (.getfield 40, 3) := by decide +kernel
theorem dX4_kindAt_8 : decode cX4_kindAt 8 = .ok (.iload_n 1, 1) := by decide +kernel
theorem dX4_kindAt_9 : decode cX4_kindAt 9 = .ok (.isub, 1) := by decide +kernel
theorem dX4_kindAt_10 : decode cX4_kindAt 10 = .ok (.bipush 32, 2) := by decide +kernel
theorem dX4_kindAt_12 : decode cX4_kindAt 12 = .ok (.irem, 1) := by decide +kernel
theorem dX4_kindAt_13 : decode cX4_kindAt 13 = .ok (.iaload, 1) := by decide +kernel
theorem dX4_kindAt_14 : decode cX4_kindAt 14 = .ok (.ireturn, 1) := by decide +kernel
theorem dX4_putOut_0 : decode cX4_putOut 0 = .ok (.aload_n 0, 1) := by decide +kernel
theorem dX4_putOut_1 : decode cX4_putOut 1 = .ok (.getfield 34, 3) := by decide +kernel
theorem dX4_putOut_4 : decode cX4_putOut 4 = .ok (.aload_n 0, 1) := by decide +kernel
theorem dX4_putOut_5 : decode cX4_putOut 5 = .ok (.getfield 30, 3) := by decide +kernel
theorem dX4_putOut_8 : decode cX4_putOut 8 = .ok (.if_icmp .ge 45, 3) := by decide +kernel
theorem dX4_putOut_11 : decode cX4_putOut 11 = .ok (.aload_n 0, 1) := by decide +kernel
theorem dX4_putOut_12 : decode cX4_putOut 12 = .ok (.getfield 15, 3) := by decide +kernel
theorem dX4_putOut_15 : decode cX4_putOut 15 = .ok (.aload_n 0, 1) := by decide +kernel
theorem dX4_putOut_16 : decode cX4_putOut 16 = .ok (.getfield 37, 3) := by decide +kernel
theorem dX4_putOut_19 : decode cX4_putOut 19 = .ok (.sipush 256, 3) := by decide +kernel
theorem dX4_putOut_22 : decode cX4_putOut 22 = .ok (.irem, 1) := by decide +kernel
theorem dX4_putOut_23 : decode cX4_putOut 23 = .ok (.aload_n 0, 1) := by decide +kernel
theorem dX4_putOut_24 : decode cX4_putOut 24 = .ok (.getfield 11, 3) := by decide +kernel
theorem dX4_putOut_27 : decode cX4_putOut 27 = .ok (.aload_n 0, 1) := by decide +kernel
theorem dX4_putOut_28 : decode cX4_putOut 28 = .ok (.getfield 34, 3) := by decide +kernel
theorem dX4_putOut_31 : decode cX4_putOut 31 = .ok (.iaload, 1) := by decide +kernel
theorem dX4_putOut_32 : decode cX4_putOut 32 = .ok (.iastore, 1) := by decide +kernel
theorem dX4_putOut_33 : decode cX4_putOut 33 = .ok (.aload_n 0, 1) := by decide +kernel
theorem dX4_putOut_34 : decode cX4_putOut 34 = .ok (.dup, 1) := by decide +kernel
theorem dX4_putOut_35 : decode cX4_putOut 35 = .ok (.getfield 37, 3) := by decide +kernel
theorem dX4_putOut_38 : decode cX4_putOut 38 = .ok (.iconst 1, 1) := by decide +kernel
theorem dX4_putOut_39 : decode cX4_putOut 39 = .ok (.iadd, 1) := by decide +kernel
theorem dX4_putOut_40 : decode cX4_putOut 40 = .ok (.putfield 37, 3) := by decide +kernel
theorem dX4_putOut_43 : decode cX4_putOut 43 = .ok (.aload_n 0, 1) := by decide +kernel
theorem dX4_putOut_44 : decode cX4_putOut 44 = .ok (.dup, 1) := by decide +kernel
theorem dX4_putOut_45 : decode cX4_putOut 45 = .ok (.getfield 34, 3) := by decide +kernel
theorem dX4_putOut_48 : decode cX4_putOut 48 = .ok (.iconst 1, 1) := by decide +kernel
theorem dX4_putOut_49 : decode cX4_putOut 49 = .ok (.iadd, 1) := by decide +kernel
theorem dX4_putOut_50 : decode cX4_putOut 50 = .ok (.putfield 34, 3) := by decide +kernel
theorem dX4_putOut_53 : decode cX4_putOut 53 = .ok (.return_, 1) := by decide +kernel
theorem dX4_begin_0 : decode cX4_begin 0 = .ok (.aload_n 0, 1) := by decide +kernel
theorem dX4_begin_1 : decode cX4_begin 1 = .ok (.getfield 18, 3) := by decide +kernel
theorem dX4_begin_4 : decode cX4_begin 4 = .ok (.aload_n 0, 1) := by decide +kernel
theorem dX4_begin_5 : decode cX4_begin 5 = .ok (.getfield 40, 3) := by decide +kernel
theorem dX4_begin_8 : decode cX4_begin 8 = .ok (.bipush 32, 2) := by decide +kernel
theorem dX4_begin_10 : decode cX4_begin 10 = .ok (.irem, 1) := by decide +kernel
theorem dX4_begin_11 : decode cX4_begin 11 = .ok (.iload_n 1, 1) := by decide +kernel
theorem dX4_begin_12 : decode cX4_begin 12 = .ok (.iastore, 1) := by decide +kernel
theorem dX4_begin_13 : decode cX4_begin 13 = .ok (.aload_n 0, 1) := by decide +kernel
theorem dX4_begin_14 : decode cX4_begin 14 = .ok (.dup, 1) := by decide +kernel
theorem dX4_begin_15 : decode cX4_begin 15 = .ok (.getfield 40, 3) := by decide +kernel
theorem dX4_begin_18 : decode cX4_begin 18 = .ok (.iconst 1, 1) := by decide +kernel
theorem dX4_begin_19 : decode cX4_begin 19 = .ok (.iadd, 1) := by decide +kernel
theorem dX4_begin_20 : decode cX4_begin 20 = .ok (.putfield 40, 3) := by decide +kernel
theorem dX4_begin_23 : decode cX4_begin 23 = .ok (.aload_n 0, 1) := by decide +kernel
theorem dX4_begin_24 : decode cX4_begin 24 = .ok (.iconst 0, 1) := by decide +kernel
theorem dX4_begin_25 : decode cX4_begin 25 = .ok (.putfield 30, 3) := by decide +kernel
theorem dX4_begin_28 : decode cX4_begin 28 = .ok (.aload_n 0, 1) := by decide +kernel
theorem dX4_begin_29 : decode cX4_begin 29 = .ok (.iconst 0, 1) := by decide +kernel
theorem dX4_begin_30 : decode cX4_begin 30 = .ok (.putfield 34, 3) := by decide +kernel
theorem dX4_begin_33 : decode cX4_begin 33 = .ok (.return_, 1) := by decide +kernel
theorem dX4_loadWave_0 : decode cX4_loadWave 0 = .ok (.iconst 0, 1) := by decide +kernel
theorem dX4_loadWave_1 : decode cX4_loadWave 1 = .ok (.istore_n 3, 1) := by decide +kernel
theorem dX4_loadWave_2 : decode cX4_loadWave 2 = .ok (.iload_n 3, 1) := by decide +kernel
theorem dX4_loadWave_3 : decode cX4_loadWave 3 = .ok (.aload_n 1, 1) := by decide +kernel
theorem dX4_loadWave_4 : decode cX4_loadWave 4 = .ok (.getfield 43, 3) := by decide +kernel
theorem dX4_loadWave_7 : decode cX4_loadWave 7 = .ok (.if_icmp .ge 21, 3) := by decide +kernel
theorem dX4_loadWave_10 : decode cX4_loadWave 10 = .ok (.aload_n 0, 1) := by decide +kernel
theorem dX4_loadWave_11 : decode cX4_loadWave 11 = .ok (.getfield 21, 3) := by decide +kernel
theorem dX4_loadWave_14 : decode cX4_loadWave 14 = .ok (.iload_n 3, 1) := by decide +kernel
theorem dX4_loadWave_15 : decode cX4_loadWave 15 = .ok (.aload_n 1, 1) := by decide +kernel
theorem dX4_loadWave_16 : decode cX4_loadWave 16 = .ok (.iload_n 2, 1) := by decide +kernel
theorem dX4_loadWave_17 : decode cX4_loadWave 17 = .ok (.iload_n 3, 1) := by decide +kernel
theorem dX4_loadWave_18 : decode cX4_loadWave 18 = .ok (.invokevirtual 46, 3) := by decide +kernel
theorem dX4_loadWave_21 : decode cX4_loadWave 21 = .ok (.iastore, 1) := by decide +kernel
theorem dX4_loadWave_22 : decode cX4_loadWave 22 = .ok (.iinc 3 1, 3) := by decide +kernel
theorem dX4_loadWave_25 : decode cX4_loadWave 25 = .ok (.goto (-23), 3) := by decide +kernel
theorem dX4_loadWave_28 : decode cX4_loadWave 28 = .ok (.return_, 1) := by decide +kernel
theorem dX4_putAsItIs_0 : decode cX4_putAsItIs 0 = .ok (.aload_n 0, 1) := by decide +kernel
theorem dX4_putAsItIs_1 : decode cX4_putAsItIs 1 = .ok (.iconst 0, 1) := by decide +kernel
theorem dX4_putAsItIs_2 : decode cX4_putAsItIs 2 = .ok (.iload_n 1, 1) := by decide +kernel
theorem dX4_putAsItIs_3 : decode cX4_putAsItIs 3 = .ok (.invokevirtual 50, 3) := by decide +kernel
theorem dX4_putAsItIs_6 : decode cX4_putAsItIs 6 = .ok (.return_, 1) := by decide +kernel
theorem dX4_putCompressed_0 : decode cX4_putCompressed 0 = .ok (.aload_n 0, 1) := by decide +kernel
theorem dX4_putCompressed_1 : decode cX4_putCompressed 1 = .ok (.iload_n 1, 1) := by decide +kernel
theorem dX4_putCompressed_2 : decode cX4_putCompressed 2 = .ok (.iconst 2, 1) := by decide +kernel
theorem dX4_putCompressed_3 : decode cX4_putCompressed 3 = .ok (.idiv, 1) := by decide +kernel
theorem dX4_putCompressed_4 : decode cX4_putCompressed 4 = .ok (.iconst 1, 1) := by decide +kernel
theorem dX4_putCompressed_5 : decode cX4_putCompressed 5 = .ok (.invokevirtual 54, 3) := by decide +kernel
theorem dX4_putCompressed_8 : decode cX4_putCompressed 8 = .ok (.istore_n 2, 1) := by decide +kernel
theorem dX4_putCompressed_9 : decode cX4_putCompressed 9 = .ok (.iconst 0, 1) := by decide +kernel
theorem dX4_putCompressed_10 : decode cX4_putCompressed 10 = .ok (.istore_n 3, 1) := by decide +kernel
theorem dX4_putCompressed_11 : decode cX4_putCompressed 11 = .ok (.iload_n 3, 1) := by decide +kernel
theorem dX4_putCompressed_12 : decode cX4_putCompressed 12 = .ok (.iload_n 2, 1) := by decide +kernel
theorem dX4_putCompressed_13 : decode cX4_putCompressed 13 = .ok (.if_icmp .ge 36, 3) := by decide +kernel
theorem dX4_putCompressed_16 : decode cX4_putCompressed 16 = .ok (.aload_n 0, 1) := by decide +kernel
theorem dX4_putCompressed_17 : decode cX4_putCompressed 17 = .ok (.aload_n 0, 1) := by decide +kernel
theorem dX4_putCompressed_18 : decode cX4_putCompressed 18 = .ok (.getfield 21, 3) := by decide +kernel
theorem dX4_putCompressed_21 : decode cX4_putCompressed 21 = .ok (.iload_n 3, 1) := by decide +kernel
theorem dX4_putCompressed_22 : decode cX4_putCompressed 22 = .ok (.iaload, 1) := by decide +kernel
theorem dX4_putCompressed_23 : decode cX4_putCompressed 23 = .ok (.iload_n 2, 1) := by decide +kernel
theorem dX4_putCompressed_24 : decode cX4_putCompressed 24 = .ok (.iload_n 3, 1) := by decide +kernel
theorem dX4_putCompressed_25 : decode cX4_putCompressed 25 = .ok (.isub, 1) := by decide +kernel
theorem dX4_putCompressed_26 : decode cX4_putCompressed 26 = .ok (.imul, 1) := by decide +kernel
theorem dX4_putCompressed_27 : decode cX4_putCompressed 27 = .ok (.aload_n 0, 1) := by decide +kernel
theorem dX4_putCompressed_28 : decode cX4_putCompressed 28 = .ok (.getfield 21, 3) := by decide +kernel
theorem dX4_putCompressed_31 : decode cX4_putCompressed 31 = .ok (.iload_n 3, 1) := by decide +kernel
theorem dX4_putCompressed_32 : decode cX4_putCompressed 32 = .ok (.iload_n 2, 1) := by decide +kernel
theorem dX4_putCompressed_33 : decode cX4_putCompressed 33 = .ok (.iadd, 1) := by decide +kernel
theorem dX4_putCompressed_34 : decode cX4_putCompressed 34 = .ok (.iaload, 1) := by decide +kernel
theorem dX4_putCompressed_35 : decode cX4_putCompressed 35 = .ok (.iload_n 3, 1) := by decide +kernel
theorem dX4_putCompressed_36 : decode cX4_putCompressed 36 = .ok (.imul, 1) := by decide +kernel
theorem dX4_putCompressed_37 : decode cX4_putCompressed 37 = .ok (.iadd, 1) := by decide +kernel
theorem dX4_putCompressed_38 : decode cX4_putCompressed 38 = .ok (.iload_n 2, 1) := by decide +kernel
theorem dX4_putCompressed_39 : decode cX4_putCompressed 39 = .ok (.idiv, 1) := by decide +kernel
theorem dX4_putCompressed_40 : decode cX4_putCompressed 40 = .ok (.invokevirtual 58, 3) := by decide +kernel
theorem dX4_putCompressed_43 : decode cX4_putCompressed 43 = .ok (.iinc 3 1, 3) := by decide +kernel
theorem dX4_putCompressed_46 : decode cX4_putCompressed 46 = .ok (.goto (-35), 3) := by decide +kernel
theorem dX4_putCompressed_49 : decode cX4_putCompressed 49 = .ok (.aload_n 0, 1) := by decide +kernel
theorem dX4_putCompressed_50 : decode cX4_putCompressed 50 = .ok (.iconst 2, 1) := by decide +kernel
theorem dX4_putCompressed_51 : decode cX4_putCompressed 51 = .ok (.iload_n 2, 1) := by decide +kernel
theorem dX4_putCompressed_52 : decode cX4_putCompressed 52 = .ok (.imul, 1) := by decide +kernel
theorem dX4_putCompressed_53 : decode cX4_putCompressed 53 = .ok (.iload_n 1, 1) := by decide +kernel
theorem dX4_putCompressed_54 : decode cX4_putCompressed 54 = .ok (.invokevirtual 50, 3) := by decide +kernel
theorem dX4_putCompressed_57 : decode cX4_putCompressed 57 = .ok (.return_, 1) := by decide +kernel
theorem dX4_putStretched_0 : decode cX4_putStretched 0 = .ok (.aload_n 0, 1) := by decide +kernel
theorem dX4_putStretched_1 : decode cX4_putStretched 1 = .ok (.iload_n 1, 1) := by decide +kernel
theorem dX4_putStretched_2 : decode cX4_putStretched 2 = .ok (.iconst 2, 1) := by decide +kernel
theorem dX4_putStretched_3 : decode cX4_putStretched 3 = .ok (.idiv, 1) := by decide +kernel
theorem dX4_putStretched_4 : decode cX4_putStretched 4 = .ok (.iconst 1, 1) := by decide +kernel
theorem dX4_putStretched_5 : decode cX4_putStretched 5 = .ok (.invokevirtual 54, 3) := by decide +kernel
theorem dX4_putStretched_8 : decode cX4_putStretched 8 = .ok (.istore_n 2, 1) := by decide +kernel
theorem dX4_putStretched_9 : decode cX4_putStretched 9 = .ok (.aload_n 0, 1) := by decide +kernel
theorem dX4_putStretched_10 : decode cX4_putStretched 10 = .ok (.iconst 0, 1) := by decide +kernel
theorem dX4_putStretched_11 : decode cX4_putStretched 11 = .ok (.iload_n 2, 1) := by decide +kernel
theorem dX4_putStretched_12 : decode cX4_putStretched 12 = .ok (.invokevirtual 50, 3) := by decide +kernel
theorem dX4_putStretched_15 : decode cX4_putStretched 15 = .ok (.iconst 0, 1) := by decide +kernel
theorem dX4_putStretched_16 : decode cX4_putStretched 16 = .ok (.istore_n 3, 1) := by decide +kernel
theorem dX4_putStretched_17 : decode cX4_putStretched 17 = .ok (.iload_n 3, 1) := by decide +kernel
theorem dX4_putStretched_18 : decode cX4_putStretched 18 = .ok (.iload_n 2, 1) := by decide +kernel
theorem dX4_putStretched_19 : decode cX4_putStretched 19 = .ok (.if_icmp .ge 36, 3) := by decide +kernel
theorem dX4_putStretched_22 : decode cX4_putStretched 22 = .ok (.aload_n 0, 1) := by decide +kernel
theorem dX4_putStretched_23 : decode cX4_putStretched 23 = .ok (.aload_n 0, 1) := by decide +kernel
theorem dX4_putStretched_24 : decode cX4_putStretched 24 = .ok (.getfield 21, 3) := by decide +kernel
theorem dX4_putStretched_27 : decode cX4_putStretched 27 = .ok (.iload_n 3, 1) := by decide +kernel
theorem dX4_putStretched_28 : decode cX4_putStretched 28 = .ok (.iload_n 2, 1) := by decide +kernel
theorem dX4_putStretched_29 : decode cX4_putStretched 29 = .ok (.iadd, 1) := by decide +kernel
theorem dX4_putStretched_30 : decode cX4_putStretched 30 = .ok (.iaload, 1) := by decide +kernel
theorem dX4_putStretched_31 : decode cX4_putStretched 31 = .ok (.iload_n 2, 1) := by decide +kernel
theorem dX4_putStretched_32 : decode cX4_putStretched 32 = .ok (.iload_n 3, 1) := by decide +kernel
theorem dX4_putStretched_33 : decode cX4_putStretched 33 = .ok (.isub, 1) := by decide +kernel
theorem dX4_putStretched_34 : decode cX4_putStretched 34 = .ok (.imul, 1) := by decide +kernel
theorem dX4_putStretched_35 : decode cX4_putStretched 35 = .ok (.aload_n 0, 1) := by decide +kernel
theorem dX4_putStretched_36 : decode cX4_putStretched 36 = .ok (.getfield 21, 3) := by decide +kernel
theorem dX4_putStretched_39 : decode cX4_putStretched 39 = .ok (.iload_n 3, 1) := by decide +kernel
theorem dX4_putStretched_40 : decode cX4_putStretched 40 = .ok (.iaload, 1) := by decide +kernel
theorem dX4_putStretched_41 : decode cX4_putStretched 41 = .ok (.iload_n 3, 1) := by decide +kernel
theorem dX4_putStretched_42 : decode cX4_putStretched 42 = .ok (.imul, 1) := by decide +kernel
theorem dX4_putStretched_43 : decode cX4_putStretched 43 = .ok (.iadd, 1) := by decide +kernel
theorem dX4_putStretched_44 : decode cX4_putStretched 44 = .ok (.iload_n 2, 1) := by decide +kernel
theorem dX4_putStretched_45 : decode cX4_putStretched 45 = .ok (.idiv, 1) := by decide +kernel
theorem dX4_putStretched_46 : decode cX4_putStretched 46 = .ok (.invokevirtual 58, 3) := by decide +kernel
theorem dX4_putStretched_49 : decode cX4_putStretched 49 = .ok (.iinc 3 1, 3) := by decide +kernel
theorem dX4_putStretched_52 : decode cX4_putStretched 52 = .ok (.goto (-35), 3) := by decide +kernel
theorem dX4_putStretched_55 : decode cX4_putStretched 55 = .ok (.aload_n 0, 1) := by decide +kernel
theorem dX4_putStretched_56 : decode cX4_putStretched 56 = .ok (.iload_n 2, 1) := by decide +kernel
theorem dX4_putStretched_57 : decode cX4_putStretched 57 = .ok (.iload_n 1, 1) := by decide +kernel
theorem dX4_putStretched_58 : decode cX4_putStretched 58 = .ok (.invokevirtual 50, 3) := by decide +kernel
theorem dX4_putStretched_61 : decode cX4_putStretched 61 = .ok (.return_, 1) := by decide +kernel
theorem dX4_putConcealed_0 : decode cX4_putConcealed 0 = .ok (.aload_n 0, 1) := by decide +kernel
theorem dX4_putConcealed_1 : decode cX4_putConcealed 1 = .ok (.getfield 37, 3) := by decide +kernel
theorem dX4_putConcealed_4 : decode cX4_putConcealed 4 = .ok (.bipush 32, 2) := by decide +kernel
theorem dX4_putConcealed_6 : decode cX4_putConcealed 6 = .ok (.invokestatic 62, 3) := by decide +kernel
theorem dX4_putConcealed_9 : decode cX4_putConcealed 9 = .ok (.istore_n 3, 1) := by decide +kernel
theorem dX4_putConcealed_10 : decode cX4_putConcealed 10 = .ok (.iconst 0, 1) := by decide +kernel
theorem dX4_putConcealed_11 : decode cX4_putConcealed 11 = .ok (.istore 4, 2) := by decide +kernel
theorem dX4_putConcealed_13 : decode cX4_putConcealed 13 = .ok (.iload 4, 2) := by decide +kernel
theorem dX4_putConcealed_15 : decode cX4_putConcealed 15 = .ok (.iload_n 3, 1) := by decide +kernel
theorem dX4_putConcealed_16 : decode cX4_putConcealed 16 = .ok (.if_icmp .ge 24, 3) := by decide +kernel
theorem dX4_putConcealed_19 : decode cX4_putConcealed 19 = .ok (.aload_n 0, 1) := by decide +kernel
theorem dX4_putConcealed_20 : decode cX4_putConcealed 20 = .ok (.getfield 21, 3) := by decide +kernel
theorem dX4_putConcealed_23 : decode cX4_putConcealed 23 = .ok (.iload 4, 2) := by decide +kernel
theorem dX4_putConcealed_25 : decode cX4_putConcealed 25 = .ok (.aload_n 0, 1) := by decide +kernel
theorem dX4_putConcealed_26 : decode cX4_putConcealed 26 = .ok (.iload 4, 2) := by decide +kernel
theorem dX4_putConcealed_28 : decode cX4_putConcealed 28 = .ok (.iconst 1, 1) := by decide +kernel
theorem dX4_putConcealed_29 : decode cX4_putConcealed 29 = .ok (.iadd, 1) := by decide +kernel
theorem dX4_putConcealed_30 : decode cX4_putConcealed 30 = .ok (.invokevirtual 67, 3) := by decide +kernel
theorem dX4_putConcealed_33 : decode cX4_putConcealed 33 = .ok (.iastore, 1) := by decide +kernel
theorem dX4_putConcealed_34 : decode cX4_putConcealed 34 = .ok (.iinc 4 1, 3) := by decide +kernel
theorem dX4_putConcealed_37 : decode cX4_putConcealed 37 = .ok (.goto (-24), 3) := by decide +kernel
theorem dX4_putConcealed_40 : decode cX4_putConcealed 40 = .ok (.iload_n 3, 1) := by decide +kernel
theorem dX4_putConcealed_41 : decode cX4_putConcealed 41 = .ok (.iconst 4, 1) := by decide +kernel
theorem dX4_putConcealed_42 : decode cX4_putConcealed 42 = .ok (.if_icmp .ge 7, 3) := by decide +kernel
theorem dX4_putConcealed_45 : decode cX4_putConcealed 45 = .ok (.iconst 0, 1) := by decide +kernel
theorem dX4_putConcealed_46 : decode cX4_putConcealed 46 = .ok (.goto 11, 3) := by decide +kernel
theorem dX4_putConcealed_49 : decode cX4_putConcealed 49 = .ok (.aload_n 0, 1) := by decide +kernel
theorem dX4_putConcealed_50 : decode cX4_putConcealed 50 = .ok (.iload_n 3, 1) := by decide +kernel
theorem dX4_putConcealed_51 : decode cX4_putConcealed 51 = .ok (.iconst 2, 1) := by decide +kernel
theorem dX4_putConcealed_52 : decode cX4_putConcealed 52 = .ok (.idiv, 1) := by decide +kernel
theorem dX4_putConcealed_53 : decode cX4_putConcealed 53 = .ok (.iconst 0, 1) := by decide +kernel
theorem dX4_putConcealed_54 : decode cX4_putConcealed 54 = .ok (.invokevirtual 54, 3) := by decide +kernel
theorem dX4_putConcealed_57 : decode cX4_putConcealed 57 = .ok (.istore 4, 2) := by decide +kernel
theorem dX4_putConcealed_59 : decode cX4_putConcealed 59 = .ok (.iconst 0, 1) := by decide +kernel
theorem dX4_putConcealed_60 : decode cX4_putConcealed 60 = .ok (.istore 5, 2) := by decide +kernel
theorem dX4_putConcealed_62 : decode cX4_putConcealed 62 = .ok (.iload 5, 2) := by decide +kernel
theorem dX4_putConcealed_64 : decode cX4_putConcealed 64 = .ok (.iload_n 1, 1) := by decide +kernel
theorem dX4_putConcealed_65 : decode cX4_putConcealed 65 = .ok (.if_icmp .ge 41, 3) := by decide +kernel
theorem dX4_putConcealed_68 : decode cX4_putConcealed 68 = .ok (.aload_n 0, 1) := by decide +kernel
theorem dX4_putConcealed_69 : decode cX4_putConcealed 69 = .ok (.iload 4, 2) := by decide +kernel
theorem dX4_putConcealed_71 : decode cX4_putConcealed 71 = .ok (.ifCond .ne 7, 3) := by decide +kernel
theorem dX4_putConcealed_74 : decode cX4_putConcealed 74 = .ok (.iconst 0, 1) := by decide +kernel
theorem dX4_putConcealed_75 : decode cX4_putConcealed 75 = .ok (.goto 22, 3) := by decide +kernel
theorem dX4_putConcealed_78 : decode cX4_putConcealed 78 = .ok (.aload_n 0, 1) := by decide +kernel
theorem dX4_putConcealed_79 : decode cX4_putConcealed 79 = .ok (.getfield 21, 3) := by decide +kernel
theorem dX4_putConcealed_82 : decode cX4_putConcealed 82 = .ok (.iload 4, 2) := by decide +kernel
theorem dX4_putConcealed_84 : decode cX4_putConcealed 84 = .ok (.iconst 1, 1) := by decide +kernel
theorem dX4_putConcealed_85 : decode cX4_putConcealed 85 = .ok (.isub, 1) := by decide +kernel
theorem dX4_putConcealed_86 : decode cX4_putConcealed 86 = .ok (.iload 5, 2) := by decide +kernel
theorem dX4_putConcealed_88 : decode cX4_putConcealed 88 = .ok (.iload 4, 2) := by decide +kernel
theorem dX4_putConcealed_90 : decode cX4_putConcealed 90 = .ok (.irem, 1) := by decide +kernel
theorem dX4_putConcealed_91 : decode cX4_putConcealed 91 = .ok (.isub, 1) := by decide +kernel
theorem dX4_putConcealed_92 : decode cX4_putConcealed 92 = .ok (.iaload, 1) := by decide +kernel
theorem dX4_putConcealed_93 : decode cX4_putConcealed 93 = .ok (.iload_n 2, 1) := by decide +kernel
theorem dX4_putConcealed_94 : decode cX4_putConcealed 94 = .ok (.invokestatic 71, 3) := by decide +kernel
theorem dX4_putConcealed_97 : decode cX4_putConcealed 97 = .ok (.invokevirtual 58, 3) := by decide +kernel
theorem dX4_putConcealed_100 : decode cX4_putConcealed 100 = .ok (.iinc 5 1, 3) := by decide +kernel
theorem dX4_putConcealed_103 : decode cX4_putConcealed 103 = .ok (.goto (-41), 3) := by decide +kernel
theorem dX4_putConcealed_106 : decode cX4_putConcealed 106 = .ok (.return_, 1) := by decide +kernel
theorem dX4_putSource_0 : decode cX4_putSource 0 = .ok (.iload_n 1, 1) := by decide +kernel
theorem dX4_putSource_1 : decode cX4_putSource 1 = .ok (.istore_n 3, 1) := by decide +kernel
theorem dX4_putSource_2 : decode cX4_putSource 2 = .ok (.iload_n 3, 1) := by decide +kernel
theorem dX4_putSource_3 : decode cX4_putSource 3 = .ok (.iload_n 2, 1) := by decide +kernel
theorem dX4_putSource_4 : decode cX4_putSource 4 = .ok (.if_icmp .ge 19, 3) := by decide +kernel
theorem dX4_putSource_7 : decode cX4_putSource 7 = .ok (.aload_n 0, 1) := by decide +kernel
theorem dX4_putSource_8 : decode cX4_putSource 8 = .ok (.aload_n 0, 1) := by decide +kernel
theorem dX4_putSource_9 : decode cX4_putSource 9 = .ok (.getfield 21, 3) := by decide +kernel
theorem dX4_putSource_12 : decode cX4_putSource 12 = .ok (.iload_n 3, 1) := by decide +kernel
theorem dX4_putSource_13 : decode cX4_putSource 13 = .ok (.iaload, 1) := by decide +kernel
theorem dX4_putSource_14 : decode cX4_putSource 14 = .ok (.invokevirtual 58, 3) := by decide +kernel
theorem dX4_putSource_17 : decode cX4_putSource 17 = .ok (.iinc 3 1, 3) := by decide +kernel
theorem dX4_putSource_20 : decode cX4_putSource 20 = .ok (.goto (-18), 3) := by decide +kernel
theorem dX4_putSource_23 : decode cX4_putSource 23 = .ok (.return_, 1) := by decide +kernel
theorem dX4_put_0 : decode cX4_put 0 = .ok (.aload_n 0, 1) := by decide +kernel
theorem dX4_put_1 : decode cX4_put 1 = .ok (.getfield 30, 3) := by decide +kernel
theorem dX4_put_4 : decode cX4_put 4 = .ok (.bipush 24, 2) := by decide +kernel
theorem dX4_put_6 : decode cX4_put 6 = .ok (.if_icmp .ge 23, 3) := by decide +kernel
theorem dX4_put_9 : decode cX4_put 9 = .ok (.aload_n 0, 1) := by decide +kernel
theorem dX4_put_10 : decode cX4_put 10 = .ok (.getfield 11, 3) := by decide +kernel
theorem dX4_put_13 : decode cX4_put 13 = .ok (.aload_n 0, 1) := by decide +kernel
theorem dX4_put_14 : decode cX4_put 14 = .ok (.getfield 30, 3) := by decide +kernel
theorem dX4_put_17 : decode cX4_put 17 = .ok (.iload_n 1, 1) := by decide +kernel
theorem dX4_put_18 : decode cX4_put 18 = .ok (.iastore, 1) := by decide +kernel
theorem dX4_put_19 : decode cX4_put 19 = .ok (.aload_n 0, 1) := by decide +kernel
theorem dX4_put_20 : decode cX4_put 20 = .ok (.dup, 1) := by decide +kernel
theorem dX4_put_21 : decode cX4_put 21 = .ok (.getfield 30, 3) := by decide +kernel
theorem dX4_put_24 : decode cX4_put 24 = .ok (.iconst 1, 1) := by decide +kernel
theorem dX4_put_25 : decode cX4_put 25 = .ok (.iadd, 1) := by decide +kernel
theorem dX4_put_26 : decode cX4_put 26 = .ok (.putfield 30, 3) := by decide +kernel
theorem dX4_put_29 : decode cX4_put 29 = .ok (.return_, 1) := by decide +kernel
theorem dX4_bestLag_0 : decode cX4_bestLag 0 = .ok (.iconst 2, 1) := by decide +kernel
theorem dX4_bestLag_1 : decode cX4_bestLag 1 = .ok (.istore_n 3, 1) := by decide +kernel
theorem dX4_bestLag_2 : decode cX4_bestLag 2 = .ok (.aload_n 0, 1) := by decide +kernel
theorem dX4_bestLag_3 : decode cX4_bestLag 3 = .ok (.iload_n 3, 1) := by decide +kernel
theorem dX4_bestLag_4 : decode cX4_bestLag 4 = .ok (.invokevirtual 74, 3) := by decide +kernel
theorem dX4_bestLag_7 : decode cX4_bestLag 7 = .ok (.istore 4, 2) := by decide +kernel
theorem dX4_bestLag_9 : decode cX4_bestLag 9 = .ok (.iconst 3, 1) := by decide +kernel
theorem dX4_bestLag_10 : decode cX4_bestLag 10 = .ok (.istore 5, 2) := by decide +kernel
theorem dX4_bestLag_12 : decode cX4_bestLag 12 = .ok (.iload 5, 2) := by decide +kernel
theorem dX4_bestLag_14 : decode cX4_bestLag 14 = .ok (.iload_n 1, 1) := by decide +kernel
theorem dX4_bestLag_15 : decode cX4_bestLag 15 = .ok (.if_icmp .gt 55, 3) := by decide +kernel
theorem dX4_bestLag_18 : decode cX4_bestLag 18 = .ok (.aload_n 0, 1) := by decide +kernel
theorem dX4_bestLag_19 : decode cX4_bestLag 19 = .ok (.iload 5, 2) := by decide +kernel
theorem dX4_bestLag_21 : decode cX4_bestLag 21 = .ok (.invokevirtual 74, 3) := by decide +kernel
theorem dX4_bestLag_24 : decode cX4_bestLag 24 = .ok (.istore 6, 2) := by decide +kernel
theorem dX4_bestLag_26 : decode cX4_bestLag 26 = .ok (.iload_n 2, 1) := by decide +kernel
theorem dX4_bestLag_27 : decode cX4_bestLag 27 = .ok (.ifCond .eq 18, 3) := by decide +kernel
theorem dX4_bestLag_30 : decode cX4_bestLag 30 = .ok (.iload 6, 2) := by decide +kernel
theorem dX4_bestLag_32 : decode cX4_bestLag 32 = .ok (.iload_n 3, 1) := by decide +kernel
theorem dX4_bestLag_33 : decode cX4_bestLag 33 = .ok (.imul, 1) := by decide +kernel
theorem dX4_bestLag_34 : decode cX4_bestLag 34 = .ok (.iload 4, 2) := by decide +kernel
theorem dX4_bestLag_36 : decode cX4_bestLag 36 = .ok (.iload 5, 2) := by decide +kernel
theorem dX4_bestLag_38 : decode cX4_bestLag 38 = .ok (.imul, 1) := by decide +kernel
theorem dX4_bestLag_39 : decode cX4_bestLag 39 = .ok (.if_icmp .ge 25, 3) := by decide +kernel
theorem dX4_bestLag_42 : decode cX4_bestLag 42 = .ok (.goto 15, 3) := by decide +kernel
theorem dX4_bestLag_45 : decode cX4_bestLag 45 = .ok (.iload 6, 2) := by decide +kernel
theorem dX4_bestLag_47 : decode cX4_bestLag 47 = .ok (.iload 5, 2) := by decide +kernel
theorem dX4_bestLag_49 : decode cX4_bestLag 49 = .ok (.idiv, 1) := by decide +kernel
theorem dX4_bestLag_50 : decode cX4_bestLag 50 = .ok (.iload 4, 2) := by decide +kernel
theorem dX4_bestLag_52 : decode cX4_bestLag 52 = .ok (.iload_n 3, 1) := by decide +kernel
theorem dX4_bestLag_53 : decode cX4_bestLag 53 = .ok (.idiv, 1) := by decide +kernel
theorem dX4_bestLag_54 : decode cX4_bestLag 54 = .ok (.if_icmp .ge 10, 3) := by decide +kernel
theorem dX4_bestLag_57 : decode cX4_bestLag 57 = .ok (.iload 5, 2) := by decide +kernel
theorem dX4_bestLag_59 : decode cX4_bestLag 59 = .ok (.istore_n 3, 1) := by decide +kernel
theorem dX4_bestLag_60 : decode cX4_bestLag 60 = .ok (.iload 6, 2) := by decide +kernel
theorem dX4_bestLag_62 : decode cX4_bestLag 62 = .ok (.istore 4, 2) := by decide +kernel
theorem dX4_bestLag_64 : decode cX4_bestLag 64 = .ok (.iinc 5 1, 3) := by decide +kernel
theorem dX4_bestLag_67 : decode cX4_bestLag 67 = .ok (.goto (-55), 3) := by decide +kernel
theorem dX4_bestLag_70 : decode cX4_bestLag 70 = .ok (.iload_n 3, 1) := by decide +kernel
theorem dX4_bestLag_71 : decode cX4_bestLag 71 = .ok (.ireturn, 1) := by decide +kernel
theorem dX4_differences_0 : decode cX4_differences 0 = .ok (.iconst 0, 1) := by decide +kernel
theorem dX4_differences_1 : decode cX4_differences 1 = .ok (.istore_n 2, 1) := by decide +kernel
theorem dX4_differences_2 : decode cX4_differences 2 = .ok (.iconst 0, 1) := by decide +kernel
theorem dX4_differences_3 : decode cX4_differences 3 = .ok (.istore_n 3, 1) := by decide +kernel
theorem dX4_differences_4 : decode cX4_differences 4 = .ok (.iload_n 3, 1) := by decide +kernel
theorem dX4_differences_5 : decode cX4_differences 5 = .ok (.iload_n 1, 1) := by decide +kernel
theorem dX4_differences_6 : decode cX4_differences 6 = .ok (.if_icmp .ge 30, 3) := by decide +kernel
theorem dX4_differences_9 : decode cX4_differences 9 = .ok (.iload_n 2, 1) := by decide +kernel
theorem dX4_differences_10 : decode cX4_differences 10 = .ok (.aload_n 0, 1) := by decide +kernel
theorem dX4_differences_11 : decode cX4_differences 11 = .ok (.getfield 21, 3) := by decide +kernel
theorem dX4_differences_14 : decode cX4_differences 14 = .ok (.iload_n 3, 1) := by decide +kernel
theorem dX4_differences_15 : decode cX4_differences 15 = .ok (.iaload, 1) := by decide +kernel
theorem dX4_differences_16 : decode cX4_differences 16 = .ok (.aload_n 0, 1) := by decide +kernel
theorem dX4_differences_17 : decode cX4_differences 17 = .ok (.getfield 21, 3) := by decide +kernel
theorem dX4_differences_20 : decode cX4_differences 20 = .ok (.iload_n 3, 1) := by decide +kernel
theorem dX4_differences_21 : decode cX4_differences 21 = .ok (.iload_n 1, 1) := by decide +kernel
theorem dX4_differences_22 : decode cX4_differences 22 = .ok (.iadd, 1) := by decide +kernel
theorem dX4_differences_23 : decode cX4_differences 23 = .ok (.iaload, 1) := by decide +kernel
theorem dX4_differences_24 : decode cX4_differences 24 = .ok (.isub, 1) := by decide +kernel
theorem dX4_differences_25 : decode cX4_differences 25 = .ok (.invokestatic 77, 3) := by decide +kernel
theorem dX4_differences_28 : decode cX4_differences 28 = .ok (.iadd, 1) := by decide +kernel
theorem dX4_differences_29 : decode cX4_differences 29 = .ok (.istore_n 2, 1) := by decide +kernel
theorem dX4_differences_30 : decode cX4_differences 30 = .ok (.iinc 3 1, 3) := by decide +kernel
theorem dX4_differences_33 : decode cX4_differences 33 = .ok (.goto (-29), 3) := by decide +kernel
theorem dX4_differences_36 : decode cX4_differences 36 = .ok (.iload_n 2, 1) := by decide +kernel
theorem dX4_differences_37 : decode cX4_differences 37 = .ok (.ireturn, 1) := by decide +kernel
theorem dX4_faded_0 : decode cX4_faded 0 = .ok (.iload_n 0, 1) := by decide +kernel
theorem dX4_faded_1 : decode cX4_faded 1 = .ok (.istore_n 2, 1) := by decide +kernel
theorem dX4_faded_2 : decode cX4_faded 2 = .ok (.iconst 0, 1) := by decide +kernel
theorem dX4_faded_3 : decode cX4_faded 3 = .ok (.istore_n 3, 1) := by decide +kernel
theorem dX4_faded_4 : decode cX4_faded 4 = .ok (.iload_n 3, 1) := by decide +kernel
theorem dX4_faded_5 : decode cX4_faded 5 = .ok (.iload_n 1, 1) := by decide +kernel
theorem dX4_faded_6 : decode cX4_faded 6 = .ok (.if_icmp .ge 19, 3) := by decide +kernel
theorem dX4_faded_9 : decode cX4_faded 9 = .ok (.iload_n 2, 1) := by decide +kernel
theorem dX4_faded_10 : decode cX4_faded 10 = .ok (.ifCond .eq 15, 3) := by decide +kernel
theorem dX4_faded_13 : decode cX4_faded 13 = .ok (.iload_n 2, 1) := by decide +kernel
theorem dX4_faded_14 : decode cX4_faded 14 = .ok (.iconst 3, 1) := by decide +kernel
theorem dX4_faded_15 : decode cX4_faded 15 = .ok (.imul, 1) := by decide +kernel
theorem dX4_faded_16 : decode cX4_faded 16 = .ok (.iconst 4, 1) := by decide +kernel
theorem dX4_faded_17 : decode cX4_faded 17 = .ok (.idiv, 1) := by decide +kernel
theorem dX4_faded_18 : decode cX4_faded 18 = .ok (.istore_n 2, 1) := by decide +kernel
theorem dX4_faded_19 : decode cX4_faded 19 = .ok (.iinc 3 1, 3) := by decide +kernel
theorem dX4_faded_22 : decode cX4_faded 22 = .ok (.goto (-18), 3) := by decide +kernel
theorem dX4_faded_25 : decode cX4_faded 25 = .ok (.iload_n 2, 1) := by decide +kernel
theorem dX4_faded_26 : decode cX4_faded 26 = .ok (.ireturn, 1) := by decide +kernel
theorem dX5_init_0 : decode cX5_init 0 = .ok (.aload_n 0, 1) := by decide +kernel
theorem dX5_init_1 : decode cX5_init 1 = .ok (.invokespecial 3, 3) := by decide +kernel
theorem dX5_init_4 : decode cX5_init 4 = .ok (.aload_n 0, 1) := by decide +kernel
theorem dX5_init_5 : decode cX5_init 5 = .ok (.new 9, 3) := by decide +kernel
theorem dX5_init_8 : decode cX5_init 8 = .ok (.dup, 1) := by decide +kernel
theorem dX5_init_9 : decode cX5_init 9 = .ok (.invokespecial 11, 3) := by decide +kernel
theorem dX5_init_12 : decode cX5_init 12 = .ok (.putfield 12, 3) := by decide +kernel
theorem dX5_init_15 : decode cX5_init 15 = .ok (.aload_n 0, 1) := by decide +kernel
theorem dX5_init_16 : decode cX5_init 16 = .ok (.new 18, 3) := by decide +kernel
theorem dX5_init_19 : decode cX5_init 19 = .ok (.dup, 1) := by decide +kernel
theorem dX5_init_20 : decode cX5_init 20 = .ok (.invokespecial 20, 3) := by decide +kernel
theorem dX5_init_23 : decode cX5_init 23 = .ok (.putfield 21, 3) := by decide +kernel
theorem dX5_init_26 : decode cX5_init 26 = .ok (.aload_n 0, 1) := by decide +kernel
theorem dX5_init_27 : decode cX5_init 27 = .ok (.new 25, 3) := by decide +kernel
theorem dX5_init_30 : decode cX5_init 30 = .ok (.dup, 1) := by decide +kernel
theorem dX5_init_31 : decode cX5_init 31 = .ok (.invokespecial 27, 3) := by decide +kernel
theorem dX5_init_34 : decode cX5_init 34 = .ok (.putfield 28, 3) := by decide +kernel
theorem dX5_init_37 : decode cX5_init 37 = .ok (.aload_n 0, 1) := by decide +kernel
theorem dX5_init_38 : decode cX5_init 38 = .ok (.new 32, 3) := by decide +kernel
theorem dX5_init_41 : decode cX5_init 41 = .ok (.dup, 1) := by decide +kernel
theorem dX5_init_42 : decode cX5_init 42 = .ok (.invokespecial 34, 3) := by decide +kernel
theorem dX5_init_45 : decode cX5_init 45 = .ok (.putfield 35, 3) := by decide +kernel
theorem dX5_init_48 : decode cX5_init 48 = .ok (.aload_n 0, 1) := by decide +kernel
theorem dX5_init_49 : decode cX5_init 49 = .ok (.new 39, 3) := by decide +kernel
theorem dX5_init_52 : decode cX5_init 52 = .ok (.dup, 1) := by decide +kernel
theorem dX5_init_53 : decode cX5_init 53 = .ok (.invokespecial 41, 3) := by decide +kernel
theorem dX5_init_56 : decode cX5_init 56 = .ok (.putfield 42, 3) := by decide +kernel
theorem dX5_init_59 : decode cX5_init 59 = .ok (.aload_n 0, 1) := by decide +kernel
theorem dX5_init_60 : decode cX5_init 60 = .ok (.new 46, 3) := by decide +kernel
theorem dX5_init_63 : decode cX5_init 63 = .ok (.dup, 1) := by decide +kernel
theorem dX5_init_64 : decode cX5_init 64 = .ok (.invokespecial 48, 3) := by decide +kernel
theorem dX5_init_67 : decode cX5_init 67 = .ok (.putfield 49, 3) := by decide +kernel
theorem dX5_init_70 : decode cX5_init 70 = .ok (.return_, 1) := by decide +kernel
theorem dX5_copyFrom_0 : decode cX5_copyFrom 0 = .ok (.aload_n 0, 1) := by decide +kernel
theorem dX5_copyFrom_1 : decode cX5_copyFrom 1 = .ok (.getfield 12, 3) := by decide +kernel
theorem dX5_copyFrom_4 : decode cX5_copyFrom 4 = .ok (.aload_n 1, 1) := by decide +kernel
theorem dX5_copyFrom_5 : decode cX5_copyFrom 5 = .ok (.getfield 12, 3) := by decide +kernel
theorem dX5_copyFrom_8 : decode cX5_copyFrom 8 = .ok (.invokevirtual 53, 3) := by decide +kernel
theorem dX5_copyFrom_11 : decode cX5_copyFrom 11 = .ok (.aload_n 0, 1) := by decide +kernel
theorem dX5_copyFrom_12 : decode cX5_copyFrom 12 = .ok (.getfield 21, 3) := by decide +kernel
theorem dX5_copyFrom_15 : decode cX5_copyFrom 15 = .ok (.aload_n 1, 1) := by decide +kernel
theorem dX5_copyFrom_16 : decode cX5_copyFrom 16 = .ok (.getfield 21, 3) := by decide +kernel
theorem dX5_copyFrom_19 : decode cX5_copyFrom 19 = .ok (.invokevirtual 57, 3) := by decide +kernel
theorem dX5_copyFrom_22 : decode cX5_copyFrom 22 = .ok (.aload_n 0, 1) := by decide +kernel
theorem dX5_copyFrom_23 : decode cX5_copyFrom 23 = .ok (.getfield 28, 3) := by decide +kernel
theorem dX5_copyFrom_26 : decode cX5_copyFrom 26 = .ok (.aload_n 1, 1) := by decide +kernel
theorem dX5_copyFrom_27 : decode cX5_copyFrom 27 = .ok (.getfield 28, 3) := by decide +kernel
theorem dX5_copyFrom_30 : decode cX5_copyFrom 30 = .ok (.invokevirtual 60, 3) := by decide +kernel
theorem dX5_copyFrom_33 : decode cX5_copyFrom 33 = .ok (.aload_n 0, 1) := by decide +kernel
theorem dX5_copyFrom_34 : decode cX5_copyFrom 34 = .ok (.getfield 35, 3) := by decide +kernel
theorem dX5_copyFrom_37 : decode cX5_copyFrom 37 = .ok (.aload_n 1, 1) := by decide +kernel
theorem dX5_copyFrom_38 : decode cX5_copyFrom 38 = .ok (.getfield 35, 3) := by decide +kernel
theorem dX5_copyFrom_41 : decode cX5_copyFrom 41 = .ok (.invokevirtual 63, 3) := by decide +kernel
theorem dX5_copyFrom_44 : decode cX5_copyFrom 44 = .ok (.aload_n 0, 1) := by decide +kernel
theorem dX5_copyFrom_45 : decode cX5_copyFrom 45 = .ok (.getfield 42, 3) := by decide +kernel
theorem dX5_copyFrom_48 : decode cX5_copyFrom 48 = .ok (.aload_n 1, 1) := by decide +kernel
theorem dX5_copyFrom_49 : decode cX5_copyFrom 49 = .ok (.getfield 42, 3) := by decide +kernel
theorem dX5_copyFrom_52 : decode cX5_copyFrom 52 = .ok (.invokevirtual 66, 3) := by decide +kernel
theorem dX5_copyFrom_55 : decode cX5_copyFrom 55 = .ok (.aload_n 0, 1) := by decide +kernel
theorem dX5_copyFrom_56 : decode cX5_copyFrom 56 = .ok (.getfield 49, 3) := by decide +kernel
theorem dX5_copyFrom_59 : decode cX5_copyFrom 59 = .ok (.aload_n 1, 1) := by decide +kernel
theorem dX5_copyFrom_60 : decode cX5_copyFrom 60 = .ok (.getfield 49, 3) := by decide +kernel
theorem dX5_copyFrom_63 : decode cX5_copyFrom 63 = .ok (.invokevirtual 69, 3) := by decide +kernel
theorem dX5_copyFrom_66 : decode cX5_copyFrom 66 = .ok (.aload_n 0, 1) := by decide +kernel
theorem dX5_copyFrom_67 : decode cX5_copyFrom 67 = .ok (.aload_n 1, 1) := by decide +kernel
theorem dX5_copyFrom_68 : decode cX5_copyFrom 68 = .ok (.getfield 72, 3) := by decide +kernel
theorem dX5_copyFrom_71 : decode cX5_copyFrom 71 = .ok (.putfield 72, 3) := by decide +kernel
theorem dX5_copyFrom_74 : decode cX5_copyFrom 74 = .ok (.aload_n 0, 1) := by decide +kernel
theorem dX5_copyFrom_75 : decode cX5_copyFrom 75 = .ok (.aload_n 1, 1) := by decide +kernel
theorem dX5_copyFrom_76 : decode cX5_copyFrom 76 = .ok (.getfield 76, 3) := by decide +kernel
theorem dX5_copyFrom_79 : decode cX5_copyFrom 79 = .ok (.putfield 76, 3) := by decide +kernel
theorem dX5_copyFrom_82 : decode cX5_copyFrom 82 = .ok (.aload_n 0, 1) := by decide +kernel
theorem dX5_copyFrom_83 : decode cX5_copyFrom 83 = .ok (.aload_n 1, 1) := by decide +kernel
theorem dX5_copyFrom_84 : decode cX5_copyFrom 84 = .ok (.getfield 80, 3) := by decide +kernel
theorem dX5_copyFrom_87 : decode cX5_copyFrom 87 = .ok (.putfield 80, 3) := by decide +kernel
theorem dX5_copyFrom_90 : decode cX5_copyFrom 90 = .ok (.return_, 1) := by decide +kernel
theorem dX5_hasBegun_0 : decode cX5_hasBegun 0 = .ok (.aload_n 0, 1) := by decide +kernel
theorem dX5_hasBegun_1 : decode cX5_hasBegun 1 = .ok (.getfield 76, 3) := by decide +kernel
theorem dX5_hasBegun_4 : decode cX5_hasBegun 4 = .ok (.ifCond .ne 13, 3) := by decide +kernel
theorem dX5_hasBegun_7 : decode cX5_hasBegun 7 = .ok (.aload_n 0, 1) := by decide +kernel
theorem dX5_hasBegun_8 : decode cX5_hasBegun 8 = .ok (.getfield 49, 3) := by decide +kernel
theorem dX5_hasBegun_11 : decode cX5_hasBegun 11 = .ok (.getfield 83, 3) := by decide +kernel
theorem dX5_hasBegun_14 : decode cX5_hasBegun 14 = .ok (.ifCond .le 7, 3) := by decide +kernel
theorem dX5_hasBegun_17 : decode cX5_hasBegun 17 = .ok (.iconst 1, 1) := by decide +kernel
theorem dX5_hasBegun_18 : decode cX5_hasBegun 18 = .ok (.goto 4, 3) := by decide +kernel
theorem dX5_hasBegun_21 : decode cX5_hasBegun 21 = .ok (.iconst 0, 1) := by decide +kernel
theorem dX5_hasBegun_22 : decode cX5_hasBegun 22 = .ok (.ireturn, 1) := by decide +kernel
theorem dX5_targetNow_0 : decode cX5_targetNow 0 = .ok (.aload_n 0, 1) := by decide +kernel
theorem dX5_targetNow_1 : decode cX5_targetNow 1 = .ok (.getfield 28, 3) := by decide +kernel
theorem dX5_targetNow_4 : decode cX5_targetNow 4 = .ok (.aload_n 0, 1) := by decide +kernel
theorem dX5_targetNow_5 : decode cX5_targetNow 5 = .ok (.getfield 12, 3) := by decide +kernel
theorem dX5_targetNow_8 : decode cX5_targetNow 8 = .ok (.getfield 86, 3) := by decide +kernel
theorem dX5_targetNow_11 : decode cX5_targetNow 11 = .ok (.invokevirtual 89, 3) := by decide +kernel
theorem dX5_targetNow_14 : decode cX5_targetNow 14 = .ok (.aload_n 0, 1) := by decide +kernel
theorem dX5_targetNow_15 : decode cX5_targetNow 15 = .ok (.getfield 12, 3) := by decide +kernel
theorem dX5_targetNow_18 : decode cX5_targetNow 18 = .ok (.getfield 93, 3) := by decide +kernel
theorem dX5_targetNow_21 : decode cX5_targetNow 21 = .ok (.iadd, 1) := by decide +kernel
theorem dX5_targetNow_22 : decode cX5_targetNow 22 = .ok (.ireturn, 1) := by decide +kernel
theorem dX5_levelFrom_0 : decode cX5_levelFrom 0 = .ok (.aload_n 0, 1) := by decide +kernel
theorem dX5_levelFrom_1 : decode cX5_levelFrom 1 = .ok (.getfield 12, 3) := by decide +kernel
theorem dX5_levelFrom_4 : decode cX5_levelFrom 4 = .ok (.getfield 96, 3) := by decide +kernel
theorem dX5_levelFrom_7 : decode cX5_levelFrom 7 = .ok (.aload_n 0, 1) := by decide +kernel
theorem dX5_levelFrom_8 : decode cX5_levelFrom 8 = .ok (.getfield 21, 3) := by decide +kernel
theorem dX5_levelFrom_11 : decode cX5_levelFrom 11 = .ok (.aload_n 0, 1) := by decide +kernel
theorem dX5_levelFrom_12 : decode cX5_levelFrom 12 = .ok (.getfield 12, 3) := by decide +kernel
theorem dX5_levelFrom_15 : decode cX5_levelFrom 15 = .ok (.iload_n 1, 1) := by decide +kernel
theorem dX5_levelFrom_16 : decode cX5_levelFrom 16 = .ok (.invokevirtual 99, 3) := by decide +kernel
theorem dX5_levelFrom_19 : decode cX5_levelFrom 19 = .ok (.imul, 1) := by decide +kernel
theorem dX5_levelFrom_20 : decode cX5_levelFrom 20 = .ok (.ireturn, 1) := by decide +kernel
theorem dX5_acceptFrame_0 : decode cX5_acceptFrame 0 = .ok (.aload_n 0, 1) := by decide +kernel
theorem dX5_acceptFrame_1 : decode cX5_acceptFrame 1 = .ok (.getfield 21, 3) := by decide +kernel
theorem dX5_acceptFrame_4 : decode cX5_acceptFrame 4 = .ok (.aload_n 0, 1) := by decide +kernel
theorem dX5_acceptFrame_5 : decode cX5_acceptFrame 5 = .ok (.getfield 12, 3) := by decide +kernel
theorem dX5_acceptFrame_8 : decode cX5_acceptFrame 8 = .ok (.iload_n 1, 1) := by decide +kernel
theorem dX5_acceptFrame_9 : decode cX5_acceptFrame 9 = .ok (.invokevirtual 103, 3) := by decide +kernel
theorem dX5_acceptFrame_12 : decode cX5_acceptFrame 12 = .ok (.ifCond .eq 18, 3) := by decide +kernel
theorem dX5_acceptFrame_15 : decode cX5_acceptFrame 15 = .ok (.aload_n 0, 1) := by decide +kernel
theorem dX5_acceptFrame_16 : decode cX5_acceptFrame 16 = .ok (.getfield 42, 3) := by decide +kernel
theorem dX5_acceptFrame_19 : decode cX5_acceptFrame 19 = .ok (.dup, 1) := by decide +kernel
theorem dX5_acceptFrame_20 : decode cX5_acceptFrame 20 = .ok (.getfield 106, 3) := by decide +kernel
theorem dX5_acceptFrame_23 : decode cX5_acceptFrame 23 = .ok (.iconst 1, 1) := by decide +kernel
theorem dX5_acceptFrame_24 : decode cX5_acceptFrame 24 = .ok (.iadd, 1) := by decide +kernel
theorem dX5_acceptFrame_25 : decode cX5_acceptFrame 25 = .ok (.putfield 106, 3) := by decide +kernel
theorem dX5_acceptFrame_28 : decode cX5_acceptFrame 28 = .ok (.iconst 0, 1) := by decide +kernel
theorem dX5_acceptFrame_29 : decode cX5_acceptFrame 29 = .ok (.ireturn, 1) := by decide +kernel
theorem dX5_acceptFrame_30 : decode cX5_acceptFrame 30 = .ok (.aload_n 0, 1) := by decide +kernel
theorem dX5_acceptFrame_31 : decode cX5_acceptFrame 31 = .ok (.invokevirtual 109, 3) := by decide +kernel
theorem dX5_acceptFrame_34 : decode cX5_acceptFrame 34 = .ok (.aload_n 0, 1) := by decide +kernel
theorem dX5_acceptFrame_35 : decode cX5_acceptFrame 35 = .ok (.getfield 28, 3) := by decide +kernel
theorem dX5_acceptFrame_38 : decode cX5_acceptFrame 38 = .ok (.aload_n 0, 1) := by decide +kernel
theorem dX5_acceptFrame_39 : decode cX5_acceptFrame 39 = .ok (.getfield 72, 3) := by decide +kernel
theorem dX5_acceptFrame_42 : decode cX5_acceptFrame 42 = .ok (.iload_n 1, 1) := by decide +kernel
theorem dX5_acceptFrame_43 : decode cX5_acceptFrame 43 = .ok (.aload_n 0, 1) := by decide +kernel
theorem dX5_acceptFrame_44 : decode cX5_acceptFrame 44 = .ok (.getfield 12, 3) := by decide +kernel
theorem dX5_acceptFrame_47 : decode cX5_acceptFrame 47 = .ok (.getfield 96, 3) := by decide +kernel
theorem dX5_acceptFrame_50 : decode cX5_acceptFrame 50 = .ok (.imul, 1) := by decide +kernel
theorem dX5_acceptFrame_51 : decode cX5_acceptFrame 51 = .ok (.isub, 1) := by decide +kernel
theorem dX5_acceptFrame_52 : decode cX5_acceptFrame 52 = .ok (.invokevirtual 112, 3) := by decide +kernel
theorem dX5_acceptFrame_55 : decode cX5_acceptFrame 55 = .ok (.iload_n 1, 1) := by decide +kernel
theorem dX5_acceptFrame_56 : decode cX5_acceptFrame 56 = .ok (.aload_n 0, 1) := by decide +kernel
theorem dX5_acceptFrame_57 : decode cX5_acceptFrame 57 = .ok (.getfield 35, 3) := by decide +kernel
theorem dX5_acceptFrame_60 : decode cX5_acceptFrame 60 = .ok (.getfield 116, 3) := by decide +kernel
theorem dX5_acceptFrame_63 : decode cX5_acceptFrame 63 = .ok (.if_icmp .ge 16, 3) := by decide +kernel
theorem dX5_acceptFrame_66 : decode cX5_acceptFrame 66 = .ok (.aload_n 0, 1) := by decide +kernel
theorem dX5_acceptFrame_67 : decode cX5_acceptFrame 67 = .ok (.getfield 42, 3) := by decide +kernel
theorem dX5_acceptFrame_70 : decode cX5_acceptFrame 70 = .ok (.dup, 1) := by decide +kernel
theorem dX5_acceptFrame_71 : decode cX5_acceptFrame 71 = .ok (.getfield 119, 3) := by decide +kernel
theorem dX5_acceptFrame_74 : decode cX5_acceptFrame 74 = .ok (.iconst 1, 1) := by decide +kernel
theorem dX5_acceptFrame_75 : decode cX5_acceptFrame 75 = .ok (.iadd, 1) := by decide +kernel
theorem dX5_acceptFrame_76 : decode cX5_acceptFrame 76 = .ok (.putfield 119, 3) := by decide +kernel
theorem dX5_acceptFrame_79 : decode cX5_acceptFrame 79 = .ok (.aload_n 0, 1) := by decide +kernel
theorem dX5_acceptFrame_80 : decode cX5_acceptFrame 80 = .ok (.getfield 21, 3) := by decide +kernel
theorem dX5_acceptFrame_83 : decode cX5_acceptFrame 83 = .ok (.aload_n 0, 1) := by decide +kernel
theorem dX5_acceptFrame_84 : decode cX5_acceptFrame 84 = .ok (.getfield 12, 3) := by decide +kernel
theorem dX5_acceptFrame_87 : decode cX5_acceptFrame 87 = .ok (.iload_n 1, 1) := by decide +kernel
theorem dX5_acceptFrame_88 : decode cX5_acceptFrame 88 = .ok (.invokevirtual 122, 3) := by decide +kernel
theorem dX5_acceptFrame_91 : decode cX5_acceptFrame 91 = .ok (.iconst 1, 1) := by decide +kernel
theorem dX5_acceptFrame_92 : decode cX5_acceptFrame 92 = .ok (.aload_n 0, 1) := by decide +kernel
theorem dX5_acceptFrame_93 : decode cX5_acceptFrame 93 = .ok (.getfield 21, 3) := by decide +kernel
theorem dX5_acceptFrame_96 : decode cX5_acceptFrame 96 = .ok (.aload_n 0, 1) := by decide +kernel
theorem dX5_acceptFrame_97 : decode cX5_acceptFrame 97 = .ok (.getfield 12, 3) := by decide +kernel
theorem dX5_acceptFrame_100 : decode cX5_acceptFrame 100 = .ok (.iload_n 1, 1) := by decide +kernel
theorem dX5_acceptFrame_101 : decode cX5_acceptFrame 101 = .ok (.aload_n 0, 1) := by decide +kernel
theorem dX5_acceptFrame_102 : decode cX5_acceptFrame 102 = .ok (.getfield 12, 3) := by decide +kernel
theorem dX5_acceptFrame_105 : decode cX5_acceptFrame 105 = .ok (.invokevirtual 126, 3) := by decide +kernel
theorem dX5_acceptFrame_108 : decode cX5_acceptFrame 108 = .ok (.idiv, 1) := by decide +kernel
theorem dX5_acceptFrame_109 : decode cX5_acceptFrame 109 = .ok (.invokevirtual 130, 3) := by decide +kernel
theorem dX5_acceptFrame_112 : decode cX5_acceptFrame 112 = .ok (.iadd, 1) := by decide +kernel
theorem dX5_acceptFrame_113 : decode cX5_acceptFrame 113 = .ok (.ireturn, 1) := by decide +kernel
theorem dX5_acceptPacket_0 : decode cX5_acceptPacket 0 = .ok (.aload_n 0, 1) := by decide +kernel
theorem dX5_acceptPacket_1 : decode cX5_acceptPacket 1 = .ok (.getfield 21, 3) := by decide +kernel
theorem dX5_acceptPacket_4 : decode cX5_acceptPacket 4 = .ok (.iload_n 1, 1) := by decide +kernel
theorem dX5_acceptPacket_5 : decode cX5_acceptPacket 5 = .ok (.iload_n 2, 1) := by decide +kernel
theorem dX5_acceptPacket_6 : decode cX5_acceptPacket 6 = .ok (.iload_n 3, 1) := by decide +kernel
theorem dX5_acceptPacket_7 : decode cX5_acceptPacket 7 = .ok (.invokevirtual 133, 3) := by decide +kernel
theorem dX5_acceptPacket_10 : decode cX5_acceptPacket 10 = .ok (.ifCond .eq 18, 3) := by decide +kernel
theorem dX5_acceptPacket_13 : decode cX5_acceptPacket 13 = .ok (.aload_n 0, 1) := by decide +kernel
theorem dX5_acceptPacket_14 : decode cX5_acceptPacket 14 = .ok (.getfield 42, 3) := by decide +kernel
theorem dX5_acceptPacket_17 : decode cX5_acceptPacket 17 = .ok (.dup, 1) := by decide +kernel
theorem dX5_acceptPacket_18 : decode cX5_acceptPacket 18 = .ok (.getfield 106, 3) := by decide +kernel
theorem dX5_acceptPacket_21 : decode cX5_acceptPacket 21 = .ok (.iconst 1, 1) := by decide +kernel
theorem dX5_acceptPacket_22 : decode cX5_acceptPacket 22 = .ok (.iadd, 1) := by decide +kernel
theorem dX5_acceptPacket_23 : decode cX5_acceptPacket 23 = .ok (.putfield 106, 3) := by decide +kernel
theorem dX5_acceptPacket_26 : decode cX5_acceptPacket 26 = .ok (.iconst 0, 1) := by decide +kernel
theorem dX5_acceptPacket_27 : decode cX5_acceptPacket 27 = .ok (.ireturn, 1) := by decide +kernel
theorem dX5_acceptPacket_28 : decode cX5_acceptPacket 28 = .ok (.aload_n 0, 1) := by decide +kernel
theorem dX5_acceptPacket_29 : decode cX5_acceptPacket 29 = .ok (.invokevirtual 109, 3) := by decide +kernel
theorem dX5_acceptPacket_32 : decode cX5_acceptPacket 32 = .ok (.aload_n 0, 1) := by decide +kernel
theorem dX5_acceptPacket_33 : decode cX5_acceptPacket 33 = .ok (.getfield 21, 3) := by decide +kernel
theorem dX5_acceptPacket_36 : decode cX5_acceptPacket 36 = .ok (.iload_n 1, 1) := by decide +kernel
theorem dX5_acceptPacket_37 : decode cX5_acceptPacket 37 = .ok (.iload_n 2, 1) := by decide +kernel
theorem dX5_acceptPacket_38 : decode cX5_acceptPacket 38 = .ok (.iload_n 3, 1) := by decide +kernel
theorem dX5_acceptPacket_39 : decode cX5_acceptPacket 39 = .ok (.invokevirtual 137, 3) := by decide +kernel
theorem dX5_acceptPacket_42 : decode cX5_acceptPacket 42 = .ok (.aload_n 0, 1) := by decide +kernel
theorem dX5_acceptPacket_43 : decode cX5_acceptPacket 43 = .ok (.getfield 21, 3) := by decide +kernel
theorem dX5_acceptPacket_46 : decode cX5_acceptPacket 46 = .ok (.aload_n 0, 1) := by decide +kernel
theorem dX5_acceptPacket_47 : decode cX5_acceptPacket 47 = .ok (.getfield 12, 3) := by decide +kernel
theorem dX5_acceptPacket_50 : decode cX5_acceptPacket 50 = .ok (.iload_n 2, 1) := by decide +kernel
theorem dX5_acceptPacket_51 : decode cX5_acceptPacket 51 = .ok (.invokevirtual 130, 3) := by decide +kernel
theorem dX5_acceptPacket_54 : decode cX5_acceptPacket 54 = .ok (.ireturn, 1) := by decide +kernel
theorem dX5_passTick_0 : decode cX5_passTick 0 = .ok (.aload_n 0, 1) := by decide +kernel
theorem dX5_passTick_1 : decode cX5_passTick 1 = .ok (.invokevirtual 141, 3) := by decide +kernel
theorem dX5_passTick_4 : decode cX5_passTick 4 = .ok (.aload_n 0, 1) := by decide +kernel
theorem dX5_passTick_5 : decode cX5_passTick 5 = .ok (.getfield 76, 3) := by decide +kernel
theorem dX5_passTick_8 : decode cX5_passTick 8 = .ok (.ifCond .eq 55, 3) := by decide +kernel
theorem dX5_passTick_11 : decode cX5_passTick 11 = .ok (.aload_n 0, 1) := by decide +kernel
theorem dX5_passTick_12 : decode cX5_passTick 12 = .ok (.getfield 72, 3) := by decide +kernel
theorem dX5_passTick_15 : decode cX5_passTick 15 = .ok (.aload_n 0, 1) := by decide +kernel
theorem dX5_passTick_16 : decode cX5_passTick 16 = .ok (.getfield 80, 3) := by decide +kernel
theorem dX5_passTick_19 : decode cX5_passTick 19 = .ok (.if_icmp .lt 44, 3) := by decide +kernel
theorem dX5_passTick_22 : decode cX5_passTick 22 = .ok (.aload_n 0, 1) := by decide +kernel
theorem dX5_passTick_23 : decode cX5_passTick 23 = .ok (.getfield 35, 3) := by decide +kernel
theorem dX5_passTick_26 : decode cX5_passTick 26 = .ok (.invokevirtual 144, 3) := by decide +kernel
theorem dX5_passTick_29 : decode cX5_passTick 29 = .ok (.ifCond .ne 27, 3) := by decide +kernel
theorem dX5_passTick_32 : decode cX5_passTick 32 = .ok (.aload_n 0, 1) := by decide +kernel
theorem dX5_passTick_33 : decode cX5_passTick 33 = .ok (.getfield 35, 3) := by decide +kernel
theorem dX5_passTick_36 : decode cX5_passTick 36 = .ok (.getfield 116, 3) := by decide +kernel
theorem dX5_passTick_39 : decode cX5_passTick 39 = .ok (.sipush 999, 3) := by decide +kernel
theorem dX5_passTick_42 : decode cX5_passTick 42 = .ok (.if_icmp .gt 14, 3) := by decide +kernel
theorem dX5_passTick_45 : decode cX5_passTick 45 = .ok (.aload_n 0, 1) := by decide +kernel
theorem dX5_passTick_46 : decode cX5_passTick 46 = .ok (.aload_n 0, 1) := by decide +kernel
theorem dX5_passTick_47 : decode cX5_passTick 47 = .ok (.getfield 35, 3) := by decide +kernel
theorem dX5_passTick_50 : decode cX5_passTick 50 = .ok (.getfield 116, 3) := by decide +kernel
theorem dX5_passTick_53 : decode cX5_passTick 53 = .ok (.invokevirtual 147, 3) := by decide +kernel
theorem dX5_passTick_56 : decode cX5_passTick 56 = .ok (.aload_n 0, 1) := by decide +kernel
theorem dX5_passTick_57 : decode cX5_passTick 57 = .ok (.getfield 35, 3) := by decide +kernel
theorem dX5_passTick_60 : decode cX5_passTick 60 = .ok (.invokevirtual 150, 3) := by decide +kernel
theorem dX5_passTick_63 : decode cX5_passTick 63 = .ok (.aload_n 0, 1) := by decide +kernel
theorem dX5_passTick_64 : decode cX5_passTick 64 = .ok (.dup, 1) := by decide +kernel
theorem dX5_passTick_65 : decode cX5_passTick 65 = .ok (.getfield 72, 3) := by decide +kernel
theorem dX5_passTick_68 : decode cX5_passTick 68 = .ok (.iconst 1, 1) := by decide +kernel
theorem dX5_passTick_69 : decode cX5_passTick 69 = .ok (.iadd, 1) := by decide +kernel
theorem dX5_passTick_70 : decode cX5_passTick 70 = .ok (.putfield 72, 3) := by decide +kernel
theorem dX5_passTick_73 : decode cX5_passTick 73 = .ok (.return_, 1) := by decide +kernel
theorem dX5_startOnce_0 : decode cX5_startOnce 0 = .ok (.aload_n 0, 1) := by decide +kernel
theorem dX5_startOnce_1 : decode cX5_startOnce 1 = .ok (.getfield 76, 3) := by decide +kernel
theorem dX5_startOnce_4 : decode cX5_startOnce 4 = .ok (.ifCond .ne 24, 3) := by decide +kernel
theorem dX5_startOnce_7 : decode cX5_startOnce 7 = .ok (.aload_n 0, 1) := by decide +kernel
theorem dX5_startOnce_8 : decode cX5_startOnce 8 = .ok (.iconst 1, 1) := by decide +kernel
theorem dX5_startOnce_9 : decode cX5_startOnce 9 = .ok (.putfield 76, 3) := by decide +kernel
theorem dX5_startOnce_12 : decode cX5_startOnce 12 = .ok (.aload_n 0, 1) := by decide +kernel
theorem dX5_startOnce_13 : decode cX5_startOnce 13 = .ok (.aload_n 0, 1) := by decide +kernel
theorem dX5_startOnce_14 : decode cX5_startOnce 14 = .ok (.getfield 72, 3) := by decide +kernel
theorem dX5_startOnce_17 : decode cX5_startOnce 17 = .ok (.aload_n 0, 1) := by decide +kernel
theorem dX5_startOnce_18 : decode cX5_startOnce 18 = .ok (.getfield 12, 3) := by decide +kernel
theorem dX5_startOnce_21 : decode cX5_startOnce 21 = .ok (.getfield 153, 3) := by decide +kernel
theorem dX5_startOnce_24 : decode cX5_startOnce 24 = .ok (.iadd, 1) := by decide +kernel
theorem dX5_startOnce_25 : decode cX5_startOnce 25 = .ok (.putfield 80, 3) := by decide +kernel
theorem dX5_startOnce_28 : decode cX5_startOnce 28 = .ok (.return_, 1) := by decide +kernel
theorem dX5_acceptDue_0 : decode cX5_acceptDue 0 = .ok (.iconst 0, 1) := by decide +kernel
theorem dX5_acceptDue_1 : decode cX5_acceptDue 1 = .ok (.istore_n 1, 1) := by decide +kernel
theorem dX5_acceptDue_2 : decode cX5_acceptDue 2 = .ok (.iload_n 1, 1) := by decide +kernel
theorem dX5_acceptDue_3 : decode cX5_acceptDue 3 = .ok (.aload_n 0, 1) := by decide +kernel
theorem dX5_acceptDue_4 : decode cX5_acceptDue 4 = .ok (.getfield 49, 3) := by decide +kernel
theorem dX5_acceptDue_7 : decode cX5_acceptDue 7 = .ok (.getfield 83, 3) := by decide +kernel
theorem dX5_acceptDue_10 : decode cX5_acceptDue 10 = .ok (.if_icmp .ge 98, 3) := by decide +kernel
theorem dX5_acceptDue_13 : decode cX5_acceptDue 13 = .ok (.aload_n 0, 1) := by decide +kernel
theorem dX5_acceptDue_14 : decode cX5_acceptDue 14 = .ok (.getfield 49, 3) := by decide +kernel
theorem dX5_acceptDue_17 : decode cX5_acceptDue 17 = .ok (.getfield 156, 3) := by decide +kernel
theorem dX5_acceptDue_20 : decode cX5_acceptDue 20 = .ok (.iload_n 1, 1) := by decide +kernel
theorem dX5_acceptDue_21 : decode cX5_acceptDue 21 = .ok (.iaload, 1) := by decide +kernel
theorem dX5_acceptDue_22 : decode cX5_acceptDue 22 = .ok (.aload_n 0, 1) := by decide +kernel
theorem dX5_acceptDue_23 : decode cX5_acceptDue 23 = .ok (.getfield 72, 3) := by decide +kernel
theorem dX5_acceptDue_26 : decode cX5_acceptDue 26 = .ok (.if_icmp .eq 6, 3) := by decide +kernel
theorem dX5_acceptDue_29 : decode cX5_acceptDue 29 = .ok (.goto 73, 3) := by decide +kernel
theorem dX5_acceptDue_32 : decode cX5_acceptDue 32 = .ok (.aload_n 0, 1) := by decide +kernel
theorem dX5_acceptDue_33 : decode cX5_acceptDue 33 = .ok (.getfield 49, 3) := by decide +kernel
theorem dX5_acceptDue_36 : decode cX5_acceptDue 36 = .ok (.getfield 160, 3) := by decide +kernel
theorem dX5_acceptDue_39 : decode cX5_acceptDue 39 = .ok (.iload_n 1, 1) := by decide +kernel
theorem dX5_acceptDue_40 : decode cX5_acceptDue 40 = .ok (.iaload, 1) := by decide +kernel
theorem dX5_acceptDue_41 : decode cX5_acceptDue 41 = .ok (.ifCond .ne 20, 3) := by decide +kernel
theorem dX5_acceptDue_44 : decode cX5_acceptDue 44 = .ok (.aload_n 0, 1) := by decide +kernel
theorem dX5_acceptDue_45 : decode cX5_acceptDue 45 = .ok (.aload_n 0, 1) := by decide +kernel
theorem dX5_acceptDue_46 : decode cX5_acceptDue 46 = .ok (.getfield 49, 3) := by decide +kernel
theorem dX5_acceptDue_49 : decode cX5_acceptDue 49 = .ok (.getfield 163, 3) := by decide +kernel
theorem dX5_acceptDue_52 : decode cX5_acceptDue 52 = .ok (.iload_n 1, 1) := by decide +kernel
theorem dX5_acceptDue_53 : decode cX5_acceptDue 53 = .ok (.iaload, 1) := by decide +kernel
theorem dX5_acceptDue_54 : decode cX5_acceptDue 54 = .ok (.invokevirtual 166, 3) := by decide +kernel
theorem dX5_acceptDue_57 : decode cX5_acceptDue 57 = .ok (.pop, 1) := by decide +kernel
theorem dX5_acceptDue_58 : decode cX5_acceptDue 58 = .ok (.goto 44, 3) := by decide +kernel
theorem dX5_acceptDue_61 : decode cX5_acceptDue 61 = .ok (.aload_n 0, 1) := by decide +kernel
theorem dX5_acceptDue_62 : decode cX5_acceptDue 62 = .ok (.aload_n 0, 1) := by decide +kernel
theorem dX5_acceptDue_63 : decode cX5_acceptDue 63 = .ok (.getfield 49, 3) := by decide +kernel
theorem dX5_acceptDue_66 : decode cX5_acceptDue 66 = .ok (.getfield 160, 3) := by decide +kernel
theorem dX5_acceptDue_69 : decode cX5_acceptDue 69 = .ok (.iload_n 1, 1) := by decide +kernel
theorem dX5_acceptDue_70 : decode cX5_acceptDue 70 = .ok (.iaload, 1) := by decide +kernel
theorem dX5_acceptDue_71 : decode cX5_acceptDue 71 = .ok (.iconst 1, 1) := by decide +kernel
theorem dX5_acceptDue_72 : decode cX5_acceptDue 72 = .ok (.if_icmp .ne 7, 3) := by decide +kernel
theorem dX5_acceptDue_75 : decode cX5_acceptDue 75 = .ok (.iconst 1, 1) := by decide +kernel
theorem dX5_acceptDue_76 : decode cX5_acceptDue 76 = .ok (.goto 4, 3) := by decide +kernel
theorem dX5_acceptDue_79 : decode cX5_acceptDue 79 = .ok (.iconst 0, 1) := by decide +kernel
theorem dX5_acceptDue_80 : decode cX5_acceptDue 80 = .ok (.aload_n 0, 1) := by decide +kernel
theorem dX5_acceptDue_81 : decode cX5_acceptDue 81 = .ok (.getfield 49, 3) := by decide +kernel
theorem dX5_acceptDue_84 : decode cX5_acceptDue 84 = .ok (.getfield 163, 3) := by decide +kernel
theorem dX5_acceptDue_87 : decode cX5_acceptDue 87 = .ok (.iload_n 1, 1) := by decide +kernel
theorem dX5_acceptDue_88 : decode cX5_acceptDue 88 = .ok (.iaload, 1) := by decide +kernel
theorem dX5_acceptDue_89 : decode cX5_acceptDue 89 = .ok (.aload_n 0, 1) := by decide +kernel
theorem dX5_acceptDue_90 : decode cX5_acceptDue 90 = .ok (.getfield 49, 3) := by decide +kernel
theorem dX5_acceptDue_93 : decode cX5_acceptDue 93 = .ok (.getfield 169, 3) := by decide +kernel
theorem dX5_acceptDue_96 : decode cX5_acceptDue 96 = .ok (.iload_n 1, 1) := by decide +kernel
theorem dX5_acceptDue_97 : decode cX5_acceptDue 97 = .ok (.iaload, 1) := by decide +kernel
theorem dX5_acceptDue_98 : decode cX5_acceptDue 98 = .ok (.invokevirtual 172, 3) := by decide +kernel
theorem dX5_acceptDue_101 : decode cX5_acceptDue 101 = .ok (.pop, 1) := by decide +kernel
theorem dX5_acceptDue_102 : decode cX5_acceptDue 102 = .ok (.iinc 1 1, 3) := by decide +kernel
theorem dX5_acceptDue_105 : decode cX5_acceptDue 105 = .ok (.goto (-103), 3) := by decide +kernel
theorem dX5_acceptDue_108 : decode cX5_acceptDue 108 = .ok (.aload_n 0, 1) := by decide +kernel
theorem dX5_acceptDue_109 : decode cX5_acceptDue 109 = .ok (.getfield 49, 3) := by decide +kernel
theorem dX5_acceptDue_112 : decode cX5_acceptDue 112 = .ok (.aload_n 0, 1) := by decide +kernel
theorem dX5_acceptDue_113 : decode cX5_acceptDue 113 = .ok (.getfield 72, 3) := by decide +kernel
theorem dX5_acceptDue_116 : decode cX5_acceptDue 116 = .ok (.invokevirtual 176, 3) := by decide +kernel
theorem dX5_acceptDue_119 : decode cX5_acceptDue 119 = .ok (.return_, 1) := by decide +kernel
theorem dX5_takeFrame_0 : decode cX5_takeFrame 0 = .ok (.aload_n 0, 1) := by decide +kernel
theorem dX5_takeFrame_1 : decode cX5_takeFrame 1 = .ok (.getfield 21, 3) := by decide +kernel
theorem dX5_takeFrame_4 : decode cX5_takeFrame 4 = .ok (.aload_n 0, 1) := by decide +kernel
theorem dX5_takeFrame_5 : decode cX5_takeFrame 5 = .ok (.getfield 12, 3) := by decide +kernel
theorem dX5_takeFrame_8 : decode cX5_takeFrame 8 = .ok (.iload_n 1, 1) := by decide +kernel
theorem dX5_takeFrame_9 : decode cX5_takeFrame 9 = .ok (.invokevirtual 103, 3) := by decide +kernel
theorem dX5_takeFrame_12 : decode cX5_takeFrame 12 = .ok (.istore_n 2, 1) := by decide +kernel
theorem dX5_takeFrame_13 : decode cX5_takeFrame 13 = .ok (.iload_n 2, 1) := by decide +kernel
theorem dX5_takeFrame_14 : decode cX5_takeFrame 14 = .ok (.ifCond .ne 40, 3) := by decide +kernel
theorem dX5_takeFrame_17 : decode cX5_takeFrame 17 = .ok (.aload_n 0, 1) := by decide +kernel
theorem dX5_takeFrame_18 : decode cX5_takeFrame 18 = .ok (.getfield 42, 3) := by decide +kernel
theorem dX5_takeFrame_21 : decode cX5_takeFrame 21 = .ok (.invokevirtual 179, 3) := by decide +kernel
theorem dX5_takeFrame_24 : decode cX5_takeFrame 24 = .ok (.aload_n 0, 1) := by decide +kernel
theorem dX5_takeFrame_25 : decode cX5_takeFrame 25 = .ok (.getfield 35, 3) := by decide +kernel
theorem dX5_takeFrame_28 : decode cX5_takeFrame 28 = .ok (.iconst 3, 1) := by decide +kernel
theorem dX5_takeFrame_29 : decode cX5_takeFrame 29 = .ok (.invokevirtual 182, 3) := by decide +kernel
theorem dX5_takeFrame_32 : decode cX5_takeFrame 32 = .ok (.aload_n 0, 1) := by decide +kernel
theorem dX5_takeFrame_33 : decode cX5_takeFrame 33 = .ok (.getfield 35, 3) := by decide +kernel
theorem dX5_takeFrame_36 : decode cX5_takeFrame 36 = .ok (.aload_n 0, 1) := by decide +kernel
theorem dX5_takeFrame_37 : decode cX5_takeFrame 37 = .ok (.getfield 12, 3) := by decide +kernel
theorem dX5_takeFrame_40 : decode cX5_takeFrame 40 = .ok (.getfield 96, 3) := by decide +kernel
theorem dX5_takeFrame_43 : decode cX5_takeFrame 43 = .ok (.aload_n 0, 1) := by decide +kernel
theorem dX5_takeFrame_44 : decode cX5_takeFrame 44 = .ok (.getfield 42, 3) := by decide +kernel
theorem dX5_takeFrame_47 : decode cX5_takeFrame 47 = .ok (.getfield 185, 3) := by decide +kernel
theorem dX5_takeFrame_50 : decode cX5_takeFrame 50 = .ok (.invokevirtual 188, 3) := by decide +kernel
theorem dX5_takeFrame_53 : decode cX5_takeFrame 53 = .ok (.return_, 1) := by decide +kernel
theorem dX5_takeFrame_54 : decode cX5_takeFrame 54 = .ok (.iload_n 2, 1) := by decide +kernel
theorem dX5_takeFrame_55 : decode cX5_takeFrame 55 = .ok (.iconst 2, 1) := by decide +kernel
theorem dX5_takeFrame_56 : decode cX5_takeFrame 56 = .ok (.if_icmp .ne 7, 3) := by decide +kernel
theorem dX5_takeFrame_59 : decode cX5_takeFrame 59 = .ok (.iconst 1, 1) := by decide +kernel
theorem dX5_takeFrame_60 : decode cX5_takeFrame 60 = .ok (.goto 4, 3) := by decide +kernel
theorem dX5_takeFrame_63 : decode cX5_takeFrame 63 = .ok (.iconst 2, 1) := by decide +kernel
theorem dX5_takeFrame_64 : decode cX5_takeFrame 64 = .ok (.istore_n 3, 1) := by decide +kernel
theorem dX5_takeFrame_65 : decode cX5_takeFrame 65 = .ok (.aload_n 0, 1) := by decide +kernel
theorem dX5_takeFrame_66 : decode cX5_takeFrame 66 = .ok (.getfield 42, 3) := by decide +kernel
theorem dX5_takeFrame_69 : decode cX5_takeFrame 69 = .ok (.iload_n 3, 1) := by decide +kernel
theorem dX5_takeFrame_70 : decode cX5_takeFrame 70 = .ok (.invokevirtual 192, 3) := by decide +kernel
theorem dX5_takeFrame_73 : decode cX5_takeFrame 73 = .ok (.aload_n 0, 1) := by decide +kernel
theorem dX5_takeFrame_74 : decode cX5_takeFrame 74 = .ok (.getfield 35, 3) := by decide +kernel
theorem dX5_takeFrame_77 : decode cX5_takeFrame 77 = .ok (.iload_n 3, 1) := by decide +kernel
theorem dX5_takeFrame_78 : decode cX5_takeFrame 78 = .ok (.invokevirtual 182, 3) := by decide +kernel
theorem dX5_takeFrame_81 : decode cX5_takeFrame 81 = .ok (.aload_n 0, 1) := by decide +kernel
theorem dX5_takeFrame_82 : decode cX5_takeFrame 82 = .ok (.iload_n 1, 1) := by decide +kernel
theorem dX5_takeFrame_83 : decode cX5_takeFrame 83 = .ok (.invokevirtual 195, 3) := by decide +kernel
theorem dX5_takeFrame_86 : decode cX5_takeFrame 86 = .ok (.return_, 1) := by decide +kernel
theorem dX5_putKnown_0 : decode cX5_putKnown 0 = .ok (.aload_n 0, 1) := by decide +kernel
theorem dX5_putKnown_1 : decode cX5_putKnown 1 = .ok (.iload_n 1, 1) := by decide +kernel
theorem dX5_putKnown_2 : decode cX5_putKnown 2 = .ok (.iconst 1, 1) := by decide +kernel
theorem dX5_putKnown_3 : decode cX5_putKnown 3 = .ok (.iadd, 1) := by decide +kernel
theorem dX5_putKnown_4 : decode cX5_putKnown 4 = .ok (.invokevirtual 198, 3) := by decide +kernel
theorem dX5_putKnown_7 : decode cX5_putKnown 7 = .ok (.istore_n 2, 1) := by decide +kernel
theorem dX5_putKnown_8 : decode cX5_putKnown 8 = .ok (.aload_n 0, 1) := by decide +kernel
theorem dX5_putKnown_9 : decode cX5_putKnown 9 = .ok (.invokevirtual 201, 3) := by decide +kernel
theorem dX5_putKnown_12 : decode cX5_putKnown 12 = .ok (.istore_n 3, 1) := by decide +kernel
theorem dX5_putKnown_13 : decode cX5_putKnown 13 = .ok (.aload_n 0, 1) := by decide +kernel
theorem dX5_putKnown_14 : decode cX5_putKnown 14 = .ok (.getfield 35, 3) := by decide +kernel
theorem dX5_putKnown_17 : decode cX5_putKnown 17 = .ok (.aload_n 0, 1) := by decide +kernel
theorem dX5_putKnown_18 : decode cX5_putKnown 18 = .ok (.getfield 12, 3) := by decide +kernel
theorem dX5_putKnown_21 : decode cX5_putKnown 21 = .ok (.iload_n 1, 1) := by decide +kernel
theorem dX5_putKnown_22 : decode cX5_putKnown 22 = .ok (.invokevirtual 204, 3) := by decide +kernel
theorem dX5_putKnown_25 : decode cX5_putKnown 25 = .ok (.aload_n 0, 1) := by decide +kernel
theorem dX5_putKnown_26 : decode cX5_putKnown 26 = .ok (.getfield 12, 3) := by decide +kernel
theorem dX5_putKnown_29 : decode cX5_putKnown 29 = .ok (.getfield 207, 3) := by decide +kernel
theorem dX5_putKnown_32 : decode cX5_putKnown 32 = .ok (.ifCond .eq 46, 3) := by decide +kernel
theorem dX5_putKnown_35 : decode cX5_putKnown 35 = .ok (.iload_n 2, 1) := by decide +kernel
theorem dX5_putKnown_36 : decode cX5_putKnown 36 = .ok (.iload_n 3, 1) := by decide +kernel
theorem dX5_putKnown_37 : decode cX5_putKnown 37 = .ok (.aload_n 0, 1) := by decide +kernel
theorem dX5_putKnown_38 : decode cX5_putKnown 38 = .ok (.getfield 12, 3) := by decide +kernel
theorem dX5_putKnown_41 : decode cX5_putKnown 41 = .ok (.getfield 96, 3) := by decide +kernel
theorem dX5_putKnown_44 : decode cX5_putKnown 44 = .ok (.iadd, 1) := by decide +kernel
theorem dX5_putKnown_45 : decode cX5_putKnown 45 = .ok (.if_icmp .le 33, 3) := by decide +kernel
theorem dX5_putKnown_48 : decode cX5_putKnown 48 = .ok (.aload_n 0, 1) := by decide +kernel
theorem dX5_putKnown_49 : decode cX5_putKnown 49 = .ok (.getfield 42, 3) := by decide +kernel
theorem dX5_putKnown_52 : decode cX5_putKnown 52 = .ok (.dup, 1) := by decide +kernel
theorem dX5_putKnown_53 : decode cX5_putKnown 53 = .ok (.getfield 210, 3) := by decide +kernel
theorem dX5_putKnown_56 : decode cX5_putKnown 56 = .ok (.iconst 1, 1) := by decide +kernel
theorem dX5_putKnown_57 : decode cX5_putKnown 57 = .ok (.iadd, 1) := by decide +kernel
theorem dX5_putKnown_58 : decode cX5_putKnown 58 = .ok (.putfield 210, 3) := by decide +kernel
theorem dX5_putKnown_61 : decode cX5_putKnown 61 = .ok (.aload_n 0, 1) := by decide +kernel
theorem dX5_putKnown_62 : decode cX5_putKnown 62 = .ok (.getfield 35, 3) := by decide +kernel
theorem dX5_putKnown_65 : decode cX5_putKnown 65 = .ok (.aload_n 0, 1) := by decide +kernel
theorem dX5_putKnown_66 : decode cX5_putKnown 66 = .ok (.getfield 12, 3) := by decide +kernel
theorem dX5_putKnown_69 : decode cX5_putKnown 69 = .ok (.getfield 96, 3) := by decide +kernel
theorem dX5_putKnown_72 : decode cX5_putKnown 72 = .ok (.invokevirtual 213, 3) := by decide +kernel
theorem dX5_putKnown_75 : decode cX5_putKnown 75 = .ok (.goto 70, 3) := by decide +kernel
theorem dX5_putKnown_78 : decode cX5_putKnown 78 = .ok (.aload_n 0, 1) := by decide +kernel
theorem dX5_putKnown_79 : decode cX5_putKnown 79 = .ok (.getfield 12, 3) := by decide +kernel
theorem dX5_putKnown_82 : decode cX5_putKnown 82 = .ok (.getfield 207, 3) := by decide +kernel
theorem dX5_putKnown_85 : decode cX5_putKnown 85 = .ok (.ifCond .eq 46, 3) := by decide +kernel
theorem dX5_putKnown_88 : decode cX5_putKnown 88 = .ok (.iload_n 2, 1) := by decide +kernel
theorem dX5_putKnown_89 : decode cX5_putKnown 89 = .ok (.aload_n 0, 1) := by decide +kernel
theorem dX5_putKnown_90 : decode cX5_putKnown 90 = .ok (.getfield 12, 3) := by decide +kernel
theorem dX5_putKnown_93 : decode cX5_putKnown 93 = .ok (.getfield 96, 3) := by decide +kernel
theorem dX5_putKnown_96 : decode cX5_putKnown 96 = .ok (.iadd, 1) := by decide +kernel
theorem dX5_putKnown_97 : decode cX5_putKnown 97 = .ok (.iload_n 3, 1) := by decide +kernel
theorem dX5_putKnown_98 : decode cX5_putKnown 98 = .ok (.if_icmp .ge 33, 3) := by decide +kernel
theorem dX5_putKnown_101 : decode cX5_putKnown 101 = .ok (.aload_n 0, 1) := by decide +kernel
theorem dX5_putKnown_102 : decode cX5_putKnown 102 = .ok (.getfield 42, 3) := by decide +kernel
theorem dX5_putKnown_105 : decode cX5_putKnown 105 = .ok (.dup, 1) := by decide +kernel
theorem dX5_putKnown_106 : decode cX5_putKnown 106 = .ok (.getfield 216, 3) := by decide +kernel
theorem dX5_putKnown_109 : decode cX5_putKnown 109 = .ok (.iconst 1, 1) := by decide +kernel
theorem dX5_putKnown_110 : decode cX5_putKnown 110 = .ok (.iadd, 1) := by decide +kernel
theorem dX5_putKnown_111 : decode cX5_putKnown 111 = .ok (.putfield 216, 3) := by decide +kernel
theorem dX5_putKnown_114 : decode cX5_putKnown 114 = .ok (.aload_n 0, 1) := by decide +kernel
theorem dX5_putKnown_115 : decode cX5_putKnown 115 = .ok (.getfield 35, 3) := by decide +kernel
theorem dX5_putKnown_118 : decode cX5_putKnown 118 = .ok (.aload_n 0, 1) := by decide +kernel
theorem dX5_putKnown_119 : decode cX5_putKnown 119 = .ok (.getfield 12, 3) := by decide +kernel
theorem dX5_putKnown_122 : decode cX5_putKnown 122 = .ok (.getfield 96, 3) := by decide +kernel
theorem dX5_putKnown_125 : decode cX5_putKnown 125 = .ok (.invokevirtual 219, 3) := by decide +kernel
theorem dX5_putKnown_128 : decode cX5_putKnown 128 = .ok (.goto 17, 3) := by decide +kernel
theorem dX5_putKnown_131 : decode cX5_putKnown 131 = .ok (.aload_n 0, 1) := by decide +kernel
theorem dX5_putKnown_132 : decode cX5_putKnown 132 = .ok (.getfield 35, 3) := by decide +kernel
theorem dX5_putKnown_135 : decode cX5_putKnown 135 = .ok (.aload_n 0, 1) := by decide +kernel
theorem dX5_putKnown_136 : decode cX5_putKnown 136 = .ok (.getfield 12, 3) := by decide +kernel
theorem dX5_putKnown_139 : decode cX5_putKnown 139 = .ok (.getfield 96, 3) := by decide +kernel
theorem dX5_putKnown_142 : decode cX5_putKnown 142 = .ok (.invokevirtual 222, 3) := by decide +kernel
theorem dX5_putKnown_145 : decode cX5_putKnown 145 = .ok (.return_, 1) := by decide +kernel
theorem dX6_init_0 : decode cX6_init 0 = .ok (.aload_n 0, 1) := by decide +kernel
theorem dX6_init_1 : decode cX6_init 1 = .ok (.invokespecial 3, 3) := by decide +kernel
theorem dX6_init_4 : decode cX6_init 4 = .ok (.aload_n 0, 1) := by decide +kernel
theorem dX6_init_5 : decode cX6_init 5 = .ok (.bipush 8, 2) := by decide +kernel
theorem dX6_init_7 : decode cX6_init 7 = .ok (.putfield 9, 3) := by decide +kernel
theorem dX6_init_10 : decode cX6_init 10 = .ok (.aload_n 0, 1) := by decide +kernel
theorem dX6_init_11 : decode cX6_init 11 = .ok (.bipush 16, 2) := by decide +kernel
theorem dX6_init_13 : decode cX6_init 13 = .ok (.putfield 15, 3) := by decide +kernel
theorem dX6_init_16 : decode cX6_init 16 = .ok (.aload_n 0, 1) := by decide +kernel
theorem dX6_init_17 : decode cX6_init 17 = .ok (.bipush 25, 2) := by decide +kernel
theorem dX6_init_19 : decode cX6_init 19 = .ok (.putfield 18, 3) := by decide +kernel
theorem dX6_init_22 : decode cX6_init 22 = .ok (.aload_n 0, 1) := by decide +kernel
theorem dX6_init_23 : decode cX6_init 23 = .ok (.iconst 4, 1) := by decide +kernel
theorem dX6_init_24 : decode cX6_init 24 = .ok (.putfield 21, 3) := by decide +kernel
theorem dX6_init_27 : decode cX6_init 27 = .ok (.aload_n 0, 1) := by decide +kernel
theorem dX6_init_28 : decode cX6_init 28 = .ok (.iconst 4, 1) := by decide +kernel
theorem dX6_init_29 : decode cX6_init 29 = .ok (.putfield 24, 3) := by decide +kernel
theorem dX6_init_32 : decode cX6_init 32 = .ok (.aload_n 0, 1) := by decide +kernel
theorem dX6_init_33 : decode cX6_init 33 = .ok (.bipush 16, 2) := by decide +kernel
theorem dX6_init_35 : decode cX6_init 35 = .ok (.putfield 27, 3) := by decide +kernel
theorem dX6_init_38 : decode cX6_init 38 = .ok (.aload_n 0, 1) := by decide +kernel
theorem dX6_init_39 : decode cX6_init 39 = .ok (.bipush 90, 2) := by decide +kernel
theorem dX6_init_41 : decode cX6_init 41 = .ok (.putfield 30, 3) := by decide +kernel
theorem dX6_init_44 : decode cX6_init 44 = .ok (.aload_n 0, 1) := by decide +kernel
theorem dX6_init_45 : decode cX6_init 45 = .ok (.bipush 8, 2) := by decide +kernel
theorem dX6_init_47 : decode cX6_init 47 = .ok (.putfield 33, 3) := by decide +kernel
theorem dX6_init_50 : decode cX6_init 50 = .ok (.aload_n 0, 1) := by decide +kernel
theorem dX6_init_51 : decode cX6_init 51 = .ok (.iconst 1, 1) := by decide +kernel
theorem dX6_init_52 : decode cX6_init 52 = .ok (.putfield 36, 3) := by decide +kernel
theorem dX6_init_55 : decode cX6_init 55 = .ok (.return_, 1) := by decide +kernel
theorem dX6_copyFrom_0 : decode cX6_copyFrom 0 = .ok (.aload_n 0, 1) := by decide +kernel
theorem dX6_copyFrom_1 : decode cX6_copyFrom 1 = .ok (.aload_n 1, 1) := by decide +kernel
theorem dX6_copyFrom_2 : decode cX6_copyFrom 2 = .ok (.getfield 9, 3) := by decide +kernel
theorem dX6_copyFrom_5 : decode cX6_copyFrom 5 = .ok (.putfield 9, 3) := by decide +kernel
theorem dX6_copyFrom_8 : decode cX6_copyFrom 8 = .ok (.aload_n 0, 1) := by decide +kernel
theorem dX6_copyFrom_9 : decode cX6_copyFrom 9 = .ok (.aload_n 1, 1) := by decide +kernel
theorem dX6_copyFrom_10 : decode cX6_copyFrom 10 = .ok (.getfield 15, 3) := by decide +kernel
theorem dX6_copyFrom_13 : decode cX6_copyFrom 13 = .ok (.putfield 15, 3) := by decide +kernel
theorem dX6_copyFrom_16 : decode cX6_copyFrom 16 = .ok (.aload_n 0, 1) := by decide +kernel
theorem dX6_copyFrom_17 : decode cX6_copyFrom 17 = .ok (.aload_n 1, 1) := by decide +kernel
theorem dX6_copyFrom_18 : decode cX6_copyFrom 18 = .ok (.getfield 18, 3) := by decide +kernel
theorem dX6_copyFrom_21 : decode cX6_copyFrom 21 = .ok (.putfield 18, 3) := by decide +kernel
theorem dX6_copyFrom_24 : decode cX6_copyFrom 24 = .ok (.aload_n 0, 1) := by decide +kernel
theorem dX6_copyFrom_25 : decode cX6_copyFrom 25 = .ok (.aload_n 1, 1) := by decide +kernel
theorem dX6_copyFrom_26 : decode cX6_copyFrom 26 = .ok (.getfield 21, 3) := by decide +kernel
theorem dX6_copyFrom_29 : decode cX6_copyFrom 29 = .ok (.putfield 21, 3) := by decide +kernel
theorem dX6_copyFrom_32 : decode cX6_copyFrom 32 = .ok (.aload_n 0, 1) := by decide +kernel
theorem dX6_copyFrom_33 : decode cX6_copyFrom 33 = .ok (.aload_n 1, 1) := by decide +kernel
theorem dX6_copyFrom_34 : decode cX6_copyFrom 34 = .ok (.getfield 24, 3) := by decide +kernel
theorem dX6_copyFrom_37 : decode cX6_copyFrom 37 = .ok (.putfield 24, 3) := by decide +kernel
theorem dX6_copyFrom_40 : decode cX6_copyFrom 40 = .ok (.aload_n 0, 1) := by decide +kernel
theorem dX6_copyFrom_41 : decode cX6_copyFrom 41 = .ok (.aload_n 1, 1) := by decide +kernel
theorem dX6_copyFrom_42 : decode cX6_copyFrom 42 = .ok (.getfield 27, 3) := by decide +kernel
theorem dX6_copyFrom_45 : decode cX6_copyFrom 45 = .ok (.putfield 27, 3) := by decide +kernel
theorem dX6_copyFrom_48 : decode cX6_copyFrom 48 = .ok (.aload_n 0, 1) := by decide +kernel
theorem dX6_copyFrom_49 : decode cX6_copyFrom 49 = .ok (.aload_n 1, 1) := by decide +kernel
theorem dX6_copyFrom_50 : decode cX6_copyFrom 50 = .ok (.getfield 30, 3) := by decide +kernel
theorem dX6_copyFrom_53 : decode cX6_copyFrom 53 = .ok (.putfield 30, 3) := by decide +kernel
theorem dX6_copyFrom_56 : decode cX6_copyFrom 56 = .ok (.aload_n 0, 1) := by decide +kernel
theorem dX6_copyFrom_57 : decode cX6_copyFrom 57 = .ok (.aload_n 1, 1) := by decide +kernel
theorem dX6_copyFrom_58 : decode cX6_copyFrom 58 = .ok (.getfield 33, 3) := by decide +kernel
theorem dX6_copyFrom_61 : decode cX6_copyFrom 61 = .ok (.putfield 33, 3) := by decide +kernel
theorem dX6_copyFrom_64 : decode cX6_copyFrom 64 = .ok (.aload_n 0, 1) := by decide +kernel
theorem dX6_copyFrom_65 : decode cX6_copyFrom 65 = .ok (.aload_n 1, 1) := by decide +kernel
theorem dX6_copyFrom_66 : decode cX6_copyFrom 66 = .ok (.getfield 36, 3) := by decide +kernel
theorem dX6_copyFrom_69 : decode cX6_copyFrom 69 = .ok (.putfield 36, 3) := by decide +kernel
theorem dX6_copyFrom_72 : decode cX6_copyFrom 72 = .ok (.return_, 1) := by decide +kernel
theorem dX6_waveAt_0 : decode cX6_waveAt 0 = .ok (.iload_n 1, 1) := by decide +kernel
theorem dX6_waveAt_1 : decode cX6_waveAt 1 = .ok (.aload_n 0, 1) := by decide +kernel
theorem dX6_waveAt_2 : decode cX6_waveAt 2 = .ok (.getfield 9, 3) := by decide +kernel
theorem dX6_waveAt_5 : decode cX6_waveAt 5 = .ok (.imul, 1) := by decide +kernel
theorem dX6_waveAt_6 : decode cX6_waveAt 6 = .ok (.iload_n 2, 1) := by decide +kernel
theorem dX6_waveAt_7 : decode cX6_waveAt 7 = .ok (.iadd, 1) := by decide +kernel
theorem dX6_waveAt_8 : decode cX6_waveAt 8 = .ok (.aload_n 0, 1) := by decide +kernel
theorem dX6_waveAt_9 : decode cX6_waveAt 9 = .ok (.getfield 15, 3) := by decide +kernel
theorem dX6_waveAt_12 : decode cX6_waveAt 12 = .ok (.irem, 1) := by decide +kernel
theorem dX6_waveAt_13 : decode cX6_waveAt 13 = .ok (.istore_n 3, 1) := by decide +kernel
theorem dX6_waveAt_14 : decode cX6_waveAt 14 = .ok (.aload_n 0, 1) := by decide +kernel
theorem dX6_waveAt_15 : decode cX6_waveAt 15 = .ok (.getfield 18, 3) := by decide +kernel
theorem dX6_waveAt_18 : decode cX6_waveAt 18 = .ok (.iload_n 3, 1) := by decide +kernel
theorem dX6_waveAt_19 : decode cX6_waveAt 19 = .ok (.imul, 1) := by decide +kernel
theorem dX6_waveAt_20 : decode cX6_waveAt 20 = .ok (.sipush 201, 3) := by decide +kernel
theorem dX6_waveAt_23 : decode cX6_waveAt 23 = .ok (.irem, 1) := by decide +kernel
theorem dX6_waveAt_24 : decode cX6_waveAt 24 = .ok (.bipush 100, 2) := by decide +kernel
theorem dX6_waveAt_26 : decode cX6_waveAt 26 = .ok (.isub, 1) := by decide +kernel
theorem dX6_waveAt_27 : decode cX6_waveAt 27 = .ok (.ireturn, 1) := by decide +kernel
theorem dX6_cells_0 : decode cX6_cells 0 = .ok (.aload_n 0, 1) := by decide +kernel
theorem dX6_cells_1 : decode cX6_cells 1 = .ok (.getfield 21, 3) := by decide +kernel
theorem dX6_cells_4 : decode cX6_cells 4 = .ok (.aload_n 0, 1) := by decide +kernel
theorem dX6_cells_5 : decode cX6_cells 5 = .ok (.getfield 24, 3) := by decide +kernel
theorem dX6_cells_8 : decode cX6_cells 8 = .ok (.imul, 1) := by decide +kernel
theorem dX6_cells_9 : decode cX6_cells 9 = .ok (.ireturn, 1) := by decide +kernel
theorem dX6_hasBlock_0 : decode cX6_hasBlock 0 = .ok (.iload_n 1, 1) := by decide +kernel
theorem dX6_hasBlock_1 : decode cX6_hasBlock 1 = .ok (.ifCond .lt 19, 3) := by decide +kernel
theorem dX6_hasBlock_4 : decode cX6_hasBlock 4 = .ok (.iload_n 1, 1) := by decide +kernel
theorem dX6_hasBlock_5 : decode cX6_hasBlock 5 = .ok (.sipush 999, 3) := by decide +kernel
theorem dX6_hasBlock_8 : decode cX6_hasBlock 8 = .ok (.aload_n 0, 1) := by decide +kernel
theorem dX6_hasBlock_9 : decode cX6_hasBlock 9 = .ok (.invokevirtual 40, 3) := by decide +kernel
theorem dX6_hasBlock_12 : decode cX6_hasBlock 12 = .ok (.idiv, 1) := by decide +kernel
theorem dX6_hasBlock_13 : decode cX6_hasBlock 13 = .ok (.if_icmp .gt 7, 3) := by decide +kernel
theorem dX6_hasBlock_16 : decode cX6_hasBlock 16 = .ok (.iconst 1, 1) := by decide +kernel
theorem dX6_hasBlock_17 : decode cX6_hasBlock 17 = .ok (.goto 4, 3) := by decide +kernel
theorem dX6_hasBlock_20 : decode cX6_hasBlock 20 = .ok (.iconst 0, 1) := by decide +kernel
theorem dX6_hasBlock_21 : decode cX6_hasBlock 21 = .ok (.ireturn, 1) := by decide +kernel
theorem dX6_hasPacket_0 : decode cX6_hasPacket 0 = .ok (.aload_n 0, 1) := by decide +kernel
theorem dX6_hasPacket_1 : decode cX6_hasPacket 1 = .ok (.iload_n 2, 1) := by decide +kernel
theorem dX6_hasPacket_2 : decode cX6_hasPacket 2 = .ok (.invokevirtual 44, 3) := by decide +kernel
theorem dX6_hasPacket_5 : decode cX6_hasPacket 5 = .ok (.ifCond .eq 30, 3) := by decide +kernel
theorem dX6_hasPacket_8 : decode cX6_hasPacket 8 = .ok (.iload_n 3, 1) := by decide +kernel
theorem dX6_hasPacket_9 : decode cX6_hasPacket 9 = .ok (.ifCond .lt 26, 3) := by decide +kernel
theorem dX6_hasPacket_12 : decode cX6_hasPacket 12 = .ok (.iload_n 3, 1) := by decide +kernel
theorem dX6_hasPacket_13 : decode cX6_hasPacket 13 = .ok (.iload_n 1, 1) := by decide +kernel
theorem dX6_hasPacket_14 : decode cX6_hasPacket 14 = .ok (.ifCond .eq 10, 3) := by decide +kernel
theorem dX6_hasPacket_17 : decode cX6_hasPacket 17 = .ok (.aload_n 0, 1) := by decide +kernel
theorem dX6_hasPacket_18 : decode cX6_hasPacket 18 = .ok (.getfield 24, 3) := by decide +kernel
theorem dX6_hasPacket_21 : decode cX6_hasPacket 21 = .ok (.goto 7, 3) := by decide +kernel
theorem dX6_hasPacket_24 : decode cX6_hasPacket 24 = .ok (.aload_n 0, 1) := by decide +kernel
theorem dX6_hasPacket_25 : decode cX6_hasPacket 25 = .ok (.getfield 21, 3) := by decide +kernel
theorem dX6_hasPacket_28 : decode cX6_hasPacket 28 = .ok (.if_icmp .ge 7, 3) := by decide +kernel
theorem dX6_hasPacket_31 : decode cX6_hasPacket 31 = .ok (.iconst 1, 1) := by decide +kernel
theorem dX6_hasPacket_32 : decode cX6_hasPacket 32 = .ok (.goto 4, 3) := by decide +kernel
theorem dX6_hasPacket_35 : decode cX6_hasPacket 35 = .ok (.iconst 0, 1) := by decide +kernel
theorem dX6_hasPacket_36 : decode cX6_hasPacket 36 = .ok (.ireturn, 1) := by decide +kernel
theorem dX6_coveredFrame_0 : decode cX6_coveredFrame 0 = .ok (.iload_n 1, 1) := by decide +kernel
theorem dX6_coveredFrame_1 : decode cX6_coveredFrame 1 = .ok (.ifCond .eq 15, 3) := by decide +kernel
theorem dX6_coveredFrame_4 : decode cX6_coveredFrame 4 = .ok (.iload_n 3, 1) := by decide +kernel
theorem dX6_coveredFrame_5 : decode cX6_coveredFrame 5 = .ok (.aload_n 0, 1) := by decide +kernel
theorem dX6_coveredFrame_6 : decode cX6_coveredFrame 6 = .ok (.getfield 21, 3) := by decide +kernel
theorem dX6_coveredFrame_9 : decode cX6_coveredFrame 9 = .ok (.imul, 1) := by decide +kernel
theorem dX6_coveredFrame_10 : decode cX6_coveredFrame 10 = .ok (.iload 4, 2) := by decide +kernel
theorem dX6_coveredFrame_12 : decode cX6_coveredFrame 12 = .ok (.iadd, 1) := by decide +kernel
theorem dX6_coveredFrame_13 : decode cX6_coveredFrame 13 = .ok (.goto 12, 3) := by decide +kernel
theorem dX6_coveredFrame_16 : decode cX6_coveredFrame 16 = .ok (.iload 4, 2) := by decide +kernel
theorem dX6_coveredFrame_18 : decode cX6_coveredFrame 18 = .ok (.aload_n 0, 1) := by decide +kernel
theorem dX6_coveredFrame_19 : decode cX6_coveredFrame 19 = .ok (.getfield 21, 3) := by decide +kernel
theorem dX6_coveredFrame_22 : decode cX6_coveredFrame 22 = .ok (.imul, 1) := by decide +kernel
theorem dX6_coveredFrame_23 : decode cX6_coveredFrame 23 = .ok (.iload_n 3, 1) := by decide +kernel
theorem dX6_coveredFrame_24 : decode cX6_coveredFrame 24 = .ok (.iadd, 1) := by decide +kernel
theorem dX6_coveredFrame_25 : decode cX6_coveredFrame 25 = .ok (.istore 5, 2) := by decide +kernel
theorem dX6_coveredFrame_27 : decode cX6_coveredFrame 27 = .ok (.iload_n 2, 1) := by decide +kernel
theorem dX6_coveredFrame_28 : decode cX6_coveredFrame 28 = .ok (.aload_n 0, 1) := by decide +kernel
theorem dX6_coveredFrame_29 : decode cX6_coveredFrame 29 = .ok (.invokevirtual 40, 3) := by decide +kernel
theorem dX6_coveredFrame_32 : decode cX6_coveredFrame 32 = .ok (.imul, 1) := by decide +kernel
theorem dX6_coveredFrame_33 : decode cX6_coveredFrame 33 = .ok (.iload 5, 2) := by decide +kernel
theorem dX6_coveredFrame_35 : decode cX6_coveredFrame 35 = .ok (.iadd, 1) := by decide +kernel
theorem dX6_coveredFrame_36 : decode cX6_coveredFrame 36 = .ok (.ireturn, 1) := by decide +kernel
theorem dX7_init_0 : decode cX7_init 0 = .ok (.aload_n 0, 1) := by decide +kernel
theorem dX7_init_1 : decode cX7_init 1 = .ok (.invokespecial 1, 3) := by decide +kernel
theorem dX7_init_4 : decode cX7_init 4 = .ok (.aload_n 0, 1) := by decide +kernel
theorem dX7_init_5 : decode cX7_init 5 = .ok (.bipush 16, 2) := by decide +kernel
theorem dX7_init_7 : decode cX7_init 7 = .ok (.newarray .int, 2) := by decide +kernel
theorem dX7_init_9 : decode cX7_init 9 = .ok (.putfield 9, 3) := by decide +kernel
theorem dX7_init_12 : decode cX7_init 12 = .ok (.aload_n 0, 1) := by decide +kernel
theorem dX7_init_13 : decode cX7_init 13 = .ok (.bipush 16, 2) := by decide +kernel
theorem dX7_init_15 : decode cX7_init 15 = .ok (.newarray .int, 2) := by decide +kernel
theorem dX7_init_17 : decode cX7_init 17 = .ok (.putfield 13, 3) := by decide +kernel
theorem dX7_init_20 : decode cX7_init 20 = .ok (.return_, 1) := by decide +kernel
theorem dX7_copyFrom_0 : decode cX7_copyFrom 0 = .ok (.aload_n 1, 1) := by decide +kernel
theorem dX7_copyFrom_1 : decode cX7_copyFrom 1 = .ok (.getfield 9, 3) := by decide +kernel
theorem dX7_copyFrom_4 : decode cX7_copyFrom 4 = .ok (.iconst 0, 1) := by decide +kernel
theorem dX7_copyFrom_5 : decode cX7_copyFrom 5 = .ok (.aload_n 0, 1) := by decide +kernel
theorem dX7_copyFrom_6 : decode cX7_copyFrom 6 = .ok (.getfield 9, 3) := by decide +kernel
theorem dX7_copyFrom_9 : decode cX7_copyFrom 9 = .ok (.iconst 0, 1) := by decide +kernel
theorem dX7_copyFrom_10 : decode cX7_copyFrom 10 = .ok (.bipush 16, 2) := by decide +kernel
theorem dX7_copyFrom_12 : decode cX7_copyFrom 12 = .ok (.invokestatic 16, 3) := by decide +kernel
theorem dX7_copyFrom_15 : decode cX7_copyFrom 15 = .ok (.aload_n 1, 1) := by decide +kernel
theorem dX7_copyFrom_16 : decode cX7_copyFrom 16 = .ok (.getfield 13, 3) := by decide +kernel
theorem dX7_copyFrom_19 : decode cX7_copyFrom 19 = .ok (.iconst 0, 1) := by decide +kernel
theorem dX7_copyFrom_20 : decode cX7_copyFrom 20 = .ok (.aload_n 0, 1) := by decide +kernel
theorem dX7_copyFrom_21 : decode cX7_copyFrom 21 = .ok (.getfield 13, 3) := by decide +kernel
theorem dX7_copyFrom_24 : decode cX7_copyFrom 24 = .ok (.iconst 0, 1) := by decide +kernel
theorem dX7_copyFrom_25 : decode cX7_copyFrom 25 = .ok (.bipush 16, 2) := by decide +kernel
theorem dX7_copyFrom_27 : decode cX7_copyFrom 27 = .ok (.invokestatic 16, 3) := by decide +kernel
theorem dX7_copyFrom_30 : decode cX7_copyFrom 30 = .ok (.aload_n 0, 1) := by decide +kernel
theorem dX7_copyFrom_31 : decode cX7_copyFrom 31 = .ok (.aload_n 1, 1) := by decide +kernel
theorem dX7_copyFrom_32 : decode cX7_copyFrom 32 = .ok (.getfield 22, 3) := by decide +kernel
theorem dX7_copyFrom_35 : decode cX7_copyFrom 35 = .ok (.putfield 22, 3) := by decide +kernel
theorem dX7_copyFrom_38 : decode cX7_copyFrom 38 = .ok (.aload_n 0, 1) := by decide +kernel
theorem dX7_copyFrom_39 : decode cX7_copyFrom 39 = .ok (.aload_n 1, 1) := by decide +kernel
theorem dX7_copyFrom_40 : decode cX7_copyFrom 40 = .ok (.getfield 26, 3) := by decide +kernel
theorem dX7_copyFrom_43 : decode cX7_copyFrom 43 = .ok (.putfield 26, 3) := by decide +kernel
theorem dX7_copyFrom_46 : decode cX7_copyFrom 46 = .ok (.return_, 1) := by decide +kernel
theorem dX7_add_0 : decode cX7_add 0 = .ok (.aload_n 0, 1) := by decide +kernel
theorem dX7_add_1 : decode cX7_add 1 = .ok (.getfield 9, 3) := by decide +kernel
theorem dX7_add_4 : decode cX7_add 4 = .ok (.aload_n 0, 1) := by decide +kernel
theorem dX7_add_5 : decode cX7_add 5 = .ok (.getfield 26, 3) := by decide +kernel
theorem dX7_add_8 : decode cX7_add 8 = .ok (.iload_n 1, 1) := by decide +kernel
theorem dX7_add_9 : decode cX7_add 9 = .ok (.iastore, 1) := by decide +kernel
theorem dX7_add_10 : decode cX7_add 10 = .ok (.aload_n 0, 1) := by decide +kernel
theorem dX7_add_11 : decode cX7_add 11 = .ok (.aload_n 0, 1) := by decide +kernel
theorem dX7_add_12 : decode cX7_add 12 = .ok (.getfield 26, 3) := by decide +kernel
theorem dX7_add_15 : decode cX7_add 15 = .ok (.iconst 1, 1) := by decide +kernel
theorem dX7_add_16 : decode cX7_add 16 = .ok (.iadd, 1) := by decide +kernel
theorem dX7_add_17 : decode cX7_add 17 = .ok (.bipush 16, 2) := by decide +kernel
theorem dX7_add_19 : decode cX7_add 19 = .ok (.irem, 1) := by decide +kernel
theorem dX7_add_20 : decode cX7_add 20 = .ok (.putfield 26, 3) := by decide +kernel
theorem dX7_add_23 : decode cX7_add 23 = .ok (.aload_n 0, 1) := by decide +kernel
theorem dX7_add_24 : decode cX7_add 24 = .ok (.bipush 16, 2) := by decide +kernel
theorem dX7_add_26 : decode cX7_add 26 = .ok (.aload_n 0, 1) := by decide +kernel
theorem dX7_add_27 : decode cX7_add 27 = .ok (.getfield 22, 3) := by decide +kernel
theorem dX7_add_30 : decode cX7_add 30 = .ok (.iconst 1, 1) := by decide +kernel
theorem dX7_add_31 : decode cX7_add 31 = .ok (.iadd, 1) := by decide +kernel
theorem dX7_add_32 : decode cX7_add 32 = .ok (.invokestatic 29, 3) := by decide +kernel
theorem dX7_add_35 : decode cX7_add 35 = .ok (.putfield 22, 3) := by decide +kernel
theorem dX7_add_38 : decode cX7_add 38 = .ok (.iconst 0, 1) := by decide +kernel
theorem dX7_add_39 : decode cX7_add 39 = .ok (.istore_n 2, 1) := by decide +kernel
theorem dX7_add_40 : decode cX7_add 40 = .ok (.iload_n 2, 1) := by decide +kernel
theorem dX7_add_41 : decode cX7_add 41 = .ok (.aload_n 0, 1) := by decide +kernel
theorem dX7_add_42 : decode cX7_add 42 = .ok (.getfield 22, 3) := by decide +kernel
theorem dX7_add_45 : decode cX7_add 45 = .ok (.if_icmp .ge 20, 3) := by decide +kernel
theorem dX7_add_48 : decode cX7_add 48 = .ok (.aload_n 0, 1) := by decide +kernel
theorem dX7_add_49 : decode cX7_add 49 = .ok (.aload_n 0, 1) := by decide +kernel
theorem dX7_add_50 : decode cX7_add 50 = .ok (.getfield 9, 3) := by decide +kernel
theorem dX7_add_53 : decode cX7_add 53 = .ok (.iload_n 2, 1) := by decide +kernel
theorem dX7_add_54 : decode cX7_add 54 = .ok (.iaload, 1) := by decide +kernel
theorem dX7_add_55 : decode cX7_add 55 = .ok (.iload_n 2, 1) := by decide +kernel
theorem dX7_add_56 : decode cX7_add 56 = .ok (.invokevirtual 35, 3) := by decide +kernel
theorem dX7_add_59 : decode cX7_add 59 = .ok (.iinc 2 1, 3) := by decide +kernel
theorem dX7_add_62 : decode cX7_add 62 = .ok (.goto (-22), 3) := by decide +kernel
theorem dX7_add_65 : decode cX7_add 65 = .ok (.return_, 1) := by decide +kernel
theorem dX7_ascendingAt_0 : decode cX7_ascendingAt 0 = .ok (.aload_n 0, 1) := by decide +kernel
theorem dX7_ascendingAt_1 : decode cX7_ascendingAt 1 = .ok (.getfield 13, 3) := by decide +kernel
theorem dX7_ascendingAt_4 : decode cX7_ascendingAt 4 = .ok (.iload_n 1, 1) := by decide +kernel
theorem dX7_ascendingAt_5 : decode cX7_ascendingAt 5 = .ok (.iaload, 1) := by decide +kernel
theorem dX7_ascendingAt_6 : decode cX7_ascendingAt 6 = .ok (.ireturn, 1) := by decide +kernel
theorem dX7_spread_0 : decode cX7_spread 0 = .ok (.aload_n 0, 1) := by decide +kernel
theorem dX7_spread_1 : decode cX7_spread 1 = .ok (.getfield 22, 3) := by decide +kernel
theorem dX7_spread_4 : decode cX7_spread 4 = .ok (.ifCond .ne 5, 3) := by decide +kernel
theorem dX7_spread_7 : decode cX7_spread 7 = .ok (.iconst 0, 1) := by decide +kernel
theorem dX7_spread_8 : decode cX7_spread 8 = .ok (.ireturn, 1) := by decide +kernel
theorem dX7_spread_9 : decode cX7_spread 9 = .ok (.aload_n 0, 1) := by decide +kernel
theorem dX7_spread_10 : decode cX7_spread 10 = .ok (.getfield 13, 3) := by decide +kernel
theorem dX7_spread_13 : decode cX7_spread 13 = .ok (.iload_n 1, 1) := by decide +kernel
theorem dX7_spread_14 : decode cX7_spread 14 = .ok (.aload_n 0, 1) := by decide +kernel
theorem dX7_spread_15 : decode cX7_spread 15 = .ok (.getfield 22, 3) := by decide +kernel
theorem dX7_spread_18 : decode cX7_spread 18 = .ok (.imul, 1) := by decide +kernel
theorem dX7_spread_19 : decode cX7_spread 19 = .ok (.bipush 99, 2) := by decide +kernel
theorem dX7_spread_21 : decode cX7_spread 21 = .ok (.iadd, 1) := by decide +kernel
theorem dX7_spread_22 : decode cX7_spread 22 = .ok (.bipush 100, 2) := by decide +kernel
theorem dX7_spread_24 : decode cX7_spread 24 = .ok (.idiv, 1) := by decide +kernel
theorem dX7_spread_25 : decode cX7_spread 25 = .ok (.iconst 1, 1) := by decide +kernel
theorem dX7_spread_26 : decode cX7_spread 26 = .ok (.isub, 1) := by decide +kernel
theorem dX7_spread_27 : decode cX7_spread 27 = .ok (.iaload, 1) := by decide +kernel
theorem dX7_spread_28 : decode cX7_spread 28 = .ok (.aload_n 0, 1) := by decide +kernel
theorem dX7_spread_29 : decode cX7_spread 29 = .ok (.getfield 13, 3) := by decide +kernel
theorem dX7_spread_32 : decode cX7_spread 32 = .ok (.iconst 0, 1) := by decide +kernel
theorem dX7_spread_33 : decode cX7_spread 33 = .ok (.iaload, 1) := by decide +kernel
theorem dX7_spread_34 : decode cX7_spread 34 = .ok (.isub, 1) := by decide +kernel
theorem dX7_spread_35 : decode cX7_spread 35 = .ok (.ireturn, 1) := by decide +kernel
theorem dX7_insert_0 : decode cX7_insert 0 = .ok (.iload_n 2, 1) := by decide +kernel
theorem dX7_insert_1 : decode cX7_insert 1 = .ok (.istore_n 3, 1) := by decide +kernel
theorem dX7_insert_2 : decode cX7_insert 2 = .ok (.iload_n 3, 1) := by decide +kernel
theorem dX7_insert_3 : decode cX7_insert 3 = .ok (.ifCond .le 35, 3) := by decide +kernel
theorem dX7_insert_6 : decode cX7_insert 6 = .ok (.aload_n 0, 1) := by decide +kernel
theorem dX7_insert_7 : decode cX7_insert 7 = .ok (.getfield 13, 3) := by decide +kernel
theorem dX7_insert_10 : decode cX7_insert 10 = .ok (.iload_n 3, 1) := by decide +kernel
theorem dX7_insert_11 : decode cX7_insert 11 = .ok (.iconst 1, 1) := by decide +kernel
theorem dX7_insert_12 : decode cX7_insert 12 = .ok (.isub, 1) := by decide +kernel
theorem dX7_insert_13 : decode cX7_insert 13 = .ok (.iaload, 1) := by decide +kernel
theorem dX7_insert_14 : decode cX7_insert 14 = .ok (.iload_n 1, 1) := by decide +kernel
theorem dX7_insert_15 : decode cX7_insert 15 = .ok (.if_icmp .le 23, 3) := by decide +kernel
theorem dX7_insert_18 : decode cX7_insert 18 = .ok (.aload_n 0, 1) := by decide +kernel
theorem dX7_insert_19 : decode cX7_insert 19 = .ok (.getfield 13, 3) := by decide +kernel
theorem dX7_insert_22 : decode cX7_insert 22 = .ok (.iload_n 3, 1) := by decide +kernel
theorem dX7_insert_23 : decode cX7_insert 23 = .ok (.aload_n 0, 1) := by decide +kernel
theorem dX7_insert_24 : decode cX7_insert 24 = .ok (.getfield 13, 3) := by decide +kernel
theorem dX7_insert_27 : decode cX7_insert 27 = .ok (.iload_n 3, 1) := by decide +kernel
theorem dX7_insert_28 : decode cX7_insert 28 = .ok (.iconst 1, 1) := by decide +kernel
theorem dX7_insert_29 : decode cX7_insert 29 = .ok (.isub, 1) := by decide +kernel
theorem dX7_insert_30 : decode cX7_insert 30 = .ok (.iaload, 1) := by decide +kernel
theorem dX7_insert_31 : decode cX7_insert 31 = .ok (.iastore, 1) := by decide +kernel
theorem dX7_insert_32 : decode cX7_insert 32 = .ok (.iinc 3 (-1), 3) := by decide +kernel
theorem dX7_insert_35 : decode cX7_insert 35 = .ok (.goto (-33), 3) := by decide +kernel
theorem dX7_insert_38 : decode cX7_insert 38 = .ok (.aload_n 0, 1) := by decide +kernel
theorem dX7_insert_39 : decode cX7_insert 39 = .ok (.getfield 13, 3) := by decide +kernel
theorem dX7_insert_42 : decode cX7_insert 42 = .ok (.iload_n 3, 1) := by decide +kernel
theorem dX7_insert_43 : decode cX7_insert 43 = .ok (.iload_n 1, 1) := by decide +kernel
theorem dX7_insert_44 : decode cX7_insert 44 = .ok (.iastore, 1) := by decide +kernel
theorem dX7_insert_45 : decode cX7_insert 45 = .ok (.return_, 1) := by decide +kernel
theorem dX8_init_0 : decode cX8_init 0 = .ok (.aload_n 0, 1) := by decide +kernel
theorem dX8_init_1 : decode cX8_init 1 = .ok (.invokespecial 1, 3) := by decide +kernel
theorem dX8_init_4 : decode cX8_init 4 = .ok (.aload_n 0, 1) := by decide +kernel
theorem dX8_init_5 : decode cX8_init 5 = .ok (.new 7, 3) := by decide +kernel
theorem dX8_init_8 : decode cX8_init 8 = .ok (.dup, 1) := by decide +kernel
theorem dX8_init_9 : decode cX8_init 9 = .ok (.invokespecial 9, 3) := by decide +kernel
theorem dX8_init_12 : decode cX8_init 12 = .ok (.putfield 10, 3) := by decide +kernel
theorem dX8_init_15 : decode cX8_init 15 = .ok (.aload_n 0, 1) := by decide +kernel
theorem dX8_init_16 : decode cX8_init 16 = .ok (.new 7, 3) := by decide +kernel
theorem dX8_init_19 : decode cX8_init 19 = .ok (.dup, 1) := by decide +kernel
theorem dX8_init_20 : decode cX8_init 20 = .ok (.invokespecial 9, 3) := by decide +kernel
theorem dX8_init_23 : decode cX8_init 23 = .ok (.putfield 16, 3) := by decide +kernel
theorem dX8_init_26 : decode cX8_init 26 = .ok (.aload_n 0, 1) := by decide +kernel
theorem dX8_init_27 : decode cX8_init 27 = .ok (.iconst 2, 1) := by decide +kernel
theorem dX8_init_28 : decode cX8_init 28 = .ok (.anewarray 7, 3) := by decide +kernel
theorem dX8_init_31 : decode cX8_init 31 = .ok (.putfield 19, 3) := by decide +kernel
theorem dX8_init_34 : decode cX8_init 34 = .ok (.aload_n 0, 1) := by decide +kernel
theorem dX8_init_35 : decode cX8_init 35 = .ok (.new 23, 3) := by decide +kernel
theorem dX8_init_38 : decode cX8_init 38 = .ok (.dup, 1) := by decide +kernel
theorem dX8_init_39 : decode cX8_init 39 = .ok (.invokespecial 25, 3) := by decide +kernel
theorem dX8_init_42 : decode cX8_init 42 = .ok (.putfield 26, 3) := by decide +kernel
theorem dX8_init_45 : decode cX8_init 45 = .ok (.aload_n 0, 1) := by decide +kernel
theorem dX8_init_46 : decode cX8_init 46 = .ok (.new 30, 3) := by decide +kernel
theorem dX8_init_49 : decode cX8_init 49 = .ok (.dup, 1) := by decide +kernel
theorem dX8_init_50 : decode cX8_init 50 = .ok (.invokespecial 32, 3) := by decide +kernel
theorem dX8_init_53 : decode cX8_init 53 = .ok (.putfield 33, 3) := by decide +kernel
theorem dX8_init_56 : decode cX8_init 56 = .ok (.return_, 1) := by decide +kernel
theorem dX8_setFrame_0 : decode cX8_setFrame 0 = .ok (.iload_n 1, 1) := by decide +kernel
theorem dX8_setFrame_1 : decode cX8_setFrame 1 = .ok (.iconst 4, 1) := by decide +kernel
theorem dX8_setFrame_2 : decode cX8_setFrame 2 = .ok (.if_icmp .lt 9, 3) := by decide +kernel
theorem dX8_setFrame_5 : decode cX8_setFrame 5 = .ok (.iload_n 1, 1) := by decide +kernel
theorem dX8_setFrame_6 : decode cX8_setFrame 6 = .ok (.bipush 16, 2) := by decide +kernel
theorem dX8_setFrame_8 : decode cX8_setFrame 8 = .ok (.if_icmp .le 7, 3) := by decide +kernel
theorem dX8_setFrame_11 : decode cX8_setFrame 11 = .ok (.sipush (-1001), 3) := by decide +kernel
theorem dX8_setFrame_14 : decode cX8_setFrame 14 = .ok (.ireturn, 1) := by decide +kernel
theorem dX8_setFrame_15 : decode cX8_setFrame 15 = .ok (.aload_n 0, 1) := by decide +kernel
theorem dX8_setFrame_16 : decode cX8_setFrame 16 = .ok (.getfield 10, 3) := by decide +kernel
theorem dX8_setFrame_19 : decode cX8_setFrame 19 = .ok (.invokevirtual 39, 3) := by decide +kernel
theorem dX8_setFrame_22 : decode cX8_setFrame 22 = .ok (.ifCond .eq 7, 3) := by decide +kernel
theorem dX8_setFrame_25 : decode cX8_setFrame 25 = .ok (.sipush (-1003), 3) := by decide +kernel
theorem dX8_setFrame_28 : decode cX8_setFrame 28 = .ok (.ireturn, 1) := by decide +kernel
theorem dX8_setFrame_29 : decode cX8_setFrame 29 = .ok (.aload_n 0, 1) := by decide +kernel
theorem dX8_setFrame_30 : decode cX8_setFrame 30 = .ok (.getfield 10, 3) := by decide +kernel
theorem dX8_setFrame_33 : decode cX8_setFrame 33 = .ok (.getfield 43, 3) := by decide +kernel
theorem dX8_setFrame_36 : decode cX8_setFrame 36 = .ok (.getfield 47, 3) := by decide +kernel
theorem dX8_setFrame_39 : decode cX8_setFrame 39 = .ok (.istore_n 2, 1) := by decide +kernel
theorem dX8_setFrame_40 : decode cX8_setFrame 40 = .ok (.aload_n 0, 1) := by decide +kernel
theorem dX8_setFrame_41 : decode cX8_setFrame 41 = .ok (.getfield 10, 3) := by decide +kernel
theorem dX8_setFrame_44 : decode cX8_setFrame 44 = .ok (.getfield 43, 3) := by decide +kernel
theorem dX8_setFrame_47 : decode cX8_setFrame 47 = .ok (.iload_n 1, 1) := by decide +kernel
theorem dX8_setFrame_48 : decode cX8_setFrame 48 = .ok (.putfield 47, 3) := by decide +kernel
theorem dX8_setFrame_51 : decode cX8_setFrame 51 = .ok (.iload_n 2, 1) := by decide +kernel
theorem dX8_setFrame_52 : decode cX8_setFrame 52 = .ok (.ireturn, 1) := by decide +kernel
theorem dX8_setWave_0 : decode cX8_setWave 0 = .ok (.iload_n 1, 1) := by decide +kernel
theorem dX8_setWave_1 : decode cX8_setWave 1 = .ok (.iconst 2, 1) := by decide +kernel
theorem dX8_setWave_2 : decode cX8_setWave 2 = .ok (.if_icmp .lt 21, 3) := by decide +kernel
theorem dX8_setWave_5 : decode cX8_setWave 5 = .ok (.iload_n 1, 1) := by decide +kernel
theorem dX8_setWave_6 : decode cX8_setWave 6 = .ok (.bipush 32, 2) := by decide +kernel
theorem dX8_setWave_8 : decode cX8_setWave 8 = .ok (.if_icmp .gt 15, 3) := by decide +kernel
theorem dX8_setWave_11 : decode cX8_setWave 11 = .ok (.iload_n 2, 1) := by decide +kernel
theorem dX8_setWave_12 : decode cX8_setWave 12 = .ok (.iconst 1, 1) := by decide +kernel
theorem dX8_setWave_13 : decode cX8_setWave 13 = .ok (.if_icmp .lt 10, 3) := by decide +kernel
theorem dX8_setWave_16 : decode cX8_setWave 16 = .ok (.iload_n 2, 1) := by decide +kernel
theorem dX8_setWave_17 : decode cX8_setWave 17 = .ok (.sipush 200, 3) := by decide +kernel
theorem dX8_setWave_20 : decode cX8_setWave 20 = .ok (.if_icmp .le 7, 3) := by decide +kernel
theorem dX8_setWave_23 : decode cX8_setWave 23 = .ok (.sipush (-1001), 3) := by decide +kernel
theorem dX8_setWave_26 : decode cX8_setWave 26 = .ok (.ireturn, 1) := by decide +kernel
theorem dX8_setWave_27 : decode cX8_setWave 27 = .ok (.aload_n 0, 1) := by decide +kernel
theorem dX8_setWave_28 : decode cX8_setWave 28 = .ok (.getfield 10, 3) := by decide +kernel
theorem dX8_setWave_31 : decode cX8_setWave 31 = .ok (.invokevirtual 39, 3) := by decide +kernel
theorem dX8_setWave_34 : decode cX8_setWave 34 = .ok (.ifCond .eq 7, 3) := by decide +kernel
theorem dX8_setWave_37 : decode cX8_setWave 37 = .ok (.sipush (-1003), 3) := by decide +kernel
theorem dX8_setWave_40 : decode cX8_setWave 40 = .ok (.ireturn, 1) := by decide +kernel
theorem dX8_setWave_41 : decode cX8_setWave 41 = .ok (.sipush 1000, 3) := by decide +kernel
theorem dX8_setWave_44 : decode cX8_setWave 44 = .ok (.aload_n 0, 1) := by decide +kernel
theorem dX8_setWave_45 : decode cX8_setWave 45 = .ok (.getfield 10, 3) := by decide +kernel
theorem dX8_setWave_48 : decode cX8_setWave 48 = .ok (.getfield 43, 3) := by decide +kernel
theorem dX8_setWave_51 : decode cX8_setWave 51 = .ok (.getfield 51, 3) := by decide +kernel
theorem dX8_setWave_54 : decode cX8_setWave 54 = .ok (.imul, 1) := by decide +kernel
theorem dX8_setWave_55 : decode cX8_setWave 55 = .ok (.aload_n 0, 1) := by decide +kernel
theorem dX8_setWave_56 : decode cX8_setWave 56 = .ok (.getfield 10, 3) := by decide +kernel
theorem dX8_setWave_59 : decode cX8_setWave 59 = .ok (.getfield 43, 3) := by decide +kernel
theorem dX8_setWave_62 : decode cX8_setWave 62 = .ok (.getfield 54, 3) := by decide +kernel
theorem dX8_setWave_65 : decode cX8_setWave 65 = .ok (.iadd, 1) := by decide +kernel
theorem dX8_setWave_66 : decode cX8_setWave 66 = .ok (.istore_n 3, 1) := by decide +kernel
theorem dX8_setWave_67 : decode cX8_setWave 67 = .ok (.aload_n 0, 1) := by decide +kernel
theorem dX8_setWave_68 : decode cX8_setWave 68 = .ok (.getfield 10, 3) := by decide +kernel
theorem dX8_setWave_71 : decode cX8_setWave 71 = .ok (.getfield 43, 3) := by decide +kernel
theorem dX8_setWave_74 : decode cX8_setWave 74 = .ok (.iload_n 1, 1) := by decide +kernel
theorem dX8_setWave_75 : decode cX8_setWave 75 = .ok (.putfield 51, 3) := by decide +kernel
theorem dX8_setWave_78 : decode cX8_setWave 78 = .ok (.aload_n 0, 1) := by decide +kernel
theorem dX8_setWave_79 : decode cX8_setWave 79 = .ok (.getfield 10, 3) := by decide +kernel
theorem dX8_setWave_82 : decode cX8_setWave 82 = .ok (.getfield 43, 3) := by decide +kernel
theorem dX8_setWave_85 : decode cX8_setWave 85 = .ok (.iload_n 2, 1) := by decide +kernel
theorem dX8_setWave_86 : decode cX8_setWave 86 = .ok (.putfield 54, 3) := by decide +kernel
theorem dX8_setWave_89 : decode cX8_setWave 89 = .ok (.iload_n 3, 1) := by decide +kernel
theorem dX8_setWave_90 : decode cX8_setWave 90 = .ok (.ireturn, 1) := by decide +kernel
theorem dX8_setBlock_0 : decode cX8_setBlock 0 = .ok (.iload_n 1, 1) := by decide +kernel
theorem dX8_setBlock_1 : decode cX8_setBlock 1 = .ok (.iconst 2, 1) := by decide +kernel
theorem dX8_setBlock_2 : decode cX8_setBlock 2 = .ok (.if_icmp .lt 20, 3) := by decide +kernel
theorem dX8_setBlock_5 : decode cX8_setBlock 5 = .ok (.iload_n 1, 1) := by decide +kernel
theorem dX8_setBlock_6 : decode cX8_setBlock 6 = .ok (.bipush 6, 2) := by decide +kernel
theorem dX8_setBlock_8 : decode cX8_setBlock 8 = .ok (.if_icmp .gt 14, 3) := by decide +kernel
theorem dX8_setBlock_11 : decode cX8_setBlock 11 = .ok (.iload_n 2, 1) := by decide +kernel
theorem dX8_setBlock_12 : decode cX8_setBlock 12 = .ok (.iconst 2, 1) := by decide +kernel
theorem dX8_setBlock_13 : decode cX8_setBlock 13 = .ok (.if_icmp .lt 9, 3) := by decide +kernel
theorem dX8_setBlock_16 : decode cX8_setBlock 16 = .ok (.iload_n 2, 1) := by decide +kernel
theorem dX8_setBlock_17 : decode cX8_setBlock 17 = .ok (.bipush 6, 2) := by decide +kernel
theorem dX8_setBlock_19 : decode cX8_setBlock 19 = .ok (.if_icmp .le 7, 3) := by decide +kernel
theorem dX8_setBlock_22 : decode cX8_setBlock 22 = .ok (.sipush (-1001), 3) := by decide +kernel
theorem dX8_setBlock_25 : decode cX8_setBlock 25 = .ok (.ireturn, 1) := by decide +kernel
theorem dX8_setBlock_26 : decode cX8_setBlock 26 = .ok (.aload_n 0, 1) := by decide +kernel
theorem dX8_setBlock_27 : decode cX8_setBlock 27 = .ok (.getfield 10, 3) := by decide +kernel
theorem dX8_setBlock_30 : decode cX8_setBlock 30 = .ok (.invokevirtual 39, 3) := by decide +kernel
theorem dX8_setBlock_33 : decode cX8_setBlock 33 = .ok (.ifCond .eq 7, 3) := by decide +kernel
theorem dX8_setBlock_36 : decode cX8_setBlock 36 = .ok (.sipush (-1003), 3) := by decide +kernel
theorem dX8_setBlock_39 : decode cX8_setBlock 39 = .ok (.ireturn, 1) := by decide +kernel
theorem dX8_setBlock_40 : decode cX8_setBlock 40 = .ok (.bipush 10, 2) := by decide +kernel
theorem dX8_setBlock_42 : decode cX8_setBlock 42 = .ok (.aload_n 0, 1) := by decide +kernel
theorem dX8_setBlock_43 : decode cX8_setBlock 43 = .ok (.getfield 10, 3) := by decide +kernel
theorem dX8_setBlock_46 : decode cX8_setBlock 46 = .ok (.getfield 43, 3) := by decide +kernel
theorem dX8_setBlock_49 : decode cX8_setBlock 49 = .ok (.getfield 57, 3) := by decide +kernel
theorem dX8_setBlock_52 : decode cX8_setBlock 52 = .ok (.imul, 1) := by decide +kernel
theorem dX8_setBlock_53 : decode cX8_setBlock 53 = .ok (.aload_n 0, 1) := by decide +kernel
theorem dX8_setBlock_54 : decode cX8_setBlock 54 = .ok (.getfield 10, 3) := by decide +kernel
theorem dX8_setBlock_57 : decode cX8_setBlock 57 = .ok (.getfield 43, 3) := by decide +kernel
theorem dX8_setBlock_60 : decode cX8_setBlock 60 = .ok (.getfield 60, 3) := by decide +kernel
theorem dX8_setBlock_63 : decode cX8_setBlock 63 = .ok (.iadd, 1) := by decide +kernel
theorem dX8_setBlock_64 : decode cX8_setBlock 64 = .ok (.istore_n 3, 1) := by decide +kernel
theorem dX8_setBlock_65 : decode cX8_setBlock 65 = .ok (.aload_n 0, 1) := by decide +kernel
theorem dX8_setBlock_66 : decode cX8_setBlock 66 = .ok (.getfield 10, 3) := by decide +kernel
theorem dX8_setBlock_69 : decode cX8_setBlock 69 = .ok (.getfield 43, 3) := by decide +kernel
theorem dX8_setBlock_72 : decode cX8_setBlock 72 = .ok (.iload_n 1, 1) := by decide +kernel
theorem dX8_setBlock_73 : decode cX8_setBlock 73 = .ok (.putfield 57, 3) := by decide +kernel
theorem dX8_setBlock_76 : decode cX8_setBlock 76 = .ok (.aload_n 0, 1) := by decide +kernel
theorem dX8_setBlock_77 : decode cX8_setBlock 77 = .ok (.getfield 10, 3) := by decide +kernel
theorem dX8_setBlock_80 : decode cX8_setBlock 80 = .ok (.getfield 43, 3) := by decide +kernel
theorem dX8_setBlock_83 : decode cX8_setBlock 83 = .ok (.iload_n 2, 1) := by decide +kernel
theorem dX8_setBlock_84 : decode cX8_setBlock 84 = .ok (.putfield 60, 3) := by decide +kernel
theorem dX8_setBlock_87 : decode cX8_setBlock 87 = .ok (.iload_n 3, 1) := by decide +kernel
theorem dX8_setBlock_88 : decode cX8_setBlock 88 = .ok (.ireturn, 1) := by decide +kernel
theorem dX8_setInitialDelay_0 : decode cX8_setInitialDelay 0 = .ok (.iload_n 1, 1) := by decide +kernel
theorem dX8_setInitialDelay_1 : decode cX8_setInitialDelay 1 = .ok (.ifCond .lt 10, 3) := by decide +kernel
theorem dX8_setInitialDelay_4 : decode cX8_setInitialDelay 4 = .ok (.iload_n 1, 1) := by decide +kernel
theorem dX8_setInitialDelay_5 : decode cX8_setInitialDelay 5 = .ok (.sipush 200, 3) := by decide +kernel
theorem dX8_setInitialDelay_8 : decode cX8_setInitialDelay 8 = .ok (.if_icmp .le 7, 3) := by decide +kernel
theorem dX8_setInitialDelay_11 : decode cX8_setInitialDelay 11 = .ok (.sipush (-1001), 3) := by decide +kernel
theorem dX8_setInitialDelay_14 : decode cX8_setInitialDelay 14 = .ok (.ireturn, 1) := by decide +kernel
theorem dX8_setInitialDelay_15 : decode cX8_setInitialDelay 15 = .ok (.aload_n 0, 1) := by decide +kernel
theorem dX8_setInitialDelay_16 : decode cX8_setInitialDelay 16 = .ok (.getfield 10, 3) := by decide +kernel
theorem dX8_setInitialDelay_19 : decode cX8_setInitialDelay 19 = .ok (.invokevirtual 39, 3) := by decide +kernel
theorem dX8_setInitialDelay_22 : decode cX8_setInitialDelay 22 = .ok (.ifCond .eq 7, 3) := by decide +kernel
theorem dX8_setInitialDelay_25 : decode cX8_setInitialDelay 25 = .ok (.sipush (-1003), 3) := by decide +kernel
theorem dX8_setInitialDelay_28 : decode cX8_setInitialDelay 28 = .ok (.ireturn, 1) := by decide +kernel
theorem dX8_setInitialDelay_29 : decode cX8_setInitialDelay 29 = .ok (.aload_n 0, 1) := by decide +kernel
theorem dX8_setInitialDelay_30 : decode cX8_setInitialDelay 30 = .ok (.getfield 10, 3) := by decide +kernel
theorem dX8_setInitialDelay_33 : decode cX8_setInitialDelay 33 = .ok (.getfield 43, 3) := by decide +kernel
theorem dX8_setInitialDelay_36 : decode cX8_setInitialDelay 36 = .ok (.getfield 63, 3) := by decide +kernel
theorem dX8_setInitialDelay_39 : decode cX8_setInitialDelay 39 = .ok (.istore_n 2, 1) := by decide +kernel
theorem dX8_setInitialDelay_40 : decode cX8_setInitialDelay 40 = .ok (.aload_n 0, 1) := by decide +kernel
theorem dX8_setInitialDelay_41 : decode cX8_setInitialDelay 41 = .ok (.getfield 10, 3) := by decide +kernel
theorem dX8_setInitialDelay_44 : decode cX8_setInitialDelay 44 = .ok (.getfield 43, 3) := by decide +kernel
theorem dX8_setInitialDelay_47 : decode cX8_setInitialDelay 47 = .ok (.iload_n 1, 1) := by decide +kernel
theorem dX8_setInitialDelay_48 : decode cX8_setInitialDelay 48 = .ok (.putfield 63, 3) := by decide +kernel
theorem dX8_setInitialDelay_51 : decode cX8_setInitialDelay 51 = .ok (.iload_n 2, 1) := by decide +kernel
theorem dX8_setInitialDelay_52 : decode cX8_setInitialDelay 52 = .ok (.ireturn, 1) := by decide +kernel
theorem dX8_setQuantile_0 : decode cX8_setQuantile 0 = .ok (.iload_n 1, 1) := by decide +kernel
theorem dX8_setQuantile_1 : decode cX8_setQuantile 1 = .ok (.iconst 1, 1) := by decide +kernel
theorem dX8_setQuantile_2 : decode cX8_setQuantile 2 = .ok (.if_icmp .lt 9, 3) := by decide +kernel
theorem dX8_setQuantile_5 : decode cX8_setQuantile 5 = .ok (.iload_n 1, 1) := by decide +kernel
theorem dX8_setQuantile_6 : decode cX8_setQuantile 6 = .ok (.bipush 100, 2) := by decide +kernel
theorem dX8_setQuantile_8 : decode cX8_setQuantile 8 = .ok (.if_icmp .le 7, 3) := by decide +kernel
theorem dX8_setQuantile_11 : decode cX8_setQuantile 11 = .ok (.sipush (-1001), 3) := by decide +kernel
theorem dX8_setQuantile_14 : decode cX8_setQuantile 14 = .ok (.ireturn, 1) := by decide +kernel
theorem dX8_setQuantile_15 : decode cX8_setQuantile 15 = .ok (.aload_n 0, 1) := by decide +kernel
theorem dX8_setQuantile_16 : decode cX8_setQuantile 16 = .ok (.getfield 10, 3) := by decide +kernel
theorem dX8_setQuantile_19 : decode cX8_setQuantile 19 = .ok (.getfield 43, 3) := by decide +kernel
theorem dX8_setQuantile_22 : decode cX8_setQuantile 22 = .ok (.getfield 66, 3) := by decide +kernel
theorem dX8_setQuantile_25 : decode cX8_setQuantile 25 = .ok (.istore_n 2, 1) := by decide +kernel
theorem dX8_setQuantile_26 : decode cX8_setQuantile 26 = .ok (.aload_n 0, 1) := by decide +kernel
theorem dX8_setQuantile_27 : decode cX8_setQuantile 27 = .ok (.getfield 10, 3) := by decide +kernel
theorem dX8_setQuantile_30 : decode cX8_setQuantile 30 = .ok (.getfield 43, 3) := by decide +kernel
theorem dX8_setQuantile_33 : decode cX8_setQuantile 33 = .ok (.iload_n 1, 1) := by decide +kernel
theorem dX8_setQuantile_34 : decode cX8_setQuantile 34 = .ok (.putfield 66, 3) := by decide +kernel
theorem dX8_setQuantile_37 : decode cX8_setQuantile 37 = .ok (.iload_n 2, 1) := by decide +kernel
theorem dX8_setQuantile_38 : decode cX8_setQuantile 38 = .ok (.ireturn, 1) := by decide +kernel
theorem dX8_setMargin_0 : decode cX8_setMargin 0 = .ok (.iload_n 1, 1) := by decide +kernel
theorem dX8_setMargin_1 : decode cX8_setMargin 1 = .ok (.ifCond .lt 9, 3) := by decide +kernel
theorem dX8_setMargin_4 : decode cX8_setMargin 4 = .ok (.iload_n 1, 1) := by decide +kernel
theorem dX8_setMargin_5 : decode cX8_setMargin 5 = .ok (.bipush 100, 2) := by decide +kernel
theorem dX8_setMargin_7 : decode cX8_setMargin 7 = .ok (.if_icmp .le 7, 3) := by decide +kernel
theorem dX8_setMargin_10 : decode cX8_setMargin 10 = .ok (.sipush (-1001), 3) := by decide +kernel
theorem dX8_setMargin_13 : decode cX8_setMargin 13 = .ok (.ireturn, 1) := by decide +kernel
theorem dX8_setMargin_14 : decode cX8_setMargin 14 = .ok (.aload_n 0, 1) := by decide +kernel
theorem dX8_setMargin_15 : decode cX8_setMargin 15 = .ok (.getfield 10, 3) := by decide +kernel
theorem dX8_setMargin_18 : decode cX8_setMargin 18 = .ok (.getfield 43, 3) := by decide +kernel
theorem dX8_setMargin_21 : decode cX8_setMargin 21 = .ok (.getfield 69, 3) := by decide +kernel
theorem dX8_setMargin_24 : decode cX8_setMargin 24 = .ok (.istore_n 2, 1) := by decide +kernel
theorem dX8_setMargin_25 : decode cX8_setMargin 25 = .ok (.aload_n 0, 1) := by decide +kernel
theorem dX8_setMargin_26 : decode cX8_setMargin 26 = .ok (.getfield 10, 3) := by decide +kernel
theorem dX8_setMargin_29 : decode cX8_setMargin 29 = .ok (.getfield 43, 3) := by decide +kernel
theorem dX8_setMargin_32 : decode cX8_setMargin 32 = .ok (.iload_n 1, 1) := by decide +kernel
theorem dX8_setMargin_33 : decode cX8_setMargin 33 = .ok (.putfield 69, 3) := by decide +kernel
theorem dX8_setMargin_36 : decode cX8_setMargin 36 = .ok (.iload_n 2, 1) := by decide +kernel
theorem dX8_setMargin_37 : decode cX8_setMargin 37 = .ok (.ireturn, 1) := by decide +kernel
theorem dX8_setAdapting_0 : decode cX8_setAdapting 0 = .ok (.aload_n 0, 1) := by decide +kernel
theorem dX8_setAdapting_1 : decode cX8_setAdapting 1 = .ok (.getfield 10, 3) := by decide +kernel
theorem dX8_setAdapting_4 : decode cX8_setAdapting 4 = .ok (.getfield 43, 3) := by decide +kernel
theorem dX8_setAdapting_7 : decode cX8_setAdapting 7 = .ok (.getfield 72, 3) := by decide +kernel
theorem dX8_setAdapting_10 : decode cX8_setAdapting 10 = .ok (.ifCond .eq 7, 3) := by decide +kernel
theorem dX8_setAdapting_13 : decode cX8_setAdapting 13 = .ok (.iconst 1, 1) := by decide +kernel
theorem dX8_setAdapting_14 : decode cX8_setAdapting 14 = .ok (.goto 4, 3) := by decide +kernel
theorem dX8_setAdapting_17 : decode cX8_setAdapting 17 = .ok (.iconst 0, 1) := by decide +kernel
theorem dX8_setAdapting_18 : decode cX8_setAdapting 18 = .ok (.istore_n 2, 1) := by decide +kernel
theorem dX8_setAdapting_19 : decode cX8_setAdapting 19 = .ok (.aload_n 0, 1) := by decide +kernel
theorem dX8_setAdapting_20 : decode cX8_setAdapting 20 = .ok (.getfield 10, 3) := by decide +kernel
theorem dX8_setAdapting_23 : decode cX8_setAdapting 23 = .ok (.getfield 43, 3) := by decide +kernel
theorem dX8_setAdapting_26 : decode cX8_setAdapting 26 = .ok (.iload_n 1, 1) := by decide +kernel
theorem dX8_setAdapting_27 : decode cX8_setAdapting 27 = .ok (.putfield 72, 3) := by decide +kernel
theorem dX8_setAdapting_30 : decode cX8_setAdapting 30 = .ok (.iload_n 2, 1) := by decide +kernel
theorem dX8_setAdapting_31 : decode cX8_setAdapting 31 = .ok (.ireturn, 1) := by decide +kernel
theorem dX8_arrive_0 : decode cX8_arrive 0 = .ok (.iload_n 1, 1) := by decide +kernel
theorem dX8_arrive_1 : decode cX8_arrive 1 = .ok (.invokestatic 76, 3) := by decide +kernel
theorem dX8_arrive_4 : decode cX8_arrive 4 = .ok (.ifCond .ne 7, 3) := by decide +kernel
theorem dX8_arrive_7 : decode cX8_arrive 7 = .ok (.sipush (-1001), 3) := by decide +kernel
theorem dX8_arrive_10 : decode cX8_arrive 10 = .ok (.ireturn, 1) := by decide +kernel
theorem dX8_arrive_11 : decode cX8_arrive 11 = .ok (.aload_n 0, 1) := by decide +kernel
theorem dX8_arrive_12 : decode cX8_arrive 12 = .ok (.getfield 10, 3) := by decide +kernel
theorem dX8_arrive_15 : decode cX8_arrive 15 = .ok (.iload_n 1, 1) := by decide +kernel
theorem dX8_arrive_16 : decode cX8_arrive 16 = .ok (.invokevirtual 80, 3) := by decide +kernel
theorem dX8_arrive_19 : decode cX8_arrive 19 = .ok (.ireturn, 1) := by decide +kernel
theorem dX8_arriveParity_0 : decode cX8_arriveParity 0 = .ok (.aload_n 0, 1) := by decide +kernel
theorem dX8_arriveParity_1 : decode cX8_arriveParity 1 = .ok (.getfield 10, 3) := by decide +kernel
theorem dX8_arriveParity_4 : decode cX8_arriveParity 4 = .ok (.getfield 43, 3) := by decide +kernel
theorem dX8_arriveParity_7 : decode cX8_arriveParity 7 = .ok (.iload_n 1, 1) := by decide +kernel
theorem dX8_arriveParity_8 : decode cX8_arriveParity 8 = .ok (.iload_n 2, 1) := by decide +kernel
theorem dX8_arriveParity_9 : decode cX8_arriveParity 9 = .ok (.iload_n 3, 1) := by decide +kernel
theorem dX8_arriveParity_10 : decode cX8_arriveParity 10 = .ok (.invokevirtual 84, 3) := by decide +kernel
theorem dX8_arriveParity_13 : decode cX8_arriveParity 13 = .ok (.ifCond .ne 7, 3) := by decide +kernel
theorem dX8_arriveParity_16 : decode cX8_arriveParity 16 = .ok (.sipush (-1001), 3) := by decide +kernel
theorem dX8_arriveParity_19 : decode cX8_arriveParity 19 = .ok (.ireturn, 1) := by decide +kernel
theorem dX8_arriveParity_20 : decode cX8_arriveParity 20 = .ok (.aload_n 0, 1) := by decide +kernel
theorem dX8_arriveParity_21 : decode cX8_arriveParity 21 = .ok (.getfield 10, 3) := by decide +kernel
theorem dX8_arriveParity_24 : decode cX8_arriveParity 24 = .ok (.iload_n 1, 1) := by decide +kernel
theorem dX8_arriveParity_25 : decode cX8_arriveParity 25 = .ok (.iload_n 2, 1) := by decide +kernel
theorem dX8_arriveParity_26 : decode cX8_arriveParity 26 = .ok (.iload_n 3, 1) := by decide +kernel
theorem dX8_arriveParity_27 : decode cX8_arriveParity 27 = .ok (.invokevirtual 88, 3) := by decide +kernel
theorem dX8_arriveParity_30 : decode cX8_arriveParity 30 = .ok (.ireturn, 1) := by decide +kernel
theorem dX8_advance_0 : decode cX8_advance 0 = .ok (.iload_n 1, 1) := by decide +kernel
theorem dX8_advance_1 : decode cX8_advance 1 = .ok (.iconst 1, 1) := by decide +kernel
theorem dX8_advance_2 : decode cX8_advance 2 = .ok (.if_icmp .lt 10, 3) := by decide +kernel
theorem dX8_advance_5 : decode cX8_advance 5 = .ok (.iload_n 1, 1) := by decide +kernel
theorem dX8_advance_6 : decode cX8_advance 6 = .ok (.sipush 500, 3) := by decide +kernel
theorem dX8_advance_9 : decode cX8_advance 9 = .ok (.if_icmp .le 7, 3) := by decide +kernel
theorem dX8_advance_12 : decode cX8_advance 12 = .ok (.sipush (-1001), 3) := by decide +kernel
theorem dX8_advance_15 : decode cX8_advance 15 = .ok (.ireturn, 1) := by decide +kernel
theorem dX8_advance_16 : decode cX8_advance 16 = .ok (.aload_n 0, 1) := by decide +kernel
theorem dX8_advance_17 : decode cX8_advance 17 = .ok (.getfield 10, 3) := by decide +kernel
theorem dX8_advance_20 : decode cX8_advance 20 = .ok (.getfield 92, 3) := by decide +kernel
theorem dX8_advance_23 : decode cX8_advance 23 = .ok (.getfield 96, 3) := by decide +kernel
theorem dX8_advance_26 : decode cX8_advance 26 = .ok (.istore_n 2, 1) := by decide +kernel
theorem dX8_advance_27 : decode cX8_advance 27 = .ok (.iconst 0, 1) := by decide +kernel
theorem dX8_advance_28 : decode cX8_advance 28 = .ok (.istore_n 3, 1) := by decide +kernel
theorem dX8_advance_29 : decode cX8_advance 29 = .ok (.iload_n 3, 1) := by decide +kernel
theorem dX8_advance_30 : decode cX8_advance 30 = .ok (.iload_n 1, 1) := by decide +kernel
theorem dX8_advance_31 : decode cX8_advance 31 = .ok (.if_icmp .ge 16, 3) := by decide +kernel
theorem dX8_advance_34 : decode cX8_advance 34 = .ok (.aload_n 0, 1) := by decide +kernel
theorem dX8_advance_35 : decode cX8_advance 35 = .ok (.getfield 10, 3) := by decide +kernel
theorem dX8_advance_38 : decode cX8_advance 38 = .ok (.invokevirtual 101, 3) := by decide +kernel
theorem dX8_advance_41 : decode cX8_advance 41 = .ok (.iinc 3 1, 3) := by decide +kernel
theorem dX8_advance_44 : decode cX8_advance 44 = .ok (.goto (-15), 3) := by decide +kernel
theorem dX8_advance_47 : decode cX8_advance 47 = .ok (.aload_n 0, 1) := by decide +kernel
theorem dX8_advance_48 : decode cX8_advance 48 = .ok (.getfield 10, 3) := by decide +kernel
theorem dX8_advance_51 : decode cX8_advance 51 = .ok (.getfield 92, 3) := by decide +kernel
theorem dX8_advance_54 : decode cX8_advance 54 = .ok (.getfield 96, 3) := by decide +kernel
theorem dX8_advance_57 : decode cX8_advance 57 = .ok (.iload_n 2, 1) := by decide +kernel
theorem dX8_advance_58 : decode cX8_advance 58 = .ok (.isub, 1) := by decide +kernel
theorem dX8_advance_59 : decode cX8_advance 59 = .ok (.ireturn, 1) := by decide +kernel
theorem dX8_time_0 : decode cX8_time 0 = .ok (.aload_n 0, 1) := by decide +kernel
theorem dX8_time_1 : decode cX8_time 1 = .ok (.getfield 10, 3) := by decide +kernel
theorem dX8_time_4 : decode cX8_time 4 = .ok (.getfield 104, 3) := by decide +kernel
theorem dX8_time_7 : decode cX8_time 7 = .ok (.ireturn, 1) := by decide +kernel
theorem dX8_start_0 : decode cX8_start 0 = .ok (.aload_n 0, 1) := by decide +kernel
theorem dX8_start_1 : decode cX8_start 1 = .ok (.getfield 10, 3) := by decide +kernel
theorem dX8_start_4 : decode cX8_start 4 = .ok (.getfield 107, 3) := by decide +kernel
theorem dX8_start_7 : decode cX8_start 7 = .ok (.ifCond .eq 13, 3) := by decide +kernel
theorem dX8_start_10 : decode cX8_start 10 = .ok (.aload_n 0, 1) := by decide +kernel
theorem dX8_start_11 : decode cX8_start 11 = .ok (.getfield 10, 3) := by decide +kernel
theorem dX8_start_14 : decode cX8_start 14 = .ok (.getfield 110, 3) := by decide +kernel
theorem dX8_start_17 : decode cX8_start 17 = .ok (.goto 6, 3) := by decide +kernel
theorem dX8_start_20 : decode cX8_start 20 = .ok (.sipush (-1004), 3) := by decide +kernel
theorem dX8_start_23 : decode cX8_start 23 = .ok (.ireturn, 1) := by decide +kernel
theorem dX8_output_0 : decode cX8_output 0 = .ok (.iload_n 1, 1) := by decide +kernel
theorem dX8_output_1 : decode cX8_output 1 = .ok (.iconst 1, 1) := by decide +kernel
theorem dX8_output_2 : decode cX8_output 2 = .ok (.if_icmp .lt 10, 3) := by decide +kernel
theorem dX8_output_5 : decode cX8_output 5 = .ok (.iload_n 1, 1) := by decide +kernel
theorem dX8_output_6 : decode cX8_output 6 = .ok (.sipush 256, 3) := by decide +kernel
theorem dX8_output_9 : decode cX8_output 9 = .ok (.if_icmp .le 7, 3) := by decide +kernel
theorem dX8_output_12 : decode cX8_output 12 = .ok (.sipush (-1001), 3) := by decide +kernel
theorem dX8_output_15 : decode cX8_output 15 = .ok (.ireturn, 1) := by decide +kernel
theorem dX8_output_16 : decode cX8_output 16 = .ok (.iload_n 1, 1) := by decide +kernel
theorem dX8_output_17 : decode cX8_output 17 = .ok (.aload_n 0, 1) := by decide +kernel
theorem dX8_output_18 : decode cX8_output 18 = .ok (.getfield 10, 3) := by decide +kernel
theorem dX8_output_21 : decode cX8_output 21 = .ok (.getfield 92, 3) := by decide +kernel
theorem dX8_output_24 : decode cX8_output 24 = .ok (.getfield 96, 3) := by decide +kernel
theorem dX8_output_27 : decode cX8_output 27 = .ok (.if_icmp .le 9, 3) := by decide +kernel
theorem dX8_output_30 : decode cX8_output 30 = .ok (.sipush (-1004), 3) := by decide +kernel
theorem dX8_output_33 : decode cX8_output 33 = .ok (.goto 14, 3) := by decide +kernel
theorem dX8_output_36 : decode cX8_output 36 = .ok (.aload_n 0, 1) := by decide +kernel
theorem dX8_output_37 : decode cX8_output 37 = .ok (.getfield 10, 3) := by decide +kernel
theorem dX8_output_40 : decode cX8_output 40 = .ok (.getfield 92, 3) := by decide +kernel
theorem dX8_output_43 : decode cX8_output 43 = .ok (.iload_n 1, 1) := by decide +kernel
theorem dX8_output_44 : decode cX8_output 44 = .ok (.invokevirtual 113, 3) := by decide +kernel
theorem dX8_output_47 : decode cX8_output 47 = .ok (.ireturn, 1) := by decide +kernel
theorem dX8_outputs_0 : decode cX8_outputs 0 = .ok (.aload_n 0, 1) := by decide +kernel
theorem dX8_outputs_1 : decode cX8_outputs 1 = .ok (.getfield 10, 3) := by decide +kernel
theorem dX8_outputs_4 : decode cX8_outputs 4 = .ok (.getfield 92, 3) := by decide +kernel
theorem dX8_outputs_7 : decode cX8_outputs 7 = .ok (.getfield 96, 3) := by decide +kernel
theorem dX8_outputs_10 : decode cX8_outputs 10 = .ok (.ireturn, 1) := by decide +kernel
theorem dX8_left_0 : decode cX8_left 0 = .ok (.aload_n 0, 1) := by decide +kernel
theorem dX8_left_1 : decode cX8_left 1 = .ok (.getfield 10, 3) := by decide +kernel
theorem dX8_left_4 : decode cX8_left 4 = .ok (.getfield 92, 3) := by decide +kernel
theorem dX8_left_7 : decode cX8_left 7 = .ok (.invokevirtual 116, 3) := by decide +kernel
theorem dX8_left_10 : decode cX8_left 10 = .ok (.ireturn, 1) := by decide +kernel
theorem dX8_next_0 : decode cX8_next 0 = .ok (.aload_n 0, 1) := by decide +kernel
theorem dX8_next_1 : decode cX8_next 1 = .ok (.getfield 10, 3) := by decide +kernel
theorem dX8_next_4 : decode cX8_next 4 = .ok (.getfield 92, 3) := by decide +kernel
theorem dX8_next_7 : decode cX8_next 7 = .ok (.getfield 120, 3) := by decide +kernel
theorem dX8_next_10 : decode cX8_next 10 = .ok (.sipush 999, 3) := by decide +kernel
theorem dX8_next_13 : decode cX8_next 13 = .ok (.if_icmp .le 9, 3) := by decide +kernel
theorem dX8_next_16 : decode cX8_next 16 = .ok (.sipush (-1004), 3) := by decide +kernel
theorem dX8_next_19 : decode cX8_next 19 = .ok (.goto 13, 3) := by decide +kernel
theorem dX8_next_22 : decode cX8_next 22 = .ok (.aload_n 0, 1) := by decide +kernel
theorem dX8_next_23 : decode cX8_next 23 = .ok (.getfield 10, 3) := by decide +kernel
theorem dX8_next_26 : decode cX8_next 26 = .ok (.getfield 92, 3) := by decide +kernel
theorem dX8_next_29 : decode cX8_next 29 = .ok (.getfield 120, 3) := by decide +kernel
theorem dX8_next_32 : decode cX8_next 32 = .ok (.ireturn, 1) := by decide +kernel
theorem dX8_kind_0 : decode cX8_kind 0 = .ok (.iload_n 1, 1) := by decide +kernel
theorem dX8_kind_1 : decode cX8_kind 1 = .ok (.iconst 1, 1) := by decide +kernel
theorem dX8_kind_2 : decode cX8_kind 2 = .ok (.if_icmp .lt 9, 3) := by decide +kernel
theorem dX8_kind_5 : decode cX8_kind 5 = .ok (.iload_n 1, 1) := by decide +kernel
theorem dX8_kind_6 : decode cX8_kind 6 = .ok (.bipush 32, 2) := by decide +kernel
theorem dX8_kind_8 : decode cX8_kind 8 = .ok (.if_icmp .le 7, 3) := by decide +kernel
theorem dX8_kind_11 : decode cX8_kind 11 = .ok (.sipush (-1001), 3) := by decide +kernel
theorem dX8_kind_14 : decode cX8_kind 14 = .ok (.ireturn, 1) := by decide +kernel
theorem dX8_kind_15 : decode cX8_kind 15 = .ok (.iload_n 1, 1) := by decide +kernel
theorem dX8_kind_16 : decode cX8_kind 16 = .ok (.aload_n 0, 1) := by decide +kernel
theorem dX8_kind_17 : decode cX8_kind 17 = .ok (.getfield 10, 3) := by decide +kernel
theorem dX8_kind_20 : decode cX8_kind 20 = .ok (.getfield 92, 3) := by decide +kernel
theorem dX8_kind_23 : decode cX8_kind 23 = .ok (.getfield 120, 3) := by decide +kernel
theorem dX8_kind_26 : decode cX8_kind 26 = .ok (.if_icmp .le 9, 3) := by decide +kernel
theorem dX8_kind_29 : decode cX8_kind 29 = .ok (.sipush (-1004), 3) := by decide +kernel
theorem dX8_kind_32 : decode cX8_kind 32 = .ok (.goto 14, 3) := by decide +kernel
theorem dX8_kind_35 : decode cX8_kind 35 = .ok (.aload_n 0, 1) := by decide +kernel
theorem dX8_kind_36 : decode cX8_kind 36 = .ok (.getfield 10, 3) := by decide +kernel
theorem dX8_kind_39 : decode cX8_kind 39 = .ok (.getfield 92, 3) := by decide +kernel
theorem dX8_kind_42 : decode cX8_kind 42 = .ok (.iload_n 1, 1) := by decide +kernel
theorem dX8_kind_43 : decode cX8_kind 43 = .ok (.invokevirtual 123, 3) := by decide +kernel
theorem dX8_kind_46 : decode cX8_kind 46 = .ok (.ireturn, 1) := by decide +kernel
theorem dX8_state_0 : decode cX8_state 0 = .ok (.iload_n 1, 1) := by decide +kernel
theorem dX8_state_1 : decode cX8_state 1 = .ok (.invokestatic 76, 3) := by decide +kernel
theorem dX8_state_4 : decode cX8_state 4 = .ok (.ifCond .ne 7, 3) := by decide +kernel
theorem dX8_state_7 : decode cX8_state 7 = .ok (.sipush (-1001), 3) := by decide +kernel
theorem dX8_state_10 : decode cX8_state 10 = .ok (.ireturn, 1) := by decide +kernel
theorem dX8_state_11 : decode cX8_state 11 = .ok (.aload_n 0, 1) := by decide +kernel
theorem dX8_state_12 : decode cX8_state 12 = .ok (.getfield 10, 3) := by decide +kernel
theorem dX8_state_15 : decode cX8_state 15 = .ok (.getfield 126, 3) := by decide +kernel
theorem dX8_state_18 : decode cX8_state 18 = .ok (.aload_n 0, 1) := by decide +kernel
theorem dX8_state_19 : decode cX8_state 19 = .ok (.getfield 10, 3) := by decide +kernel
theorem dX8_state_22 : decode cX8_state 22 = .ok (.getfield 43, 3) := by decide +kernel
theorem dX8_state_25 : decode cX8_state 25 = .ok (.iload_n 1, 1) := by decide +kernel
theorem dX8_state_26 : decode cX8_state 26 = .ok (.invokevirtual 130, 3) := by decide +kernel
theorem dX8_state_29 : decode cX8_state 29 = .ok (.ireturn, 1) := by decide +kernel
theorem dX8_sample_0 : decode cX8_sample 0 = .ok (.iload_n 1, 1) := by decide +kernel
theorem dX8_sample_1 : decode cX8_sample 1 = .ok (.invokestatic 76, 3) := by decide +kernel
theorem dX8_sample_4 : decode cX8_sample 4 = .ok (.ifCond .eq 21, 3) := by decide +kernel
theorem dX8_sample_7 : decode cX8_sample 7 = .ok (.iload_n 2, 1) := by decide +kernel
theorem dX8_sample_8 : decode cX8_sample 8 = .ok (.ifCond .lt 17, 3) := by decide +kernel
theorem dX8_sample_11 : decode cX8_sample 11 = .ok (.iload_n 2, 1) := by decide +kernel
theorem dX8_sample_12 : decode cX8_sample 12 = .ok (.aload_n 0, 1) := by decide +kernel
theorem dX8_sample_13 : decode cX8_sample 13 = .ok (.getfield 10, 3) := by decide +kernel
theorem dX8_sample_16 : decode cX8_sample 16 = .ok (.getfield 43, 3) := by decide +kernel
theorem dX8_sample_19 : decode cX8_sample 19 = .ok (.getfield 47, 3) := by decide +kernel
theorem dX8_sample_22 : decode cX8_sample 22 = .ok (.if_icmp .lt 7, 3) := by decide +kernel
theorem dX8_sample_25 : decode cX8_sample 25 = .ok (.sipush (-1001), 3) := by decide +kernel
theorem dX8_sample_28 : decode cX8_sample 28 = .ok (.ireturn, 1) := by decide +kernel
theorem dX8_sample_29 : decode cX8_sample 29 = .ok (.aload_n 0, 1) := by decide +kernel
theorem dX8_sample_30 : decode cX8_sample 30 = .ok (.getfield 10, 3) := by decide +kernel
theorem dX8_sample_33 : decode cX8_sample 33 = .ok (.getfield 43, 3) := by decide +kernel
theorem dX8_sample_36 : decode cX8_sample 36 = .ok (.iload_n 1, 1) := by decide +kernel
theorem dX8_sample_37 : decode cX8_sample 37 = .ok (.iload_n 2, 1) := by decide +kernel
theorem dX8_sample_38 : decode cX8_sample 38 = .ok (.invokevirtual 136, 3) := by decide +kernel
theorem dX8_sample_41 : decode cX8_sample 41 = .ok (.ireturn, 1) := by decide +kernel
theorem dX8_missing_0 : decode cX8_missing 0 = .ok (.aload_n 0, 1) := by decide +kernel
theorem dX8_missing_1 : decode cX8_missing 1 = .ok (.getfield 10, 3) := by decide +kernel
theorem dX8_missing_4 : decode cX8_missing 4 = .ok (.getfield 43, 3) := by decide +kernel
theorem dX8_missing_7 : decode cX8_missing 7 = .ok (.iload_n 1, 1) := by decide +kernel
theorem dX8_missing_8 : decode cX8_missing 8 = .ok (.iload_n 2, 1) := by decide +kernel
theorem dX8_missing_9 : decode cX8_missing 9 = .ok (.iload_n 3, 1) := by decide +kernel
theorem dX8_missing_10 : decode cX8_missing 10 = .ok (.invokevirtual 84, 3) := by decide +kernel
theorem dX8_missing_13 : decode cX8_missing 13 = .ok (.ifCond .ne 7, 3) := by decide +kernel
theorem dX8_missing_16 : decode cX8_missing 16 = .ok (.sipush (-1001), 3) := by decide +kernel
theorem dX8_missing_19 : decode cX8_missing 19 = .ok (.ireturn, 1) := by decide +kernel
theorem dX8_missing_20 : decode cX8_missing 20 = .ok (.aload_n 0, 1) := by decide +kernel
theorem dX8_missing_21 : decode cX8_missing 21 = .ok (.getfield 10, 3) := by decide +kernel
theorem dX8_missing_24 : decode cX8_missing 24 = .ok (.getfield 126, 3) := by decide +kernel
theorem dX8_missing_27 : decode cX8_missing 27 = .ok (.aload_n 0, 1) := by decide +kernel
theorem dX8_missing_28 : decode cX8_missing 28 = .ok (.getfield 10, 3) := by decide +kernel
theorem dX8_missing_31 : decode cX8_missing 31 = .ok (.getfield 43, 3) := by decide +kernel
theorem dX8_missing_34 : decode cX8_missing 34 = .ok (.iload_n 1, 1) := by decide +kernel
theorem dX8_missing_35 : decode cX8_missing 35 = .ok (.iload_n 2, 1) := by decide +kernel
theorem dX8_missing_36 : decode cX8_missing 36 = .ok (.iload_n 3, 1) := by decide +kernel
theorem dX8_missing_37 : decode cX8_missing 37 = .ok (.invokevirtual 140, 3) := by decide +kernel
theorem dX8_missing_40 : decode cX8_missing 40 = .ok (.ireturn, 1) := by decide +kernel
theorem dX8_unrestorable_0 : decode cX8_unrestorable 0 = .ok (.aload_n 0, 1) := by decide +kernel
theorem dX8_unrestorable_1 : decode cX8_unrestorable 1 = .ok (.getfield 10, 3) := by decide +kernel
theorem dX8_unrestorable_4 : decode cX8_unrestorable 4 = .ok (.getfield 43, 3) := by decide +kernel
theorem dX8_unrestorable_7 : decode cX8_unrestorable 7 = .ok (.iload_n 1, 1) := by decide +kernel
theorem dX8_unrestorable_8 : decode cX8_unrestorable 8 = .ok (.invokevirtual 144, 3) := by decide +kernel
theorem dX8_unrestorable_11 : decode cX8_unrestorable 11 = .ok (.ifCond .ne 7, 3) := by decide +kernel
theorem dX8_unrestorable_14 : decode cX8_unrestorable 14 = .ok (.sipush (-1001), 3) := by decide +kernel
theorem dX8_unrestorable_17 : decode cX8_unrestorable 17 = .ok (.ireturn, 1) := by decide +kernel
theorem dX8_unrestorable_18 : decode cX8_unrestorable 18 = .ok (.aload_n 0, 1) := by decide +kernel
theorem dX8_unrestorable_19 : decode cX8_unrestorable 19 = .ok (.getfield 10, 3) := by decide +kernel
theorem dX8_unrestorable_22 : decode cX8_unrestorable 22 = .ok (.getfield 126, 3) := by decide +kernel
theorem dX8_unrestorable_25 : decode cX8_unrestorable 25 = .ok (.aload_n 0, 1) := by decide +kernel
theorem dX8_unrestorable_26 : decode cX8_unrestorable 26 = .ok (.getfield 10, 3) := by decide +kernel
theorem dX8_unrestorable_29 : decode cX8_unrestorable 29 = .ok (.getfield 43, 3) := by decide +kernel
theorem dX8_unrestorable_32 : decode cX8_unrestorable 32 = .ok (.iload_n 1, 1) := by decide +kernel
theorem dX8_unrestorable_33 : decode cX8_unrestorable 33 = .ok (.invokevirtual 147, 3) := by decide +kernel
theorem dX8_unrestorable_36 : decode cX8_unrestorable 36 = .ok (.ireturn, 1) := by decide +kernel
theorem dX8_paritySample_0 : decode cX8_paritySample 0 = .ok (.aload_n 0, 1) := by decide +kernel
theorem dX8_paritySample_1 : decode cX8_paritySample 1 = .ok (.getfield 10, 3) := by decide +kernel
theorem dX8_paritySample_4 : decode cX8_paritySample 4 = .ok (.getfield 43, 3) := by decide +kernel
theorem dX8_paritySample_7 : decode cX8_paritySample 7 = .ok (.astore 5, 2) := by decide +kernel
theorem dX8_paritySample_9 : decode cX8_paritySample 9 = .ok (.aload 5, 2) := by decide +kernel
theorem dX8_paritySample_11 : decode cX8_paritySample 11 = .ok (.iload_n 1, 1) := by decide +kernel
theorem dX8_paritySample_12 : decode cX8_paritySample 12 = .ok (.iload_n 2, 1) := by decide +kernel
theorem dX8_paritySample_13 : decode cX8_paritySample 13 = .ok (.iload_n 3, 1) := by decide +kernel
theorem dX8_paritySample_14 : decode cX8_paritySample 14 = .ok (.invokevirtual 84, 3) := by decide +kernel
theorem dX8_paritySample_17 : decode cX8_paritySample 17 = .ok (.ifCond .eq 18, 3) := by decide +kernel
theorem dX8_paritySample_20 : decode cX8_paritySample 20 = .ok (.iload 4, 2) := by decide +kernel
theorem dX8_paritySample_22 : decode cX8_paritySample 22 = .ok (.ifCond .lt 13, 3) := by decide +kernel
theorem dX8_paritySample_25 : decode cX8_paritySample 25 = .ok (.iload 4, 2) := by decide +kernel
theorem dX8_paritySample_27 : decode cX8_paritySample 27 = .ok (.aload 5, 2) := by decide +kernel
theorem dX8_paritySample_29 : decode cX8_paritySample 29 = .ok (.getfield 47, 3) := by decide +kernel
theorem dX8_paritySample_32 : decode cX8_paritySample 32 = .ok (.if_icmp .lt 7, 3) := by decide +kernel
theorem dX8_paritySample_35 : decode cX8_paritySample 35 = .ok (.sipush (-1001), 3) := by decide +kernel
theorem dX8_paritySample_38 : decode cX8_paritySample 38 = .ok (.ireturn, 1) := by decide +kernel
theorem dX8_paritySample_39 : decode cX8_paritySample 39 = .ok (.iload_n 1, 1) := by decide +kernel
theorem dX8_paritySample_40 : decode cX8_paritySample 40 = .ok (.ifCond .eq 11, 3) := by decide +kernel
theorem dX8_paritySample_43 : decode cX8_paritySample 43 = .ok (.aload 5, 2) := by decide +kernel
theorem dX8_paritySample_45 : decode cX8_paritySample 45 = .ok (.getfield 57, 3) := by decide +kernel
theorem dX8_paritySample_48 : decode cX8_paritySample 48 = .ok (.goto 8, 3) := by decide +kernel
theorem dX8_paritySample_51 : decode cX8_paritySample 51 = .ok (.aload 5, 2) := by decide +kernel
theorem dX8_paritySample_53 : decode cX8_paritySample 53 = .ok (.getfield 60, 3) := by decide +kernel
theorem dX8_paritySample_56 : decode cX8_paritySample 56 = .ok (.istore 6, 2) := by decide +kernel
theorem dX8_paritySample_58 : decode cX8_paritySample 58 = .ok (.iconst 0, 1) := by decide +kernel
theorem dX8_paritySample_59 : decode cX8_paritySample 59 = .ok (.istore 7, 2) := by decide +kernel
theorem dX8_paritySample_61 : decode cX8_paritySample 61 = .ok (.iconst 0, 1) := by decide +kernel
theorem dX8_paritySample_62 : decode cX8_paritySample 62 = .ok (.istore 8, 2) := by decide +kernel
theorem dX8_paritySample_64 : decode cX8_paritySample 64 = .ok (.iload 8, 2) := by decide +kernel
theorem dX8_paritySample_66 : decode cX8_paritySample 66 = .ok (.iload 6, 2) := by decide +kernel
theorem dX8_paritySample_68 : decode cX8_paritySample 68 = .ok (.if_icmp .ge 47, 3) := by decide +kernel
theorem dX8_paritySample_71 : decode cX8_paritySample 71 = .ok (.aload 5, 2) := by decide +kernel
theorem dX8_paritySample_73 : decode cX8_paritySample 73 = .ok (.iload_n 1, 1) := by decide +kernel
theorem dX8_paritySample_74 : decode cX8_paritySample 74 = .ok (.iload_n 2, 1) := by decide +kernel
theorem dX8_paritySample_75 : decode cX8_paritySample 75 = .ok (.iload_n 3, 1) := by decide +kernel
theorem dX8_paritySample_76 : decode cX8_paritySample 76 = .ok (.iload 8, 2) := by decide +kernel
theorem dX8_paritySample_78 : decode cX8_paritySample 78 = .ok (.invokevirtual 150, 3) := by decide +kernel
theorem dX8_paritySample_81 : decode cX8_paritySample 81 = .ok (.istore 9, 2) := by decide +kernel
theorem dX8_paritySample_83 : decode cX8_paritySample 83 = .ok (.iload 9, 2) := by decide +kernel
theorem dX8_paritySample_85 : decode cX8_paritySample 85 = .ok (.sipush 999, 3) := by decide +kernel
theorem dX8_paritySample_88 : decode cX8_paritySample 88 = .ok (.if_icmp .gt 21, 3) := by decide +kernel
theorem dX8_paritySample_91 : decode cX8_paritySample 91 = .ok (.iload 7, 2) := by decide +kernel
theorem dX8_paritySample_93 : decode cX8_paritySample 93 = .ok (.aload 5, 2) := by decide +kernel
theorem dX8_paritySample_95 : decode cX8_paritySample 95 = .ok (.iload 9, 2) := by decide +kernel
theorem dX8_paritySample_97 : decode cX8_paritySample 97 = .ok (.iload 4, 2) := by decide +kernel
theorem dX8_paritySample_99 : decode cX8_paritySample 99 = .ok (.invokevirtual 136, 3) := by decide +kernel
theorem dX8_paritySample_102 : decode cX8_paritySample 102 = .ok (.sipush 128, 3) := by decide +kernel
theorem dX8_paritySample_105 : decode cX8_paritySample 105 = .ok (.iadd, 1) := by decide +kernel
theorem dX8_paritySample_106 : decode cX8_paritySample 106 = .ok (.ixor, 1) := by decide +kernel
theorem dX8_paritySample_107 : decode cX8_paritySample 107 = .ok (.istore 7, 2) := by decide +kernel
theorem dX8_paritySample_109 : decode cX8_paritySample 109 = .ok (.iinc 8 1, 3) := by decide +kernel
theorem dX8_paritySample_112 : decode cX8_paritySample 112 = .ok (.goto (-48), 3) := by decide +kernel
theorem dX8_paritySample_115 : decode cX8_paritySample 115 = .ok (.iload 7, 2) := by decide +kernel
theorem dX8_paritySample_117 : decode cX8_paritySample 117 = .ok (.ireturn, 1) := by decide +kernel
theorem dX8_transits_0 : decode cX8_transits 0 = .ok (.aload_n 0, 1) := by decide +kernel
theorem dX8_transits_1 : decode cX8_transits 1 = .ok (.getfield 10, 3) := by decide +kernel
theorem dX8_transits_4 : decode cX8_transits 4 = .ok (.getfield 154, 3) := by decide +kernel
theorem dX8_transits_7 : decode cX8_transits 7 = .ok (.getfield 158, 3) := by decide +kernel
theorem dX8_transits_10 : decode cX8_transits 10 = .ok (.ireturn, 1) := by decide +kernel
theorem dX8_transit_0 : decode cX8_transit 0 = .ok (.iload_n 1, 1) := by decide +kernel
theorem dX8_transit_1 : decode cX8_transit 1 = .ok (.ifCond .lt 17, 3) := by decide +kernel
theorem dX8_transit_4 : decode cX8_transit 4 = .ok (.iload_n 1, 1) := by decide +kernel
theorem dX8_transit_5 : decode cX8_transit 5 = .ok (.aload_n 0, 1) := by decide +kernel
theorem dX8_transit_6 : decode cX8_transit 6 = .ok (.getfield 10, 3) := by decide +kernel
theorem dX8_transit_9 : decode cX8_transit 9 = .ok (.getfield 154, 3) := by decide +kernel
theorem dX8_transit_12 : decode cX8_transit 12 = .ok (.getfield 158, 3) := by decide +kernel
theorem dX8_transit_15 : decode cX8_transit 15 = .ok (.if_icmp .lt 7, 3) := by decide +kernel
theorem dX8_transit_18 : decode cX8_transit 18 = .ok (.sipush (-1001), 3) := by decide +kernel
theorem dX8_transit_21 : decode cX8_transit 21 = .ok (.ireturn, 1) := by decide +kernel
theorem dX8_transit_22 : decode cX8_transit 22 = .ok (.sipush (-999), 3) := by decide +kernel
theorem dX8_transit_25 : decode cX8_transit 25 = .ok (.aload_n 0, 1) := by decide +kernel
theorem dX8_transit_26 : decode cX8_transit 26 = .ok (.getfield 10, 3) := by decide +kernel
theorem dX8_transit_29 : decode cX8_transit 29 = .ok (.getfield 154, 3) := by decide +kernel
theorem dX8_transit_32 : decode cX8_transit 32 = .ok (.iload_n 1, 1) := by decide +kernel
theorem dX8_transit_33 : decode cX8_transit 33 = .ok (.invokevirtual 163, 3) := by decide +kernel
theorem dX8_transit_36 : decode cX8_transit 36 = .ok (.invokestatic 166, 3) := by decide +kernel
theorem dX8_transit_39 : decode cX8_transit 39 = .ok (.ireturn, 1) := by decide +kernel
theorem dX8_target_0 : decode cX8_target 0 = .ok (.aload_n 0, 1) := by decide +kernel
theorem dX8_target_1 : decode cX8_target 1 = .ok (.getfield 10, 3) := by decide +kernel
theorem dX8_target_4 : decode cX8_target 4 = .ok (.invokevirtual 171, 3) := by decide +kernel
theorem dX8_target_7 : decode cX8_target 7 = .ok (.ireturn, 1) := by decide +kernel
theorem dX8_level_0 : decode cX8_level 0 = .ok (.aload_n 0, 1) := by decide +kernel
theorem dX8_level_1 : decode cX8_level 1 = .ok (.getfield 10, 3) := by decide +kernel
theorem dX8_level_4 : decode cX8_level 4 = .ok (.aload_n 0, 1) := by decide +kernel
theorem dX8_level_5 : decode cX8_level 5 = .ok (.getfield 10, 3) := by decide +kernel
theorem dX8_level_8 : decode cX8_level 8 = .ok (.getfield 92, 3) := by decide +kernel
theorem dX8_level_11 : decode cX8_level 11 = .ok (.getfield 120, 3) := by decide +kernel
theorem dX8_level_14 : decode cX8_level 14 = .ok (.invokevirtual 174, 3) := by decide +kernel
theorem dX8_level_17 : decode cX8_level 17 = .ok (.ireturn, 1) := by decide +kernel
theorem dX8_taken_0 : decode cX8_taken 0 = .ok (.iload_n 1, 1) := by decide +kernel
theorem dX8_taken_1 : decode cX8_taken 1 = .ok (.iconst 1, 1) := by decide +kernel
theorem dX8_taken_2 : decode cX8_taken 2 = .ok (.if_icmp .lt 8, 3) := by decide +kernel
theorem dX8_taken_5 : decode cX8_taken 5 = .ok (.iload_n 1, 1) := by decide +kernel
theorem dX8_taken_6 : decode cX8_taken 6 = .ok (.iconst 3, 1) := by decide +kernel
theorem dX8_taken_7 : decode cX8_taken 7 = .ok (.if_icmp .le 7, 3) := by decide +kernel
theorem dX8_taken_10 : decode cX8_taken 10 = .ok (.sipush (-1001), 3) := by decide +kernel
theorem dX8_taken_13 : decode cX8_taken 13 = .ok (.ireturn, 1) := by decide +kernel
theorem dX8_taken_14 : decode cX8_taken 14 = .ok (.aload_n 0, 1) := by decide +kernel
theorem dX8_taken_15 : decode cX8_taken 15 = .ok (.getfield 10, 3) := by decide +kernel
theorem dX8_taken_18 : decode cX8_taken 18 = .ok (.getfield 177, 3) := by decide +kernel
theorem dX8_taken_21 : decode cX8_taken 21 = .ok (.iload_n 1, 1) := by decide +kernel
theorem dX8_taken_22 : decode cX8_taken 22 = .ok (.invokevirtual 181, 3) := by decide +kernel
theorem dX8_taken_25 : decode cX8_taken 25 = .ok (.ireturn, 1) := by decide +kernel
theorem dX8_stretched_0 : decode cX8_stretched 0 = .ok (.aload_n 0, 1) := by decide +kernel
theorem dX8_stretched_1 : decode cX8_stretched 1 = .ok (.getfield 10, 3) := by decide +kernel
theorem dX8_stretched_4 : decode cX8_stretched 4 = .ok (.getfield 177, 3) := by decide +kernel
theorem dX8_stretched_7 : decode cX8_stretched 7 = .ok (.getfield 186, 3) := by decide +kernel
theorem dX8_stretched_10 : decode cX8_stretched 10 = .ok (.ireturn, 1) := by decide +kernel
theorem dX8_compressed_0 : decode cX8_compressed 0 = .ok (.aload_n 0, 1) := by decide +kernel
theorem dX8_compressed_1 : decode cX8_compressed 1 = .ok (.getfield 10, 3) := by decide +kernel
theorem dX8_compressed_4 : decode cX8_compressed 4 = .ok (.getfield 177, 3) := by decide +kernel
theorem dX8_compressed_7 : decode cX8_compressed 7 = .ok (.getfield 189, 3) := by decide +kernel
theorem dX8_compressed_10 : decode cX8_compressed 10 = .ok (.ireturn, 1) := by decide +kernel
theorem dX8_late_0 : decode cX8_late 0 = .ok (.aload_n 0, 1) := by decide +kernel
theorem dX8_late_1 : decode cX8_late 1 = .ok (.getfield 10, 3) := by decide +kernel
theorem dX8_late_4 : decode cX8_late 4 = .ok (.getfield 177, 3) := by decide +kernel
theorem dX8_late_7 : decode cX8_late 7 = .ok (.getfield 192, 3) := by decide +kernel
theorem dX8_late_10 : decode cX8_late 10 = .ok (.ireturn, 1) := by decide +kernel
theorem dX8_duplicates_0 : decode cX8_duplicates 0 = .ok (.aload_n 0, 1) := by decide +kernel
theorem dX8_duplicates_1 : decode cX8_duplicates 1 = .ok (.getfield 10, 3) := by decide +kernel
theorem dX8_duplicates_4 : decode cX8_duplicates 4 = .ok (.getfield 177, 3) := by decide +kernel
theorem dX8_duplicates_7 : decode cX8_duplicates 7 = .ok (.getfield 195, 3) := by decide +kernel
theorem dX8_duplicates_10 : decode cX8_duplicates 10 = .ok (.ireturn, 1) := by decide +kernel
theorem dX8_loss_0 : decode cX8_loss 0 = .ok (.aload_n 0, 1) := by decide +kernel
theorem dX8_loss_1 : decode cX8_loss 1 = .ok (.getfield 10, 3) := by decide +kernel
theorem dX8_loss_4 : decode cX8_loss 4 = .ok (.getfield 177, 3) := by decide +kernel
theorem dX8_loss_7 : decode cX8_loss 7 = .ok (.getfield 198, 3) := by decide +kernel
theorem dX8_loss_10 : decode cX8_loss 10 = .ok (.istore_n 2, 1) := by decide +kernel
theorem dX8_loss_11 : decode cX8_loss 11 = .ok (.aload_n 0, 1) := by decide +kernel
theorem dX8_loss_12 : decode cX8_loss 12 = .ok (.getfield 10, 3) := by decide +kernel
theorem dX8_loss_15 : decode cX8_loss 15 = .ok (.getfield 92, 3) := by decide +kernel
theorem dX8_loss_18 : decode cX8_loss 18 = .ok (.getfield 120, 3) := by decide +kernel
theorem dX8_loss_21 : decode cX8_loss 21 = .ok (.istore_n 3, 1) := by decide +kernel
theorem dX8_loss_22 : decode cX8_loss 22 = .ok (.iload_n 3, 1) := by decide +kernel
theorem dX8_loss_23 : decode cX8_loss 23 = .ok (.ifCond .ne 13, 3) := by decide +kernel
theorem dX8_loss_26 : decode cX8_loss 26 = .ok (.iload_n 1, 1) := by decide +kernel
theorem dX8_loss_27 : decode cX8_loss 27 = .ok (.ifCond .eq 7, 3) := by decide +kernel
theorem dX8_loss_30 : decode cX8_loss 30 = .ok (.iconst 1, 1) := by decide +kernel
theorem dX8_loss_31 : decode cX8_loss 31 = .ok (.goto 4, 3) := by decide +kernel
theorem dX8_loss_34 : decode cX8_loss 34 = .ok (.iconst 0, 1) := by decide +kernel
theorem dX8_loss_35 : decode cX8_loss 35 = .ok (.ireturn, 1) := by decide +kernel
theorem dX8_loss_36 : decode cX8_loss 36 = .ok (.iconst 1, 1) := by decide +kernel
theorem dX8_loss_37 : decode cX8_loss 37 = .ok (.iload_n 3, 1) := by decide +kernel
theorem dX8_loss_38 : decode cX8_loss 38 = .ok (.iload_n 2, 1) := by decide +kernel
theorem dX8_loss_39 : decode cX8_loss 39 = .ok (.invokestatic 201, 3) := by decide +kernel
theorem dX8_loss_42 : decode cX8_loss 42 = .ok (.invokestatic 166, 3) := by decide +kernel
theorem dX8_loss_45 : decode cX8_loss 45 = .ok (.istore 4, 2) := by decide +kernel
theorem dX8_loss_47 : decode cX8_loss 47 = .ok (.iload_n 1, 1) := by decide +kernel
theorem dX8_loss_48 : decode cX8_loss 48 = .ok (.ifCond .eq 7, 3) := by decide +kernel
theorem dX8_loss_51 : decode cX8_loss 51 = .ok (.iload_n 3, 1) := by decide +kernel
theorem dX8_loss_52 : decode cX8_loss 52 = .ok (.goto 4, 3) := by decide +kernel
theorem dX8_loss_55 : decode cX8_loss 55 = .ok (.iload_n 2, 1) := by decide +kernel
theorem dX8_loss_56 : decode cX8_loss 56 = .ok (.iload 4, 2) := by decide +kernel
theorem dX8_loss_58 : decode cX8_loss 58 = .ok (.idiv, 1) := by decide +kernel
theorem dX8_loss_59 : decode cX8_loss 59 = .ok (.ireturn, 1) := by decide +kernel
theorem dX8_longestGap_0 : decode cX8_longestGap 0 = .ok (.aload_n 0, 1) := by decide +kernel
theorem dX8_longestGap_1 : decode cX8_longestGap 1 = .ok (.getfield 10, 3) := by decide +kernel
theorem dX8_longestGap_4 : decode cX8_longestGap 4 = .ok (.getfield 177, 3) := by decide +kernel
theorem dX8_longestGap_7 : decode cX8_longestGap 7 = .ok (.getfield 204, 3) := by decide +kernel
theorem dX8_longestGap_10 : decode cX8_longestGap 10 = .ok (.ireturn, 1) := by decide +kernel
theorem dX8_ticksToGap_0 : decode cX8_ticksToGap 0 = .ok (.aload_n 0, 1) := by decide +kernel
theorem dX8_ticksToGap_1 : decode cX8_ticksToGap 1 = .ok (.getfield 16, 3) := by decide +kernel
theorem dX8_ticksToGap_4 : decode cX8_ticksToGap 4 = .ok (.aload_n 0, 1) := by decide +kernel
theorem dX8_ticksToGap_5 : decode cX8_ticksToGap 5 = .ok (.getfield 10, 3) := by decide +kernel
theorem dX8_ticksToGap_8 : decode cX8_ticksToGap 8 = .ok (.invokevirtual 207, 3) := by decide +kernel
theorem dX8_ticksToGap_11 : decode cX8_ticksToGap 11 = .ok (.aload_n 0, 1) := by decide +kernel
theorem dX8_ticksToGap_12 : decode cX8_ticksToGap 12 = .ok (.getfield 16, 3) := by decide +kernel
theorem dX8_ticksToGap_15 : decode cX8_ticksToGap 15 = .ok (.getfield 177, 3) := by decide +kernel
theorem dX8_ticksToGap_18 : decode cX8_ticksToGap 18 = .ok (.getfield 198, 3) := by decide +kernel
theorem dX8_ticksToGap_21 : decode cX8_ticksToGap 21 = .ok (.istore_n 1, 1) := by decide +kernel
theorem dX8_ticksToGap_22 : decode cX8_ticksToGap 22 = .ok (.iconst 0, 1) := by decide +kernel
theorem dX8_ticksToGap_23 : decode cX8_ticksToGap 23 = .ok (.istore_n 2, 1) := by decide +kernel
theorem dX8_ticksToGap_24 : decode cX8_ticksToGap 24 = .ok (.iload_n 2, 1) := by decide +kernel
theorem dX8_ticksToGap_25 : decode cX8_ticksToGap 25 = .ok (.sipush 1000, 3) := by decide +kernel
theorem dX8_ticksToGap_28 : decode cX8_ticksToGap 28 = .ok (.if_icmp .ge 32, 3) := by decide +kernel
theorem dX8_ticksToGap_31 : decode cX8_ticksToGap 31 = .ok (.aload_n 0, 1) := by decide +kernel
theorem dX8_ticksToGap_32 : decode cX8_ticksToGap 32 = .ok (.getfield 16, 3) := by decide +kernel
theorem dX8_ticksToGap_35 : decode cX8_ticksToGap 35 = .ok (.invokevirtual 101, 3) := by decide +kernel
theorem dX8_ticksToGap_38 : decode cX8_ticksToGap 38 = .ok (.aload_n 0, 1) := by decide +kernel
theorem dX8_ticksToGap_39 : decode cX8_ticksToGap 39 = .ok (.getfield 16, 3) := by decide +kernel
theorem dX8_ticksToGap_42 : decode cX8_ticksToGap 42 = .ok (.getfield 177, 3) := by decide +kernel
theorem dX8_ticksToGap_45 : decode cX8_ticksToGap 45 = .ok (.getfield 198, 3) := by decide +kernel
theorem dX8_ticksToGap_48 : decode cX8_ticksToGap 48 = .ok (.iload_n 1, 1) := by decide +kernel
theorem dX8_ticksToGap_49 : decode cX8_ticksToGap 49 = .ok (.if_icmp .le 5, 3) := by decide +kernel
theorem dX8_ticksToGap_52 : decode cX8_ticksToGap 52 = .ok (.iload_n 2, 1) := by decide +kernel
theorem dX8_ticksToGap_53 : decode cX8_ticksToGap 53 = .ok (.ireturn, 1) := by decide +kernel
theorem dX8_ticksToGap_54 : decode cX8_ticksToGap 54 = .ok (.iinc 2 1, 3) := by decide +kernel
theorem dX8_ticksToGap_57 : decode cX8_ticksToGap 57 = .ok (.goto (-33), 3) := by decide +kernel
theorem dX8_ticksToGap_60 : decode cX8_ticksToGap 60 = .ok (.sipush (-1004), 3) := by decide +kernel
theorem dX8_ticksToGap_63 : decode cX8_ticksToGap 63 = .ok (.ireturn, 1) := by decide +kernel
theorem dX8_gapsIn_0 : decode cX8_gapsIn 0 = .ok (.iload_n 1, 1) := by decide +kernel
theorem dX8_gapsIn_1 : decode cX8_gapsIn 1 = .ok (.iconst 1, 1) := by decide +kernel
theorem dX8_gapsIn_2 : decode cX8_gapsIn 2 = .ok (.if_icmp .lt 10, 3) := by decide +kernel
theorem dX8_gapsIn_5 : decode cX8_gapsIn 5 = .ok (.iload_n 1, 1) := by decide +kernel
theorem dX8_gapsIn_6 : decode cX8_gapsIn 6 = .ok (.sipush 1000, 3) := by decide +kernel
theorem dX8_gapsIn_9 : decode cX8_gapsIn 9 = .ok (.if_icmp .le 7, 3) := by decide +kernel
theorem dX8_gapsIn_12 : decode cX8_gapsIn 12 = .ok (.sipush (-1001), 3) := by decide +kernel
theorem dX8_gapsIn_15 : decode cX8_gapsIn 15 = .ok (.ireturn, 1) := by decide +kernel
theorem dX8_gapsIn_16 : decode cX8_gapsIn 16 = .ok (.aload_n 0, 1) := by decide +kernel
theorem dX8_gapsIn_17 : decode cX8_gapsIn 17 = .ok (.getfield 16, 3) := by decide +kernel
theorem dX8_gapsIn_20 : decode cX8_gapsIn 20 = .ok (.aload_n 0, 1) := by decide +kernel
theorem dX8_gapsIn_21 : decode cX8_gapsIn 21 = .ok (.getfield 10, 3) := by decide +kernel
theorem dX8_gapsIn_24 : decode cX8_gapsIn 24 = .ok (.invokevirtual 207, 3) := by decide +kernel
theorem dX8_gapsIn_27 : decode cX8_gapsIn 27 = .ok (.aload_n 0, 1) := by decide +kernel
theorem dX8_gapsIn_28 : decode cX8_gapsIn 28 = .ok (.getfield 16, 3) := by decide +kernel
theorem dX8_gapsIn_31 : decode cX8_gapsIn 31 = .ok (.getfield 177, 3) := by decide +kernel
theorem dX8_gapsIn_34 : decode cX8_gapsIn 34 = .ok (.getfield 198, 3) := by decide +kernel
theorem dX8_gapsIn_37 : decode cX8_gapsIn 37 = .ok (.istore_n 2, 1) := by decide +kernel
theorem dX8_gapsIn_38 : decode cX8_gapsIn 38 = .ok (.iconst 0, 1) := by decide +kernel
theorem dX8_gapsIn_39 : decode cX8_gapsIn 39 = .ok (.istore_n 3, 1) := by decide +kernel
theorem dX8_gapsIn_40 : decode cX8_gapsIn 40 = .ok (.iload_n 3, 1) := by decide +kernel
theorem dX8_gapsIn_41 : decode cX8_gapsIn 41 = .ok (.iload_n 1, 1) := by decide +kernel
theorem dX8_gapsIn_42 : decode cX8_gapsIn 42 = .ok (.if_icmp .ge 16, 3) := by decide +kernel
theorem dX8_gapsIn_45 : decode cX8_gapsIn 45 = .ok (.aload_n 0, 1) := by decide +kernel
theorem dX8_gapsIn_46 : decode cX8_gapsIn 46 = .ok (.getfield 16, 3) := by decide +kernel
theorem dX8_gapsIn_49 : decode cX8_gapsIn 49 = .ok (.invokevirtual 101, 3) := by decide +kernel
theorem dX8_gapsIn_52 : decode cX8_gapsIn 52 = .ok (.iinc 3 1, 3) := by decide +kernel
theorem dX8_gapsIn_55 : decode cX8_gapsIn 55 = .ok (.goto (-15), 3) := by decide +kernel
theorem dX8_gapsIn_58 : decode cX8_gapsIn 58 = .ok (.aload_n 0, 1) := by decide +kernel
theorem dX8_gapsIn_59 : decode cX8_gapsIn 59 = .ok (.getfield 16, 3) := by decide +kernel
theorem dX8_gapsIn_62 : decode cX8_gapsIn 62 = .ok (.getfield 177, 3) := by decide +kernel
theorem dX8_gapsIn_65 : decode cX8_gapsIn 65 = .ok (.getfield 198, 3) := by decide +kernel
theorem dX8_gapsIn_68 : decode cX8_gapsIn 68 = .ok (.iload_n 2, 1) := by decide +kernel
theorem dX8_gapsIn_69 : decode cX8_gapsIn 69 = .ok (.isub, 1) := by decide +kernel
theorem dX8_gapsIn_70 : decode cX8_gapsIn 70 = .ok (.ireturn, 1) := by decide +kernel
theorem dX8_ticksToFrame_0 : decode cX8_ticksToFrame 0 = .ok (.iload_n 1, 1) := by decide +kernel
theorem dX8_ticksToFrame_1 : decode cX8_ticksToFrame 1 = .ok (.invokestatic 76, 3) := by decide +kernel
theorem dX8_ticksToFrame_4 : decode cX8_ticksToFrame 4 = .ok (.ifCond .ne 7, 3) := by decide +kernel
theorem dX8_ticksToFrame_7 : decode cX8_ticksToFrame 7 = .ok (.sipush (-1001), 3) := by decide +kernel
theorem dX8_ticksToFrame_10 : decode cX8_ticksToFrame 10 = .ok (.ireturn, 1) := by decide +kernel
theorem dX8_ticksToFrame_11 : decode cX8_ticksToFrame 11 = .ok (.iload_n 1, 1) := by decide +kernel
theorem dX8_ticksToFrame_12 : decode cX8_ticksToFrame 12 = .ok (.aload_n 0, 1) := by decide +kernel
theorem dX8_ticksToFrame_13 : decode cX8_ticksToFrame 13 = .ok (.getfield 10, 3) := by decide +kernel
theorem dX8_ticksToFrame_16 : decode cX8_ticksToFrame 16 = .ok (.getfield 92, 3) := by decide +kernel
theorem dX8_ticksToFrame_19 : decode cX8_ticksToFrame 19 = .ok (.getfield 120, 3) := by decide +kernel
theorem dX8_ticksToFrame_22 : decode cX8_ticksToFrame 22 = .ok (.if_icmp .ge 7, 3) := by decide +kernel
theorem dX8_ticksToFrame_25 : decode cX8_ticksToFrame 25 = .ok (.sipush (-1003), 3) := by decide +kernel
theorem dX8_ticksToFrame_28 : decode cX8_ticksToFrame 28 = .ok (.ireturn, 1) := by decide +kernel
theorem dX8_ticksToFrame_29 : decode cX8_ticksToFrame 29 = .ok (.aload_n 0, 1) := by decide +kernel
theorem dX8_ticksToFrame_30 : decode cX8_ticksToFrame 30 = .ok (.getfield 16, 3) := by decide +kernel
theorem dX8_ticksToFrame_33 : decode cX8_ticksToFrame 33 = .ok (.aload_n 0, 1) := by decide +kernel
theorem dX8_ticksToFrame_34 : decode cX8_ticksToFrame 34 = .ok (.getfield 10, 3) := by decide +kernel
theorem dX8_ticksToFrame_37 : decode cX8_ticksToFrame 37 = .ok (.invokevirtual 207, 3) := by decide +kernel
theorem dX8_ticksToFrame_40 : decode cX8_ticksToFrame 40 = .ok (.iconst 0, 1) := by decide +kernel
theorem dX8_ticksToFrame_41 : decode cX8_ticksToFrame 41 = .ok (.istore_n 2, 1) := by decide +kernel
theorem dX8_ticksToFrame_42 : decode cX8_ticksToFrame 42 = .ok (.iload_n 2, 1) := by decide +kernel
theorem dX8_ticksToFrame_43 : decode cX8_ticksToFrame 43 = .ok (.sipush 2000, 3) := by decide +kernel
theorem dX8_ticksToFrame_46 : decode cX8_ticksToFrame 46 = .ok (.if_icmp .ge 32, 3) := by decide +kernel
theorem dX8_ticksToFrame_49 : decode cX8_ticksToFrame 49 = .ok (.aload_n 0, 1) := by decide +kernel
theorem dX8_ticksToFrame_50 : decode cX8_ticksToFrame 50 = .ok (.getfield 16, 3) := by decide +kernel
theorem dX8_ticksToFrame_53 : decode cX8_ticksToFrame 53 = .ok (.invokevirtual 101, 3) := by decide +kernel
theorem dX8_ticksToFrame_56 : decode cX8_ticksToFrame 56 = .ok (.aload_n 0, 1) := by decide +kernel
theorem dX8_ticksToFrame_57 : decode cX8_ticksToFrame 57 = .ok (.getfield 16, 3) := by decide +kernel
theorem dX8_ticksToFrame_60 : decode cX8_ticksToFrame 60 = .ok (.getfield 92, 3) := by decide +kernel
theorem dX8_ticksToFrame_63 : decode cX8_ticksToFrame 63 = .ok (.getfield 120, 3) := by decide +kernel
theorem dX8_ticksToFrame_66 : decode cX8_ticksToFrame 66 = .ok (.iload_n 1, 1) := by decide +kernel
theorem dX8_ticksToFrame_67 : decode cX8_ticksToFrame 67 = .ok (.if_icmp .le 5, 3) := by decide +kernel
theorem dX8_ticksToFrame_70 : decode cX8_ticksToFrame 70 = .ok (.iload_n 2, 1) := by decide +kernel
theorem dX8_ticksToFrame_71 : decode cX8_ticksToFrame 71 = .ok (.ireturn, 1) := by decide +kernel
theorem dX8_ticksToFrame_72 : decode cX8_ticksToFrame 72 = .ok (.iinc 2 1, 3) := by decide +kernel
theorem dX8_ticksToFrame_75 : decode cX8_ticksToFrame 75 = .ok (.goto (-33), 3) := by decide +kernel
theorem dX8_ticksToFrame_78 : decode cX8_ticksToFrame 78 = .ok (.sipush (-1004), 3) := by decide +kernel
theorem dX8_ticksToFrame_81 : decode cX8_ticksToFrame 81 = .ok (.ireturn, 1) := by decide +kernel
theorem dX8_append_0 : decode cX8_append 0 = .ok (.iload_n 1, 1) := by decide +kernel
theorem dX8_append_1 : decode cX8_append 1 = .ok (.bipush 32, 2) := by decide +kernel
theorem dX8_append_3 : decode cX8_append 3 = .ok (.if_icmp .lt 9, 3) := by decide +kernel
theorem dX8_append_6 : decode cX8_append 6 = .ok (.iload_n 1, 1) := by decide +kernel
theorem dX8_append_7 : decode cX8_append 7 = .ok (.bipush 126, 2) := by decide +kernel
theorem dX8_append_9 : decode cX8_append 9 = .ok (.if_icmp .le 7, 3) := by decide +kernel
theorem dX8_append_12 : decode cX8_append 12 = .ok (.sipush (-1001), 3) := by decide +kernel
theorem dX8_append_15 : decode cX8_append 15 = .ok (.ireturn, 1) := by decide +kernel
theorem dX8_append_16 : decode cX8_append 16 = .ok (.aload_n 0, 1) := by decide +kernel
theorem dX8_append_17 : decode cX8_append 17 = .ok (.getfield 26, 3) := by decide +kernel
theorem dX8_append_20 : decode cX8_append 20 = .ok (.getfield 211, 3) := by decide +kernel
theorem dX8_append_23 : decode cX8_append 23 = .ok (.bipush 120, 2) := by decide +kernel
theorem dX8_append_25 : decode cX8_append 25 = .ok (.if_icmp .lt 7, 3) := by decide +kernel
theorem dX8_append_28 : decode cX8_append 28 = .ok (.sipush (-1002), 3) := by decide +kernel
theorem dX8_append_31 : decode cX8_append 31 = .ok (.ireturn, 1) := by decide +kernel
theorem dX8_append_32 : decode cX8_append 32 = .ok (.aload_n 0, 1) := by decide +kernel
theorem dX8_append_33 : decode cX8_append 33 = .ok (.getfield 26, 3) := by decide +kernel
theorem dX8_append_36 : decode cX8_append 36 = .ok (.iload_n 1, 1) := by decide +kernel
theorem dX8_append_37 : decode cX8_append 37 = .ok (.invokevirtual 214, 3) := by decide +kernel
theorem dX8_append_40 : decode cX8_append 40 = .ok (.aload_n 0, 1) := by decide +kernel
theorem dX8_append_41 : decode cX8_append 41 = .ok (.getfield 26, 3) := by decide +kernel
theorem dX8_append_44 : decode cX8_append 44 = .ok (.getfield 211, 3) := by decide +kernel
theorem dX8_append_47 : decode cX8_append 47 = .ok (.ireturn, 1) := by decide +kernel
theorem dX8_clearText_0 : decode cX8_clearText 0 = .ok (.aload_n 0, 1) := by decide +kernel
theorem dX8_clearText_1 : decode cX8_clearText 1 = .ok (.getfield 26, 3) := by decide +kernel
theorem dX8_clearText_4 : decode cX8_clearText 4 = .ok (.getfield 211, 3) := by decide +kernel
theorem dX8_clearText_7 : decode cX8_clearText 7 = .ok (.istore_n 1, 1) := by decide +kernel
theorem dX8_clearText_8 : decode cX8_clearText 8 = .ok (.aload_n 0, 1) := by decide +kernel
theorem dX8_clearText_9 : decode cX8_clearText 9 = .ok (.getfield 26, 3) := by decide +kernel
theorem dX8_clearText_12 : decode cX8_clearText 12 = .ok (.iconst 0, 1) := by decide +kernel
theorem dX8_clearText_13 : decode cX8_clearText 13 = .ok (.putfield 211, 3) := by decide +kernel
theorem dX8_clearText_16 : decode cX8_clearText 16 = .ok (.iload_n 1, 1) := by decide +kernel
theorem dX8_clearText_17 : decode cX8_clearText 17 = .ok (.ireturn, 1) := by decide +kernel
theorem dX8_faultPosition_0 : decode cX8_faultPosition 0 = .ok (.aload_n 0, 1) := by decide +kernel
theorem dX8_faultPosition_1 : decode cX8_faultPosition 1 = .ok (.getfield 26, 3) := by decide +kernel
theorem dX8_faultPosition_4 : decode cX8_faultPosition 4 = .ok (.aload_n 0, 1) := by decide +kernel
theorem dX8_faultPosition_5 : decode cX8_faultPosition 5 = .ok (.getfield 33, 3) := by decide +kernel
theorem dX8_faultPosition_8 : decode cX8_faultPosition 8 = .ok (.invokevirtual 218, 3) := by decide +kernel
theorem dX8_faultPosition_11 : decode cX8_faultPosition 11 = .ok (.ireturn, 1) := by decide +kernel
theorem dX8_schedule_0 : decode cX8_schedule 0 = .ok (.aload_n 0, 1) := by decide +kernel
theorem dX8_schedule_1 : decode cX8_schedule 1 = .ok (.getfield 26, 3) := by decide +kernel
theorem dX8_schedule_4 : decode cX8_schedule 4 = .ok (.aload_n 0, 1) := by decide +kernel
theorem dX8_schedule_5 : decode cX8_schedule 5 = .ok (.getfield 33, 3) := by decide +kernel
theorem dX8_schedule_8 : decode cX8_schedule 8 = .ok (.invokevirtual 218, 3) := by decide +kernel
theorem dX8_schedule_11 : decode cX8_schedule 11 = .ok (.sipush (-1004), 3) := by decide +kernel
theorem dX8_schedule_14 : decode cX8_schedule 14 = .ok (.if_icmp .eq 7, 3) := by decide +kernel
theorem dX8_schedule_17 : decode cX8_schedule 17 = .ok (.sipush (-1003), 3) := by decide +kernel
theorem dX8_schedule_20 : decode cX8_schedule 20 = .ok (.ireturn, 1) := by decide +kernel
theorem dX8_schedule_21 : decode cX8_schedule 21 = .ok (.iconst 0, 1) := by decide +kernel
theorem dX8_schedule_22 : decode cX8_schedule 22 = .ok (.istore_n 1, 1) := by decide +kernel
theorem dX8_schedule_23 : decode cX8_schedule 23 = .ok (.iload_n 1, 1) := by decide +kernel
theorem dX8_schedule_24 : decode cX8_schedule 24 = .ok (.aload_n 0, 1) := by decide +kernel
theorem dX8_schedule_25 : decode cX8_schedule 25 = .ok (.getfield 33, 3) := by decide +kernel
theorem dX8_schedule_28 : decode cX8_schedule 28 = .ok (.getfield 222, 3) := by decide +kernel
theorem dX8_schedule_31 : decode cX8_schedule 31 = .ok (.if_icmp .ge 21, 3) := by decide +kernel
theorem dX8_schedule_34 : decode cX8_schedule 34 = .ok (.aload_n 0, 1) := by decide +kernel
theorem dX8_schedule_35 : decode cX8_schedule 35 = .ok (.iload_n 1, 1) := by decide +kernel
theorem dX8_schedule_36 : decode cX8_schedule 36 = .ok (.invokevirtual 225, 3) := by decide +kernel
theorem dX8_schedule_39 : decode cX8_schedule 39 = .ok (.ifCond .ne 7, 3) := by decide +kernel
theorem dX8_schedule_42 : decode cX8_schedule 42 = .ok (.sipush (-1001), 3) := by decide +kernel
theorem dX8_schedule_45 : decode cX8_schedule 45 = .ok (.ireturn, 1) := by decide +kernel
theorem dX8_schedule_46 : decode cX8_schedule 46 = .ok (.iinc 1 1, 3) := by decide +kernel
theorem dX8_schedule_49 : decode cX8_schedule 49 = .ok (.goto (-26), 3) := by decide +kernel
theorem dX8_schedule_52 : decode cX8_schedule 52 = .ok (.aload_n 0, 1) := by decide +kernel
theorem dX8_schedule_53 : decode cX8_schedule 53 = .ok (.getfield 10, 3) := by decide +kernel
theorem dX8_schedule_56 : decode cX8_schedule 56 = .ok (.getfield 228, 3) := by decide +kernel
theorem dX8_schedule_59 : decode cX8_schedule 59 = .ok (.getfield 222, 3) := by decide +kernel
theorem dX8_schedule_62 : decode cX8_schedule 62 = .ok (.aload_n 0, 1) := by decide +kernel
theorem dX8_schedule_63 : decode cX8_schedule 63 = .ok (.getfield 33, 3) := by decide +kernel
theorem dX8_schedule_66 : decode cX8_schedule 66 = .ok (.getfield 222, 3) := by decide +kernel
theorem dX8_schedule_69 : decode cX8_schedule 69 = .ok (.iadd, 1) := by decide +kernel
theorem dX8_schedule_70 : decode cX8_schedule 70 = .ok (.bipush 24, 2) := by decide +kernel
theorem dX8_schedule_72 : decode cX8_schedule 72 = .ok (.if_icmp .le 7, 3) := by decide +kernel
theorem dX8_schedule_75 : decode cX8_schedule 75 = .ok (.sipush (-1002), 3) := by decide +kernel
theorem dX8_schedule_78 : decode cX8_schedule 78 = .ok (.ireturn, 1) := by decide +kernel
theorem dX8_schedule_79 : decode cX8_schedule 79 = .ok (.aload_n 0, 1) := by decide +kernel
theorem dX8_schedule_80 : decode cX8_schedule 80 = .ok (.getfield 10, 3) := by decide +kernel
theorem dX8_schedule_83 : decode cX8_schedule 83 = .ok (.getfield 228, 3) := by decide +kernel
theorem dX8_schedule_86 : decode cX8_schedule 86 = .ok (.aload_n 0, 1) := by decide +kernel
theorem dX8_schedule_87 : decode cX8_schedule 87 = .ok (.getfield 33, 3) := by decide +kernel
theorem dX8_schedule_90 : decode cX8_schedule 90 = .ok (.invokevirtual 231, 3) := by decide +kernel
theorem dX8_schedule_93 : decode cX8_schedule 93 = .ok (.aload_n 0, 1) := by decide +kernel
theorem dX8_schedule_94 : decode cX8_schedule 94 = .ok (.getfield 33, 3) := by decide +kernel
theorem dX8_schedule_97 : decode cX8_schedule 97 = .ok (.getfield 222, 3) := by decide +kernel
theorem dX8_schedule_100 : decode cX8_schedule 100 = .ok (.ireturn, 1) := by decide +kernel
theorem dX8_scheduled_0 : decode cX8_scheduled 0 = .ok (.aload_n 0, 1) := by decide +kernel
theorem dX8_scheduled_1 : decode cX8_scheduled 1 = .ok (.getfield 10, 3) := by decide +kernel
theorem dX8_scheduled_4 : decode cX8_scheduled 4 = .ok (.getfield 228, 3) := by decide +kernel
theorem dX8_scheduled_7 : decode cX8_scheduled 7 = .ok (.getfield 222, 3) := by decide +kernel
theorem dX8_scheduled_10 : decode cX8_scheduled 10 = .ok (.ireturn, 1) := by decide +kernel
theorem dX8_keep_0 : decode cX8_keep 0 = .ok (.iload_n 1, 1) := by decide +kernel
theorem dX8_keep_1 : decode cX8_keep 1 = .ok (.ifCond .lt 8, 3) := by decide +kernel
theorem dX8_keep_4 : decode cX8_keep 4 = .ok (.iload_n 1, 1) := by decide +kernel
theorem dX8_keep_5 : decode cX8_keep 5 = .ok (.iconst 2, 1) := by decide +kernel
theorem dX8_keep_6 : decode cX8_keep 6 = .ok (.if_icmp .lt 7, 3) := by decide +kernel
theorem dX8_keep_9 : decode cX8_keep 9 = .ok (.sipush (-1001), 3) := by decide +kernel
theorem dX8_keep_12 : decode cX8_keep 12 = .ok (.ireturn, 1) := by decide +kernel
theorem dX8_keep_13 : decode cX8_keep 13 = .ok (.aload_n 0, 1) := by decide +kernel
theorem dX8_keep_14 : decode cX8_keep 14 = .ok (.getfield 19, 3) := by decide +kernel
theorem dX8_keep_17 : decode cX8_keep 17 = .ok (.iload_n 1, 1) := by decide +kernel
theorem dX8_keep_18 : decode cX8_keep 18 = .ok (.aaload, 1) := by decide +kernel
theorem dX8_keep_19 : decode cX8_keep 19 = .ok (.ifnonnull 16, 3) := by decide +kernel
theorem dX8_keep_22 : decode cX8_keep 22 = .ok (.aload_n 0, 1) := by decide +kernel
theorem dX8_keep_23 : decode cX8_keep 23 = .ok (.getfield 19, 3) := by decide +kernel
theorem dX8_keep_26 : decode cX8_keep 26 = .ok (.iload_n 1, 1) := by decide +kernel
theorem dX8_keep_27 : decode cX8_keep 27 = .ok (.new 7, 3) := by decide +kernel
theorem dX8_keep_30 : decode cX8_keep 30 = .ok (.dup, 1) := by decide +kernel
theorem dX8_keep_31 : decode cX8_keep 31 = .ok (.invokespecial 9, 3) := by decide +kernel
theorem dX8_keep_34 : decode cX8_keep 34 = .ok (.aastore, 1) := by decide +kernel
theorem dX8_keep_35 : decode cX8_keep 35 = .ok (.aload_n 0, 1) := by decide +kernel
theorem dX8_keep_36 : decode cX8_keep 36 = .ok (.getfield 19, 3) := by decide +kernel
theorem dX8_keep_39 : decode cX8_keep 39 = .ok (.iload_n 1, 1) := by decide +kernel
theorem dX8_keep_40 : decode cX8_keep 40 = .ok (.aaload, 1) := by decide +kernel
theorem dX8_keep_41 : decode cX8_keep 41 = .ok (.aload_n 0, 1) := by decide +kernel
theorem dX8_keep_42 : decode cX8_keep 42 = .ok (.getfield 10, 3) := by decide +kernel
theorem dX8_keep_45 : decode cX8_keep 45 = .ok (.invokevirtual 207, 3) := by decide +kernel
theorem dX8_keep_48 : decode cX8_keep 48 = .ok (.aload_n 0, 1) := by decide +kernel
theorem dX8_keep_49 : decode cX8_keep 49 = .ok (.getfield 10, 3) := by decide +kernel
theorem dX8_keep_52 : decode cX8_keep 52 = .ok (.getfield 104, 3) := by decide +kernel
theorem dX8_keep_55 : decode cX8_keep 55 = .ok (.ireturn, 1) := by decide +kernel
theorem dX8_restore_0 : decode cX8_restore 0 = .ok (.iload_n 1, 1) := by decide +kernel
theorem dX8_restore_1 : decode cX8_restore 1 = .ok (.ifCond .lt 8, 3) := by decide +kernel
theorem dX8_restore_4 : decode cX8_restore 4 = .ok (.iload_n 1, 1) := by decide +kernel
theorem dX8_restore_5 : decode cX8_restore 5 = .ok (.iconst 2, 1) := by decide +kernel
theorem dX8_restore_6 : decode cX8_restore 6 = .ok (.if_icmp .lt 7, 3) := by decide +kernel
theorem dX8_restore_9 : decode cX8_restore 9 = .ok (.sipush (-1001), 3) := by decide +kernel
theorem dX8_restore_12 : decode cX8_restore 12 = .ok (.ireturn, 1) := by decide +kernel
theorem dX8_restore_13 : decode cX8_restore 13 = .ok (.aload_n 0, 1) := by decide +kernel
theorem dX8_restore_14 : decode cX8_restore 14 = .ok (.getfield 19, 3) := by decide +kernel
theorem dX8_restore_17 : decode cX8_restore 17 = .ok (.iload_n 1, 1) := by decide +kernel
theorem dX8_restore_18 : decode cX8_restore 18 = .ok (.aaload, 1) := by decide +kernel
theorem dX8_restore_19 : decode cX8_restore 19 = .ok (.ifnonnull 7, 3) := by decide +kernel
theorem dX8_restore_22 : decode cX8_restore 22 = .ok (.sipush (-1003), 3) := by decide +kernel
theorem dX8_restore_25 : decode cX8_restore 25 = .ok (.ireturn, 1) := by decide +kernel
theorem dX8_restore_26 : decode cX8_restore 26 = .ok (.aload_n 0, 1) := by decide +kernel
theorem dX8_restore_27 : decode cX8_restore 27 = .ok (.getfield 10, 3) := by decide +kernel
theorem dX8_restore_30 : decode cX8_restore 30 = .ok (.aload_n 0, 1) := by decide +kernel
theorem dX8_restore_31 : decode cX8_restore 31 = .ok (.getfield 19, 3) := by decide +kernel
theorem dX8_restore_34 : decode cX8_restore 34 = .ok (.iload_n 1, 1) := by decide +kernel
theorem dX8_restore_35 : decode cX8_restore 35 = .ok (.aaload, 1) := by decide +kernel
theorem dX8_restore_36 : decode cX8_restore 36 = .ok (.invokevirtual 207, 3) := by decide +kernel
theorem dX8_restore_39 : decode cX8_restore 39 = .ok (.aload_n 0, 1) := by decide +kernel
theorem dX8_restore_40 : decode cX8_restore 40 = .ok (.getfield 10, 3) := by decide +kernel
theorem dX8_restore_43 : decode cX8_restore 43 = .ok (.getfield 104, 3) := by decide +kernel
theorem dX8_restore_46 : decode cX8_restore 46 = .ok (.ireturn, 1) := by decide +kernel
theorem dX8_checksum_0 : decode cX8_checksum 0 = .ok (.ldc2_w 235, 3) := by decide +kernel
theorem dX8_checksum_3 : decode cX8_checksum 3 = .ok (.lstore_n 1, 1) := by decide +kernel
theorem dX8_checksum_4 : decode cX8_checksum 4 = .ok (.ldc2_w 237, 3) := by decide +kernel
theorem dX8_checksum_7 : decode cX8_checksum 7 = .ok (.lload_n 1, 1) := by decide +kernel
theorem dX8_checksum_8 : decode cX8_checksum 8 = .ok (.lmul, 1) := by decide +kernel
theorem dX8_checksum_9 : decode cX8_checksum 9 = .ok (.aload_n 0, 1) := by decide +kernel
theorem dX8_checksum_10 : decode cX8_checksum 10 = .ok (.invokevirtual 239, 3) := by decide +kernel
theorem dX8_checksum_13 : decode cX8_checksum 13 = .ok (.i2l, 1) := by decide +kernel
theorem dX8_checksum_14 : decode cX8_checksum 14 = .ok (.ladd, 1) := by decide +kernel
theorem dX8_checksum_15 : decode cX8_checksum 15 = .ok (.lstore_n 1, 1) := by decide +kernel
theorem dX8_checksum_16 : decode cX8_checksum 16 = .ok (.ldc2_w 237, 3) := by decide +kernel
theorem dX8_checksum_19 : decode cX8_checksum 19 = .ok (.lload_n 1, 1) := by decide +kernel
theorem dX8_checksum_20 : decode cX8_checksum 20 = .ok (.lmul, 1) := by decide +kernel
theorem dX8_checksum_21 : decode cX8_checksum 21 = .ok (.aload_n 0, 1) := by decide +kernel
theorem dX8_checksum_22 : decode cX8_checksum 22 = .ok (.invokevirtual 241, 3) := by decide +kernel
theorem dX8_checksum_25 : decode cX8_checksum 25 = .ok (.i2l, 1) := by decide +kernel
theorem dX8_checksum_26 : decode cX8_checksum 26 = .ok (.ladd, 1) := by decide +kernel
theorem dX8_checksum_27 : decode cX8_checksum 27 = .ok (.lstore_n 1, 1) := by decide +kernel
theorem dX8_checksum_28 : decode cX8_checksum 28 = .ok (.ldc2_w 237, 3) := by decide +kernel
theorem dX8_checksum_31 : decode cX8_checksum 31 = .ok (.lload_n 1, 1) := by decide +kernel
theorem dX8_checksum_32 : decode cX8_checksum 32 = .ok (.lmul, 1) := by decide +kernel
theorem dX8_checksum_33 : decode cX8_checksum 33 = .ok (.aload_n 0, 1) := by decide +kernel
theorem dX8_checksum_34 : decode cX8_checksum 34 = .ok (.invokevirtual 243, 3) := by decide +kernel
theorem dX8_checksum_37 : decode cX8_checksum 37 = .ok (.i2l, 1) := by decide +kernel
theorem dX8_checksum_38 : decode cX8_checksum 38 = .ok (.ladd, 1) := by decide +kernel
theorem dX8_checksum_39 : decode cX8_checksum 39 = .ok (.lstore_n 1, 1) := by decide +kernel
theorem dX8_checksum_40 : decode cX8_checksum 40 = .ok (.ldc2_w 237, 3) := by decide +kernel
theorem dX8_checksum_43 : decode cX8_checksum 43 = .ok (.lload_n 1, 1) := by decide +kernel
theorem dX8_checksum_44 : decode cX8_checksum 44 = .ok (.lmul, 1) := by decide +kernel
theorem dX8_checksum_45 : decode cX8_checksum 45 = .ok (.aload_n 0, 1) := by decide +kernel
theorem dX8_checksum_46 : decode cX8_checksum 46 = .ok (.invokevirtual 245, 3) := by decide +kernel
theorem dX8_checksum_49 : decode cX8_checksum 49 = .ok (.i2l, 1) := by decide +kernel
theorem dX8_checksum_50 : decode cX8_checksum 50 = .ok (.ladd, 1) := by decide +kernel
theorem dX8_checksum_51 : decode cX8_checksum 51 = .ok (.lstore_n 1, 1) := by decide +kernel
theorem dX8_checksum_52 : decode cX8_checksum 52 = .ok (.ldc2_w 237, 3) := by decide +kernel
theorem dX8_checksum_55 : decode cX8_checksum 55 = .ok (.lload_n 1, 1) := by decide +kernel
theorem dX8_checksum_56 : decode cX8_checksum 56 = .ok (.lmul, 1) := by decide +kernel
theorem dX8_checksum_57 : decode cX8_checksum 57 = .ok (.aload_n 0, 1) := by decide +kernel
theorem dX8_checksum_58 : decode cX8_checksum 58 = .ok (.invokevirtual 248, 3) := by decide +kernel
theorem dX8_checksum_61 : decode cX8_checksum 61 = .ok (.i2l, 1) := by decide +kernel
theorem dX8_checksum_62 : decode cX8_checksum 62 = .ok (.ladd, 1) := by decide +kernel
theorem dX8_checksum_63 : decode cX8_checksum 63 = .ok (.lstore_n 1, 1) := by decide +kernel
theorem dX8_checksum_64 : decode cX8_checksum 64 = .ok (.ldc2_w 237, 3) := by decide +kernel
theorem dX8_checksum_67 : decode cX8_checksum 67 = .ok (.lload_n 1, 1) := by decide +kernel
theorem dX8_checksum_68 : decode cX8_checksum 68 = .ok (.lmul, 1) := by decide +kernel
theorem dX8_checksum_69 : decode cX8_checksum 69 = .ok (.aload_n 0, 1) := by decide +kernel
theorem dX8_checksum_70 : decode cX8_checksum 70 = .ok (.invokevirtual 250, 3) := by decide +kernel
theorem dX8_checksum_73 : decode cX8_checksum 73 = .ok (.i2l, 1) := by decide +kernel
theorem dX8_checksum_74 : decode cX8_checksum 74 = .ok (.ladd, 1) := by decide +kernel
theorem dX8_checksum_75 : decode cX8_checksum 75 = .ok (.lstore_n 1, 1) := by decide +kernel
theorem dX8_checksum_76 : decode cX8_checksum 76 = .ok (.ldc2_w 237, 3) := by decide +kernel
theorem dX8_checksum_79 : decode cX8_checksum 79 = .ok (.lload_n 1, 1) := by decide +kernel
theorem dX8_checksum_80 : decode cX8_checksum 80 = .ok (.lmul, 1) := by decide +kernel
theorem dX8_checksum_81 : decode cX8_checksum 81 = .ok (.aload_n 0, 1) := by decide +kernel
theorem dX8_checksum_82 : decode cX8_checksum 82 = .ok (.invokevirtual 253, 3) := by decide +kernel
theorem dX8_checksum_85 : decode cX8_checksum 85 = .ok (.i2l, 1) := by decide +kernel
theorem dX8_checksum_86 : decode cX8_checksum 86 = .ok (.ladd, 1) := by decide +kernel
theorem dX8_checksum_87 : decode cX8_checksum 87 = .ok (.lstore_n 1, 1) := by decide +kernel
theorem dX8_checksum_88 : decode cX8_checksum 88 = .ok (.ldc2_w 237, 3) := by decide +kernel
theorem dX8_checksum_91 : decode cX8_checksum 91 = .ok (.lload_n 1, 1) := by decide +kernel
theorem dX8_checksum_92 : decode cX8_checksum 92 = .ok (.lmul, 1) := by decide +kernel
theorem dX8_checksum_93 : decode cX8_checksum 93 = .ok (.aload_n 0, 1) := by decide +kernel
theorem dX8_checksum_94 : decode cX8_checksum 94 = .ok (.invokevirtual 256, 3) := by decide +kernel
theorem dX8_checksum_97 : decode cX8_checksum 97 = .ok (.i2l, 1) := by decide +kernel
theorem dX8_checksum_98 : decode cX8_checksum 98 = .ok (.ladd, 1) := by decide +kernel
theorem dX8_checksum_99 : decode cX8_checksum 99 = .ok (.lstore_n 1, 1) := by decide +kernel
theorem dX8_checksum_100 : decode cX8_checksum 100 = .ok (.iconst 1, 1) := by decide +kernel
theorem dX8_checksum_101 : decode cX8_checksum 101 = .ok (.istore_n 3, 1) := by decide +kernel
theorem dX8_checksum_102 : decode cX8_checksum 102 = .ok (.iload_n 3, 1) := by decide +kernel
theorem dX8_checksum_103 : decode cX8_checksum 103 = .ok (.iconst 3, 1) := by decide +kernel
theorem dX8_checksum_104 : decode cX8_checksum 104 = .ok (.if_icmp .gt 22, 3) := by decide +kernel
theorem dX8_checksum_107 : decode cX8_checksum 107 = .ok (.ldc2_w 237, 3) := by decide +kernel
theorem dX8_checksum_110 : decode cX8_checksum 110 = .ok (.lload_n 1, 1) := by decide +kernel
theorem dX8_checksum_111 : decode cX8_checksum 111 = .ok (.lmul, 1) := by decide +kernel
theorem dX8_checksum_112 : decode cX8_checksum 112 = .ok (.aload_n 0, 1) := by decide +kernel
theorem dX8_checksum_113 : decode cX8_checksum 113 = .ok (.iload_n 3, 1) := by decide +kernel
theorem dX8_checksum_114 : decode cX8_checksum 114 = .ok (.invokevirtual 258, 3) := by decide +kernel
theorem dX8_checksum_117 : decode cX8_checksum 117 = .ok (.i2l, 1) := by decide +kernel
theorem dX8_checksum_118 : decode cX8_checksum 118 = .ok (.ladd, 1) := by decide +kernel
theorem dX8_checksum_119 : decode cX8_checksum 119 = .ok (.lstore_n 1, 1) := by decide +kernel
theorem dX8_checksum_120 : decode cX8_checksum 120 = .ok (.iinc 3 1, 3) := by decide +kernel
theorem dX8_checksum_123 : decode cX8_checksum 123 = .ok (.goto (-21), 3) := by decide +kernel
theorem dX8_checksum_126 : decode cX8_checksum 126 = .ok (.ldc2_w 237, 3) := by decide +kernel
theorem dX8_checksum_129 : decode cX8_checksum 129 = .ok (.lload_n 1, 1) := by decide +kernel
theorem dX8_checksum_130 : decode cX8_checksum 130 = .ok (.lmul, 1) := by decide +kernel
theorem dX8_checksum_131 : decode cX8_checksum 131 = .ok (.aload_n 0, 1) := by decide +kernel
theorem dX8_checksum_132 : decode cX8_checksum 132 = .ok (.invokevirtual 261, 3) := by decide +kernel
theorem dX8_checksum_135 : decode cX8_checksum 135 = .ok (.i2l, 1) := by decide +kernel
theorem dX8_checksum_136 : decode cX8_checksum 136 = .ok (.ladd, 1) := by decide +kernel
theorem dX8_checksum_137 : decode cX8_checksum 137 = .ok (.lstore_n 1, 1) := by decide +kernel
theorem dX8_checksum_138 : decode cX8_checksum 138 = .ok (.ldc2_w 237, 3) := by decide +kernel
theorem dX8_checksum_141 : decode cX8_checksum 141 = .ok (.lload_n 1, 1) := by decide +kernel
theorem dX8_checksum_142 : decode cX8_checksum 142 = .ok (.lmul, 1) := by decide +kernel
theorem dX8_checksum_143 : decode cX8_checksum 143 = .ok (.aload_n 0, 1) := by decide +kernel
theorem dX8_checksum_144 : decode cX8_checksum 144 = .ok (.invokevirtual 263, 3) := by decide +kernel
theorem dX8_checksum_147 : decode cX8_checksum 147 = .ok (.i2l, 1) := by decide +kernel
theorem dX8_checksum_148 : decode cX8_checksum 148 = .ok (.ladd, 1) := by decide +kernel
theorem dX8_checksum_149 : decode cX8_checksum 149 = .ok (.lstore_n 1, 1) := by decide +kernel
theorem dX8_checksum_150 : decode cX8_checksum 150 = .ok (.ldc2_w 237, 3) := by decide +kernel
theorem dX8_checksum_153 : decode cX8_checksum 153 = .ok (.lload_n 1, 1) := by decide +kernel
theorem dX8_checksum_154 : decode cX8_checksum 154 = .ok (.lmul, 1) := by decide +kernel
theorem dX8_checksum_155 : decode cX8_checksum 155 = .ok (.aload_n 0, 1) := by decide +kernel
theorem dX8_checksum_156 : decode cX8_checksum 156 = .ok (.invokevirtual 265, 3) := by decide +kernel
theorem dX8_checksum_159 : decode cX8_checksum 159 = .ok (.i2l, 1) := by decide +kernel
theorem dX8_checksum_160 : decode cX8_checksum 160 = .ok (.ladd, 1) := by decide +kernel
theorem dX8_checksum_161 : decode cX8_checksum 161 = .ok (.lstore_n 1, 1) := by decide +kernel
theorem dX8_checksum_162 : decode cX8_checksum 162 = .ok (.ldc2_w 237, 3) := by decide +kernel
theorem dX8_checksum_165 : decode cX8_checksum 165 = .ok (.lload_n 1, 1) := by decide +kernel
theorem dX8_checksum_166 : decode cX8_checksum 166 = .ok (.lmul, 1) := by decide +kernel
theorem dX8_checksum_167 : decode cX8_checksum 167 = .ok (.aload_n 0, 1) := by decide +kernel
theorem dX8_checksum_168 : decode cX8_checksum 168 = .ok (.invokevirtual 267, 3) := by decide +kernel
theorem dX8_checksum_171 : decode cX8_checksum 171 = .ok (.i2l, 1) := by decide +kernel
theorem dX8_checksum_172 : decode cX8_checksum 172 = .ok (.ladd, 1) := by decide +kernel
theorem dX8_checksum_173 : decode cX8_checksum 173 = .ok (.lstore_n 1, 1) := by decide +kernel
theorem dX8_checksum_174 : decode cX8_checksum 174 = .ok (.ldc2_w 237, 3) := by decide +kernel
theorem dX8_checksum_177 : decode cX8_checksum 177 = .ok (.lload_n 1, 1) := by decide +kernel
theorem dX8_checksum_178 : decode cX8_checksum 178 = .ok (.lmul, 1) := by decide +kernel
theorem dX8_checksum_179 : decode cX8_checksum 179 = .ok (.aload_n 0, 1) := by decide +kernel
theorem dX8_checksum_180 : decode cX8_checksum 180 = .ok (.invokevirtual 269, 3) := by decide +kernel
theorem dX8_checksum_183 : decode cX8_checksum 183 = .ok (.i2l, 1) := by decide +kernel
theorem dX8_checksum_184 : decode cX8_checksum 184 = .ok (.ladd, 1) := by decide +kernel
theorem dX8_checksum_185 : decode cX8_checksum 185 = .ok (.lstore_n 1, 1) := by decide +kernel
theorem dX8_checksum_186 : decode cX8_checksum 186 = .ok (.ldc2_w 237, 3) := by decide +kernel
theorem dX8_checksum_189 : decode cX8_checksum 189 = .ok (.lload_n 1, 1) := by decide +kernel
theorem dX8_checksum_190 : decode cX8_checksum 190 = .ok (.lmul, 1) := by decide +kernel
theorem dX8_checksum_191 : decode cX8_checksum 191 = .ok (.aload_n 0, 1) := by decide +kernel
theorem dX8_checksum_192 : decode cX8_checksum 192 = .ok (.invokevirtual 271, 3) := by decide +kernel
theorem dX8_checksum_195 : decode cX8_checksum 195 = .ok (.i2l, 1) := by decide +kernel
theorem dX8_checksum_196 : decode cX8_checksum 196 = .ok (.ladd, 1) := by decide +kernel
theorem dX8_checksum_197 : decode cX8_checksum 197 = .ok (.lstore_n 1, 1) := by decide +kernel
theorem dX8_checksum_198 : decode cX8_checksum 198 = .ok (.iconst 1, 1) := by decide +kernel
theorem dX8_checksum_199 : decode cX8_checksum 199 = .ok (.istore_n 3, 1) := by decide +kernel
theorem dX8_checksum_200 : decode cX8_checksum 200 = .ok (.iload_n 3, 1) := by decide +kernel
theorem dX8_checksum_201 : decode cX8_checksum 201 = .ok (.bipush 64, 2) := by decide +kernel
theorem dX8_checksum_203 : decode cX8_checksum 203 = .ok (.if_icmp .gt 22, 3) := by decide +kernel
theorem dX8_checksum_206 : decode cX8_checksum 206 = .ok (.ldc2_w 237, 3) := by decide +kernel
theorem dX8_checksum_209 : decode cX8_checksum 209 = .ok (.lload_n 1, 1) := by decide +kernel
theorem dX8_checksum_210 : decode cX8_checksum 210 = .ok (.lmul, 1) := by decide +kernel
theorem dX8_checksum_211 : decode cX8_checksum 211 = .ok (.aload_n 0, 1) := by decide +kernel
theorem dX8_checksum_212 : decode cX8_checksum 212 = .ok (.iload_n 3, 1) := by decide +kernel
theorem dX8_checksum_213 : decode cX8_checksum 213 = .ok (.invokevirtual 274, 3) := by decide +kernel
theorem dX8_checksum_216 : decode cX8_checksum 216 = .ok (.i2l, 1) := by decide +kernel
theorem dX8_checksum_217 : decode cX8_checksum 217 = .ok (.ladd, 1) := by decide +kernel
theorem dX8_checksum_218 : decode cX8_checksum 218 = .ok (.lstore_n 1, 1) := by decide +kernel
theorem dX8_checksum_219 : decode cX8_checksum 219 = .ok (.iinc 3 1, 3) := by decide +kernel
theorem dX8_checksum_222 : decode cX8_checksum 222 = .ok (.goto (-22), 3) := by decide +kernel
theorem dX8_checksum_225 : decode cX8_checksum 225 = .ok (.iconst 1, 1) := by decide +kernel
theorem dX8_checksum_226 : decode cX8_checksum 226 = .ok (.istore_n 3, 1) := by decide +kernel
theorem dX8_checksum_227 : decode cX8_checksum 227 = .ok (.iload_n 3, 1) := by decide +kernel
theorem dX8_checksum_228 : decode cX8_checksum 228 = .ok (.bipush 16, 2) := by decide +kernel
theorem dX8_checksum_230 : decode cX8_checksum 230 = .ok (.if_icmp .gt 22, 3) := by decide +kernel
theorem dX8_checksum_233 : decode cX8_checksum 233 = .ok (.ldc2_w 237, 3) := by decide +kernel
theorem dX8_checksum_236 : decode cX8_checksum 236 = .ok (.lload_n 1, 1) := by decide +kernel
theorem dX8_checksum_237 : decode cX8_checksum 237 = .ok (.lmul, 1) := by decide +kernel
theorem dX8_checksum_238 : decode cX8_checksum 238 = .ok (.aload_n 0, 1) := by decide +kernel
theorem dX8_checksum_239 : decode cX8_checksum 239 = .ok (.iload_n 3, 1) := by decide +kernel
theorem dX8_checksum_240 : decode cX8_checksum 240 = .ok (.invokevirtual 277, 3) := by decide +kernel
theorem dX8_checksum_243 : decode cX8_checksum 243 = .ok (.i2l, 1) := by decide +kernel
theorem dX8_checksum_244 : decode cX8_checksum 244 = .ok (.ladd, 1) := by decide +kernel
theorem dX8_checksum_245 : decode cX8_checksum 245 = .ok (.lstore_n 1, 1) := by decide +kernel
theorem dX8_checksum_246 : decode cX8_checksum 246 = .ok (.iinc 3 1, 3) := by decide +kernel
theorem dX8_checksum_249 : decode cX8_checksum 249 = .ok (.goto (-22), 3) := by decide +kernel
theorem dX8_checksum_252 : decode cX8_checksum 252 = .ok (.iconst 0, 1) := by decide +kernel
theorem dX8_checksum_253 : decode cX8_checksum 253 = .ok (.istore_n 3, 1) := by decide +kernel
theorem dX8_checksum_254 : decode cX8_checksum 254 = .ok (.iload_n 3, 1) := by decide +kernel
theorem dX8_checksum_255 : decode cX8_checksum 255 = .ok (.bipush 99, 2) := by decide +kernel
theorem dX8_checksum_257 : decode cX8_checksum 257 = .ok (.if_icmp .gt 22, 3) := by decide +kernel
theorem dX8_checksum_260 : decode cX8_checksum 260 = .ok (.ldc2_w 237, 3) := by decide +kernel
theorem dX8_checksum_263 : decode cX8_checksum 263 = .ok (.lload_n 1, 1) := by decide +kernel
theorem dX8_checksum_264 : decode cX8_checksum 264 = .ok (.lmul, 1) := by decide +kernel
theorem dX8_checksum_265 : decode cX8_checksum 265 = .ok (.aload_n 0, 1) := by decide +kernel
theorem dX8_checksum_266 : decode cX8_checksum 266 = .ok (.iload_n 3, 1) := by decide +kernel
theorem dX8_checksum_267 : decode cX8_checksum 267 = .ok (.invokevirtual 280, 3) := by decide +kernel
theorem dX8_checksum_270 : decode cX8_checksum 270 = .ok (.i2l, 1) := by decide +kernel
theorem dX8_checksum_271 : decode cX8_checksum 271 = .ok (.ladd, 1) := by decide +kernel
theorem dX8_checksum_272 : decode cX8_checksum 272 = .ok (.lstore_n 1, 1) := by decide +kernel
theorem dX8_checksum_273 : decode cX8_checksum 273 = .ok (.iinc 3 1, 3) := by decide +kernel
theorem dX8_checksum_276 : decode cX8_checksum 276 = .ok (.goto (-22), 3) := by decide +kernel
theorem dX8_checksum_279 : decode cX8_checksum 279 = .ok (.lload_n 1, 1) := by decide +kernel
theorem dX8_checksum_280 : decode cX8_checksum 280 = .ok (.lreturn, 1) := by decide +kernel
theorem dX8_isFrame_0 : decode cX8_isFrame 0 = .ok (.iload_n 0, 1) := by decide +kernel
theorem dX8_isFrame_1 : decode cX8_isFrame 1 = .ok (.ifCond .lt 14, 3) := by decide +kernel
theorem dX8_isFrame_4 : decode cX8_isFrame 4 = .ok (.iload_n 0, 1) := by decide +kernel
theorem dX8_isFrame_5 : decode cX8_isFrame 5 = .ok (.sipush 999, 3) := by decide +kernel
theorem dX8_isFrame_8 : decode cX8_isFrame 8 = .ok (.if_icmp .gt 7, 3) := by decide +kernel
theorem dX8_isFrame_11 : decode cX8_isFrame 11 = .ok (.iconst 1, 1) := by decide +kernel
theorem dX8_isFrame_12 : decode cX8_isFrame 12 = .ok (.goto 4, 3) := by decide +kernel
theorem dX8_isFrame_15 : decode cX8_isFrame 15 = .ok (.iconst 0, 1) := by decide +kernel
theorem dX8_isFrame_16 : decode cX8_isFrame 16 = .ok (.ireturn, 1) := by decide +kernel
theorem dX8_canArrive_0 : decode cX8_canArrive 0 = .ok (.aload_n 0, 1) := by decide +kernel
theorem dX8_canArrive_1 : decode cX8_canArrive 1 = .ok (.getfield 33, 3) := by decide +kernel
theorem dX8_canArrive_4 : decode cX8_canArrive 4 = .ok (.getfield 283, 3) := by decide +kernel
theorem dX8_canArrive_7 : decode cX8_canArrive 7 = .ok (.iload_n 1, 1) := by decide +kernel
theorem dX8_canArrive_8 : decode cX8_canArrive 8 = .ok (.iaload, 1) := by decide +kernel
theorem dX8_canArrive_9 : decode cX8_canArrive 9 = .ok (.aload_n 0, 1) := by decide +kernel
theorem dX8_canArrive_10 : decode cX8_canArrive 10 = .ok (.getfield 10, 3) := by decide +kernel
theorem dX8_canArrive_13 : decode cX8_canArrive 13 = .ok (.getfield 104, 3) := by decide +kernel
theorem dX8_canArrive_16 : decode cX8_canArrive 16 = .ok (.if_icmp .gt 5, 3) := by decide +kernel
theorem dX8_canArrive_19 : decode cX8_canArrive 19 = .ok (.iconst 0, 1) := by decide +kernel
theorem dX8_canArrive_20 : decode cX8_canArrive 20 = .ok (.ireturn, 1) := by decide +kernel
theorem dX8_canArrive_21 : decode cX8_canArrive 21 = .ok (.aload_n 0, 1) := by decide +kernel
theorem dX8_canArrive_22 : decode cX8_canArrive 22 = .ok (.getfield 33, 3) := by decide +kernel
theorem dX8_canArrive_25 : decode cX8_canArrive 25 = .ok (.getfield 287, 3) := by decide +kernel
theorem dX8_canArrive_28 : decode cX8_canArrive 28 = .ok (.iload_n 1, 1) := by decide +kernel
theorem dX8_canArrive_29 : decode cX8_canArrive 29 = .ok (.iaload, 1) := by decide +kernel
theorem dX8_canArrive_30 : decode cX8_canArrive 30 = .ok (.istore_n 2, 1) := by decide +kernel
theorem dX8_canArrive_31 : decode cX8_canArrive 31 = .ok (.aload_n 0, 1) := by decide +kernel
theorem dX8_canArrive_32 : decode cX8_canArrive 32 = .ok (.getfield 33, 3) := by decide +kernel
theorem dX8_canArrive_35 : decode cX8_canArrive 35 = .ok (.getfield 290, 3) := by decide +kernel
theorem dX8_canArrive_38 : decode cX8_canArrive 38 = .ok (.iload_n 1, 1) := by decide +kernel
theorem dX8_canArrive_39 : decode cX8_canArrive 39 = .ok (.iaload, 1) := by decide +kernel
theorem dX8_canArrive_40 : decode cX8_canArrive 40 = .ok (.ifCond .ne 8, 3) := by decide +kernel
theorem dX8_canArrive_43 : decode cX8_canArrive 43 = .ok (.iload_n 2, 1) := by decide +kernel
theorem dX8_canArrive_44 : decode cX8_canArrive 44 = .ok (.invokestatic 76, 3) := by decide +kernel
theorem dX8_canArrive_47 : decode cX8_canArrive 47 = .ok (.ireturn, 1) := by decide +kernel
theorem dX8_canArrive_48 : decode cX8_canArrive 48 = .ok (.aload_n 0, 1) := by decide +kernel
theorem dX8_canArrive_49 : decode cX8_canArrive 49 = .ok (.getfield 10, 3) := by decide +kernel
theorem dX8_canArrive_52 : decode cX8_canArrive 52 = .ok (.getfield 43, 3) := by decide +kernel
theorem dX8_canArrive_55 : decode cX8_canArrive 55 = .ok (.aload_n 0, 1) := by decide +kernel
theorem dX8_canArrive_56 : decode cX8_canArrive 56 = .ok (.getfield 33, 3) := by decide +kernel
theorem dX8_canArrive_59 : decode cX8_canArrive 59 = .ok (.getfield 290, 3) := by decide +kernel
theorem dX8_canArrive_62 : decode cX8_canArrive 62 = .ok (.iload_n 1, 1) := by decide +kernel
theorem dX8_canArrive_63 : decode cX8_canArrive 63 = .ok (.iaload, 1) := by decide +kernel
theorem dX8_canArrive_64 : decode cX8_canArrive 64 = .ok (.iconst 1, 1) := by decide +kernel
theorem dX8_canArrive_65 : decode cX8_canArrive 65 = .ok (.if_icmp .ne 7, 3) := by decide +kernel
theorem dX8_canArrive_68 : decode cX8_canArrive 68 = .ok (.iconst 1, 1) := by decide +kernel
theorem dX8_canArrive_69 : decode cX8_canArrive 69 = .ok (.goto 4, 3) := by decide +kernel
theorem dX8_canArrive_72 : decode cX8_canArrive 72 = .ok (.iconst 0, 1) := by decide +kernel
theorem dX8_canArrive_73 : decode cX8_canArrive 73 = .ok (.iload_n 2, 1) := by decide +kernel
theorem dX8_canArrive_74 : decode cX8_canArrive 74 = .ok (.aload_n 0, 1) := by decide +kernel
theorem dX8_canArrive_75 : decode cX8_canArrive 75 = .ok (.getfield 33, 3) := by decide +kernel
theorem dX8_canArrive_78 : decode cX8_canArrive 78 = .ok (.getfield 293, 3) := by decide +kernel
theorem dX8_canArrive_81 : decode cX8_canArrive 81 = .ok (.iload_n 1, 1) := by decide +kernel
theorem dX8_canArrive_82 : decode cX8_canArrive 82 = .ok (.iaload, 1) := by decide +kernel
theorem dX8_canArrive_83 : decode cX8_canArrive 83 = .ok (.invokevirtual 84, 3) := by decide +kernel
theorem dX8_canArrive_86 : decode cX8_canArrive 86 = .ok (.ireturn, 1) := by decide +kernel
theorem dX8_commonDivisor_0 : decode cX8_commonDivisor 0 = .ok (.iload_n 0, 1) := by decide +kernel
theorem dX8_commonDivisor_1 : decode cX8_commonDivisor 1 = .ok (.istore_n 2, 1) := by decide +kernel
theorem dX8_commonDivisor_2 : decode cX8_commonDivisor 2 = .ok (.iload_n 1, 1) := by decide +kernel
theorem dX8_commonDivisor_3 : decode cX8_commonDivisor 3 = .ok (.istore_n 3, 1) := by decide +kernel
theorem dX8_commonDivisor_4 : decode cX8_commonDivisor 4 = .ok (.iconst 0, 1) := by decide +kernel
theorem dX8_commonDivisor_5 : decode cX8_commonDivisor 5 = .ok (.istore 4, 2) := by decide +kernel
theorem dX8_commonDivisor_7 : decode cX8_commonDivisor 7 = .ok (.iload 4, 2) := by decide +kernel
theorem dX8_commonDivisor_9 : decode cX8_commonDivisor 9 = .ok (.bipush 64, 2) := by decide +kernel
theorem dX8_commonDivisor_11 : decode cX8_commonDivisor 11 = .ok (.if_icmp .ge 23, 3) := by decide +kernel
theorem dX8_commonDivisor_14 : decode cX8_commonDivisor 14 = .ok (.iload_n 3, 1) := by decide +kernel
theorem dX8_commonDivisor_15 : decode cX8_commonDivisor 15 = .ok (.ifCond .eq 19, 3) := by decide +kernel
theorem dX8_commonDivisor_18 : decode cX8_commonDivisor 18 = .ok (.iload_n 2, 1) := by decide +kernel
theorem dX8_commonDivisor_19 : decode cX8_commonDivisor 19 = .ok (.iload_n 3, 1) := by decide +kernel
theorem dX8_commonDivisor_20 : decode cX8_commonDivisor 20 = .ok (.irem, 1) := by decide +kernel
theorem dX8_commonDivisor_21 : decode cX8_commonDivisor 21 = .ok (.istore 5, 2) := by decide +kernel
theorem dX8_commonDivisor_23 : decode cX8_commonDivisor 23 = .ok (.iload_n 3, 1) := by decide +kernel
theorem dX8_commonDivisor_24 : decode cX8_commonDivisor 24 = .ok (.istore_n 2, 1) := by decide +kernel
theorem dX8_commonDivisor_25 : decode cX8_commonDivisor 25 = .ok (.iload 5, 2) := by decide +kernel
theorem dX8_commonDivisor_27 : decode cX8_commonDivisor 27 = .ok (.istore_n 3, 1) := by decide +kernel
theorem dX8_commonDivisor_28 : decode cX8_commonDivisor 28 = .ok (.iinc 4 1, 3) := by decide +kernel
theorem dX8_commonDivisor_31 : decode cX8_commonDivisor 31 = .ok (.goto (-24), 3) := by decide +kernel
theorem dX8_commonDivisor_34 : decode cX8_commonDivisor 34 = .ok (.iload_n 2, 1) := by decide +kernel
theorem dX8_commonDivisor_35 : decode cX8_commonDivisor 35 = .ok (.ireturn, 1) := by decide +kernel
