theorem dX9_init_0 : decode cX9_init 0 = .ok (.aload_n 0, 1) := by decide +kernel
theorem dX9_init_1 : decode cX9_init 1 = .ok (.invokespecial 1, 3) := by decide +kernel
theorem dX9_init_4 : decode cX9_init 4 = .ok (.aload_n 0, 1) := by decide +kernel
theorem dX9_init_5 : decode cX9_init 5 = .ok (.sipush 2484, 3) := by decide +kernel
theorem dX9_init_8 : decode cX9_init 8 = .ok (.newarray .int, 2) := by decide +kernel
theorem dX9_init_10 : decode cX9_init 10 = .ok (.putfield 7, 3) := by decide +kernel
theorem dX9_init_13 : decode cX9_init 13 = .ok (.aload_n 0, 1) := by decide +kernel
theorem dX9_init_14 : decode cX9_init 14 = .ok (.sipush 2484, 3) := by decide +kernel
theorem dX9_init_17 : decode cX9_init 17 = .ok (.newarray .int, 2) := by decide +kernel
theorem dX9_init_19 : decode cX9_init 19 = .ok (.putfield 13, 3) := by decide +kernel
theorem dX9_init_22 : decode cX9_init 22 = .ok (.aload_n 0, 1) := by decide +kernel
theorem dX9_init_23 : decode cX9_init 23 = .ok (.sipush 4968, 3) := by decide +kernel
theorem dX9_init_26 : decode cX9_init 26 = .ok (.newarray .int, 2) := by decide +kernel
theorem dX9_init_28 : decode cX9_init 28 = .ok (.putfield 16, 3) := by decide +kernel
theorem dX9_init_31 : decode cX9_init 31 = .ok (.aload_n 0, 1) := by decide +kernel
theorem dX9_init_32 : decode cX9_init 32 = .ok (.iconst 2, 1) := by decide +kernel
theorem dX9_init_33 : decode cX9_init 33 = .ok (.newarray .boolean, 2) := by decide +kernel
theorem dX9_init_35 : decode cX9_init 35 = .ok (.putfield 19, 3) := by decide +kernel
theorem dX9_init_38 : decode cX9_init 38 = .ok (.aload_n 0, 1) := by decide +kernel
theorem dX9_init_39 : decode cX9_init 39 = .ok (.bipush 120, 2) := by decide +kernel
theorem dX9_init_41 : decode cX9_init 41 = .ok (.newarray .int, 2) := by decide +kernel
theorem dX9_init_43 : decode cX9_init 43 = .ok (.putfield 23, 3) := by decide +kernel
theorem dX9_init_46 : decode cX9_init 46 = .ok (.aload_n 0, 1) := by decide +kernel
theorem dX9_init_47 : decode cX9_init 47 = .ok (.bipush 16, 2) := by decide +kernel
theorem dX9_init_49 : decode cX9_init 49 = .ok (.newarray .int, 2) := by decide +kernel
theorem dX9_init_51 : decode cX9_init 51 = .ok (.putfield 26, 3) := by decide +kernel
theorem dX9_init_54 : decode cX9_init 54 = .ok (.aload_n 0, 1) := by decide +kernel
theorem dX9_init_55 : decode cX9_init 55 = .ok (.bipush 16, 2) := by decide +kernel
theorem dX9_init_57 : decode cX9_init 57 = .ok (.newarray .int, 2) := by decide +kernel
theorem dX9_init_59 : decode cX9_init 59 = .ok (.putfield 29, 3) := by decide +kernel
theorem dX9_init_62 : decode cX9_init 62 = .ok (.aload_n 0, 1) := by decide +kernel
theorem dX9_init_63 : decode cX9_init 63 = .ok (.sipush 160, 3) := by decide +kernel
theorem dX9_init_66 : decode cX9_init 66 = .ok (.newarray .int, 2) := by decide +kernel
theorem dX9_init_68 : decode cX9_init 68 = .ok (.putfield 32, 3) := by decide +kernel
theorem dX9_init_71 : decode cX9_init 71 = .ok (.aload_n 0, 1) := by decide +kernel
theorem dX9_init_72 : decode cX9_init 72 = .ok (.getfield 7, 3) := by decide +kernel
theorem dX9_init_75 : decode cX9_init 75 = .ok (.iconst 0, 1) := by decide +kernel
theorem dX9_init_76 : decode cX9_init 76 = .ok (.bipush 8, 2) := by decide +kernel
theorem dX9_init_78 : decode cX9_init 78 = .ok (.iastore, 1) := by decide +kernel
theorem dX9_init_79 : decode cX9_init 79 = .ok (.aload_n 0, 1) := by decide +kernel
theorem dX9_init_80 : decode cX9_init 80 = .ok (.getfield 7, 3) := by decide +kernel
theorem dX9_init_83 : decode cX9_init 83 = .ok (.iconst 1, 1) := by decide +kernel
theorem dX9_init_84 : decode cX9_init 84 = .ok (.bipush 16, 2) := by decide +kernel
theorem dX9_init_86 : decode cX9_init 86 = .ok (.iastore, 1) := by decide +kernel
theorem dX9_init_87 : decode cX9_init 87 = .ok (.aload_n 0, 1) := by decide +kernel
theorem dX9_init_88 : decode cX9_init 88 = .ok (.getfield 7, 3) := by decide +kernel
theorem dX9_init_91 : decode cX9_init 91 = .ok (.iconst 2, 1) := by decide +kernel
theorem dX9_init_92 : decode cX9_init 92 = .ok (.bipush 25, 2) := by decide +kernel
theorem dX9_init_94 : decode cX9_init 94 = .ok (.iastore, 1) := by decide +kernel
theorem dX9_init_95 : decode cX9_init 95 = .ok (.aload_n 0, 1) := by decide +kernel
theorem dX9_init_96 : decode cX9_init 96 = .ok (.getfield 7, 3) := by decide +kernel
theorem dX9_init_99 : decode cX9_init 99 = .ok (.iconst 3, 1) := by decide +kernel
theorem dX9_init_100 : decode cX9_init 100 = .ok (.iconst 4, 1) := by decide +kernel
theorem dX9_init_101 : decode cX9_init 101 = .ok (.iastore, 1) := by decide +kernel
theorem dX9_init_102 : decode cX9_init 102 = .ok (.aload_n 0, 1) := by decide +kernel
theorem dX9_init_103 : decode cX9_init 103 = .ok (.getfield 7, 3) := by decide +kernel
theorem dX9_init_106 : decode cX9_init 106 = .ok (.iconst 4, 1) := by decide +kernel
theorem dX9_init_107 : decode cX9_init 107 = .ok (.iconst 4, 1) := by decide +kernel
theorem dX9_init_108 : decode cX9_init 108 = .ok (.iastore, 1) := by decide +kernel
theorem dX9_init_109 : decode cX9_init 109 = .ok (.aload_n 0, 1) := by decide +kernel
theorem dX9_init_110 : decode cX9_init 110 = .ok (.getfield 7, 3) := by decide +kernel
theorem dX9_init_113 : decode cX9_init 113 = .ok (.iconst 5, 1) := by decide +kernel
theorem dX9_init_114 : decode cX9_init 114 = .ok (.bipush 16, 2) := by decide +kernel
theorem dX9_init_116 : decode cX9_init 116 = .ok (.iastore, 1) := by decide +kernel
theorem dX9_init_117 : decode cX9_init 117 = .ok (.aload_n 0, 1) := by decide +kernel
theorem dX9_init_118 : decode cX9_init 118 = .ok (.getfield 7, 3) := by decide +kernel
theorem dX9_init_121 : decode cX9_init 121 = .ok (.bipush 6, 2) := by decide +kernel
theorem dX9_init_123 : decode cX9_init 123 = .ok (.bipush 90, 2) := by decide +kernel
theorem dX9_init_125 : decode cX9_init 125 = .ok (.iastore, 1) := by decide +kernel
theorem dX9_init_126 : decode cX9_init 126 = .ok (.aload_n 0, 1) := by decide +kernel
theorem dX9_init_127 : decode cX9_init 127 = .ok (.getfield 7, 3) := by decide +kernel
theorem dX9_init_130 : decode cX9_init 130 = .ok (.bipush 7, 2) := by decide +kernel
theorem dX9_init_132 : decode cX9_init 132 = .ok (.bipush 8, 2) := by decide +kernel
theorem dX9_init_134 : decode cX9_init 134 = .ok (.iastore, 1) := by decide +kernel
theorem dX9_init_135 : decode cX9_init 135 = .ok (.aload_n 0, 1) := by decide +kernel
theorem dX9_init_136 : decode cX9_init 136 = .ok (.getfield 7, 3) := by decide +kernel
theorem dX9_init_139 : decode cX9_init 139 = .ok (.bipush 8, 2) := by decide +kernel
theorem dX9_init_141 : decode cX9_init 141 = .ok (.iconst 1, 1) := by decide +kernel
theorem dX9_init_142 : decode cX9_init 142 = .ok (.iastore, 1) := by decide +kernel
theorem dX9_init_143 : decode cX9_init 143 = .ok (.aload_n 0, 1) := by decide +kernel
theorem dX9_init_144 : decode cX9_init 144 = .ok (.getfield 7, 3) := by decide +kernel
theorem dX9_init_147 : decode cX9_init 147 = .ok (.bipush 10, 2) := by decide +kernel
theorem dX9_init_149 : decode cX9_init 149 = .ok (.iconst (-1), 1) := by decide +kernel
theorem dX9_init_150 : decode cX9_init 150 = .ok (.iastore, 1) := by decide +kernel
theorem dX9_init_151 : decode cX9_init 151 = .ok (.return_, 1) := by decide +kernel
theorem dX9_in_0 : decode cX9_in 0 = .ok (.iload_n 0, 1) := by decide +kernel
theorem dX9_in_1 : decode cX9_in 1 = .ok (.iload_n 1, 1) := by decide +kernel
theorem dX9_in_2 : decode cX9_in 2 = .ok (.if_icmp .lt 12, 3) := by decide +kernel
theorem dX9_in_5 : decode cX9_in 5 = .ok (.iload_n 0, 1) := by decide +kernel
theorem dX9_in_6 : decode cX9_in 6 = .ok (.iload_n 2, 1) := by decide +kernel
theorem dX9_in_7 : decode cX9_in 7 = .ok (.if_icmp .gt 7, 3) := by decide +kernel
theorem dX9_in_10 : decode cX9_in 10 = .ok (.iconst 1, 1) := by decide +kernel
theorem dX9_in_11 : decode cX9_in 11 = .ok (.goto 4, 3) := by decide +kernel
theorem dX9_in_14 : decode cX9_in 14 = .ok (.iconst 0, 1) := by decide +kernel
theorem dX9_in_15 : decode cX9_in 15 = .ok (.ireturn, 1) := by decide +kernel
theorem dX9_size_0 : decode cX9_size 0 = .ok (.iload_n 0, 1) := by decide +kernel
theorem dX9_size_1 : decode cX9_size 1 = .ok (.ifCond .ge 8, 3) := by decide +kernel
theorem dX9_size_4 : decode cX9_size 4 = .ok (.iload_n 0, 1) := by decide +kernel
theorem dX9_size_5 : decode cX9_size 5 = .ok (.ineg, 1) := by decide +kernel
theorem dX9_size_6 : decode cX9_size 6 = .ok (.goto 4, 3) := by decide +kernel
theorem dX9_size_9 : decode cX9_size 9 = .ok (.iload_n 0, 1) := by decide +kernel
theorem dX9_size_10 : decode cX9_size 10 = .ok (.ireturn, 1) := by decide +kernel
theorem dX9_put_0 : decode cX9_put 0 = .ok (.aload_n 0, 1) := by decide +kernel
theorem dX9_put_1 : decode cX9_put 1 = .ok (.getfield 7, 3) := by decide +kernel
theorem dX9_put_4 : decode cX9_put 4 = .ok (.iload_n 1, 1) := by decide +kernel
theorem dX9_put_5 : decode cX9_put 5 = .ok (.iaload, 1) := by decide +kernel
theorem dX9_put_6 : decode cX9_put 6 = .ok (.istore_n 3, 1) := by decide +kernel
theorem dX9_put_7 : decode cX9_put 7 = .ok (.aload_n 0, 1) := by decide +kernel
theorem dX9_put_8 : decode cX9_put 8 = .ok (.getfield 7, 3) := by decide +kernel
theorem dX9_put_11 : decode cX9_put 11 = .ok (.iload_n 1, 1) := by decide +kernel
theorem dX9_put_12 : decode cX9_put 12 = .ok (.iload_n 2, 1) := by decide +kernel
theorem dX9_put_13 : decode cX9_put 13 = .ok (.iastore, 1) := by decide +kernel
theorem dX9_put_14 : decode cX9_put 14 = .ok (.iload_n 3, 1) := by decide +kernel
theorem dX9_put_15 : decode cX9_put 15 = .ok (.ireturn, 1) := by decide +kernel
theorem dX9_isBegun_0 : decode cX9_isBegun 0 = .ok (.aload_n 0, 1) := by decide +kernel
theorem dX9_isBegun_1 : decode cX9_isBegun 1 = .ok (.getfield 7, 3) := by decide +kernel
theorem dX9_isBegun_4 : decode cX9_isBegun 4 = .ok (.bipush 10, 2) := by decide +kernel
theorem dX9_isBegun_6 : decode cX9_isBegun 6 = .ok (.iaload, 1) := by decide +kernel
theorem dX9_isBegun_7 : decode cX9_isBegun 7 = .ok (.ifCond .ge 13, 3) := by decide +kernel
theorem dX9_isBegun_10 : decode cX9_isBegun 10 = .ok (.aload_n 0, 1) := by decide +kernel
theorem dX9_isBegun_11 : decode cX9_isBegun 11 = .ok (.getfield 7, 3) := by decide +kernel
theorem dX9_isBegun_14 : decode cX9_isBegun 14 = .ok (.bipush 25, 2) := by decide +kernel
theorem dX9_isBegun_16 : decode cX9_isBegun 16 = .ok (.iaload, 1) := by decide +kernel
theorem dX9_isBegun_17 : decode cX9_isBegun 17 = .ok (.ifCond .le 7, 3) := by decide +kernel
theorem dX9_isBegun_20 : decode cX9_isBegun 20 = .ok (.iconst 1, 1) := by decide +kernel
theorem dX9_isBegun_21 : decode cX9_isBegun 21 = .ok (.goto 4, 3) := by decide +kernel
theorem dX9_isBegun_24 : decode cX9_isBegun 24 = .ok (.iconst 0, 1) := by decide +kernel
theorem dX9_isBegun_25 : decode cX9_isBegun 25 = .ok (.ireturn, 1) := by decide +kernel
theorem dX9_setFrame_0 : decode cX9_setFrame 0 = .ok (.iload_n 1, 1) := by decide +kernel
theorem dX9_setFrame_1 : decode cX9_setFrame 1 = .ok (.iconst 4, 1) := by decide +kernel
theorem dX9_setFrame_2 : decode cX9_setFrame 2 = .ok (.bipush 16, 2) := by decide +kernel
theorem dX9_setFrame_4 : decode cX9_setFrame 4 = .ok (.invokestatic 35, 3) := by decide +kernel
theorem dX9_setFrame_7 : decode cX9_setFrame 7 = .ok (.ifCond .ne 7, 3) := by decide +kernel
theorem dX9_setFrame_10 : decode cX9_setFrame 10 = .ok (.sipush (-1001), 3) := by decide +kernel
theorem dX9_setFrame_13 : decode cX9_setFrame 13 = .ok (.ireturn, 1) := by decide +kernel
theorem dX9_setFrame_14 : decode cX9_setFrame 14 = .ok (.aload_n 0, 1) := by decide +kernel
theorem dX9_setFrame_15 : decode cX9_setFrame 15 = .ok (.invokevirtual 39, 3) := by decide +kernel
theorem dX9_setFrame_18 : decode cX9_setFrame 18 = .ok (.ifCond .eq 9, 3) := by decide +kernel
theorem dX9_setFrame_21 : decode cX9_setFrame 21 = .ok (.sipush (-1003), 3) := by decide +kernel
theorem dX9_setFrame_24 : decode cX9_setFrame 24 = .ok (.goto 9, 3) := by decide +kernel
theorem dX9_setFrame_27 : decode cX9_setFrame 27 = .ok (.aload_n 0, 1) := by decide +kernel
theorem dX9_setFrame_28 : decode cX9_setFrame 28 = .ok (.iconst 0, 1) := by decide +kernel
theorem dX9_setFrame_29 : decode cX9_setFrame 29 = .ok (.iload_n 1, 1) := by decide +kernel
theorem dX9_setFrame_30 : decode cX9_setFrame 30 = .ok (.invokevirtual 43, 3) := by decide +kernel
theorem dX9_setFrame_33 : decode cX9_setFrame 33 = .ok (.ireturn, 1) := by decide +kernel
theorem dX9_setWave_0 : decode cX9_setWave 0 = .ok (.iload_n 1, 1) := by decide +kernel
theorem dX9_setWave_1 : decode cX9_setWave 1 = .ok (.iconst 2, 1) := by decide +kernel
theorem dX9_setWave_2 : decode cX9_setWave 2 = .ok (.bipush 32, 2) := by decide +kernel
theorem dX9_setWave_4 : decode cX9_setWave 4 = .ok (.invokestatic 35, 3) := by decide +kernel
theorem dX9_setWave_7 : decode cX9_setWave 7 = .ok (.ifCond .eq 14, 3) := by decide +kernel
theorem dX9_setWave_10 : decode cX9_setWave 10 = .ok (.iload_n 2, 1) := by decide +kernel
theorem dX9_setWave_11 : decode cX9_setWave 11 = .ok (.iconst 1, 1) := by decide +kernel
theorem dX9_setWave_12 : decode cX9_setWave 12 = .ok (.sipush 200, 3) := by decide +kernel
theorem dX9_setWave_15 : decode cX9_setWave 15 = .ok (.invokestatic 35, 3) := by decide +kernel
theorem dX9_setWave_18 : decode cX9_setWave 18 = .ok (.ifCond .ne 7, 3) := by decide +kernel
theorem dX9_setWave_21 : decode cX9_setWave 21 = .ok (.sipush (-1001), 3) := by decide +kernel
theorem dX9_setWave_24 : decode cX9_setWave 24 = .ok (.ireturn, 1) := by decide +kernel
theorem dX9_setWave_25 : decode cX9_setWave 25 = .ok (.aload_n 0, 1) := by decide +kernel
theorem dX9_setWave_26 : decode cX9_setWave 26 = .ok (.invokevirtual 39, 3) := by decide +kernel
theorem dX9_setWave_29 : decode cX9_setWave 29 = .ok (.ifCond .eq 7, 3) := by decide +kernel
theorem dX9_setWave_32 : decode cX9_setWave 32 = .ok (.sipush (-1003), 3) := by decide +kernel
theorem dX9_setWave_35 : decode cX9_setWave 35 = .ok (.ireturn, 1) := by decide +kernel
theorem dX9_setWave_36 : decode cX9_setWave 36 = .ok (.sipush 1000, 3) := by decide +kernel
theorem dX9_setWave_39 : decode cX9_setWave 39 = .ok (.aload_n 0, 1) := by decide +kernel
theorem dX9_setWave_40 : decode cX9_setWave 40 = .ok (.iconst 1, 1) := by decide +kernel
theorem dX9_setWave_41 : decode cX9_setWave 41 = .ok (.iload_n 1, 1) := by decide +kernel
theorem dX9_setWave_42 : decode cX9_setWave 42 = .ok (.invokevirtual 43, 3) := by decide +kernel
theorem dX9_setWave_45 : decode cX9_setWave 45 = .ok (.imul, 1) := by decide +kernel
theorem dX9_setWave_46 : decode cX9_setWave 46 = .ok (.istore_n 3, 1) := by decide +kernel
theorem dX9_setWave_47 : decode cX9_setWave 47 = .ok (.iload_n 3, 1) := by decide +kernel
theorem dX9_setWave_48 : decode cX9_setWave 48 = .ok (.aload_n 0, 1) := by decide +kernel
theorem dX9_setWave_49 : decode cX9_setWave 49 = .ok (.iconst 2, 1) := by decide +kernel
theorem dX9_setWave_50 : decode cX9_setWave 50 = .ok (.iload_n 2, 1) := by decide +kernel
theorem dX9_setWave_51 : decode cX9_setWave 51 = .ok (.invokevirtual 43, 3) := by decide +kernel
theorem dX9_setWave_54 : decode cX9_setWave 54 = .ok (.iadd, 1) := by decide +kernel
theorem dX9_setWave_55 : decode cX9_setWave 55 = .ok (.ireturn, 1) := by decide +kernel
theorem dX9_setBlock_0 : decode cX9_setBlock 0 = .ok (.iload_n 1, 1) := by decide +kernel
theorem dX9_setBlock_1 : decode cX9_setBlock 1 = .ok (.iconst 2, 1) := by decide +kernel
theorem dX9_setBlock_2 : decode cX9_setBlock 2 = .ok (.bipush 6, 2) := by decide +kernel
theorem dX9_setBlock_4 : decode cX9_setBlock 4 = .ok (.invokestatic 35, 3) := by decide +kernel
theorem dX9_setBlock_7 : decode cX9_setBlock 7 = .ok (.ifCond .eq 13, 3) := by decide +kernel
theorem dX9_setBlock_10 : decode cX9_setBlock 10 = .ok (.iload_n 2, 1) := by decide +kernel
theorem dX9_setBlock_11 : decode cX9_setBlock 11 = .ok (.iconst 2, 1) := by decide +kernel
theorem dX9_setBlock_12 : decode cX9_setBlock 12 = .ok (.bipush 6, 2) := by decide +kernel
theorem dX9_setBlock_14 : decode cX9_setBlock 14 = .ok (.invokestatic 35, 3) := by decide +kernel
theorem dX9_setBlock_17 : decode cX9_setBlock 17 = .ok (.ifCond .ne 7, 3) := by decide +kernel
theorem dX9_setBlock_20 : decode cX9_setBlock 20 = .ok (.sipush (-1001), 3) := by decide +kernel
theorem dX9_setBlock_23 : decode cX9_setBlock 23 = .ok (.ireturn, 1) := by decide +kernel
theorem dX9_setBlock_24 : decode cX9_setBlock 24 = .ok (.aload_n 0, 1) := by decide +kernel
theorem dX9_setBlock_25 : decode cX9_setBlock 25 = .ok (.invokevirtual 39, 3) := by decide +kernel
theorem dX9_setBlock_28 : decode cX9_setBlock 28 = .ok (.ifCond .eq 7, 3) := by decide +kernel
theorem dX9_setBlock_31 : decode cX9_setBlock 31 = .ok (.sipush (-1003), 3) := by decide +kernel
theorem dX9_setBlock_34 : decode cX9_setBlock 34 = .ok (.ireturn, 1) := by decide +kernel
theorem dX9_setBlock_35 : decode cX9_setBlock 35 = .ok (.bipush 10, 2) := by decide +kernel
theorem dX9_setBlock_37 : decode cX9_setBlock 37 = .ok (.aload_n 0, 1) := by decide +kernel
theorem dX9_setBlock_38 : decode cX9_setBlock 38 = .ok (.iconst 3, 1) := by decide +kernel
theorem dX9_setBlock_39 : decode cX9_setBlock 39 = .ok (.iload_n 1, 1) := by decide +kernel
theorem dX9_setBlock_40 : decode cX9_setBlock 40 = .ok (.invokevirtual 43, 3) := by decide +kernel
theorem dX9_setBlock_43 : decode cX9_setBlock 43 = .ok (.imul, 1) := by decide +kernel
theorem dX9_setBlock_44 : decode cX9_setBlock 44 = .ok (.istore_n 3, 1) := by decide +kernel
theorem dX9_setBlock_45 : decode cX9_setBlock 45 = .ok (.iload_n 3, 1) := by decide +kernel
theorem dX9_setBlock_46 : decode cX9_setBlock 46 = .ok (.aload_n 0, 1) := by decide +kernel
theorem dX9_setBlock_47 : decode cX9_setBlock 47 = .ok (.iconst 4, 1) := by decide +kernel
theorem dX9_setBlock_48 : decode cX9_setBlock 48 = .ok (.iload_n 2, 1) := by decide +kernel
theorem dX9_setBlock_49 : decode cX9_setBlock 49 = .ok (.invokevirtual 43, 3) := by decide +kernel
theorem dX9_setBlock_52 : decode cX9_setBlock 52 = .ok (.iadd, 1) := by decide +kernel
theorem dX9_setBlock_53 : decode cX9_setBlock 53 = .ok (.ireturn, 1) := by decide +kernel
theorem dX9_setInitialDelay_0 : decode cX9_setInitialDelay 0 = .ok (.iload_n 1, 1) := by decide +kernel
theorem dX9_setInitialDelay_1 : decode cX9_setInitialDelay 1 = .ok (.iconst 0, 1) := by decide +kernel
theorem dX9_setInitialDelay_2 : decode cX9_setInitialDelay 2 = .ok (.sipush 200, 3) := by decide +kernel
theorem dX9_setInitialDelay_5 : decode cX9_setInitialDelay 5 = .ok (.invokestatic 35, 3) := by decide +kernel
theorem dX9_setInitialDelay_8 : decode cX9_setInitialDelay 8 = .ok (.ifCond .ne 7, 3) := by decide +kernel
theorem dX9_setInitialDelay_11 : decode cX9_setInitialDelay 11 = .ok (.sipush (-1001), 3) := by decide +kernel
theorem dX9_setInitialDelay_14 : decode cX9_setInitialDelay 14 = .ok (.ireturn, 1) := by decide +kernel
theorem dX9_setInitialDelay_15 : decode cX9_setInitialDelay 15 = .ok (.aload_n 0, 1) := by decide +kernel
theorem dX9_setInitialDelay_16 : decode cX9_setInitialDelay 16 = .ok (.invokevirtual 39, 3) := by decide +kernel
theorem dX9_setInitialDelay_19 : decode cX9_setInitialDelay 19 = .ok (.ifCond .eq 9, 3) := by decide +kernel
theorem dX9_setInitialDelay_22 : decode cX9_setInitialDelay 22 = .ok (.sipush (-1003), 3) := by decide +kernel
theorem dX9_setInitialDelay_25 : decode cX9_setInitialDelay 25 = .ok (.goto 9, 3) := by decide +kernel
theorem dX9_setInitialDelay_28 : decode cX9_setInitialDelay 28 = .ok (.aload_n 0, 1) := by decide +kernel
theorem dX9_setInitialDelay_29 : decode cX9_setInitialDelay 29 = .ok (.iconst 5, 1) := by decide +kernel
theorem dX9_setInitialDelay_30 : decode cX9_setInitialDelay 30 = .ok (.iload_n 1, 1) := by decide +kernel
theorem dX9_setInitialDelay_31 : decode cX9_setInitialDelay 31 = .ok (.invokevirtual 43, 3) := by decide +kernel
theorem dX9_setInitialDelay_34 : decode cX9_setInitialDelay 34 = .ok (.ireturn, 1) := by decide +kernel
theorem dX9_setQuantile_0 : decode cX9_setQuantile 0 = .ok (.iload_n 1, 1) := by decide +kernel
theorem dX9_setQuantile_1 : decode cX9_setQuantile 1 = .ok (.iconst 1, 1) := by decide +kernel
theorem dX9_setQuantile_2 : decode cX9_setQuantile 2 = .ok (.bipush 100, 2) := by decide +kernel
theorem dX9_setQuantile_4 : decode cX9_setQuantile 4 = .ok (.invokestatic 35, 3) := by decide +kernel
theorem dX9_setQuantile_7 : decode cX9_setQuantile 7 = .ok (.ifCond .eq 13, 3) := by decide +kernel
theorem dX9_setQuantile_10 : decode cX9_setQuantile 10 = .ok (.aload_n 0, 1) := by decide +kernel
theorem dX9_setQuantile_11 : decode cX9_setQuantile 11 = .ok (.bipush 6, 2) := by decide +kernel
theorem dX9_setQuantile_13 : decode cX9_setQuantile 13 = .ok (.iload_n 1, 1) := by decide +kernel
theorem dX9_setQuantile_14 : decode cX9_setQuantile 14 = .ok (.invokevirtual 43, 3) := by decide +kernel
theorem dX9_setQuantile_17 : decode cX9_setQuantile 17 = .ok (.goto 6, 3) := by decide +kernel
theorem dX9_setQuantile_20 : decode cX9_setQuantile 20 = .ok (.sipush (-1001), 3) := by decide +kernel
theorem dX9_setQuantile_23 : decode cX9_setQuantile 23 = .ok (.ireturn, 1) := by decide +kernel
theorem dX9_setMargin_0 : decode cX9_setMargin 0 = .ok (.iload_n 1, 1) := by decide +kernel
theorem dX9_setMargin_1 : decode cX9_setMargin 1 = .ok (.iconst 0, 1) := by decide +kernel
theorem dX9_setMargin_2 : decode cX9_setMargin 2 = .ok (.bipush 100, 2) := by decide +kernel
theorem dX9_setMargin_4 : decode cX9_setMargin 4 = .ok (.invokestatic 35, 3) := by decide +kernel
theorem dX9_setMargin_7 : decode cX9_setMargin 7 = .ok (.ifCond .eq 13, 3) := by decide +kernel
theorem dX9_setMargin_10 : decode cX9_setMargin 10 = .ok (.aload_n 0, 1) := by decide +kernel
theorem dX9_setMargin_11 : decode cX9_setMargin 11 = .ok (.bipush 7, 2) := by decide +kernel
theorem dX9_setMargin_13 : decode cX9_setMargin 13 = .ok (.iload_n 1, 1) := by decide +kernel
theorem dX9_setMargin_14 : decode cX9_setMargin 14 = .ok (.invokevirtual 43, 3) := by decide +kernel
theorem dX9_setMargin_17 : decode cX9_setMargin 17 = .ok (.goto 6, 3) := by decide +kernel
theorem dX9_setMargin_20 : decode cX9_setMargin 20 = .ok (.sipush (-1001), 3) := by decide +kernel
theorem dX9_setMargin_23 : decode cX9_setMargin 23 = .ok (.ireturn, 1) := by decide +kernel
theorem dX9_setAdapting_0 : decode cX9_setAdapting 0 = .ok (.aload_n 0, 1) := by decide +kernel
theorem dX9_setAdapting_1 : decode cX9_setAdapting 1 = .ok (.bipush 8, 2) := by decide +kernel
theorem dX9_setAdapting_3 : decode cX9_setAdapting 3 = .ok (.iload_n 1, 1) := by decide +kernel
theorem dX9_setAdapting_4 : decode cX9_setAdapting 4 = .ok (.ifCond .eq 7, 3) := by decide +kernel
theorem dX9_setAdapting_7 : decode cX9_setAdapting 7 = .ok (.iconst 1, 1) := by decide +kernel
theorem dX9_setAdapting_8 : decode cX9_setAdapting 8 = .ok (.goto 4, 3) := by decide +kernel
theorem dX9_setAdapting_11 : decode cX9_setAdapting 11 = .ok (.iconst 0, 1) := by decide +kernel
theorem dX9_setAdapting_12 : decode cX9_setAdapting 12 = .ok (.invokevirtual 43, 3) := by decide +kernel
theorem dX9_setAdapting_15 : decode cX9_setAdapting 15 = .ok (.ireturn, 1) := by decide +kernel
theorem dX9_isFrame_0 : decode cX9_isFrame 0 = .ok (.iload_n 0, 1) := by decide +kernel
theorem dX9_isFrame_1 : decode cX9_isFrame 1 = .ok (.iconst 0, 1) := by decide +kernel
theorem dX9_isFrame_2 : decode cX9_isFrame 2 = .ok (.sipush 999, 3) := by decide +kernel
theorem dX9_isFrame_5 : decode cX9_isFrame 5 = .ok (.invokestatic 35, 3) := by decide +kernel
theorem dX9_isFrame_8 : decode cX9_isFrame 8 = .ok (.ireturn, 1) := by decide +kernel
theorem dX9_area_0 : decode cX9_area 0 = .ok (.aload_n 0, 1) := by decide +kernel
theorem dX9_area_1 : decode cX9_area 1 = .ok (.getfield 7, 3) := by decide +kernel
theorem dX9_area_4 : decode cX9_area 4 = .ok (.iconst 3, 1) := by decide +kernel
theorem dX9_area_5 : decode cX9_area 5 = .ok (.iaload, 1) := by decide +kernel
theorem dX9_area_6 : decode cX9_area 6 = .ok (.aload_n 0, 1) := by decide +kernel
theorem dX9_area_7 : decode cX9_area 7 = .ok (.getfield 7, 3) := by decide +kernel
theorem dX9_area_10 : decode cX9_area 10 = .ok (.iconst 4, 1) := by decide +kernel
theorem dX9_area_11 : decode cX9_area 11 = .ok (.iaload, 1) := by decide +kernel
theorem dX9_area_12 : decode cX9_area 12 = .ok (.imul, 1) := by decide +kernel
theorem dX9_area_13 : decode cX9_area 13 = .ok (.ireturn, 1) := by decide +kernel
theorem dX9_isPacket_0 : decode cX9_isPacket 0 = .ok (.iload_n 2, 1) := by decide +kernel
theorem dX9_isPacket_1 : decode cX9_isPacket 1 = .ok (.iconst 0, 1) := by decide +kernel
theorem dX9_isPacket_2 : decode cX9_isPacket 2 = .ok (.sipush 999, 3) := by decide +kernel
theorem dX9_isPacket_5 : decode cX9_isPacket 5 = .ok (.aload_n 0, 1) := by decide +kernel
theorem dX9_isPacket_6 : decode cX9_isPacket 6 = .ok (.invokevirtual 47, 3) := by decide +kernel
theorem dX9_isPacket_9 : decode cX9_isPacket 9 = .ok (.idiv, 1) := by decide +kernel
theorem dX9_isPacket_10 : decode cX9_isPacket 10 = .ok (.invokestatic 35, 3) := by decide +kernel
theorem dX9_isPacket_13 : decode cX9_isPacket 13 = .ok (.ifCond .eq 36, 3) := by decide +kernel
theorem dX9_isPacket_16 : decode cX9_isPacket 16 = .ok (.iload_n 3, 1) := by decide +kernel
theorem dX9_isPacket_17 : decode cX9_isPacket 17 = .ok (.iconst 0, 1) := by decide +kernel
theorem dX9_isPacket_18 : decode cX9_isPacket 18 = .ok (.iload_n 1, 1) := by decide +kernel
theorem dX9_isPacket_19 : decode cX9_isPacket 19 = .ok (.ifCond .eq 12, 3) := by decide +kernel
theorem dX9_isPacket_22 : decode cX9_isPacket 22 = .ok (.aload_n 0, 1) := by decide +kernel
theorem dX9_isPacket_23 : decode cX9_isPacket 23 = .ok (.getfield 7, 3) := by decide +kernel
theorem dX9_isPacket_26 : decode cX9_isPacket 26 = .ok (.iconst 4, 1) := by decide +kernel
theorem dX9_isPacket_27 : decode cX9_isPacket 27 = .ok (.iaload, 1) := by decide +kernel
theorem dX9_isPacket_28 : decode cX9_isPacket 28 = .ok (.goto 9, 3) := by decide +kernel
theorem dX9_isPacket_31 : decode cX9_isPacket 31 = .ok (.aload_n 0, 1) := by decide +kernel
theorem dX9_isPacket_32 : decode cX9_isPacket 32 = .ok (.getfield 7, 3) := by decide +kernel
theorem dX9_isPacket_35 : decode cX9_isPacket 35 = .ok (.iconst 3, 1) := by decide +kernel
theorem dX9_isPacket_36 : decode cX9_isPacket 36 = .ok (.iaload, 1) := by decide +kernel
theorem dX9_isPacket_37 : decode cX9_isPacket 37 = .ok (.iconst 1, 1) := by decide +kernel
theorem dX9_isPacket_38 : decode cX9_isPacket 38 = .ok (.isub, 1) := by decide +kernel
theorem dX9_isPacket_39 : decode cX9_isPacket 39 = .ok (.invokestatic 35, 3) := by decide +kernel
theorem dX9_isPacket_42 : decode cX9_isPacket 42 = .ok (.ifCond .eq 7, 3) := by decide +kernel
theorem dX9_isPacket_45 : decode cX9_isPacket 45 = .ok (.iconst 1, 1) := by decide +kernel
theorem dX9_isPacket_46 : decode cX9_isPacket 46 = .ok (.goto 4, 3) := by decide +kernel
theorem dX9_isPacket_49 : decode cX9_isPacket 49 = .ok (.iconst 0, 1) := by decide +kernel
theorem dX9_isPacket_50 : decode cX9_isPacket 50 = .ok (.ireturn, 1) := by decide +kernel
theorem dX9_packet_0 : decode cX9_packet 0 = .ok (.iload_n 1, 1) := by decide +kernel
theorem dX9_packet_1 : decode cX9_packet 1 = .ok (.ifCond .eq 20, 3) := by decide +kernel
theorem dX9_packet_4 : decode cX9_packet 4 = .ok (.sipush 1030, 3) := by decide +kernel
theorem dX9_packet_7 : decode cX9_packet 7 = .ok (.aload_n 0, 1) := by decide +kernel
theorem dX9_packet_8 : decode cX9_packet 8 = .ok (.getfield 7, 3) := by decide +kernel
theorem dX9_packet_11 : decode cX9_packet 11 = .ok (.iconst 4, 1) := by decide +kernel
theorem dX9_packet_12 : decode cX9_packet 12 = .ok (.iaload, 1) := by decide +kernel
theorem dX9_packet_13 : decode cX9_packet 13 = .ok (.iload_n 2, 1) := by decide +kernel
theorem dX9_packet_14 : decode cX9_packet 14 = .ok (.imul, 1) := by decide +kernel
theorem dX9_packet_15 : decode cX9_packet 15 = .ok (.iadd, 1) := by decide +kernel
theorem dX9_packet_16 : decode cX9_packet 16 = .ok (.iload_n 3, 1) := by decide +kernel
theorem dX9_packet_17 : decode cX9_packet 17 = .ok (.iadd, 1) := by decide +kernel
theorem dX9_packet_18 : decode cX9_packet 18 = .ok (.goto 17, 3) := by decide +kernel
theorem dX9_packet_21 : decode cX9_packet 21 = .ok (.sipush 1542, 3) := by decide +kernel
theorem dX9_packet_24 : decode cX9_packet 24 = .ok (.aload_n 0, 1) := by decide +kernel
theorem dX9_packet_25 : decode cX9_packet 25 = .ok (.getfield 7, 3) := by decide +kernel
theorem dX9_packet_28 : decode cX9_packet 28 = .ok (.iconst 3, 1) := by decide +kernel
theorem dX9_packet_29 : decode cX9_packet 29 = .ok (.iaload, 1) := by decide +kernel
theorem dX9_packet_30 : decode cX9_packet 30 = .ok (.iload_n 2, 1) := by decide +kernel
theorem dX9_packet_31 : decode cX9_packet 31 = .ok (.imul, 1) := by decide +kernel
theorem dX9_packet_32 : decode cX9_packet 32 = .ok (.iadd, 1) := by decide +kernel
theorem dX9_packet_33 : decode cX9_packet 33 = .ok (.iload_n 3, 1) := by decide +kernel
theorem dX9_packet_34 : decode cX9_packet 34 = .ok (.iadd, 1) := by decide +kernel
theorem dX9_packet_35 : decode cX9_packet 35 = .ok (.ireturn, 1) := by decide +kernel
theorem dX9_covers_0 : decode cX9_covers 0 = .ok (.iload_n 1, 1) := by decide +kernel
theorem dX9_covers_1 : decode cX9_covers 1 = .ok (.ifCond .eq 12, 3) := by decide +kernel
theorem dX9_covers_4 : decode cX9_covers 4 = .ok (.aload_n 0, 1) := by decide +kernel
theorem dX9_covers_5 : decode cX9_covers 5 = .ok (.getfield 7, 3) := by decide +kernel
theorem dX9_covers_8 : decode cX9_covers 8 = .ok (.iconst 3, 1) := by decide +kernel
theorem dX9_covers_9 : decode cX9_covers 9 = .ok (.iaload, 1) := by decide +kernel
theorem dX9_covers_10 : decode cX9_covers 10 = .ok (.goto 9, 3) := by decide +kernel
theorem dX9_covers_13 : decode cX9_covers 13 = .ok (.aload_n 0, 1) := by decide +kernel
theorem dX9_covers_14 : decode cX9_covers 14 = .ok (.getfield 7, 3) := by decide +kernel
theorem dX9_covers_17 : decode cX9_covers 17 = .ok (.iconst 4, 1) := by decide +kernel
theorem dX9_covers_18 : decode cX9_covers 18 = .ok (.iaload, 1) := by decide +kernel
theorem dX9_covers_19 : decode cX9_covers 19 = .ok (.ireturn, 1) := by decide +kernel
theorem dX9_covered_0 : decode cX9_covered 0 = .ok (.aload_n 0, 1) := by decide +kernel
theorem dX9_covered_1 : decode cX9_covered 1 = .ok (.invokevirtual 47, 3) := by decide +kernel
theorem dX9_covered_4 : decode cX9_covered 4 = .ok (.iload_n 2, 1) := by decide +kernel
theorem dX9_covered_5 : decode cX9_covered 5 = .ok (.imul, 1) := by decide +kernel
theorem dX9_covered_6 : decode cX9_covered 6 = .ok (.iload_n 1, 1) := by decide +kernel
theorem dX9_covered_7 : decode cX9_covered 7 = .ok (.ifCond .eq 17, 3) := by decide +kernel
theorem dX9_covered_10 : decode cX9_covered 10 = .ok (.aload_n 0, 1) := by decide +kernel
theorem dX9_covered_11 : decode cX9_covered 11 = .ok (.getfield 7, 3) := by decide +kernel
theorem dX9_covered_14 : decode cX9_covered 14 = .ok (.iconst 3, 1) := by decide +kernel
theorem dX9_covered_15 : decode cX9_covered 15 = .ok (.iaload, 1) := by decide +kernel
theorem dX9_covered_16 : decode cX9_covered 16 = .ok (.iload_n 3, 1) := by decide +kernel
theorem dX9_covered_17 : decode cX9_covered 17 = .ok (.imul, 1) := by decide +kernel
theorem dX9_covered_18 : decode cX9_covered 18 = .ok (.iload 4, 2) := by decide +kernel
theorem dX9_covered_20 : decode cX9_covered 20 = .ok (.iadd, 1) := by decide +kernel
theorem dX9_covered_21 : decode cX9_covered 21 = .ok (.goto 14, 3) := by decide +kernel
theorem dX9_covered_24 : decode cX9_covered 24 = .ok (.aload_n 0, 1) := by decide +kernel
theorem dX9_covered_25 : decode cX9_covered 25 = .ok (.getfield 7, 3) := by decide +kernel
theorem dX9_covered_28 : decode cX9_covered 28 = .ok (.iconst 3, 1) := by decide +kernel
theorem dX9_covered_29 : decode cX9_covered 29 = .ok (.iaload, 1) := by decide +kernel
theorem dX9_covered_30 : decode cX9_covered 30 = .ok (.iload 4, 2) := by decide +kernel
theorem dX9_covered_32 : decode cX9_covered 32 = .ok (.imul, 1) := by decide +kernel
theorem dX9_covered_33 : decode cX9_covered 33 = .ok (.iload_n 3, 1) := by decide +kernel
theorem dX9_covered_34 : decode cX9_covered 34 = .ok (.iadd, 1) := by decide +kernel
theorem dX9_covered_35 : decode cX9_covered 35 = .ok (.iadd, 1) := by decide +kernel
theorem dX9_covered_36 : decode cX9_covered 36 = .ok (.ireturn, 1) := by decide +kernel
theorem dX9_isKnown_0 : decode cX9_isKnown 0 = .ok (.iload_n 1, 1) := by decide +kernel
theorem dX9_isKnown_1 : decode cX9_isKnown 1 = .ok (.sipush 999, 3) := by decide +kernel
theorem dX9_isKnown_4 : decode cX9_isKnown 4 = .ok (.if_icmp .gt 15, 3) := by decide +kernel
theorem dX9_isKnown_7 : decode cX9_isKnown 7 = .ok (.aload_n 0, 1) := by decide +kernel
theorem dX9_isKnown_8 : decode cX9_isKnown 8 = .ok (.getfield 7, 3) := by decide +kernel
theorem dX9_isKnown_11 : decode cX9_isKnown 11 = .ok (.bipush 30, 2) := by decide +kernel
theorem dX9_isKnown_13 : decode cX9_isKnown 13 = .ok (.iload_n 1, 1) := by decide +kernel
theorem dX9_isKnown_14 : decode cX9_isKnown 14 = .ok (.iadd, 1) := by decide +kernel
theorem dX9_isKnown_15 : decode cX9_isKnown 15 = .ok (.iaload, 1) := by decide +kernel
theorem dX9_isKnown_16 : decode cX9_isKnown 16 = .ok (.ifCond .le 7, 3) := by decide +kernel
theorem dX9_isKnown_19 : decode cX9_isKnown 19 = .ok (.iconst 1, 1) := by decide +kernel
theorem dX9_isKnown_20 : decode cX9_isKnown 20 = .ok (.goto 4, 3) := by decide +kernel
theorem dX9_isKnown_23 : decode cX9_isKnown 23 = .ok (.iconst 0, 1) := by decide +kernel
theorem dX9_isKnown_24 : decode cX9_isKnown 24 = .ok (.ireturn, 1) := by decide +kernel
theorem dX9_missingOf_0 : decode cX9_missingOf 0 = .ok (.iconst 0, 1) := by decide +kernel
theorem dX9_missingOf_1 : decode cX9_missingOf 1 = .ok (.istore 4, 2) := by decide +kernel
theorem dX9_missingOf_3 : decode cX9_missingOf 3 = .ok (.iconst 0, 1) := by decide +kernel
theorem dX9_missingOf_4 : decode cX9_missingOf 4 = .ok (.istore 5, 2) := by decide +kernel
theorem dX9_missingOf_6 : decode cX9_missingOf 6 = .ok (.iload 5, 2) := by decide +kernel
theorem dX9_missingOf_8 : decode cX9_missingOf 8 = .ok (.aload_n 0, 1) := by decide +kernel
theorem dX9_missingOf_9 : decode cX9_missingOf 9 = .ok (.iload_n 1, 1) := by decide +kernel
theorem dX9_missingOf_10 : decode cX9_missingOf 10 = .ok (.invokevirtual 51, 3) := by decide +kernel
theorem dX9_missingOf_13 : decode cX9_missingOf 13 = .ok (.if_icmp .ge 35, 3) := by decide +kernel
theorem dX9_missingOf_16 : decode cX9_missingOf 16 = .ok (.iload 4, 2) := by decide +kernel
theorem dX9_missingOf_18 : decode cX9_missingOf 18 = .ok (.aload_n 0, 1) := by decide +kernel
theorem dX9_missingOf_19 : decode cX9_missingOf 19 = .ok (.aload_n 0, 1) := by decide +kernel
theorem dX9_missingOf_20 : decode cX9_missingOf 20 = .ok (.iload_n 1, 1) := by decide +kernel
theorem dX9_missingOf_21 : decode cX9_missingOf 21 = .ok (.iload_n 2, 1) := by decide +kernel
theorem dX9_missingOf_22 : decode cX9_missingOf 22 = .ok (.iload_n 3, 1) := by decide +kernel
theorem dX9_missingOf_23 : decode cX9_missingOf 23 = .ok (.iload 5, 2) := by decide +kernel
theorem dX9_missingOf_25 : decode cX9_missingOf 25 = .ok (.invokevirtual 55, 3) := by decide +kernel
theorem dX9_missingOf_28 : decode cX9_missingOf 28 = .ok (.invokevirtual 59, 3) := by decide +kernel
theorem dX9_missingOf_31 : decode cX9_missingOf 31 = .ok (.ifCond .eq 7, 3) := by decide +kernel
theorem dX9_missingOf_34 : decode cX9_missingOf 34 = .ok (.iconst 0, 1) := by decide +kernel
theorem dX9_missingOf_35 : decode cX9_missingOf 35 = .ok (.goto 4, 3) := by decide +kernel
theorem dX9_missingOf_38 : decode cX9_missingOf 38 = .ok (.iconst 1, 1) := by decide +kernel
theorem dX9_missingOf_39 : decode cX9_missingOf 39 = .ok (.iadd, 1) := by decide +kernel
theorem dX9_missingOf_40 : decode cX9_missingOf 40 = .ok (.istore 4, 2) := by decide +kernel
theorem dX9_missingOf_42 : decode cX9_missingOf 42 = .ok (.iinc 5 1, 3) := by decide +kernel
theorem dX9_missingOf_45 : decode cX9_missingOf 45 = .ok (.goto (-39), 3) := by decide +kernel
theorem dX9_missingOf_48 : decode cX9_missingOf 48 = .ok (.iload 4, 2) := by decide +kernel
theorem dX9_missingOf_50 : decode cX9_missingOf 50 = .ok (.ireturn, 1) := by decide +kernel
theorem dX9_restoresBy_0 : decode cX9_restoresBy 0 = .ok (.aload_n 0, 1) := by decide +kernel
theorem dX9_restoresBy_1 : decode cX9_restoresBy 1 = .ok (.iload_n 1, 1) := by decide +kernel
theorem dX9_restoresBy_2 : decode cX9_restoresBy 2 = .ok (.iload_n 2, 1) := by decide +kernel
theorem dX9_restoresBy_3 : decode cX9_restoresBy 3 = .ok (.iload_n 3, 1) := by decide +kernel
theorem dX9_restoresBy_4 : decode cX9_restoresBy 4 = .ok (.invokevirtual 63, 3) := by decide +kernel
theorem dX9_restoresBy_7 : decode cX9_restoresBy 7 = .ok (.iconst 1, 1) := by decide +kernel
theorem dX9_restoresBy_8 : decode cX9_restoresBy 8 = .ok (.if_icmp .eq 5, 3) := by decide +kernel
theorem dX9_restoresBy_11 : decode cX9_restoresBy 11 = .ok (.iconst 0, 1) := by decide +kernel
theorem dX9_restoresBy_12 : decode cX9_restoresBy 12 = .ok (.ireturn, 1) := by decide +kernel
theorem dX9_restoresBy_13 : decode cX9_restoresBy 13 = .ok (.iconst 0, 1) := by decide +kernel
theorem dX9_restoresBy_14 : decode cX9_restoresBy 14 = .ok (.istore 4, 2) := by decide +kernel
theorem dX9_restoresBy_16 : decode cX9_restoresBy 16 = .ok (.iload 4, 2) := by decide +kernel
theorem dX9_restoresBy_18 : decode cX9_restoresBy 18 = .ok (.aload_n 0, 1) := by decide +kernel
theorem dX9_restoresBy_19 : decode cX9_restoresBy 19 = .ok (.iload_n 1, 1) := by decide +kernel
theorem dX9_restoresBy_20 : decode cX9_restoresBy 20 = .ok (.invokevirtual 51, 3) := by decide +kernel
theorem dX9_restoresBy_23 : decode cX9_restoresBy 23 = .ok (.if_icmp .ge 40, 3) := by decide +kernel
theorem dX9_restoresBy_26 : decode cX9_restoresBy 26 = .ok (.aload_n 0, 1) := by decide +kernel
theorem dX9_restoresBy_27 : decode cX9_restoresBy 27 = .ok (.iload_n 1, 1) := by decide +kernel
theorem dX9_restoresBy_28 : decode cX9_restoresBy 28 = .ok (.iload_n 2, 1) := by decide +kernel
theorem dX9_restoresBy_29 : decode cX9_restoresBy 29 = .ok (.iload_n 3, 1) := by decide +kernel
theorem dX9_restoresBy_30 : decode cX9_restoresBy 30 = .ok (.iload 4, 2) := by decide +kernel
theorem dX9_restoresBy_32 : decode cX9_restoresBy 32 = .ok (.invokevirtual 55, 3) := by decide +kernel
theorem dX9_restoresBy_35 : decode cX9_restoresBy 35 = .ok (.istore 5, 2) := by decide +kernel
theorem dX9_restoresBy_37 : decode cX9_restoresBy 37 = .ok (.aload_n 0, 1) := by decide +kernel
theorem dX9_restoresBy_38 : decode cX9_restoresBy 38 = .ok (.iload 5, 2) := by decide +kernel
theorem dX9_restoresBy_40 : decode cX9_restoresBy 40 = .ok (.invokevirtual 59, 3) := by decide +kernel
theorem dX9_restoresBy_43 : decode cX9_restoresBy 43 = .ok (.ifCond .ne 14, 3) := by decide +kernel
theorem dX9_restoresBy_46 : decode cX9_restoresBy 46 = .ok (.aload_n 0, 1) := by decide +kernel
theorem dX9_restoresBy_47 : decode cX9_restoresBy 47 = .ok (.getfield 7, 3) := by decide +kernel
theorem dX9_restoresBy_50 : decode cX9_restoresBy 50 = .ok (.bipush 30, 2) := by decide +kernel
theorem dX9_restoresBy_52 : decode cX9_restoresBy 52 = .ok (.iload 5, 2) := by decide +kernel
theorem dX9_restoresBy_54 : decode cX9_restoresBy 54 = .ok (.iadd, 1) := by decide +kernel
theorem dX9_restoresBy_55 : decode cX9_restoresBy 55 = .ok (.iconst 1, 1) := by decide +kernel
theorem dX9_restoresBy_56 : decode cX9_restoresBy 56 = .ok (.iastore, 1) := by decide +kernel
theorem dX9_restoresBy_57 : decode cX9_restoresBy 57 = .ok (.iinc 4 1, 3) := by decide +kernel
theorem dX9_restoresBy_60 : decode cX9_restoresBy 60 = .ok (.goto (-44), 3) := by decide +kernel
theorem dX9_restoresBy_63 : decode cX9_restoresBy 63 = .ok (.iconst 1, 1) := by decide +kernel
theorem dX9_restoresBy_64 : decode cX9_restoresBy 64 = .ok (.ireturn, 1) := by decide +kernel
theorem dX9_restores_0 : decode cX9_restores 0 = .ok (.iconst 0, 1) := by decide +kernel
theorem dX9_restores_1 : decode cX9_restores 1 = .ok (.istore_n 3, 1) := by decide +kernel
theorem dX9_restores_2 : decode cX9_restores 2 = .ok (.iconst (-1), 1) := by decide +kernel
theorem dX9_restores_3 : decode cX9_restores 3 = .ok (.istore 4, 2) := by decide +kernel
theorem dX9_restores_5 : decode cX9_restores 5 = .ok (.iload 4, 2) := by decide +kernel
theorem dX9_restores_7 : decode cX9_restores 7 = .ok (.iload_n 3, 1) := by decide +kernel
theorem dX9_restores_8 : decode cX9_restores 8 = .ok (.if_icmp .eq 121, 3) := by decide +kernel
theorem dX9_restores_11 : decode cX9_restores 11 = .ok (.iload_n 3, 1) := by decide +kernel
theorem dX9_restores_12 : decode cX9_restores 12 = .ok (.istore 4, 2) := by decide +kernel
theorem dX9_restores_14 : decode cX9_restores 14 = .ok (.iconst 0, 1) := by decide +kernel
theorem dX9_restores_15 : decode cX9_restores 15 = .ok (.istore 5, 2) := by decide +kernel
theorem dX9_restores_17 : decode cX9_restores 17 = .ok (.iload 5, 2) := by decide +kernel
theorem dX9_restores_19 : decode cX9_restores 19 = .ok (.aload_n 0, 1) := by decide +kernel
theorem dX9_restores_20 : decode cX9_restores 20 = .ok (.getfield 7, 3) := by decide +kernel
theorem dX9_restores_23 : decode cX9_restores 23 = .ok (.iconst 4, 1) := by decide +kernel
theorem dX9_restores_24 : decode cX9_restores 24 = .ok (.iaload, 1) := by decide +kernel
theorem dX9_restores_25 : decode cX9_restores 25 = .ok (.if_icmp .ge 45, 3) := by decide +kernel
theorem dX9_restores_28 : decode cX9_restores 28 = .ok (.iload_n 3, 1) := by decide +kernel
theorem dX9_restores_29 : decode cX9_restores 29 = .ok (.iload_n 2, 1) := by decide +kernel
theorem dX9_restores_30 : decode cX9_restores 30 = .ok (.ifCond .ne 20, 3) := by decide +kernel
theorem dX9_restores_33 : decode cX9_restores 33 = .ok (.aload_n 0, 1) := by decide +kernel
theorem dX9_restores_34 : decode cX9_restores 34 = .ok (.getfield 7, 3) := by decide +kernel
theorem dX9_restores_37 : decode cX9_restores 37 = .ok (.aload_n 0, 1) := by decide +kernel
theorem dX9_restores_38 : decode cX9_restores 38 = .ok (.iconst 1, 1) := by decide +kernel
theorem dX9_restores_39 : decode cX9_restores 39 = .ok (.iload_n 1, 1) := by decide +kernel
theorem dX9_restores_40 : decode cX9_restores 40 = .ok (.iload 5, 2) := by decide +kernel
theorem dX9_restores_42 : decode cX9_restores 42 = .ok (.invokevirtual 67, 3) := by decide +kernel
theorem dX9_restores_45 : decode cX9_restores 45 = .ok (.iaload, 1) := by decide +kernel
theorem dX9_restores_46 : decode cX9_restores 46 = .ok (.iconst 1, 1) := by decide +kernel
theorem dX9_restores_47 : decode cX9_restores 47 = .ok (.if_icmp .ne 14, 3) := by decide +kernel
theorem dX9_restores_50 : decode cX9_restores 50 = .ok (.aload_n 0, 1) := by decide +kernel
theorem dX9_restores_51 : decode cX9_restores 51 = .ok (.iconst 1, 1) := by decide +kernel
theorem dX9_restores_52 : decode cX9_restores 52 = .ok (.iload_n 1, 1) := by decide +kernel
theorem dX9_restores_53 : decode cX9_restores 53 = .ok (.iload 5, 2) := by decide +kernel
theorem dX9_restores_55 : decode cX9_restores 55 = .ok (.invokevirtual 70, 3) := by decide +kernel
theorem dX9_restores_58 : decode cX9_restores 58 = .ok (.goto 4, 3) := by decide +kernel
theorem dX9_restores_61 : decode cX9_restores 61 = .ok (.iconst 0, 1) := by decide +kernel
theorem dX9_restores_62 : decode cX9_restores 62 = .ok (.iadd, 1) := by decide +kernel
theorem dX9_restores_63 : decode cX9_restores 63 = .ok (.istore_n 3, 1) := by decide +kernel
theorem dX9_restores_64 : decode cX9_restores 64 = .ok (.iinc 5 1, 3) := by decide +kernel
theorem dX9_restores_67 : decode cX9_restores 67 = .ok (.goto (-50), 3) := by decide +kernel
theorem dX9_restores_70 : decode cX9_restores 70 = .ok (.iconst 0, 1) := by decide +kernel
theorem dX9_restores_71 : decode cX9_restores 71 = .ok (.istore 5, 2) := by decide +kernel
theorem dX9_restores_73 : decode cX9_restores 73 = .ok (.iload 5, 2) := by decide +kernel
theorem dX9_restores_75 : decode cX9_restores 75 = .ok (.aload_n 0, 1) := by decide +kernel
theorem dX9_restores_76 : decode cX9_restores 76 = .ok (.getfield 7, 3) := by decide +kernel
theorem dX9_restores_79 : decode cX9_restores 79 = .ok (.iconst 3, 1) := by decide +kernel
theorem dX9_restores_80 : decode cX9_restores 80 = .ok (.iaload, 1) := by decide +kernel
theorem dX9_restores_81 : decode cX9_restores 81 = .ok (.if_icmp .ge 45, 3) := by decide +kernel
theorem dX9_restores_84 : decode cX9_restores 84 = .ok (.iload_n 3, 1) := by decide +kernel
theorem dX9_restores_85 : decode cX9_restores 85 = .ok (.iload_n 2, 1) := by decide +kernel
theorem dX9_restores_86 : decode cX9_restores 86 = .ok (.ifCond .ne 20, 3) := by decide +kernel
theorem dX9_restores_89 : decode cX9_restores 89 = .ok (.aload_n 0, 1) := by decide +kernel
theorem dX9_restores_90 : decode cX9_restores 90 = .ok (.getfield 7, 3) := by decide +kernel
theorem dX9_restores_93 : decode cX9_restores 93 = .ok (.aload_n 0, 1) := by decide +kernel
theorem dX9_restores_94 : decode cX9_restores 94 = .ok (.iconst 0, 1) := by decide +kernel
theorem dX9_restores_95 : decode cX9_restores 95 = .ok (.iload_n 1, 1) := by decide +kernel
theorem dX9_restores_96 : decode cX9_restores 96 = .ok (.iload 5, 2) := by decide +kernel
theorem dX9_restores_98 : decode cX9_restores 98 = .ok (.invokevirtual 67, 3) := by decide +kernel
theorem dX9_restores_101 : decode cX9_restores 101 = .ok (.iaload, 1) := by decide +kernel
theorem dX9_restores_102 : decode cX9_restores 102 = .ok (.iconst 1, 1) := by decide +kernel
theorem dX9_restores_103 : decode cX9_restores 103 = .ok (.if_icmp .ne 14, 3) := by decide +kernel
theorem dX9_restores_106 : decode cX9_restores 106 = .ok (.aload_n 0, 1) := by decide +kernel
theorem dX9_restores_107 : decode cX9_restores 107 = .ok (.iconst 0, 1) := by decide +kernel
theorem dX9_restores_108 : decode cX9_restores 108 = .ok (.iload_n 1, 1) := by decide +kernel
theorem dX9_restores_109 : decode cX9_restores 109 = .ok (.iload 5, 2) := by decide +kernel
theorem dX9_restores_111 : decode cX9_restores 111 = .ok (.invokevirtual 70, 3) := by decide +kernel
theorem dX9_restores_114 : decode cX9_restores 114 = .ok (.goto 4, 3) := by decide +kernel
theorem dX9_restores_117 : decode cX9_restores 117 = .ok (.iconst 0, 1) := by decide +kernel
theorem dX9_restores_118 : decode cX9_restores 118 = .ok (.iadd, 1) := by decide +kernel
theorem dX9_restores_119 : decode cX9_restores 119 = .ok (.istore_n 3, 1) := by decide +kernel
theorem dX9_restores_120 : decode cX9_restores 120 = .ok (.iinc 5 1, 3) := by decide +kernel
theorem dX9_restores_123 : decode cX9_restores 123 = .ok (.goto (-50), 3) := by decide +kernel
theorem dX9_restores_126 : decode cX9_restores 126 = .ok (.goto (-121), 3) := by decide +kernel
theorem dX9_restores_129 : decode cX9_restores 129 = .ok (.iload_n 3, 1) := by decide +kernel
theorem dX9_restores_130 : decode cX9_restores 130 = .ok (.ireturn, 1) := by decide +kernel
theorem dX9_sampleOf_0 : decode cX9_sampleOf 0 = .ok (.iload_n 1, 1) := by decide +kernel
theorem dX9_sampleOf_1 : decode cX9_sampleOf 1 = .ok (.aload_n 0, 1) := by decide +kernel
theorem dX9_sampleOf_2 : decode cX9_sampleOf 2 = .ok (.getfield 7, 3) := by decide +kernel
theorem dX9_sampleOf_5 : decode cX9_sampleOf 5 = .ok (.iconst 0, 1) := by decide +kernel
theorem dX9_sampleOf_6 : decode cX9_sampleOf 6 = .ok (.iaload, 1) := by decide +kernel
theorem dX9_sampleOf_7 : decode cX9_sampleOf 7 = .ok (.imul, 1) := by decide +kernel
theorem dX9_sampleOf_8 : decode cX9_sampleOf 8 = .ok (.iload_n 2, 1) := by decide +kernel
theorem dX9_sampleOf_9 : decode cX9_sampleOf 9 = .ok (.iadd, 1) := by decide +kernel
theorem dX9_sampleOf_10 : decode cX9_sampleOf 10 = .ok (.istore_n 3, 1) := by decide +kernel
theorem dX9_sampleOf_11 : decode cX9_sampleOf 11 = .ok (.aload_n 0, 1) := by decide +kernel
theorem dX9_sampleOf_12 : decode cX9_sampleOf 12 = .ok (.getfield 7, 3) := by decide +kernel
theorem dX9_sampleOf_15 : decode cX9_sampleOf 15 = .ok (.iconst 2, 1) := by decide +kernel
theorem dX9_sampleOf_16 : decode cX9_sampleOf 16 = .ok (.iaload, 1) := by decide +kernel
theorem dX9_sampleOf_17 : decode cX9_sampleOf 17 = .ok (.iload_n 3, 1) := by decide +kernel
theorem dX9_sampleOf_18 : decode cX9_sampleOf 18 = .ok (.aload_n 0, 1) := by decide +kernel
theorem dX9_sampleOf_19 : decode cX9_sampleOf 19 = .ok (.getfield 7, 3) := by decide +kernel
theorem dX9_sampleOf_22 : decode cX9_sampleOf 22 = .ok (.iconst 1, 1) := by decide +kernel
theorem dX9_sampleOf_23 : decode cX9_sampleOf 23 = .ok (.iaload, 1) := by decide +kernel
theorem dX9_sampleOf_24 : decode cX9_sampleOf 24 = .ok (.irem, 1) := by decide +kernel
theorem dX9_sampleOf_25 : decode cX9_sampleOf 25 = .ok (.imul, 1) := by decide +kernel
theorem dX9_sampleOf_26 : decode cX9_sampleOf 26 = .ok (.sipush 201, 3) := by decide +kernel
theorem dX9_sampleOf_29 : decode cX9_sampleOf 29 = .ok (.irem, 1) := by decide +kernel
theorem dX9_sampleOf_30 : decode cX9_sampleOf 30 = .ok (.bipush 100, 2) := by decide +kernel
theorem dX9_sampleOf_32 : decode cX9_sampleOf 32 = .ok (.isub, 1) := by decide +kernel
theorem dX9_sampleOf_33 : decode cX9_sampleOf 33 = .ok (.ireturn, 1) := by decide +kernel
theorem dX9_begins_0 : decode cX9_begins 0 = .ok (.aload_n 0, 1) := by decide +kernel
theorem dX9_begins_1 : decode cX9_begins 1 = .ok (.getfield 7, 3) := by decide +kernel
theorem dX9_begins_4 : decode cX9_begins 4 = .ok (.bipush 10, 2) := by decide +kernel
theorem dX9_begins_6 : decode cX9_begins 6 = .ok (.iaload, 1) := by decide +kernel
theorem dX9_begins_7 : decode cX9_begins 7 = .ok (.ifCond .ge 24, 3) := by decide +kernel
theorem dX9_begins_10 : decode cX9_begins 10 = .ok (.aload_n 0, 1) := by decide +kernel
theorem dX9_begins_11 : decode cX9_begins 11 = .ok (.getfield 7, 3) := by decide +kernel
theorem dX9_begins_14 : decode cX9_begins 14 = .ok (.bipush 10, 2) := by decide +kernel
theorem dX9_begins_16 : decode cX9_begins 16 = .ok (.aload_n 0, 1) := by decide +kernel
theorem dX9_begins_17 : decode cX9_begins 17 = .ok (.getfield 7, 3) := by decide +kernel
theorem dX9_begins_20 : decode cX9_begins 20 = .ok (.bipush 9, 2) := by decide +kernel
theorem dX9_begins_22 : decode cX9_begins 22 = .ok (.iaload, 1) := by decide +kernel
theorem dX9_begins_23 : decode cX9_begins 23 = .ok (.aload_n 0, 1) := by decide +kernel
theorem dX9_begins_24 : decode cX9_begins 24 = .ok (.getfield 7, 3) := by decide +kernel
theorem dX9_begins_27 : decode cX9_begins 27 = .ok (.iconst 5, 1) := by decide +kernel
theorem dX9_begins_28 : decode cX9_begins 28 = .ok (.iaload, 1) := by decide +kernel
theorem dX9_begins_29 : decode cX9_begins 29 = .ok (.iadd, 1) := by decide +kernel
theorem dX9_begins_30 : decode cX9_begins 30 = .ok (.iastore, 1) := by decide +kernel
theorem dX9_begins_31 : decode cX9_begins 31 = .ok (.return_, 1) := by decide +kernel
theorem dX9_sees_0 : decode cX9_sees 0 = .ok (.aload_n 0, 1) := by decide +kernel
theorem dX9_sees_1 : decode cX9_sees 1 = .ok (.getfield 7, 3) := by decide +kernel
theorem dX9_sees_4 : decode cX9_sees 4 = .ok (.bipush 24, 2) := by decide +kernel
theorem dX9_sees_6 : decode cX9_sees 6 = .ok (.iaload, 1) := by decide +kernel
theorem dX9_sees_7 : decode cX9_sees 7 = .ok (.bipush 16, 2) := by decide +kernel
theorem dX9_sees_9 : decode cX9_sees 9 = .ok (.if_icmp .ne 43, 3) := by decide +kernel
theorem dX9_sees_12 : decode cX9_sees 12 = .ok (.sipush 2372, 3) := by decide +kernel
theorem dX9_sees_15 : decode cX9_sees 15 = .ok (.istore_n 2, 1) := by decide +kernel
theorem dX9_sees_16 : decode cX9_sees 16 = .ok (.iload_n 2, 1) := by decide +kernel
theorem dX9_sees_17 : decode cX9_sees 17 = .ok (.sipush 2387, 3) := by decide +kernel
theorem dX9_sees_20 : decode cX9_sees 20 = .ok (.if_icmp .ge 23, 3) := by decide +kernel
theorem dX9_sees_23 : decode cX9_sees 23 = .ok (.aload_n 0, 1) := by decide +kernel
theorem dX9_sees_24 : decode cX9_sees 24 = .ok (.getfield 7, 3) := by decide +kernel
theorem dX9_sees_27 : decode cX9_sees 27 = .ok (.iload_n 2, 1) := by decide +kernel
theorem dX9_sees_28 : decode cX9_sees 28 = .ok (.aload_n 0, 1) := by decide +kernel
theorem dX9_sees_29 : decode cX9_sees 29 = .ok (.getfield 7, 3) := by decide +kernel
theorem dX9_sees_32 : decode cX9_sees 32 = .ok (.iload_n 2, 1) := by decide +kernel
theorem dX9_sees_33 : decode cX9_sees 33 = .ok (.iconst 1, 1) := by decide +kernel
theorem dX9_sees_34 : decode cX9_sees 34 = .ok (.iadd, 1) := by decide +kernel
theorem dX9_sees_35 : decode cX9_sees 35 = .ok (.iaload, 1) := by decide +kernel
theorem dX9_sees_36 : decode cX9_sees 36 = .ok (.iastore, 1) := by decide +kernel
theorem dX9_sees_37 : decode cX9_sees 37 = .ok (.iinc 2 1, 3) := by decide +kernel
theorem dX9_sees_40 : decode cX9_sees 40 = .ok (.goto (-24), 3) := by decide +kernel
theorem dX9_sees_43 : decode cX9_sees 43 = .ok (.aload_n 0, 1) := by decide +kernel
theorem dX9_sees_44 : decode cX9_sees 44 = .ok (.getfield 7, 3) := by decide +kernel
theorem dX9_sees_47 : decode cX9_sees 47 = .ok (.bipush 24, 2) := by decide +kernel
theorem dX9_sees_49 : decode cX9_sees 49 = .ok (.bipush 15, 2) := by decide +kernel
theorem dX9_sees_51 : decode cX9_sees 51 = .ok (.iastore, 1) := by decide +kernel
theorem dX9_sees_52 : decode cX9_sees 52 = .ok (.aload_n 0, 1) := by decide +kernel
theorem dX9_sees_53 : decode cX9_sees 53 = .ok (.getfield 7, 3) := by decide +kernel
theorem dX9_sees_56 : decode cX9_sees 56 = .ok (.sipush 2372, 3) := by decide +kernel
theorem dX9_sees_59 : decode cX9_sees 59 = .ok (.aload_n 0, 1) := by decide +kernel
theorem dX9_sees_60 : decode cX9_sees 60 = .ok (.getfield 7, 3) := by decide +kernel
theorem dX9_sees_63 : decode cX9_sees 63 = .ok (.bipush 24, 2) := by decide +kernel
theorem dX9_sees_65 : decode cX9_sees 65 = .ok (.iaload, 1) := by decide +kernel
theorem dX9_sees_66 : decode cX9_sees 66 = .ok (.iadd, 1) := by decide +kernel
theorem dX9_sees_67 : decode cX9_sees 67 = .ok (.iload_n 1, 1) := by decide +kernel
theorem dX9_sees_68 : decode cX9_sees 68 = .ok (.iastore, 1) := by decide +kernel
theorem dX9_sees_69 : decode cX9_sees 69 = .ok (.aload_n 0, 1) := by decide +kernel
theorem dX9_sees_70 : decode cX9_sees 70 = .ok (.getfield 7, 3) := by decide +kernel
theorem dX9_sees_73 : decode cX9_sees 73 = .ok (.bipush 24, 2) := by decide +kernel
theorem dX9_sees_75 : decode cX9_sees 75 = .ok (.dup2, 1) := by decide +kernel
theorem dX9_sees_76 : decode cX9_sees 76 = .ok (.iaload, 1) := by decide +kernel
theorem dX9_sees_77 : decode cX9_sees 77 = .ok (.iconst 1, 1) := by decide +kernel
theorem dX9_sees_78 : decode cX9_sees 78 = .ok (.iadd, 1) := by decide +kernel
theorem dX9_sees_79 : decode cX9_sees 79 = .ok (.iastore, 1) := by decide +kernel
theorem dX9_sees_80 : decode cX9_sees 80 = .ok (.return_, 1) := by decide +kernel
theorem dX9_arrives_0 : decode cX9_arrives 0 = .ok (.aload_n 0, 1) := by decide +kernel
theorem dX9_arrives_1 : decode cX9_arrives 1 = .ok (.iload_n 1, 1) := by decide +kernel
theorem dX9_arrives_2 : decode cX9_arrives 2 = .ok (.invokevirtual 59, 3) := by decide +kernel
theorem dX9_arrives_5 : decode cX9_arrives 5 = .ok (.ifCond .eq 16, 3) := by decide +kernel
theorem dX9_arrives_8 : decode cX9_arrives 8 = .ok (.aload_n 0, 1) := by decide +kernel
theorem dX9_arrives_9 : decode cX9_arrives 9 = .ok (.getfield 7, 3) := by decide +kernel
theorem dX9_arrives_12 : decode cX9_arrives 12 = .ok (.bipush 18, 2) := by decide +kernel
theorem dX9_arrives_14 : decode cX9_arrives 14 = .ok (.dup2, 1) := by decide +kernel
theorem dX9_arrives_15 : decode cX9_arrives 15 = .ok (.iaload, 1) := by decide +kernel
theorem dX9_arrives_16 : decode cX9_arrives 16 = .ok (.iconst 1, 1) := by decide +kernel
theorem dX9_arrives_17 : decode cX9_arrives 17 = .ok (.iadd, 1) := by decide +kernel
theorem dX9_arrives_18 : decode cX9_arrives 18 = .ok (.iastore, 1) := by decide +kernel
theorem dX9_arrives_19 : decode cX9_arrives 19 = .ok (.iconst 0, 1) := by decide +kernel
theorem dX9_arrives_20 : decode cX9_arrives 20 = .ok (.ireturn, 1) := by decide +kernel
theorem dX9_arrives_21 : decode cX9_arrives 21 = .ok (.aload_n 0, 1) := by decide +kernel
theorem dX9_arrives_22 : decode cX9_arrives 22 = .ok (.invokevirtual 73, 3) := by decide +kernel
theorem dX9_arrives_25 : decode cX9_arrives 25 = .ok (.aload_n 0, 1) := by decide +kernel
theorem dX9_arrives_26 : decode cX9_arrives 26 = .ok (.getfield 7, 3) := by decide +kernel
theorem dX9_arrives_29 : decode cX9_arrives 29 = .ok (.bipush 30, 2) := by decide +kernel
theorem dX9_arrives_31 : decode cX9_arrives 31 = .ok (.iload_n 1, 1) := by decide +kernel
theorem dX9_arrives_32 : decode cX9_arrives 32 = .ok (.iadd, 1) := by decide +kernel
theorem dX9_arrives_33 : decode cX9_arrives 33 = .ok (.iconst 2, 1) := by decide +kernel
theorem dX9_arrives_34 : decode cX9_arrives 34 = .ok (.iastore, 1) := by decide +kernel
theorem dX9_arrives_35 : decode cX9_arrives 35 = .ok (.aload_n 0, 1) := by decide +kernel
theorem dX9_arrives_36 : decode cX9_arrives 36 = .ok (.getfield 7, 3) := by decide +kernel
theorem dX9_arrives_39 : decode cX9_arrives 39 = .ok (.bipush 17, 2) := by decide +kernel
theorem dX9_arrives_41 : decode cX9_arrives 41 = .ok (.dup2, 1) := by decide +kernel
theorem dX9_arrives_42 : decode cX9_arrives 42 = .ok (.iaload, 1) := by decide +kernel
theorem dX9_arrives_43 : decode cX9_arrives 43 = .ok (.iload_n 1, 1) := by decide +kernel
theorem dX9_arrives_44 : decode cX9_arrives 44 = .ok (.aload_n 0, 1) := by decide +kernel
theorem dX9_arrives_45 : decode cX9_arrives 45 = .ok (.getfield 7, 3) := by decide +kernel
theorem dX9_arrives_48 : decode cX9_arrives 48 = .ok (.bipush 11, 2) := by decide +kernel
theorem dX9_arrives_50 : decode cX9_arrives 50 = .ok (.iaload, 1) := by decide +kernel
theorem dX9_arrives_51 : decode cX9_arrives 51 = .ok (.if_icmp .ge 7, 3) := by decide +kernel
theorem dX9_arrives_54 : decode cX9_arrives 54 = .ok (.iconst 1, 1) := by decide +kernel
theorem dX9_arrives_55 : decode cX9_arrives 55 = .ok (.goto 4, 3) := by decide +kernel
theorem dX9_arrives_58 : decode cX9_arrives 58 = .ok (.iconst 0, 1) := by decide +kernel
theorem dX9_arrives_59 : decode cX9_arrives 59 = .ok (.iadd, 1) := by decide +kernel
theorem dX9_arrives_60 : decode cX9_arrives 60 = .ok (.iastore, 1) := by decide +kernel
theorem dX9_arrives_61 : decode cX9_arrives 61 = .ok (.aload_n 0, 1) := by decide +kernel
theorem dX9_arrives_62 : decode cX9_arrives 62 = .ok (.aload_n 0, 1) := by decide +kernel
theorem dX9_arrives_63 : decode cX9_arrives 63 = .ok (.getfield 7, 3) := by decide +kernel
theorem dX9_arrives_66 : decode cX9_arrives 66 = .ok (.bipush 9, 2) := by decide +kernel
theorem dX9_arrives_68 : decode cX9_arrives 68 = .ok (.iaload, 1) := by decide +kernel
theorem dX9_arrives_69 : decode cX9_arrives 69 = .ok (.iload_n 1, 1) := by decide +kernel
theorem dX9_arrives_70 : decode cX9_arrives 70 = .ok (.aload_n 0, 1) := by decide +kernel
theorem dX9_arrives_71 : decode cX9_arrives 71 = .ok (.getfield 7, 3) := by decide +kernel
theorem dX9_arrives_74 : decode cX9_arrives 74 = .ok (.iconst 0, 1) := by decide +kernel
theorem dX9_arrives_75 : decode cX9_arrives 75 = .ok (.iaload, 1) := by decide +kernel
theorem dX9_arrives_76 : decode cX9_arrives 76 = .ok (.imul, 1) := by decide +kernel
theorem dX9_arrives_77 : decode cX9_arrives 77 = .ok (.isub, 1) := by decide +kernel
theorem dX9_arrives_78 : decode cX9_arrives 78 = .ok (.invokevirtual 76, 3) := by decide +kernel
theorem dX9_arrives_81 : decode cX9_arrives 81 = .ok (.iconst 1, 1) := by decide +kernel
theorem dX9_arrives_82 : decode cX9_arrives 82 = .ok (.aload_n 0, 1) := by decide +kernel
theorem dX9_arrives_83 : decode cX9_arrives 83 = .ok (.iload_n 1, 1) := by decide +kernel
theorem dX9_arrives_84 : decode cX9_arrives 84 = .ok (.aload_n 0, 1) := by decide +kernel
theorem dX9_arrives_85 : decode cX9_arrives 85 = .ok (.invokevirtual 47, 3) := by decide +kernel
theorem dX9_arrives_88 : decode cX9_arrives 88 = .ok (.idiv, 1) := by decide +kernel
theorem dX9_arrives_89 : decode cX9_arrives 89 = .ok (.iconst 0, 1) := by decide +kernel
theorem dX9_arrives_90 : decode cX9_arrives 90 = .ok (.invokevirtual 80, 3) := by decide +kernel
theorem dX9_arrives_93 : decode cX9_arrives 93 = .ok (.iadd, 1) := by decide +kernel
theorem dX9_arrives_94 : decode cX9_arrives 94 = .ok (.ireturn, 1) := by decide +kernel
theorem dX9_arrivesParity_0 : decode cX9_arrivesParity 0 = .ok (.aload_n 0, 1) := by decide +kernel
theorem dX9_arrivesParity_1 : decode cX9_arrivesParity 1 = .ok (.iload_n 1, 1) := by decide +kernel
theorem dX9_arrivesParity_2 : decode cX9_arrivesParity 2 = .ok (.iload_n 2, 1) := by decide +kernel
theorem dX9_arrivesParity_3 : decode cX9_arrivesParity 3 = .ok (.iload_n 3, 1) := by decide +kernel
theorem dX9_arrivesParity_4 : decode cX9_arrivesParity 4 = .ok (.invokevirtual 67, 3) := by decide +kernel
theorem dX9_arrivesParity_7 : decode cX9_arrivesParity 7 = .ok (.istore 4, 2) := by decide +kernel
theorem dX9_arrivesParity_9 : decode cX9_arrivesParity 9 = .ok (.aload_n 0, 1) := by decide +kernel
theorem dX9_arrivesParity_10 : decode cX9_arrivesParity 10 = .ok (.getfield 7, 3) := by decide +kernel
theorem dX9_arrivesParity_13 : decode cX9_arrivesParity 13 = .ok (.iload 4, 2) := by decide +kernel
theorem dX9_arrivesParity_15 : decode cX9_arrivesParity 15 = .ok (.iaload, 1) := by decide +kernel
theorem dX9_arrivesParity_16 : decode cX9_arrivesParity 16 = .ok (.iconst 1, 1) := by decide +kernel
theorem dX9_arrivesParity_17 : decode cX9_arrivesParity 17 = .ok (.if_icmp .ne 16, 3) := by decide +kernel
theorem dX9_arrivesParity_20 : decode cX9_arrivesParity 20 = .ok (.aload_n 0, 1) := by decide +kernel
theorem dX9_arrivesParity_21 : decode cX9_arrivesParity 21 = .ok (.getfield 7, 3) := by decide +kernel
theorem dX9_arrivesParity_24 : decode cX9_arrivesParity 24 = .ok (.bipush 18, 2) := by decide +kernel
theorem dX9_arrivesParity_26 : decode cX9_arrivesParity 26 = .ok (.dup2, 1) := by decide +kernel
theorem dX9_arrivesParity_27 : decode cX9_arrivesParity 27 = .ok (.iaload, 1) := by decide +kernel
theorem dX9_arrivesParity_28 : decode cX9_arrivesParity 28 = .ok (.iconst 1, 1) := by decide +kernel
theorem dX9_arrivesParity_29 : decode cX9_arrivesParity 29 = .ok (.iadd, 1) := by decide +kernel
theorem dX9_arrivesParity_30 : decode cX9_arrivesParity 30 = .ok (.iastore, 1) := by decide +kernel
theorem dX9_arrivesParity_31 : decode cX9_arrivesParity 31 = .ok (.iconst 0, 1) := by decide +kernel
theorem dX9_arrivesParity_32 : decode cX9_arrivesParity 32 = .ok (.ireturn, 1) := by decide +kernel
theorem dX9_arrivesParity_33 : decode cX9_arrivesParity 33 = .ok (.aload_n 0, 1) := by decide +kernel
theorem dX9_arrivesParity_34 : decode cX9_arrivesParity 34 = .ok (.invokevirtual 73, 3) := by decide +kernel
theorem dX9_arrivesParity_37 : decode cX9_arrivesParity 37 = .ok (.aload_n 0, 1) := by decide +kernel
theorem dX9_arrivesParity_38 : decode cX9_arrivesParity 38 = .ok (.getfield 7, 3) := by decide +kernel
theorem dX9_arrivesParity_41 : decode cX9_arrivesParity 41 = .ok (.iload 4, 2) := by decide +kernel
theorem dX9_arrivesParity_43 : decode cX9_arrivesParity 43 = .ok (.iconst 1, 1) := by decide +kernel
theorem dX9_arrivesParity_44 : decode cX9_arrivesParity 44 = .ok (.iastore, 1) := by decide +kernel
theorem dX9_arrivesParity_45 : decode cX9_arrivesParity 45 = .ok (.aload_n 0, 1) := by decide +kernel
theorem dX9_arrivesParity_46 : decode cX9_arrivesParity 46 = .ok (.iload_n 2, 1) := by decide +kernel
theorem dX9_arrivesParity_47 : decode cX9_arrivesParity 47 = .ok (.iconst 0, 1) := by decide +kernel
theorem dX9_arrivesParity_48 : decode cX9_arrivesParity 48 = .ok (.invokevirtual 80, 3) := by decide +kernel
theorem dX9_arrivesParity_51 : decode cX9_arrivesParity 51 = .ok (.ireturn, 1) := by decide +kernel
theorem dX9_arrive_0 : decode cX9_arrive 0 = .ok (.iload_n 1, 1) := by decide +kernel
theorem dX9_arrive_1 : decode cX9_arrive 1 = .ok (.invokestatic 84, 3) := by decide +kernel
theorem dX9_arrive_4 : decode cX9_arrive 4 = .ok (.ifCond .eq 11, 3) := by decide +kernel
theorem dX9_arrive_7 : decode cX9_arrive 7 = .ok (.aload_n 0, 1) := by decide +kernel
theorem dX9_arrive_8 : decode cX9_arrive 8 = .ok (.iload_n 1, 1) := by decide +kernel
theorem dX9_arrive_9 : decode cX9_arrive 9 = .ok (.invokevirtual 87, 3) := by decide +kernel
theorem dX9_arrive_12 : decode cX9_arrive 12 = .ok (.goto 6, 3) := by decide +kernel
theorem dX9_arrive_15 : decode cX9_arrive 15 = .ok (.sipush (-1001), 3) := by decide +kernel
theorem dX9_arrive_18 : decode cX9_arrive 18 = .ok (.ireturn, 1) := by decide +kernel
theorem dX9_arriveParity_0 : decode cX9_arriveParity 0 = .ok (.aload_n 0, 1) := by decide +kernel
theorem dX9_arriveParity_1 : decode cX9_arriveParity 1 = .ok (.iload_n 1, 1) := by decide +kernel
theorem dX9_arriveParity_2 : decode cX9_arriveParity 2 = .ok (.iload_n 2, 1) := by decide +kernel
theorem dX9_arriveParity_3 : decode cX9_arriveParity 3 = .ok (.iload_n 3, 1) := by decide +kernel
theorem dX9_arriveParity_4 : decode cX9_arriveParity 4 = .ok (.invokevirtual 91, 3) := by decide +kernel
theorem dX9_arriveParity_7 : decode cX9_arriveParity 7 = .ok (.ifCond .eq 13, 3) := by decide +kernel
theorem dX9_arriveParity_10 : decode cX9_arriveParity 10 = .ok (.aload_n 0, 1) := by decide +kernel
theorem dX9_arriveParity_11 : decode cX9_arriveParity 11 = .ok (.iload_n 1, 1) := by decide +kernel
theorem dX9_arriveParity_12 : decode cX9_arriveParity 12 = .ok (.iload_n 2, 1) := by decide +kernel
theorem dX9_arriveParity_13 : decode cX9_arriveParity 13 = .ok (.iload_n 3, 1) := by decide +kernel
theorem dX9_arriveParity_14 : decode cX9_arriveParity 14 = .ok (.invokevirtual 95, 3) := by decide +kernel
theorem dX9_arriveParity_17 : decode cX9_arriveParity 17 = .ok (.goto 6, 3) := by decide +kernel
theorem dX9_arriveParity_20 : decode cX9_arriveParity 20 = .ok (.sipush (-1001), 3) := by decide +kernel
theorem dX9_arriveParity_23 : decode cX9_arriveParity 23 = .ok (.ireturn, 1) := by decide +kernel
theorem dX9_arrivesBySchedule_0 : decode cX9_arrivesBySchedule 0 = .ok (.iconst 0, 1) := by decide +kernel
theorem dX9_arrivesBySchedule_1 : decode cX9_arrivesBySchedule 1 = .ok (.istore_n 1, 1) := by decide +kernel
theorem dX9_arrivesBySchedule_2 : decode cX9_arrivesBySchedule 2 = .ok (.aload_n 0, 1) := by decide +kernel
theorem dX9_arrivesBySchedule_3 : decode cX9_arrivesBySchedule 3 = .ok (.getfield 7, 3) := by decide +kernel
theorem dX9_arrivesBySchedule_6 : decode cX9_arrivesBySchedule 6 = .ok (.bipush 25, 2) := by decide +kernel
theorem dX9_arrivesBySchedule_8 : decode cX9_arrivesBySchedule 8 = .ok (.iaload, 1) := by decide +kernel
theorem dX9_arrivesBySchedule_9 : decode cX9_arrivesBySchedule 9 = .ok (.istore_n 2, 1) := by decide +kernel
theorem dX9_arrivesBySchedule_10 : decode cX9_arrivesBySchedule 10 = .ok (.iconst 0, 1) := by decide +kernel
theorem dX9_arrivesBySchedule_11 : decode cX9_arrivesBySchedule 11 = .ok (.istore_n 3, 1) := by decide +kernel
theorem dX9_arrivesBySchedule_12 : decode cX9_arrivesBySchedule 12 = .ok (.iload_n 3, 1) := by decide +kernel
theorem dX9_arrivesBySchedule_13 : decode cX9_arrivesBySchedule 13 = .ok (.iload_n 2, 1) := by decide +kernel
theorem dX9_arrivesBySchedule_14 : decode cX9_arrivesBySchedule 14 = .ok (.if_icmp .ge 149, 3) := by decide +kernel
theorem dX9_arrivesBySchedule_17 : decode cX9_arrivesBySchedule 17 = .ok (.sipush 2388, 3) := by decide +kernel
theorem dX9_arrivesBySchedule_20 : decode cX9_arrivesBySchedule 20 = .ok (.iconst 4, 1) := by decide +kernel
theorem dX9_arrivesBySchedule_21 : decode cX9_arrivesBySchedule 21 = .ok (.iload_n 3, 1) := by decide +kernel
theorem dX9_arrivesBySchedule_22 : decode cX9_arrivesBySchedule 22 = .ok (.imul, 1) := by decide +kernel
theorem dX9_arrivesBySchedule_23 : decode cX9_arrivesBySchedule 23 = .ok (.iadd, 1) := by decide +kernel
theorem dX9_arrivesBySchedule_24 : decode cX9_arrivesBySchedule 24 = .ok (.istore 4, 2) := by decide +kernel
theorem dX9_arrivesBySchedule_26 : decode cX9_arrivesBySchedule 26 = .ok (.aload_n 0, 1) := by decide +kernel
theorem dX9_arrivesBySchedule_27 : decode cX9_arrivesBySchedule 27 = .ok (.getfield 7, 3) := by decide +kernel
theorem dX9_arrivesBySchedule_30 : decode cX9_arrivesBySchedule 30 = .ok (.iload 4, 2) := by decide +kernel
theorem dX9_arrivesBySchedule_32 : decode cX9_arrivesBySchedule 32 = .ok (.iconst 3, 1) := by decide +kernel
theorem dX9_arrivesBySchedule_33 : decode cX9_arrivesBySchedule 33 = .ok (.iadd, 1) := by decide +kernel
theorem dX9_arrivesBySchedule_34 : decode cX9_arrivesBySchedule 34 = .ok (.iaload, 1) := by decide +kernel
theorem dX9_arrivesBySchedule_35 : decode cX9_arrivesBySchedule 35 = .ok (.aload_n 0, 1) := by decide +kernel
theorem dX9_arrivesBySchedule_36 : decode cX9_arrivesBySchedule 36 = .ok (.getfield 7, 3) := by decide +kernel
theorem dX9_arrivesBySchedule_39 : decode cX9_arrivesBySchedule 39 = .ok (.bipush 9, 2) := by decide +kernel
theorem dX9_arrivesBySchedule_41 : decode cX9_arrivesBySchedule 41 = .ok (.iaload, 1) := by decide +kernel
theorem dX9_arrivesBySchedule_42 : decode cX9_arrivesBySchedule 42 = .ok (.if_icmp .ne 72, 3) := by decide +kernel
theorem dX9_arrivesBySchedule_45 : decode cX9_arrivesBySchedule 45 = .ok (.aload_n 0, 1) := by decide +kernel
theorem dX9_arrivesBySchedule_46 : decode cX9_arrivesBySchedule 46 = .ok (.getfield 7, 3) := by decide +kernel
theorem dX9_arrivesBySchedule_49 : decode cX9_arrivesBySchedule 49 = .ok (.iload 4, 2) := by decide +kernel
theorem dX9_arrivesBySchedule_51 : decode cX9_arrivesBySchedule 51 = .ok (.iaload, 1) := by decide +kernel
theorem dX9_arrivesBySchedule_52 : decode cX9_arrivesBySchedule 52 = .ok (.ifCond .ne 19, 3) := by decide +kernel
theorem dX9_arrivesBySchedule_55 : decode cX9_arrivesBySchedule 55 = .ok (.aload_n 0, 1) := by decide +kernel
theorem dX9_arrivesBySchedule_56 : decode cX9_arrivesBySchedule 56 = .ok (.aload_n 0, 1) := by decide +kernel
theorem dX9_arrivesBySchedule_57 : decode cX9_arrivesBySchedule 57 = .ok (.getfield 7, 3) := by decide +kernel
theorem dX9_arrivesBySchedule_60 : decode cX9_arrivesBySchedule 60 = .ok (.iload 4, 2) := by decide +kernel
theorem dX9_arrivesBySchedule_62 : decode cX9_arrivesBySchedule 62 = .ok (.iconst 1, 1) := by decide +kernel
theorem dX9_arrivesBySchedule_63 : decode cX9_arrivesBySchedule 63 = .ok (.iadd, 1) := by decide +kernel
theorem dX9_arrivesBySchedule_64 : decode cX9_arrivesBySchedule 64 = .ok (.iaload, 1) := by decide +kernel
theorem dX9_arrivesBySchedule_65 : decode cX9_arrivesBySchedule 65 = .ok (.invokevirtual 87, 3) := by decide +kernel
theorem dX9_arrivesBySchedule_68 : decode cX9_arrivesBySchedule 68 = .ok (.goto 41, 3) := by decide +kernel
theorem dX9_arrivesBySchedule_71 : decode cX9_arrivesBySchedule 71 = .ok (.aload_n 0, 1) := by decide +kernel
theorem dX9_arrivesBySchedule_72 : decode cX9_arrivesBySchedule 72 = .ok (.aload_n 0, 1) := by decide +kernel
theorem dX9_arrivesBySchedule_73 : decode cX9_arrivesBySchedule 73 = .ok (.getfield 7, 3) := by decide +kernel
theorem dX9_arrivesBySchedule_76 : decode cX9_arrivesBySchedule 76 = .ok (.iload 4, 2) := by decide +kernel
theorem dX9_arrivesBySchedule_78 : decode cX9_arrivesBySchedule 78 = .ok (.iaload, 1) := by decide +kernel
theorem dX9_arrivesBySchedule_79 : decode cX9_arrivesBySchedule 79 = .ok (.iconst 1, 1) := by decide +kernel
theorem dX9_arrivesBySchedule_80 : decode cX9_arrivesBySchedule 80 = .ok (.if_icmp .ne 7, 3) := by decide +kernel
theorem dX9_arrivesBySchedule_83 : decode cX9_arrivesBySchedule 83 = .ok (.iconst 1, 1) := by decide +kernel
theorem dX9_arrivesBySchedule_84 : decode cX9_arrivesBySchedule 84 = .ok (.goto 4, 3) := by decide +kernel
theorem dX9_arrivesBySchedule_87 : decode cX9_arrivesBySchedule 87 = .ok (.iconst 0, 1) := by decide +kernel
theorem dX9_arrivesBySchedule_88 : decode cX9_arrivesBySchedule 88 = .ok (.aload_n 0, 1) := by decide +kernel
theorem dX9_arrivesBySchedule_89 : decode cX9_arrivesBySchedule 89 = .ok (.getfield 7, 3) := by decide +kernel
theorem dX9_arrivesBySchedule_92 : decode cX9_arrivesBySchedule 92 = .ok (.iload 4, 2) := by decide +kernel
theorem dX9_arrivesBySchedule_94 : decode cX9_arrivesBySchedule 94 = .ok (.iconst 1, 1) := by decide +kernel
theorem dX9_arrivesBySchedule_95 : decode cX9_arrivesBySchedule 95 = .ok (.iadd, 1) := by decide +kernel
theorem dX9_arrivesBySchedule_96 : decode cX9_arrivesBySchedule 96 = .ok (.iaload, 1) := by decide +kernel
theorem dX9_arrivesBySchedule_97 : decode cX9_arrivesBySchedule 97 = .ok (.aload_n 0, 1) := by decide +kernel
theorem dX9_arrivesBySchedule_98 : decode cX9_arrivesBySchedule 98 = .ok (.getfield 7, 3) := by decide +kernel
theorem dX9_arrivesBySchedule_101 : decode cX9_arrivesBySchedule 101 = .ok (.iload 4, 2) := by decide +kernel
theorem dX9_arrivesBySchedule_103 : decode cX9_arrivesBySchedule 103 = .ok (.iconst 2, 1) := by decide +kernel
theorem dX9_arrivesBySchedule_104 : decode cX9_arrivesBySchedule 104 = .ok (.iadd, 1) := by decide +kernel
theorem dX9_arrivesBySchedule_105 : decode cX9_arrivesBySchedule 105 = .ok (.iaload, 1) := by decide +kernel
theorem dX9_arrivesBySchedule_106 : decode cX9_arrivesBySchedule 106 = .ok (.invokevirtual 95, 3) := by decide +kernel
theorem dX9_arrivesBySchedule_109 : decode cX9_arrivesBySchedule 109 = .ok (.istore 5, 2) := by decide +kernel
theorem dX9_arrivesBySchedule_111 : decode cX9_arrivesBySchedule 111 = .ok (.goto 46, 3) := by decide +kernel
theorem dX9_arrivesBySchedule_114 : decode cX9_arrivesBySchedule 114 = .ok (.iconst 0, 1) := by decide +kernel
theorem dX9_arrivesBySchedule_115 : decode cX9_arrivesBySchedule 115 = .ok (.istore 5, 2) := by decide +kernel
theorem dX9_arrivesBySchedule_117 : decode cX9_arrivesBySchedule 117 = .ok (.iload 5, 2) := by decide +kernel
theorem dX9_arrivesBySchedule_119 : decode cX9_arrivesBySchedule 119 = .ok (.iconst 4, 1) := by decide +kernel
theorem dX9_arrivesBySchedule_120 : decode cX9_arrivesBySchedule 120 = .ok (.if_icmp .ge 34, 3) := by decide +kernel
theorem dX9_arrivesBySchedule_123 : decode cX9_arrivesBySchedule 123 = .ok (.aload_n 0, 1) := by decide +kernel
theorem dX9_arrivesBySchedule_124 : decode cX9_arrivesBySchedule 124 = .ok (.getfield 7, 3) := by decide +kernel
theorem dX9_arrivesBySchedule_127 : decode cX9_arrivesBySchedule 127 = .ok (.sipush 2388, 3) := by decide +kernel
theorem dX9_arrivesBySchedule_130 : decode cX9_arrivesBySchedule 130 = .ok (.iconst 4, 1) := by decide +kernel
theorem dX9_arrivesBySchedule_131 : decode cX9_arrivesBySchedule 131 = .ok (.iload_n 1, 1) := by decide +kernel
theorem dX9_arrivesBySchedule_132 : decode cX9_arrivesBySchedule 132 = .ok (.imul, 1) := by decide +kernel
theorem dX9_arrivesBySchedule_133 : decode cX9_arrivesBySchedule 133 = .ok (.iadd, 1) := by decide +kernel
theorem dX9_arrivesBySchedule_134 : decode cX9_arrivesBySchedule 134 = .ok (.iload 5, 2) := by decide +kernel
theorem dX9_arrivesBySchedule_136 : decode cX9_arrivesBySchedule 136 = .ok (.iadd, 1) := by decide +kernel
theorem dX9_arrivesBySchedule_137 : decode cX9_arrivesBySchedule 137 = .ok (.aload_n 0, 1) := by decide +kernel
theorem dX9_arrivesBySchedule_138 : decode cX9_arrivesBySchedule 138 = .ok (.getfield 7, 3) := by decide +kernel
theorem dX9_arrivesBySchedule_141 : decode cX9_arrivesBySchedule 141 = .ok (.iload 4, 2) := by decide +kernel
theorem dX9_arrivesBySchedule_143 : decode cX9_arrivesBySchedule 143 = .ok (.iload 5, 2) := by decide +kernel
theorem dX9_arrivesBySchedule_145 : decode cX9_arrivesBySchedule 145 = .ok (.iadd, 1) := by decide +kernel
theorem dX9_arrivesBySchedule_146 : decode cX9_arrivesBySchedule 146 = .ok (.iaload, 1) := by decide +kernel
theorem dX9_arrivesBySchedule_147 : decode cX9_arrivesBySchedule 147 = .ok (.iastore, 1) := by decide +kernel
theorem dX9_arrivesBySchedule_148 : decode cX9_arrivesBySchedule 148 = .ok (.iinc 5 1, 3) := by decide +kernel
theorem dX9_arrivesBySchedule_151 : decode cX9_arrivesBySchedule 151 = .ok (.goto (-34), 3) := by decide +kernel
theorem dX9_arrivesBySchedule_154 : decode cX9_arrivesBySchedule 154 = .ok (.iinc 1 1, 3) := by decide +kernel
theorem dX9_arrivesBySchedule_157 : decode cX9_arrivesBySchedule 157 = .ok (.iinc 3 1, 3) := by decide +kernel
theorem dX9_arrivesBySchedule_160 : decode cX9_arrivesBySchedule 160 = .ok (.goto (-148), 3) := by decide +kernel
theorem dX9_arrivesBySchedule_163 : decode cX9_arrivesBySchedule 163 = .ok (.aload_n 0, 1) := by decide +kernel
theorem dX9_arrivesBySchedule_164 : decode cX9_arrivesBySchedule 164 = .ok (.getfield 7, 3) := by decide +kernel
theorem dX9_arrivesBySchedule_167 : decode cX9_arrivesBySchedule 167 = .ok (.bipush 25, 2) := by decide +kernel
theorem dX9_arrivesBySchedule_169 : decode cX9_arrivesBySchedule 169 = .ok (.iload_n 1, 1) := by decide +kernel
theorem dX9_arrivesBySchedule_170 : decode cX9_arrivesBySchedule 170 = .ok (.iastore, 1) := by decide +kernel
theorem dX9_arrivesBySchedule_171 : decode cX9_arrivesBySchedule 171 = .ok (.return_, 1) := by decide +kernel
theorem dX9_sorts_0 : decode cX9_sorts 0 = .ok (.iconst 0, 1) := by decide +kernel
theorem dX9_sorts_1 : decode cX9_sorts 1 = .ok (.istore_n 1, 1) := by decide +kernel
theorem dX9_sorts_2 : decode cX9_sorts 2 = .ok (.iload_n 1, 1) := by decide +kernel
theorem dX9_sorts_3 : decode cX9_sorts 3 = .ok (.aload_n 0, 1) := by decide +kernel
theorem dX9_sorts_4 : decode cX9_sorts 4 = .ok (.getfield 7, 3) := by decide +kernel
theorem dX9_sorts_7 : decode cX9_sorts 7 = .ok (.bipush 24, 2) := by decide +kernel
theorem dX9_sorts_9 : decode cX9_sorts 9 = .ok (.iaload, 1) := by decide +kernel
theorem dX9_sorts_10 : decode cX9_sorts 10 = .ok (.if_icmp .ge 72, 3) := by decide +kernel
theorem dX9_sorts_13 : decode cX9_sorts 13 = .ok (.iload_n 1, 1) := by decide +kernel
theorem dX9_sorts_14 : decode cX9_sorts 14 = .ok (.istore_n 2, 1) := by decide +kernel
theorem dX9_sorts_15 : decode cX9_sorts 15 = .ok (.iload_n 2, 1) := by decide +kernel
theorem dX9_sorts_16 : decode cX9_sorts 16 = .ok (.ifCond .le 44, 3) := by decide +kernel
theorem dX9_sorts_19 : decode cX9_sorts 19 = .ok (.aload_n 0, 1) := by decide +kernel
theorem dX9_sorts_20 : decode cX9_sorts 20 = .ok (.getfield 26, 3) := by decide +kernel
theorem dX9_sorts_23 : decode cX9_sorts 23 = .ok (.iload_n 2, 1) := by decide +kernel
theorem dX9_sorts_24 : decode cX9_sorts 24 = .ok (.iconst 1, 1) := by decide +kernel
theorem dX9_sorts_25 : decode cX9_sorts 25 = .ok (.isub, 1) := by decide +kernel
theorem dX9_sorts_26 : decode cX9_sorts 26 = .ok (.iaload, 1) := by decide +kernel
theorem dX9_sorts_27 : decode cX9_sorts 27 = .ok (.aload_n 0, 1) := by decide +kernel
theorem dX9_sorts_28 : decode cX9_sorts 28 = .ok (.getfield 7, 3) := by decide +kernel
theorem dX9_sorts_31 : decode cX9_sorts 31 = .ok (.sipush 2372, 3) := by decide +kernel
theorem dX9_sorts_34 : decode cX9_sorts 34 = .ok (.iload_n 1, 1) := by decide +kernel
theorem dX9_sorts_35 : decode cX9_sorts 35 = .ok (.iadd, 1) := by decide +kernel
theorem dX9_sorts_36 : decode cX9_sorts 36 = .ok (.iaload, 1) := by decide +kernel
theorem dX9_sorts_37 : decode cX9_sorts 37 = .ok (.if_icmp .le 23, 3) := by decide +kernel
theorem dX9_sorts_40 : decode cX9_sorts 40 = .ok (.aload_n 0, 1) := by decide +kernel
theorem dX9_sorts_41 : decode cX9_sorts 41 = .ok (.getfield 26, 3) := by decide +kernel
theorem dX9_sorts_44 : decode cX9_sorts 44 = .ok (.iload_n 2, 1) := by decide +kernel
theorem dX9_sorts_45 : decode cX9_sorts 45 = .ok (.aload_n 0, 1) := by decide +kernel
theorem dX9_sorts_46 : decode cX9_sorts 46 = .ok (.getfield 26, 3) := by decide +kernel
theorem dX9_sorts_49 : decode cX9_sorts 49 = .ok (.iload_n 2, 1) := by decide +kernel
theorem dX9_sorts_50 : decode cX9_sorts 50 = .ok (.iconst 1, 1) := by decide +kernel
theorem dX9_sorts_51 : decode cX9_sorts 51 = .ok (.isub, 1) := by decide +kernel
theorem dX9_sorts_52 : decode cX9_sorts 52 = .ok (.iaload, 1) := by decide +kernel
theorem dX9_sorts_53 : decode cX9_sorts 53 = .ok (.iastore, 1) := by decide +kernel
theorem dX9_sorts_54 : decode cX9_sorts 54 = .ok (.iinc 2 (-1), 3) := by decide +kernel
theorem dX9_sorts_57 : decode cX9_sorts 57 = .ok (.goto (-42), 3) := by decide +kernel
theorem dX9_sorts_60 : decode cX9_sorts 60 = .ok (.aload_n 0, 1) := by decide +kernel
theorem dX9_sorts_61 : decode cX9_sorts 61 = .ok (.getfield 26, 3) := by decide +kernel
theorem dX9_sorts_64 : decode cX9_sorts 64 = .ok (.iload_n 2, 1) := by decide +kernel
theorem dX9_sorts_65 : decode cX9_sorts 65 = .ok (.aload_n 0, 1) := by decide +kernel
theorem dX9_sorts_66 : decode cX9_sorts 66 = .ok (.getfield 7, 3) := by decide +kernel
theorem dX9_sorts_69 : decode cX9_sorts 69 = .ok (.sipush 2372, 3) := by decide +kernel
theorem dX9_sorts_72 : decode cX9_sorts 72 = .ok (.iload_n 1, 1) := by decide +kernel
theorem dX9_sorts_73 : decode cX9_sorts 73 = .ok (.iadd, 1) := by decide +kernel
theorem dX9_sorts_74 : decode cX9_sorts 74 = .ok (.iaload, 1) := by decide +kernel
theorem dX9_sorts_75 : decode cX9_sorts 75 = .ok (.iastore, 1) := by decide +kernel
theorem dX9_sorts_76 : decode cX9_sorts 76 = .ok (.iinc 1 1, 3) := by decide +kernel
theorem dX9_sorts_79 : decode cX9_sorts 79 = .ok (.goto (-77), 3) := by decide +kernel
theorem dX9_sorts_82 : decode cX9_sorts 82 = .ok (.return_, 1) := by decide +kernel
theorem dX9_targetNow_0 : decode cX9_targetNow 0 = .ok (.aload_n 0, 1) := by decide +kernel
theorem dX9_targetNow_1 : decode cX9_targetNow 1 = .ok (.getfield 7, 3) := by decide +kernel
theorem dX9_targetNow_4 : decode cX9_targetNow 4 = .ok (.bipush 24, 2) := by decide +kernel
theorem dX9_targetNow_6 : decode cX9_targetNow 6 = .ok (.iaload, 1) := by decide +kernel
theorem dX9_targetNow_7 : decode cX9_targetNow 7 = .ok (.istore_n 1, 1) := by decide +kernel
theorem dX9_targetNow_8 : decode cX9_targetNow 8 = .ok (.iload_n 1, 1) := by decide +kernel
theorem dX9_targetNow_9 : decode cX9_targetNow 9 = .ok (.ifCond .ne 11, 3) := by decide +kernel
theorem dX9_targetNow_12 : decode cX9_targetNow 12 = .ok (.aload_n 0, 1) := by decide +kernel
theorem dX9_targetNow_13 : decode cX9_targetNow 13 = .ok (.getfield 7, 3) := by decide +kernel
theorem dX9_targetNow_16 : decode cX9_targetNow 16 = .ok (.bipush 7, 2) := by decide +kernel
theorem dX9_targetNow_18 : decode cX9_targetNow 18 = .ok (.iaload, 1) := by decide +kernel
theorem dX9_targetNow_19 : decode cX9_targetNow 19 = .ok (.ireturn, 1) := by decide +kernel
theorem dX9_targetNow_20 : decode cX9_targetNow 20 = .ok (.aload_n 0, 1) := by decide +kernel
theorem dX9_targetNow_21 : decode cX9_targetNow 21 = .ok (.invokevirtual 98, 3) := by decide +kernel
theorem dX9_targetNow_24 : decode cX9_targetNow 24 = .ok (.aload_n 0, 1) := by decide +kernel
theorem dX9_targetNow_25 : decode cX9_targetNow 25 = .ok (.getfield 7, 3) := by decide +kernel
theorem dX9_targetNow_28 : decode cX9_targetNow 28 = .ok (.bipush 6, 2) := by decide +kernel
theorem dX9_targetNow_30 : decode cX9_targetNow 30 = .ok (.iaload, 1) := by decide +kernel
theorem dX9_targetNow_31 : decode cX9_targetNow 31 = .ok (.iload_n 1, 1) := by decide +kernel
theorem dX9_targetNow_32 : decode cX9_targetNow 32 = .ok (.imul, 1) := by decide +kernel
theorem dX9_targetNow_33 : decode cX9_targetNow 33 = .ok (.bipush 99, 2) := by decide +kernel
theorem dX9_targetNow_35 : decode cX9_targetNow 35 = .ok (.iadd, 1) := by decide +kernel
theorem dX9_targetNow_36 : decode cX9_targetNow 36 = .ok (.bipush 100, 2) := by decide +kernel
theorem dX9_targetNow_38 : decode cX9_targetNow 38 = .ok (.idiv, 1) := by decide +kernel
theorem dX9_targetNow_39 : decode cX9_targetNow 39 = .ok (.istore_n 2, 1) := by decide +kernel
theorem dX9_targetNow_40 : decode cX9_targetNow 40 = .ok (.aload_n 0, 1) := by decide +kernel
theorem dX9_targetNow_41 : decode cX9_targetNow 41 = .ok (.getfield 26, 3) := by decide +kernel
theorem dX9_targetNow_44 : decode cX9_targetNow 44 = .ok (.iload_n 2, 1) := by decide +kernel
theorem dX9_targetNow_45 : decode cX9_targetNow 45 = .ok (.iconst 1, 1) := by decide +kernel
theorem dX9_targetNow_46 : decode cX9_targetNow 46 = .ok (.isub, 1) := by decide +kernel
theorem dX9_targetNow_47 : decode cX9_targetNow 47 = .ok (.iaload, 1) := by decide +kernel
theorem dX9_targetNow_48 : decode cX9_targetNow 48 = .ok (.aload_n 0, 1) := by decide +kernel
theorem dX9_targetNow_49 : decode cX9_targetNow 49 = .ok (.getfield 26, 3) := by decide +kernel
theorem dX9_targetNow_52 : decode cX9_targetNow 52 = .ok (.iconst 0, 1) := by decide +kernel
theorem dX9_targetNow_53 : decode cX9_targetNow 53 = .ok (.iaload, 1) := by decide +kernel
theorem dX9_targetNow_54 : decode cX9_targetNow 54 = .ok (.isub, 1) := by decide +kernel
theorem dX9_targetNow_55 : decode cX9_targetNow 55 = .ok (.aload_n 0, 1) := by decide +kernel
theorem dX9_targetNow_56 : decode cX9_targetNow 56 = .ok (.getfield 7, 3) := by decide +kernel
theorem dX9_targetNow_59 : decode cX9_targetNow 59 = .ok (.bipush 7, 2) := by decide +kernel
theorem dX9_targetNow_61 : decode cX9_targetNow 61 = .ok (.iaload, 1) := by decide +kernel
theorem dX9_targetNow_62 : decode cX9_targetNow 62 = .ok (.iadd, 1) := by decide +kernel
theorem dX9_targetNow_63 : decode cX9_targetNow 63 = .ok (.ireturn, 1) := by decide +kernel
theorem dX9_levelFrom_0 : decode cX9_levelFrom 0 = .ok (.iload_n 1, 1) := by decide +kernel
theorem dX9_levelFrom_1 : decode cX9_levelFrom 1 = .ok (.istore_n 2, 1) := by decide +kernel
theorem dX9_levelFrom_2 : decode cX9_levelFrom 2 = .ok (.iload_n 2, 1) := by decide +kernel
theorem dX9_levelFrom_3 : decode cX9_levelFrom 3 = .ok (.sipush 999, 3) := by decide +kernel
theorem dX9_levelFrom_6 : decode cX9_levelFrom 6 = .ok (.if_icmp .gt 17, 3) := by decide +kernel
theorem dX9_levelFrom_9 : decode cX9_levelFrom 9 = .ok (.aload_n 0, 1) := by decide +kernel
theorem dX9_levelFrom_10 : decode cX9_levelFrom 10 = .ok (.iload_n 2, 1) := by decide +kernel
theorem dX9_levelFrom_11 : decode cX9_levelFrom 11 = .ok (.invokevirtual 59, 3) := by decide +kernel
theorem dX9_levelFrom_14 : decode cX9_levelFrom 14 = .ok (.ifCond .eq 9, 3) := by decide +kernel
theorem dX9_levelFrom_17 : decode cX9_levelFrom 17 = .ok (.iinc 2 1, 3) := by decide +kernel
theorem dX9_levelFrom_20 : decode cX9_levelFrom 20 = .ok (.goto (-18), 3) := by decide +kernel
theorem dX9_levelFrom_23 : decode cX9_levelFrom 23 = .ok (.aload_n 0, 1) := by decide +kernel
theorem dX9_levelFrom_24 : decode cX9_levelFrom 24 = .ok (.getfield 7, 3) := by decide +kernel
theorem dX9_levelFrom_27 : decode cX9_levelFrom 27 = .ok (.iconst 0, 1) := by decide +kernel
theorem dX9_levelFrom_28 : decode cX9_levelFrom 28 = .ok (.iaload, 1) := by decide +kernel
theorem dX9_levelFrom_29 : decode cX9_levelFrom 29 = .ok (.iload_n 2, 1) := by decide +kernel
theorem dX9_levelFrom_30 : decode cX9_levelFrom 30 = .ok (.iload_n 1, 1) := by decide +kernel
theorem dX9_levelFrom_31 : decode cX9_levelFrom 31 = .ok (.if_icmp .le 9, 3) := by decide +kernel
theorem dX9_levelFrom_34 : decode cX9_levelFrom 34 = .ok (.iload_n 2, 1) := by decide +kernel
theorem dX9_levelFrom_35 : decode cX9_levelFrom 35 = .ok (.iload_n 1, 1) := by decide +kernel
theorem dX9_levelFrom_36 : decode cX9_levelFrom 36 = .ok (.isub, 1) := by decide +kernel
theorem dX9_levelFrom_37 : decode cX9_levelFrom 37 = .ok (.goto 4, 3) := by decide +kernel
theorem dX9_levelFrom_40 : decode cX9_levelFrom 40 = .ok (.iconst 0, 1) := by decide +kernel
theorem dX9_levelFrom_41 : decode cX9_levelFrom 41 = .ok (.imul, 1) := by decide +kernel
theorem dX9_levelFrom_42 : decode cX9_levelFrom 42 = .ok (.ireturn, 1) := by decide +kernel
theorem dX9_mixed_0 : decode cX9_mixed 0 = .ok (.iload_n 0, 1) := by decide +kernel
theorem dX9_mixed_1 : decode cX9_mixed 1 = .ok (.iload_n 3, 1) := by decide +kernel
theorem dX9_mixed_2 : decode cX9_mixed 2 = .ok (.iload_n 2, 1) := by decide +kernel
theorem dX9_mixed_3 : decode cX9_mixed 3 = .ok (.isub, 1) := by decide +kernel
theorem dX9_mixed_4 : decode cX9_mixed 4 = .ok (.imul, 1) := by decide +kernel
theorem dX9_mixed_5 : decode cX9_mixed 5 = .ok (.iload_n 1, 1) := by decide +kernel
theorem dX9_mixed_6 : decode cX9_mixed 6 = .ok (.iload_n 2, 1) := by decide +kernel
theorem dX9_mixed_7 : decode cX9_mixed 7 = .ok (.imul, 1) := by decide +kernel
theorem dX9_mixed_8 : decode cX9_mixed 8 = .ok (.iadd, 1) := by decide +kernel
theorem dX9_mixed_9 : decode cX9_mixed 9 = .ok (.iload_n 3, 1) := by decide +kernel
theorem dX9_mixed_10 : decode cX9_mixed 10 = .ok (.idiv, 1) := by decide +kernel
theorem dX9_mixed_11 : decode cX9_mixed 11 = .ok (.ireturn, 1) := by decide +kernel
theorem dX9_gives_0 : decode cX9_gives 0 = .ok (.aload_n 0, 1) := by decide +kernel
theorem dX9_gives_1 : decode cX9_gives 1 = .ok (.getfield 7, 3) := by decide +kernel
theorem dX9_gives_4 : decode cX9_gives 4 = .ok (.sipush 2342, 3) := by decide +kernel
theorem dX9_gives_7 : decode cX9_gives 7 = .ok (.aload_n 0, 1) := by decide +kernel
theorem dX9_gives_8 : decode cX9_gives 8 = .ok (.getfield 7, 3) := by decide +kernel
theorem dX9_gives_11 : decode cX9_gives 11 = .ok (.bipush 22, 2) := by decide +kernel
theorem dX9_gives_13 : decode cX9_gives 13 = .ok (.iaload, 1) := by decide +kernel
theorem dX9_gives_14 : decode cX9_gives 14 = .ok (.iadd, 1) := by decide +kernel
theorem dX9_gives_15 : decode cX9_gives 15 = .ok (.iload_n 1, 1) := by decide +kernel
theorem dX9_gives_16 : decode cX9_gives 16 = .ok (.iastore, 1) := by decide +kernel
theorem dX9_gives_17 : decode cX9_gives 17 = .ok (.aload_n 0, 1) := by decide +kernel
theorem dX9_gives_18 : decode cX9_gives 18 = .ok (.getfield 7, 3) := by decide +kernel
theorem dX9_gives_21 : decode cX9_gives 21 = .ok (.bipush 22, 2) := by decide +kernel
theorem dX9_gives_23 : decode cX9_gives 23 = .ok (.dup2, 1) := by decide +kernel
theorem dX9_gives_24 : decode cX9_gives 24 = .ok (.iaload, 1) := by decide +kernel
theorem dX9_gives_25 : decode cX9_gives 25 = .ok (.iconst 1, 1) := by decide +kernel
theorem dX9_gives_26 : decode cX9_gives 26 = .ok (.iadd, 1) := by decide +kernel
theorem dX9_gives_27 : decode cX9_gives 27 = .ok (.iastore, 1) := by decide +kernel
theorem dX9_gives_28 : decode cX9_gives 28 = .ok (.return_, 1) := by decide +kernel
theorem dX9_lagOfFrame_0 : decode cX9_lagOfFrame 0 = .ok (.iconst 2, 1) := by decide +kernel
theorem dX9_lagOfFrame_1 : decode cX9_lagOfFrame 1 = .ok (.istore_n 1, 1) := by decide +kernel
theorem dX9_lagOfFrame_2 : decode cX9_lagOfFrame 2 = .ok (.iconst (-1), 1) := by decide +kernel
theorem dX9_lagOfFrame_3 : decode cX9_lagOfFrame 3 = .ok (.istore_n 2, 1) := by decide +kernel
theorem dX9_lagOfFrame_4 : decode cX9_lagOfFrame 4 = .ok (.iconst 2, 1) := by decide +kernel
theorem dX9_lagOfFrame_5 : decode cX9_lagOfFrame 5 = .ok (.istore_n 3, 1) := by decide +kernel
theorem dX9_lagOfFrame_6 : decode cX9_lagOfFrame 6 = .ok (.iload_n 3, 1) := by decide +kernel
theorem dX9_lagOfFrame_7 : decode cX9_lagOfFrame 7 = .ok (.aload_n 0, 1) := by decide +kernel
theorem dX9_lagOfFrame_8 : decode cX9_lagOfFrame 8 = .ok (.getfield 7, 3) := by decide +kernel
theorem dX9_lagOfFrame_11 : decode cX9_lagOfFrame 11 = .ok (.iconst 0, 1) := by decide +kernel
theorem dX9_lagOfFrame_12 : decode cX9_lagOfFrame 12 = .ok (.iaload, 1) := by decide +kernel
theorem dX9_lagOfFrame_13 : decode cX9_lagOfFrame 13 = .ok (.iconst 2, 1) := by decide +kernel
theorem dX9_lagOfFrame_14 : decode cX9_lagOfFrame 14 = .ok (.idiv, 1) := by decide +kernel
theorem dX9_lagOfFrame_15 : decode cX9_lagOfFrame 15 = .ok (.if_icmp .gt 71, 3) := by decide +kernel
theorem dX9_lagOfFrame_18 : decode cX9_lagOfFrame 18 = .ok (.iconst 0, 1) := by decide +kernel
theorem dX9_lagOfFrame_19 : decode cX9_lagOfFrame 19 = .ok (.istore 4, 2) := by decide +kernel
theorem dX9_lagOfFrame_21 : decode cX9_lagOfFrame 21 = .ok (.iconst 0, 1) := by decide +kernel
theorem dX9_lagOfFrame_22 : decode cX9_lagOfFrame 22 = .ok (.istore 5, 2) := by decide +kernel
theorem dX9_lagOfFrame_24 : decode cX9_lagOfFrame 24 = .ok (.iload 5, 2) := by decide +kernel
theorem dX9_lagOfFrame_26 : decode cX9_lagOfFrame 26 = .ok (.iload_n 3, 1) := by decide +kernel
theorem dX9_lagOfFrame_27 : decode cX9_lagOfFrame 27 = .ok (.if_icmp .ge 34, 3) := by decide +kernel
theorem dX9_lagOfFrame_30 : decode cX9_lagOfFrame 30 = .ok (.iload 4, 2) := by decide +kernel
theorem dX9_lagOfFrame_32 : decode cX9_lagOfFrame 32 = .ok (.aload_n 0, 1) := by decide +kernel
theorem dX9_lagOfFrame_33 : decode cX9_lagOfFrame 33 = .ok (.getfield 29, 3) := by decide +kernel
theorem dX9_lagOfFrame_36 : decode cX9_lagOfFrame 36 = .ok (.iload 5, 2) := by decide +kernel
theorem dX9_lagOfFrame_38 : decode cX9_lagOfFrame 38 = .ok (.iaload, 1) := by decide +kernel
theorem dX9_lagOfFrame_39 : decode cX9_lagOfFrame 39 = .ok (.aload_n 0, 1) := by decide +kernel
theorem dX9_lagOfFrame_40 : decode cX9_lagOfFrame 40 = .ok (.getfield 29, 3) := by decide +kernel
theorem dX9_lagOfFrame_43 : decode cX9_lagOfFrame 43 = .ok (.iload_n 3, 1) := by decide +kernel
theorem dX9_lagOfFrame_44 : decode cX9_lagOfFrame 44 = .ok (.iload 5, 2) := by decide +kernel
theorem dX9_lagOfFrame_46 : decode cX9_lagOfFrame 46 = .ok (.iadd, 1) := by decide +kernel
theorem dX9_lagOfFrame_47 : decode cX9_lagOfFrame 47 = .ok (.iaload, 1) := by decide +kernel
theorem dX9_lagOfFrame_48 : decode cX9_lagOfFrame 48 = .ok (.isub, 1) := by decide +kernel
theorem dX9_lagOfFrame_49 : decode cX9_lagOfFrame 49 = .ok (.invokestatic 101, 3) := by decide +kernel
theorem dX9_lagOfFrame_52 : decode cX9_lagOfFrame 52 = .ok (.iadd, 1) := by decide +kernel
theorem dX9_lagOfFrame_53 : decode cX9_lagOfFrame 53 = .ok (.istore 4, 2) := by decide +kernel
theorem dX9_lagOfFrame_55 : decode cX9_lagOfFrame 55 = .ok (.iinc 5 1, 3) := by decide +kernel
theorem dX9_lagOfFrame_58 : decode cX9_lagOfFrame 58 = .ok (.goto (-34), 3) := by decide +kernel
theorem dX9_lagOfFrame_61 : decode cX9_lagOfFrame 61 = .ok (.iload_n 2, 1) := by decide +kernel
theorem dX9_lagOfFrame_62 : decode cX9_lagOfFrame 62 = .ok (.ifCond .lt 13, 3) := by decide +kernel
theorem dX9_lagOfFrame_65 : decode cX9_lagOfFrame 65 = .ok (.iload 4, 2) := by decide +kernel
theorem dX9_lagOfFrame_67 : decode cX9_lagOfFrame 67 = .ok (.iload_n 1, 1) := by decide +kernel
theorem dX9_lagOfFrame_68 : decode cX9_lagOfFrame 68 = .ok (.imul, 1) := by decide +kernel
theorem dX9_lagOfFrame_69 : decode cX9_lagOfFrame 69 = .ok (.iload_n 2, 1) := by decide +kernel
theorem dX9_lagOfFrame_70 : decode cX9_lagOfFrame 70 = .ok (.iload_n 3, 1) := by decide +kernel
theorem dX9_lagOfFrame_71 : decode cX9_lagOfFrame 71 = .ok (.imul, 1) := by decide +kernel
theorem dX9_lagOfFrame_72 : decode cX9_lagOfFrame 72 = .ok (.if_icmp .ge 8, 3) := by decide +kernel
theorem dX9_lagOfFrame_75 : decode cX9_lagOfFrame 75 = .ok (.iload_n 3, 1) := by decide +kernel
theorem dX9_lagOfFrame_76 : decode cX9_lagOfFrame 76 = .ok (.istore_n 1, 1) := by decide +kernel
theorem dX9_lagOfFrame_77 : decode cX9_lagOfFrame 77 = .ok (.iload 4, 2) := by decide +kernel
theorem dX9_lagOfFrame_79 : decode cX9_lagOfFrame 79 = .ok (.istore_n 2, 1) := by decide +kernel
theorem dX9_lagOfFrame_80 : decode cX9_lagOfFrame 80 = .ok (.iinc 3 1, 3) := by decide +kernel
theorem dX9_lagOfFrame_83 : decode cX9_lagOfFrame 83 = .ok (.goto (-77), 3) := by decide +kernel
theorem dX9_lagOfFrame_86 : decode cX9_lagOfFrame 86 = .ok (.iload_n 1, 1) := by decide +kernel
theorem dX9_lagOfFrame_87 : decode cX9_lagOfFrame 87 = .ok (.ireturn, 1) := by decide +kernel
theorem dX9_fits_0 : decode cX9_fits 0 = .ok (.aload_n 0, 1) := by decide +kernel
theorem dX9_fits_1 : decode cX9_fits 1 = .ok (.getfield 7, 3) := by decide +kernel
theorem dX9_fits_4 : decode cX9_fits 4 = .ok (.iconst 0, 1) := by decide +kernel
theorem dX9_fits_5 : decode cX9_fits 5 = .ok (.iaload, 1) := by decide +kernel
theorem dX9_fits_6 : decode cX9_fits 6 = .ok (.istore_n 2, 1) := by decide +kernel
theorem dX9_fits_7 : decode cX9_fits 7 = .ok (.iconst 0, 1) := by decide +kernel
theorem dX9_fits_8 : decode cX9_fits 8 = .ok (.istore_n 3, 1) := by decide +kernel
theorem dX9_fits_9 : decode cX9_fits 9 = .ok (.iload_n 3, 1) := by decide +kernel
theorem dX9_fits_10 : decode cX9_fits 10 = .ok (.iload_n 2, 1) := by decide +kernel
theorem dX9_fits_11 : decode cX9_fits 11 = .ok (.if_icmp .ge 21, 3) := by decide +kernel
theorem dX9_fits_14 : decode cX9_fits 14 = .ok (.aload_n 0, 1) := by decide +kernel
theorem dX9_fits_15 : decode cX9_fits 15 = .ok (.getfield 29, 3) := by decide +kernel
theorem dX9_fits_18 : decode cX9_fits 18 = .ok (.iload_n 3, 1) := by decide +kernel
theorem dX9_fits_19 : decode cX9_fits 19 = .ok (.aload_n 0, 1) := by decide +kernel
theorem dX9_fits_20 : decode cX9_fits 20 = .ok (.iload_n 1, 1) := by decide +kernel
theorem dX9_fits_21 : decode cX9_fits 21 = .ok (.iload_n 3, 1) := by decide +kernel
theorem dX9_fits_22 : decode cX9_fits 22 = .ok (.invokevirtual 104, 3) := by decide +kernel
theorem dX9_fits_25 : decode cX9_fits 25 = .ok (.iastore, 1) := by decide +kernel
theorem dX9_fits_26 : decode cX9_fits 26 = .ok (.iinc 3 1, 3) := by decide +kernel
theorem dX9_fits_29 : decode cX9_fits 29 = .ok (.goto (-20), 3) := by decide +kernel
theorem dX9_fits_32 : decode cX9_fits 32 = .ok (.aload_n 0, 1) := by decide +kernel
theorem dX9_fits_33 : decode cX9_fits 33 = .ok (.iload_n 1, 1) := by decide +kernel
theorem dX9_fits_34 : decode cX9_fits 34 = .ok (.iconst 1, 1) := by decide +kernel
theorem dX9_fits_35 : decode cX9_fits 35 = .ok (.iadd, 1) := by decide +kernel
theorem dX9_fits_36 : decode cX9_fits 36 = .ok (.invokevirtual 107, 3) := by decide +kernel
theorem dX9_fits_39 : decode cX9_fits 39 = .ok (.istore_n 3, 1) := by decide +kernel
theorem dX9_fits_40 : decode cX9_fits 40 = .ok (.aload_n 0, 1) := by decide +kernel
theorem dX9_fits_41 : decode cX9_fits 41 = .ok (.invokevirtual 110, 3) := by decide +kernel
theorem dX9_fits_44 : decode cX9_fits 44 = .ok (.istore 4, 2) := by decide +kernel
theorem dX9_fits_46 : decode cX9_fits 46 = .ok (.aload_n 0, 1) := by decide +kernel
theorem dX9_fits_47 : decode cX9_fits 47 = .ok (.getfield 7, 3) := by decide +kernel
theorem dX9_fits_50 : decode cX9_fits 50 = .ok (.bipush 8, 2) := by decide +kernel
theorem dX9_fits_52 : decode cX9_fits 52 = .ok (.iaload, 1) := by decide +kernel
theorem dX9_fits_53 : decode cX9_fits 53 = .ok (.iconst 1, 1) := by decide +kernel
theorem dX9_fits_54 : decode cX9_fits 54 = .ok (.if_icmp .ne 15, 3) := by decide +kernel
theorem dX9_fits_57 : decode cX9_fits 57 = .ok (.iload_n 3, 1) := by decide +kernel
theorem dX9_fits_58 : decode cX9_fits 58 = .ok (.iload 4, 2) := by decide +kernel
theorem dX9_fits_60 : decode cX9_fits 60 = .ok (.iload_n 2, 1) := by decide +kernel
theorem dX9_fits_61 : decode cX9_fits 61 = .ok (.iadd, 1) := by decide +kernel
theorem dX9_fits_62 : decode cX9_fits 62 = .ok (.if_icmp .le 7, 3) := by decide +kernel
theorem dX9_fits_65 : decode cX9_fits 65 = .ok (.iconst 1, 1) := by decide +kernel
theorem dX9_fits_66 : decode cX9_fits 66 = .ok (.goto 4, 3) := by decide +kernel
theorem dX9_fits_69 : decode cX9_fits 69 = .ok (.iconst 0, 1) := by decide +kernel
theorem dX9_fits_70 : decode cX9_fits 70 = .ok (.istore 5, 2) := by decide +kernel
theorem dX9_fits_72 : decode cX9_fits 72 = .ok (.aload_n 0, 1) := by decide +kernel
theorem dX9_fits_73 : decode cX9_fits 73 = .ok (.getfield 7, 3) := by decide +kernel
theorem dX9_fits_76 : decode cX9_fits 76 = .ok (.bipush 8, 2) := by decide +kernel
theorem dX9_fits_78 : decode cX9_fits 78 = .ok (.iaload, 1) := by decide +kernel
theorem dX9_fits_79 : decode cX9_fits 79 = .ok (.iconst 1, 1) := by decide +kernel
theorem dX9_fits_80 : decode cX9_fits 80 = .ok (.if_icmp .ne 15, 3) := by decide +kernel
theorem dX9_fits_83 : decode cX9_fits 83 = .ok (.iload_n 3, 1) := by decide +kernel
theorem dX9_fits_84 : decode cX9_fits 84 = .ok (.iload_n 2, 1) := by decide +kernel
theorem dX9_fits_85 : decode cX9_fits 85 = .ok (.iadd, 1) := by decide +kernel
theorem dX9_fits_86 : decode cX9_fits 86 = .ok (.iload 4, 2) := by decide +kernel
theorem dX9_fits_88 : decode cX9_fits 88 = .ok (.if_icmp .ge 7, 3) := by decide +kernel
theorem dX9_fits_91 : decode cX9_fits 91 = .ok (.iconst 1, 1) := by decide +kernel
theorem dX9_fits_92 : decode cX9_fits 92 = .ok (.goto 4, 3) := by decide +kernel
theorem dX9_fits_95 : decode cX9_fits 95 = .ok (.iconst 0, 1) := by decide +kernel
theorem dX9_fits_96 : decode cX9_fits 96 = .ok (.istore 6, 2) := by decide +kernel
theorem dX9_fits_98 : decode cX9_fits 98 = .ok (.aload_n 0, 1) := by decide +kernel
theorem dX9_fits_99 : decode cX9_fits 99 = .ok (.invokevirtual 113, 3) := by decide +kernel
theorem dX9_fits_102 : decode cX9_fits 102 = .ok (.istore 7, 2) := by decide +kernel
theorem dX9_fits_104 : decode cX9_fits 104 = .ok (.aload_n 0, 1) := by decide +kernel
theorem dX9_fits_105 : decode cX9_fits 105 = .ok (.getfield 7, 3) := by decide +kernel
theorem dX9_fits_108 : decode cX9_fits 108 = .ok (.bipush 16, 2) := by decide +kernel
theorem dX9_fits_110 : decode cX9_fits 110 = .ok (.dup2, 1) := by decide +kernel
theorem dX9_fits_111 : decode cX9_fits 111 = .ok (.iaload, 1) := by decide +kernel
theorem dX9_fits_112 : decode cX9_fits 112 = .ok (.iload 5, 2) := by decide +kernel
theorem dX9_fits_114 : decode cX9_fits 114 = .ok (.ifCond .eq 7, 3) := by decide +kernel
theorem dX9_fits_117 : decode cX9_fits 117 = .ok (.iconst 1, 1) := by decide +kernel
theorem dX9_fits_118 : decode cX9_fits 118 = .ok (.goto 4, 3) := by decide +kernel
theorem dX9_fits_121 : decode cX9_fits 121 = .ok (.iconst 0, 1) := by decide +kernel
theorem dX9_fits_122 : decode cX9_fits 122 = .ok (.iadd, 1) := by decide +kernel
theorem dX9_fits_123 : decode cX9_fits 123 = .ok (.iastore, 1) := by decide +kernel
theorem dX9_fits_124 : decode cX9_fits 124 = .ok (.aload_n 0, 1) := by decide +kernel
theorem dX9_fits_125 : decode cX9_fits 125 = .ok (.getfield 7, 3) := by decide +kernel
theorem dX9_fits_128 : decode cX9_fits 128 = .ok (.bipush 15, 2) := by decide +kernel
theorem dX9_fits_130 : decode cX9_fits 130 = .ok (.dup2, 1) := by decide +kernel
theorem dX9_fits_131 : decode cX9_fits 131 = .ok (.iaload, 1) := by decide +kernel
theorem dX9_fits_132 : decode cX9_fits 132 = .ok (.iload 6, 2) := by decide +kernel
theorem dX9_fits_134 : decode cX9_fits 134 = .ok (.ifCond .eq 7, 3) := by decide +kernel
theorem dX9_fits_137 : decode cX9_fits 137 = .ok (.iconst 1, 1) := by decide +kernel
theorem dX9_fits_138 : decode cX9_fits 138 = .ok (.goto 4, 3) := by decide +kernel
theorem dX9_fits_141 : decode cX9_fits 141 = .ok (.iconst 0, 1) := by decide +kernel
theorem dX9_fits_142 : decode cX9_fits 142 = .ok (.iadd, 1) := by decide +kernel
theorem dX9_fits_143 : decode cX9_fits 143 = .ok (.iastore, 1) := by decide +kernel
theorem dX9_fits_144 : decode cX9_fits 144 = .ok (.iconst 0, 1) := by decide +kernel
theorem dX9_fits_145 : decode cX9_fits 145 = .ok (.istore 8, 2) := by decide +kernel
theorem dX9_fits_147 : decode cX9_fits 147 = .ok (.iload 8, 2) := by decide +kernel
theorem dX9_fits_149 : decode cX9_fits 149 = .ok (.iload 7, 2) := by decide +kernel
theorem dX9_fits_151 : decode cX9_fits 151 = .ok (.if_icmp .ge 42, 3) := by decide +kernel
theorem dX9_fits_154 : decode cX9_fits 154 = .ok (.iload 5, 2) := by decide +kernel
theorem dX9_fits_156 : decode cX9_fits 156 = .ok (.ifCond .eq 37, 3) := by decide +kernel
theorem dX9_fits_159 : decode cX9_fits 159 = .ok (.aload_n 0, 1) := by decide +kernel
theorem dX9_fits_160 : decode cX9_fits 160 = .ok (.aload_n 0, 1) := by decide +kernel
theorem dX9_fits_161 : decode cX9_fits 161 = .ok (.getfield 29, 3) := by decide +kernel
theorem dX9_fits_164 : decode cX9_fits 164 = .ok (.iload 8, 2) := by decide +kernel
theorem dX9_fits_166 : decode cX9_fits 166 = .ok (.iaload, 1) := by decide +kernel
theorem dX9_fits_167 : decode cX9_fits 167 = .ok (.aload_n 0, 1) := by decide +kernel
theorem dX9_fits_168 : decode cX9_fits 168 = .ok (.getfield 29, 3) := by decide +kernel
theorem dX9_fits_171 : decode cX9_fits 171 = .ok (.iload 8, 2) := by decide +kernel
theorem dX9_fits_173 : decode cX9_fits 173 = .ok (.iload 7, 2) := by decide +kernel
theorem dX9_fits_175 : decode cX9_fits 175 = .ok (.iadd, 1) := by decide +kernel
theorem dX9_fits_176 : decode cX9_fits 176 = .ok (.iaload, 1) := by decide +kernel
theorem dX9_fits_177 : decode cX9_fits 177 = .ok (.iload 8, 2) := by decide +kernel
theorem dX9_fits_179 : decode cX9_fits 179 = .ok (.iload 7, 2) := by decide +kernel
theorem dX9_fits_181 : decode cX9_fits 181 = .ok (.invokestatic 116, 3) := by decide +kernel
theorem dX9_fits_184 : decode cX9_fits 184 = .ok (.invokevirtual 120, 3) := by decide +kernel
theorem dX9_fits_187 : decode cX9_fits 187 = .ok (.iinc 8 1, 3) := by decide +kernel
theorem dX9_fits_190 : decode cX9_fits 190 = .ok (.goto (-43), 3) := by decide +kernel
theorem dX9_fits_193 : decode cX9_fits 193 = .ok (.iconst 0, 1) := by decide +kernel
theorem dX9_fits_194 : decode cX9_fits 194 = .ok (.istore 8, 2) := by decide +kernel
theorem dX9_fits_196 : decode cX9_fits 196 = .ok (.iload 8, 2) := by decide +kernel
theorem dX9_fits_198 : decode cX9_fits 198 = .ok (.iload 7, 2) := by decide +kernel
theorem dX9_fits_200 : decode cX9_fits 200 = .ok (.if_icmp .ge 25, 3) := by decide +kernel
theorem dX9_fits_203 : decode cX9_fits 203 = .ok (.iload 5, 2) := by decide +kernel
theorem dX9_fits_205 : decode cX9_fits 205 = .ok (.ifCond .ne 20, 3) := by decide +kernel
theorem dX9_fits_208 : decode cX9_fits 208 = .ok (.aload_n 0, 1) := by decide +kernel
theorem dX9_fits_209 : decode cX9_fits 209 = .ok (.aload_n 0, 1) := by decide +kernel
theorem dX9_fits_210 : decode cX9_fits 210 = .ok (.getfield 29, 3) := by decide +kernel
theorem dX9_fits_213 : decode cX9_fits 213 = .ok (.iload 8, 2) := by decide +kernel
theorem dX9_fits_215 : decode cX9_fits 215 = .ok (.iaload, 1) := by decide +kernel
theorem dX9_fits_216 : decode cX9_fits 216 = .ok (.invokevirtual 120, 3) := by decide +kernel
theorem dX9_fits_219 : decode cX9_fits 219 = .ok (.iinc 8 1, 3) := by decide +kernel
theorem dX9_fits_222 : decode cX9_fits 222 = .ok (.goto (-26), 3) := by decide +kernel
theorem dX9_fits_225 : decode cX9_fits 225 = .ok (.iconst 0, 1) := by decide +kernel
theorem dX9_fits_226 : decode cX9_fits 226 = .ok (.istore 8, 2) := by decide +kernel
theorem dX9_fits_228 : decode cX9_fits 228 = .ok (.iload 8, 2) := by decide +kernel
theorem dX9_fits_230 : decode cX9_fits 230 = .ok (.iload 7, 2) := by decide +kernel
theorem dX9_fits_232 : decode cX9_fits 232 = .ok (.if_icmp .ge 42, 3) := by decide +kernel
theorem dX9_fits_235 : decode cX9_fits 235 = .ok (.iload 6, 2) := by decide +kernel
theorem dX9_fits_237 : decode cX9_fits 237 = .ok (.ifCond .eq 37, 3) := by decide +kernel
theorem dX9_fits_240 : decode cX9_fits 240 = .ok (.aload_n 0, 1) := by decide +kernel
theorem dX9_fits_241 : decode cX9_fits 241 = .ok (.aload_n 0, 1) := by decide +kernel
theorem dX9_fits_242 : decode cX9_fits 242 = .ok (.getfield 29, 3) := by decide +kernel
theorem dX9_fits_245 : decode cX9_fits 245 = .ok (.iload 8, 2) := by decide +kernel
theorem dX9_fits_247 : decode cX9_fits 247 = .ok (.iload 7, 2) := by decide +kernel
theorem dX9_fits_249 : decode cX9_fits 249 = .ok (.iadd, 1) := by decide +kernel
theorem dX9_fits_250 : decode cX9_fits 250 = .ok (.iaload, 1) := by decide +kernel
theorem dX9_fits_251 : decode cX9_fits 251 = .ok (.aload_n 0, 1) := by decide +kernel
theorem dX9_fits_252 : decode cX9_fits 252 = .ok (.getfield 29, 3) := by decide +kernel
theorem dX9_fits_255 : decode cX9_fits 255 = .ok (.iload 8, 2) := by decide +kernel
theorem dX9_fits_257 : decode cX9_fits 257 = .ok (.iaload, 1) := by decide +kernel
theorem dX9_fits_258 : decode cX9_fits 258 = .ok (.iload 8, 2) := by decide +kernel
theorem dX9_fits_260 : decode cX9_fits 260 = .ok (.iload 7, 2) := by decide +kernel
theorem dX9_fits_262 : decode cX9_fits 262 = .ok (.invokestatic 116, 3) := by decide +kernel
theorem dX9_fits_265 : decode cX9_fits 265 = .ok (.invokevirtual 120, 3) := by decide +kernel
theorem dX9_fits_268 : decode cX9_fits 268 = .ok (.iinc 8 1, 3) := by decide +kernel
theorem dX9_fits_271 : decode cX9_fits 271 = .ok (.goto (-43), 3) := by decide +kernel
theorem dX9_fits_274 : decode cX9_fits 274 = .ok (.iload 5, 2) := by decide +kernel
theorem dX9_fits_276 : decode cX9_fits 276 = .ok (.ifCond .eq 10, 3) := by decide +kernel
theorem dX9_fits_279 : decode cX9_fits 279 = .ok (.iconst 2, 1) := by decide +kernel
theorem dX9_fits_280 : decode cX9_fits 280 = .ok (.iload 7, 2) := by decide +kernel
theorem dX9_fits_282 : decode cX9_fits 282 = .ok (.imul, 1) := by decide +kernel
theorem dX9_fits_283 : decode cX9_fits 283 = .ok (.goto 5, 3) := by decide +kernel
theorem dX9_fits_286 : decode cX9_fits 286 = .ok (.iload 7, 2) := by decide +kernel
theorem dX9_fits_288 : decode cX9_fits 288 = .ok (.istore 8, 2) := by decide +kernel
theorem dX9_fits_290 : decode cX9_fits 290 = .ok (.iload 8, 2) := by decide +kernel
theorem dX9_fits_292 : decode cX9_fits 292 = .ok (.iload_n 2, 1) := by decide +kernel
theorem dX9_fits_293 : decode cX9_fits 293 = .ok (.if_icmp .ge 20, 3) := by decide +kernel
theorem dX9_fits_296 : decode cX9_fits 296 = .ok (.aload_n 0, 1) := by decide +kernel
theorem dX9_fits_297 : decode cX9_fits 297 = .ok (.aload_n 0, 1) := by decide +kernel
theorem dX9_fits_298 : decode cX9_fits 298 = .ok (.getfield 29, 3) := by decide +kernel
theorem dX9_fits_301 : decode cX9_fits 301 = .ok (.iload 8, 2) := by decide +kernel
theorem dX9_fits_303 : decode cX9_fits 303 = .ok (.iaload, 1) := by decide +kernel
theorem dX9_fits_304 : decode cX9_fits 304 = .ok (.invokevirtual 120, 3) := by decide +kernel
theorem dX9_fits_307 : decode cX9_fits 307 = .ok (.iinc 8 1, 3) := by decide +kernel
theorem dX9_fits_310 : decode cX9_fits 310 = .ok (.goto (-20), 3) := by decide +kernel
theorem dX9_fits_313 : decode cX9_fits 313 = .ok (.return_, 1) := by decide +kernel
theorem dX9_old_0 : decode cX9_old 0 = .ok (.aload_n 0, 1) := by decide +kernel
theorem dX9_old_1 : decode cX9_old 1 = .ok (.getfield 7, 3) := by decide +kernel
theorem dX9_old_4 : decode cX9_old 4 = .ok (.sipush 2054, 3) := by decide +kernel
theorem dX9_old_7 : decode cX9_old 7 = .ok (.aload_n 0, 1) := by decide +kernel
theorem dX9_old_8 : decode cX9_old 8 = .ok (.getfield 7, 3) := by decide +kernel
theorem dX9_old_11 : decode cX9_old 11 = .ok (.bipush 12, 2) := by decide +kernel
theorem dX9_old_13 : decode cX9_old 13 = .ok (.iaload, 1) := by decide +kernel
theorem dX9_old_14 : decode cX9_old 14 = .ok (.iload_n 1, 1) := by decide +kernel
theorem dX9_old_15 : decode cX9_old 15 = .ok (.isub, 1) := by decide +kernel
theorem dX9_old_16 : decode cX9_old 16 = .ok (.sipush 256, 3) := by decide +kernel
theorem dX9_old_19 : decode cX9_old 19 = .ok (.irem, 1) := by decide +kernel
theorem dX9_old_20 : decode cX9_old 20 = .ok (.iadd, 1) := by decide +kernel
theorem dX9_old_21 : decode cX9_old 21 = .ok (.iaload, 1) := by decide +kernel
theorem dX9_old_22 : decode cX9_old 22 = .ok (.ireturn, 1) := by decide +kernel
theorem dX9_lagOfHistory_0 : decode cX9_lagOfHistory 0 = .ok (.iconst 0, 1) := by decide +kernel
theorem dX9_lagOfHistory_1 : decode cX9_lagOfHistory 1 = .ok (.istore_n 1, 1) := by decide +kernel
theorem dX9_lagOfHistory_2 : decode cX9_lagOfHistory 2 = .ok (.iconst 0, 1) := by decide +kernel
theorem dX9_lagOfHistory_3 : decode cX9_lagOfHistory 3 = .ok (.istore_n 2, 1) := by decide +kernel
theorem dX9_lagOfHistory_4 : decode cX9_lagOfHistory 4 = .ok (.iconst 2, 1) := by decide +kernel
theorem dX9_lagOfHistory_5 : decode cX9_lagOfHistory 5 = .ok (.istore_n 3, 1) := by decide +kernel
theorem dX9_lagOfHistory_6 : decode cX9_lagOfHistory 6 = .ok (.iload_n 3, 1) := by decide +kernel
theorem dX9_lagOfHistory_7 : decode cX9_lagOfHistory 7 = .ok (.bipush 16, 2) := by decide +kernel
theorem dX9_lagOfHistory_9 : decode cX9_lagOfHistory 9 = .ok (.if_icmp .gt 82, 3) := by decide +kernel
theorem dX9_lagOfHistory_12 : decode cX9_lagOfHistory 12 = .ok (.iconst 2, 1) := by decide +kernel
theorem dX9_lagOfHistory_13 : decode cX9_lagOfHistory 13 = .ok (.iload_n 3, 1) := by decide +kernel
theorem dX9_lagOfHistory_14 : decode cX9_lagOfHistory 14 = .ok (.imul, 1) := by decide +kernel
theorem dX9_lagOfHistory_15 : decode cX9_lagOfHistory 15 = .ok (.aload_n 0, 1) := by decide +kernel
theorem dX9_lagOfHistory_16 : decode cX9_lagOfHistory 16 = .ok (.getfield 7, 3) := by decide +kernel
theorem dX9_lagOfHistory_19 : decode cX9_lagOfHistory 19 = .ok (.bipush 12, 2) := by decide +kernel
theorem dX9_lagOfHistory_21 : decode cX9_lagOfHistory 21 = .ok (.iaload, 1) := by decide +kernel
theorem dX9_lagOfHistory_22 : decode cX9_lagOfHistory 22 = .ok (.if_icmp .gt 69, 3) := by decide +kernel
theorem dX9_lagOfHistory_25 : decode cX9_lagOfHistory 25 = .ok (.iconst 0, 1) := by decide +kernel
theorem dX9_lagOfHistory_26 : decode cX9_lagOfHistory 26 = .ok (.istore 4, 2) := by decide +kernel
theorem dX9_lagOfHistory_28 : decode cX9_lagOfHistory 28 = .ok (.iconst 1, 1) := by decide +kernel
theorem dX9_lagOfHistory_29 : decode cX9_lagOfHistory 29 = .ok (.istore 5, 2) := by decide +kernel
theorem dX9_lagOfHistory_31 : decode cX9_lagOfHistory 31 = .ok (.iload 5, 2) := by decide +kernel
theorem dX9_lagOfHistory_33 : decode cX9_lagOfHistory 33 = .ok (.iload_n 3, 1) := by decide +kernel
theorem dX9_lagOfHistory_34 : decode cX9_lagOfHistory 34 = .ok (.if_icmp .gt 32, 3) := by decide +kernel
theorem dX9_lagOfHistory_37 : decode cX9_lagOfHistory 37 = .ok (.iload 4, 2) := by decide +kernel
theorem dX9_lagOfHistory_39 : decode cX9_lagOfHistory 39 = .ok (.aload_n 0, 1) := by decide +kernel
theorem dX9_lagOfHistory_40 : decode cX9_lagOfHistory 40 = .ok (.iload 5, 2) := by decide +kernel
theorem dX9_lagOfHistory_42 : decode cX9_lagOfHistory 42 = .ok (.invokevirtual 123, 3) := by decide +kernel
theorem dX9_lagOfHistory_45 : decode cX9_lagOfHistory 45 = .ok (.aload_n 0, 1) := by decide +kernel
theorem dX9_lagOfHistory_46 : decode cX9_lagOfHistory 46 = .ok (.iload 5, 2) := by decide +kernel
theorem dX9_lagOfHistory_48 : decode cX9_lagOfHistory 48 = .ok (.iload_n 3, 1) := by decide +kernel
theorem dX9_lagOfHistory_49 : decode cX9_lagOfHistory 49 = .ok (.iadd, 1) := by decide +kernel
theorem dX9_lagOfHistory_50 : decode cX9_lagOfHistory 50 = .ok (.invokevirtual 123, 3) := by decide +kernel
theorem dX9_lagOfHistory_53 : decode cX9_lagOfHistory 53 = .ok (.isub, 1) := by decide +kernel
theorem dX9_lagOfHistory_54 : decode cX9_lagOfHistory 54 = .ok (.invokestatic 101, 3) := by decide +kernel
theorem dX9_lagOfHistory_57 : decode cX9_lagOfHistory 57 = .ok (.iadd, 1) := by decide +kernel
theorem dX9_lagOfHistory_58 : decode cX9_lagOfHistory 58 = .ok (.istore 4, 2) := by decide +kernel
theorem dX9_lagOfHistory_60 : decode cX9_lagOfHistory 60 = .ok (.iinc 5 1, 3) := by decide +kernel
theorem dX9_lagOfHistory_63 : decode cX9_lagOfHistory 63 = .ok (.goto (-32), 3) := by decide +kernel
theorem dX9_lagOfHistory_66 : decode cX9_lagOfHistory 66 = .ok (.iload_n 1, 1) := by decide +kernel
theorem dX9_lagOfHistory_67 : decode cX9_lagOfHistory 67 = .ok (.ifCond .eq 13, 3) := by decide +kernel
theorem dX9_lagOfHistory_70 : decode cX9_lagOfHistory 70 = .ok (.iload 4, 2) := by decide +kernel
theorem dX9_lagOfHistory_72 : decode cX9_lagOfHistory 72 = .ok (.iload_n 1, 1) := by decide +kernel
theorem dX9_lagOfHistory_73 : decode cX9_lagOfHistory 73 = .ok (.imul, 1) := by decide +kernel
theorem dX9_lagOfHistory_74 : decode cX9_lagOfHistory 74 = .ok (.iload_n 2, 1) := by decide +kernel
theorem dX9_lagOfHistory_75 : decode cX9_lagOfHistory 75 = .ok (.iload_n 3, 1) := by decide +kernel
theorem dX9_lagOfHistory_76 : decode cX9_lagOfHistory 76 = .ok (.imul, 1) := by decide +kernel
theorem dX9_lagOfHistory_77 : decode cX9_lagOfHistory 77 = .ok (.if_icmp .ge 8, 3) := by decide +kernel
theorem dX9_lagOfHistory_80 : decode cX9_lagOfHistory 80 = .ok (.iload_n 3, 1) := by decide +kernel
theorem dX9_lagOfHistory_81 : decode cX9_lagOfHistory 81 = .ok (.istore_n 1, 1) := by decide +kernel
theorem dX9_lagOfHistory_82 : decode cX9_lagOfHistory 82 = .ok (.iload 4, 2) := by decide +kernel
theorem dX9_lagOfHistory_84 : decode cX9_lagOfHistory 84 = .ok (.istore_n 2, 1) := by decide +kernel
theorem dX9_lagOfHistory_85 : decode cX9_lagOfHistory 85 = .ok (.iinc 3 1, 3) := by decide +kernel
theorem dX9_lagOfHistory_88 : decode cX9_lagOfHistory 88 = .ok (.goto (-82), 3) := by decide +kernel
theorem dX9_lagOfHistory_91 : decode cX9_lagOfHistory 91 = .ok (.iload_n 1, 1) := by decide +kernel
theorem dX9_lagOfHistory_92 : decode cX9_lagOfHistory 92 = .ok (.ireturn, 1) := by decide +kernel
theorem dX9_conceals_0 : decode cX9_conceals 0 = .ok (.aload_n 0, 1) := by decide +kernel
theorem dX9_conceals_1 : decode cX9_conceals 1 = .ok (.invokevirtual 126, 3) := by decide +kernel
theorem dX9_conceals_4 : decode cX9_conceals 4 = .ok (.istore_n 1, 1) := by decide +kernel
theorem dX9_conceals_5 : decode cX9_conceals 5 = .ok (.iconst 0, 1) := by decide +kernel
theorem dX9_conceals_6 : decode cX9_conceals 6 = .ok (.istore_n 2, 1) := by decide +kernel
theorem dX9_conceals_7 : decode cX9_conceals 7 = .ok (.iload_n 2, 1) := by decide +kernel
theorem dX9_conceals_8 : decode cX9_conceals 8 = .ok (.aload_n 0, 1) := by decide +kernel
theorem dX9_conceals_9 : decode cX9_conceals 9 = .ok (.getfield 7, 3) := by decide +kernel
theorem dX9_conceals_12 : decode cX9_conceals 12 = .ok (.iconst 0, 1) := by decide +kernel
theorem dX9_conceals_13 : decode cX9_conceals 13 = .ok (.iaload, 1) := by decide +kernel
theorem dX9_conceals_14 : decode cX9_conceals 14 = .ok (.if_icmp .ge 59, 3) := by decide +kernel
theorem dX9_conceals_17 : decode cX9_conceals 17 = .ok (.iload_n 1, 1) := by decide +kernel
theorem dX9_conceals_18 : decode cX9_conceals 18 = .ok (.ifCond .ne 7, 3) := by decide +kernel
theorem dX9_conceals_21 : decode cX9_conceals 21 = .ok (.iconst 0, 1) := by decide +kernel
theorem dX9_conceals_22 : decode cX9_conceals 22 = .ok (.goto 12, 3) := by decide +kernel
theorem dX9_conceals_25 : decode cX9_conceals 25 = .ok (.aload_n 0, 1) := by decide +kernel
theorem dX9_conceals_26 : decode cX9_conceals 26 = .ok (.iload_n 1, 1) := by decide +kernel
theorem dX9_conceals_27 : decode cX9_conceals 27 = .ok (.iload_n 2, 1) := by decide +kernel
theorem dX9_conceals_28 : decode cX9_conceals 28 = .ok (.iload_n 1, 1) := by decide +kernel
theorem dX9_conceals_29 : decode cX9_conceals 29 = .ok (.irem, 1) := by decide +kernel
theorem dX9_conceals_30 : decode cX9_conceals 30 = .ok (.isub, 1) := by decide +kernel
theorem dX9_conceals_31 : decode cX9_conceals 31 = .ok (.invokevirtual 123, 3) := by decide +kernel
theorem dX9_conceals_34 : decode cX9_conceals 34 = .ok (.istore_n 3, 1) := by decide +kernel
theorem dX9_conceals_35 : decode cX9_conceals 35 = .ok (.iconst 0, 1) := by decide +kernel
theorem dX9_conceals_36 : decode cX9_conceals 36 = .ok (.istore 4, 2) := by decide +kernel
theorem dX9_conceals_38 : decode cX9_conceals 38 = .ok (.iload 4, 2) := by decide +kernel
theorem dX9_conceals_40 : decode cX9_conceals 40 = .ok (.aload_n 0, 1) := by decide +kernel
theorem dX9_conceals_41 : decode cX9_conceals 41 = .ok (.getfield 7, 3) := by decide +kernel
theorem dX9_conceals_44 : decode cX9_conceals 44 = .ok (.bipush 13, 2) := by decide +kernel
theorem dX9_conceals_46 : decode cX9_conceals 46 = .ok (.iaload, 1) := by decide +kernel
theorem dX9_conceals_47 : decode cX9_conceals 47 = .ok (.if_icmp .ge 15, 3) := by decide +kernel
theorem dX9_conceals_50 : decode cX9_conceals 50 = .ok (.iload_n 3, 1) := by decide +kernel
theorem dX9_conceals_51 : decode cX9_conceals 51 = .ok (.iconst 3, 1) := by decide +kernel
theorem dX9_conceals_52 : decode cX9_conceals 52 = .ok (.imul, 1) := by decide +kernel
theorem dX9_conceals_53 : decode cX9_conceals 53 = .ok (.iconst 4, 1) := by decide +kernel
theorem dX9_conceals_54 : decode cX9_conceals 54 = .ok (.idiv, 1) := by decide +kernel
theorem dX9_conceals_55 : decode cX9_conceals 55 = .ok (.istore_n 3, 1) := by decide +kernel
theorem dX9_conceals_56 : decode cX9_conceals 56 = .ok (.iinc 4 1, 3) := by decide +kernel
theorem dX9_conceals_59 : decode cX9_conceals 59 = .ok (.goto (-21), 3) := by decide +kernel
theorem dX9_conceals_62 : decode cX9_conceals 62 = .ok (.aload_n 0, 1) := by decide +kernel
theorem dX9_conceals_63 : decode cX9_conceals 63 = .ok (.iload_n 3, 1) := by decide +kernel
theorem dX9_conceals_64 : decode cX9_conceals 64 = .ok (.invokevirtual 120, 3) := by decide +kernel
theorem dX9_conceals_67 : decode cX9_conceals 67 = .ok (.iinc 2 1, 3) := by decide +kernel
theorem dX9_conceals_70 : decode cX9_conceals 70 = .ok (.goto (-63), 3) := by decide +kernel
theorem dX9_conceals_73 : decode cX9_conceals 73 = .ok (.return_, 1) := by decide +kernel
theorem dX9_takes_0 : decode cX9_takes 0 = .ok (.aload_n 0, 1) := by decide +kernel
theorem dX9_takes_1 : decode cX9_takes 1 = .ok (.getfield 7, 3) := by decide +kernel
theorem dX9_takes_4 : decode cX9_takes 4 = .ok (.bipush 11, 2) := by decide +kernel
theorem dX9_takes_6 : decode cX9_takes 6 = .ok (.iaload, 1) := by decide +kernel
theorem dX9_takes_7 : decode cX9_takes 7 = .ok (.istore_n 1, 1) := by decide +kernel
theorem dX9_takes_8 : decode cX9_takes 8 = .ok (.aload_n 0, 1) := by decide +kernel
theorem dX9_takes_9 : decode cX9_takes 9 = .ok (.getfield 7, 3) := by decide +kernel
theorem dX9_takes_12 : decode cX9_takes 12 = .ok (.bipush 30, 2) := by decide +kernel
theorem dX9_takes_14 : decode cX9_takes 14 = .ok (.iload_n 1, 1) := by decide +kernel
theorem dX9_takes_15 : decode cX9_takes 15 = .ok (.iadd, 1) := by decide +kernel
theorem dX9_takes_16 : decode cX9_takes 16 = .ok (.iaload, 1) := by decide +kernel
theorem dX9_takes_17 : decode cX9_takes 17 = .ok (.iconst 2, 1) := by decide +kernel
theorem dX9_takes_18 : decode cX9_takes 18 = .ok (.if_icmp .ne 7, 3) := by decide +kernel
theorem dX9_takes_21 : decode cX9_takes 21 = .ok (.iconst 1, 1) := by decide +kernel
theorem dX9_takes_22 : decode cX9_takes 22 = .ok (.goto 21, 3) := by decide +kernel
theorem dX9_takes_25 : decode cX9_takes 25 = .ok (.aload_n 0, 1) := by decide +kernel
theorem dX9_takes_26 : decode cX9_takes 26 = .ok (.getfield 7, 3) := by decide +kernel
theorem dX9_takes_29 : decode cX9_takes 29 = .ok (.bipush 30, 2) := by decide +kernel
theorem dX9_takes_31 : decode cX9_takes 31 = .ok (.iload_n 1, 1) := by decide +kernel
theorem dX9_takes_32 : decode cX9_takes 32 = .ok (.iadd, 1) := by decide +kernel
theorem dX9_takes_33 : decode cX9_takes 33 = .ok (.iaload, 1) := by decide +kernel
theorem dX9_takes_34 : decode cX9_takes 34 = .ok (.iconst 1, 1) := by decide +kernel
theorem dX9_takes_35 : decode cX9_takes 35 = .ok (.if_icmp .ne 7, 3) := by decide +kernel
theorem dX9_takes_38 : decode cX9_takes 38 = .ok (.iconst 2, 1) := by decide +kernel
theorem dX9_takes_39 : decode cX9_takes 39 = .ok (.goto 4, 3) := by decide +kernel
theorem dX9_takes_42 : decode cX9_takes 42 = .ok (.iconst 3, 1) := by decide +kernel
theorem dX9_takes_43 : decode cX9_takes 43 = .ok (.istore_n 2, 1) := by decide +kernel
theorem dX9_takes_44 : decode cX9_takes 44 = .ok (.aload_n 0, 1) := by decide +kernel
theorem dX9_takes_45 : decode cX9_takes 45 = .ok (.getfield 7, 3) := by decide +kernel
theorem dX9_takes_48 : decode cX9_takes 48 = .ok (.bipush 22, 2) := by decide +kernel
theorem dX9_takes_50 : decode cX9_takes 50 = .ok (.iconst 0, 1) := by decide +kernel
theorem dX9_takes_51 : decode cX9_takes 51 = .ok (.iastore, 1) := by decide +kernel
theorem dX9_takes_52 : decode cX9_takes 52 = .ok (.aload_n 0, 1) := by decide +kernel
theorem dX9_takes_53 : decode cX9_takes 53 = .ok (.getfield 7, 3) := by decide +kernel
theorem dX9_takes_56 : decode cX9_takes 56 = .ok (.bipush 23, 2) := by decide +kernel
theorem dX9_takes_58 : decode cX9_takes 58 = .ok (.iconst 0, 1) := by decide +kernel
theorem dX9_takes_59 : decode cX9_takes 59 = .ok (.iastore, 1) := by decide +kernel
theorem dX9_takes_60 : decode cX9_takes 60 = .ok (.iload_n 2, 1) := by decide +kernel
theorem dX9_takes_61 : decode cX9_takes 61 = .ok (.iconst 3, 1) := by decide +kernel
theorem dX9_takes_62 : decode cX9_takes 62 = .ok (.if_icmp .ne 62, 3) := by decide +kernel
theorem dX9_takes_65 : decode cX9_takes 65 = .ok (.aload_n 0, 1) := by decide +kernel
theorem dX9_takes_66 : decode cX9_takes 66 = .ok (.getfield 7, 3) := by decide +kernel
theorem dX9_takes_69 : decode cX9_takes 69 = .ok (.bipush 13, 2) := by decide +kernel
theorem dX9_takes_71 : decode cX9_takes 71 = .ok (.dup2, 1) := by decide +kernel
theorem dX9_takes_72 : decode cX9_takes 72 = .ok (.iaload, 1) := by decide +kernel
theorem dX9_takes_73 : decode cX9_takes 73 = .ok (.iconst 1, 1) := by decide +kernel
theorem dX9_takes_74 : decode cX9_takes 74 = .ok (.iadd, 1) := by decide +kernel
theorem dX9_takes_75 : decode cX9_takes 75 = .ok (.iastore, 1) := by decide +kernel
theorem dX9_takes_76 : decode cX9_takes 76 = .ok (.aload_n 0, 1) := by decide +kernel
theorem dX9_takes_77 : decode cX9_takes 77 = .ok (.getfield 7, 3) := by decide +kernel
theorem dX9_takes_80 : decode cX9_takes 80 = .ok (.bipush 14, 2) := by decide +kernel
theorem dX9_takes_82 : decode cX9_takes 82 = .ok (.aload_n 0, 1) := by decide +kernel
theorem dX9_takes_83 : decode cX9_takes 83 = .ok (.getfield 7, 3) := by decide +kernel
theorem dX9_takes_86 : decode cX9_takes 86 = .ok (.bipush 13, 2) := by decide +kernel
theorem dX9_takes_88 : decode cX9_takes 88 = .ok (.iaload, 1) := by decide +kernel
theorem dX9_takes_89 : decode cX9_takes 89 = .ok (.aload_n 0, 1) := by decide +kernel
theorem dX9_takes_90 : decode cX9_takes 90 = .ok (.getfield 7, 3) := by decide +kernel
theorem dX9_takes_93 : decode cX9_takes 93 = .ok (.bipush 14, 2) := by decide +kernel
theorem dX9_takes_95 : decode cX9_takes 95 = .ok (.iaload, 1) := by decide +kernel
theorem dX9_takes_96 : decode cX9_takes 96 = .ok (.if_icmp .le 13, 3) := by decide +kernel
theorem dX9_takes_99 : decode cX9_takes 99 = .ok (.aload_n 0, 1) := by decide +kernel
theorem dX9_takes_100 : decode cX9_takes 100 = .ok (.getfield 7, 3) := by decide +kernel
theorem dX9_takes_103 : decode cX9_takes 103 = .ok (.bipush 13, 2) := by decide +kernel
theorem dX9_takes_105 : decode cX9_takes 105 = .ok (.iaload, 1) := by decide +kernel
theorem dX9_takes_106 : decode cX9_takes 106 = .ok (.goto 10, 3) := by decide +kernel
theorem dX9_takes_109 : decode cX9_takes 109 = .ok (.aload_n 0, 1) := by decide +kernel
theorem dX9_takes_110 : decode cX9_takes 110 = .ok (.getfield 7, 3) := by decide +kernel
theorem dX9_takes_113 : decode cX9_takes 113 = .ok (.bipush 14, 2) := by decide +kernel
theorem dX9_takes_115 : decode cX9_takes 115 = .ok (.iaload, 1) := by decide +kernel
theorem dX9_takes_116 : decode cX9_takes 116 = .ok (.iastore, 1) := by decide +kernel
theorem dX9_takes_117 : decode cX9_takes 117 = .ok (.aload_n 0, 1) := by decide +kernel
theorem dX9_takes_118 : decode cX9_takes 118 = .ok (.invokevirtual 129, 3) := by decide +kernel
theorem dX9_takes_121 : decode cX9_takes 121 = .ok (.goto 16, 3) := by decide +kernel
theorem dX9_takes_124 : decode cX9_takes 124 = .ok (.aload_n 0, 1) := by decide +kernel
theorem dX9_takes_125 : decode cX9_takes 125 = .ok (.getfield 7, 3) := by decide +kernel
theorem dX9_takes_128 : decode cX9_takes 128 = .ok (.bipush 13, 2) := by decide +kernel
theorem dX9_takes_130 : decode cX9_takes 130 = .ok (.iconst 0, 1) := by decide +kernel
theorem dX9_takes_131 : decode cX9_takes 131 = .ok (.iastore, 1) := by decide +kernel
theorem dX9_takes_132 : decode cX9_takes 132 = .ok (.aload_n 0, 1) := by decide +kernel
theorem dX9_takes_133 : decode cX9_takes 133 = .ok (.iload_n 1, 1) := by decide +kernel
theorem dX9_takes_134 : decode cX9_takes 134 = .ok (.invokevirtual 132, 3) := by decide +kernel
theorem dX9_takes_137 : decode cX9_takes 137 = .ok (.aload_n 0, 1) := by decide +kernel
theorem dX9_takes_138 : decode cX9_takes 138 = .ok (.getfield 7, 3) := by decide +kernel
theorem dX9_takes_141 : decode cX9_takes 141 = .ok (.bipush 18, 2) := by decide +kernel
theorem dX9_takes_143 : decode cX9_takes 143 = .ok (.iload_n 2, 1) := by decide +kernel
theorem dX9_takes_144 : decode cX9_takes 144 = .ok (.iadd, 1) := by decide +kernel
theorem dX9_takes_145 : decode cX9_takes 145 = .ok (.dup2, 1) := by decide +kernel
theorem dX9_takes_146 : decode cX9_takes 146 = .ok (.iaload, 1) := by decide +kernel
theorem dX9_takes_147 : decode cX9_takes 147 = .ok (.iconst 1, 1) := by decide +kernel
theorem dX9_takes_148 : decode cX9_takes 148 = .ok (.iadd, 1) := by decide +kernel
theorem dX9_takes_149 : decode cX9_takes 149 = .ok (.iastore, 1) := by decide +kernel
theorem dX9_takes_150 : decode cX9_takes 150 = .ok (.sipush 2341, 3) := by decide +kernel
theorem dX9_takes_153 : decode cX9_takes 153 = .ok (.istore_n 3, 1) := by decide +kernel
theorem dX9_takes_154 : decode cX9_takes 154 = .ok (.iload_n 3, 1) := by decide +kernel
theorem dX9_takes_155 : decode cX9_takes 155 = .ok (.sipush 2310, 3) := by decide +kernel
theorem dX9_takes_158 : decode cX9_takes 158 = .ok (.if_icmp .le 23, 3) := by decide +kernel
theorem dX9_takes_161 : decode cX9_takes 161 = .ok (.aload_n 0, 1) := by decide +kernel
theorem dX9_takes_162 : decode cX9_takes 162 = .ok (.getfield 7, 3) := by decide +kernel
theorem dX9_takes_165 : decode cX9_takes 165 = .ok (.iload_n 3, 1) := by decide +kernel
theorem dX9_takes_166 : decode cX9_takes 166 = .ok (.aload_n 0, 1) := by decide +kernel
theorem dX9_takes_167 : decode cX9_takes 167 = .ok (.getfield 7, 3) := by decide +kernel
theorem dX9_takes_170 : decode cX9_takes 170 = .ok (.iload_n 3, 1) := by decide +kernel
theorem dX9_takes_171 : decode cX9_takes 171 = .ok (.iconst 1, 1) := by decide +kernel
theorem dX9_takes_172 : decode cX9_takes 172 = .ok (.isub, 1) := by decide +kernel
theorem dX9_takes_173 : decode cX9_takes 173 = .ok (.iaload, 1) := by decide +kernel
theorem dX9_takes_174 : decode cX9_takes 174 = .ok (.iastore, 1) := by decide +kernel
theorem dX9_takes_175 : decode cX9_takes 175 = .ok (.iinc 3 (-1), 3) := by decide +kernel
theorem dX9_takes_178 : decode cX9_takes 178 = .ok (.goto (-24), 3) := by decide +kernel
theorem dX9_takes_181 : decode cX9_takes 181 = .ok (.aload_n 0, 1) := by decide +kernel
theorem dX9_takes_182 : decode cX9_takes 182 = .ok (.getfield 7, 3) := by decide +kernel
theorem dX9_takes_185 : decode cX9_takes 185 = .ok (.sipush 2310, 3) := by decide +kernel
theorem dX9_takes_188 : decode cX9_takes 188 = .ok (.iload_n 2, 1) := by decide +kernel
theorem dX9_takes_189 : decode cX9_takes 189 = .ok (.iastore, 1) := by decide +kernel
theorem dX9_takes_190 : decode cX9_takes 190 = .ok (.aload_n 0, 1) := by decide +kernel
theorem dX9_takes_191 : decode cX9_takes 191 = .ok (.getfield 7, 3) := by decide +kernel
theorem dX9_takes_194 : decode cX9_takes 194 = .ok (.bipush 11, 2) := by decide +kernel
theorem dX9_takes_196 : decode cX9_takes 196 = .ok (.dup2, 1) := by decide +kernel
theorem dX9_takes_197 : decode cX9_takes 197 = .ok (.iaload, 1) := by decide +kernel
theorem dX9_takes_198 : decode cX9_takes 198 = .ok (.iconst 1, 1) := by decide +kernel
theorem dX9_takes_199 : decode cX9_takes 199 = .ok (.iadd, 1) := by decide +kernel
theorem dX9_takes_200 : decode cX9_takes 200 = .ok (.iastore, 1) := by decide +kernel
theorem dX9_takes_201 : decode cX9_takes 201 = .ok (.return_, 1) := by decide +kernel
theorem dX9_tick_0 : decode cX9_tick 0 = .ok (.aload_n 0, 1) := by decide +kernel
theorem dX9_tick_1 : decode cX9_tick 1 = .ok (.invokevirtual 135, 3) := by decide +kernel
theorem dX9_tick_4 : decode cX9_tick 4 = .ok (.aload_n 0, 1) := by decide +kernel
theorem dX9_tick_5 : decode cX9_tick 5 = .ok (.getfield 7, 3) := by decide +kernel
theorem dX9_tick_8 : decode cX9_tick 8 = .ok (.bipush 27, 2) := by decide +kernel
theorem dX9_tick_10 : decode cX9_tick 10 = .ok (.iconst 0, 1) := by decide +kernel
theorem dX9_tick_11 : decode cX9_tick 11 = .ok (.iastore, 1) := by decide +kernel
theorem dX9_tick_12 : decode cX9_tick 12 = .ok (.iconst 0, 1) := by decide +kernel
theorem dX9_tick_13 : decode cX9_tick 13 = .ok (.istore_n 1, 1) := by decide +kernel
theorem dX9_tick_14 : decode cX9_tick 14 = .ok (.aload_n 0, 1) := by decide +kernel
theorem dX9_tick_15 : decode cX9_tick 15 = .ok (.getfield 7, 3) := by decide +kernel
theorem dX9_tick_18 : decode cX9_tick 18 = .ok (.bipush 10, 2) := by decide +kernel
theorem dX9_tick_20 : decode cX9_tick 20 = .ok (.iaload, 1) := by decide +kernel
theorem dX9_tick_21 : decode cX9_tick 21 = .ok (.ifCond .lt 146, 3) := by decide +kernel
theorem dX9_tick_24 : decode cX9_tick 24 = .ok (.aload_n 0, 1) := by decide +kernel
theorem dX9_tick_25 : decode cX9_tick 25 = .ok (.getfield 7, 3) := by decide +kernel
theorem dX9_tick_28 : decode cX9_tick 28 = .ok (.bipush 9, 2) := by decide +kernel
theorem dX9_tick_30 : decode cX9_tick 30 = .ok (.iaload, 1) := by decide +kernel
theorem dX9_tick_31 : decode cX9_tick 31 = .ok (.aload_n 0, 1) := by decide +kernel
theorem dX9_tick_32 : decode cX9_tick 32 = .ok (.getfield 7, 3) := by decide +kernel
theorem dX9_tick_35 : decode cX9_tick 35 = .ok (.bipush 10, 2) := by decide +kernel
theorem dX9_tick_37 : decode cX9_tick 37 = .ok (.iaload, 1) := by decide +kernel
theorem dX9_tick_38 : decode cX9_tick 38 = .ok (.if_icmp .lt 129, 3) := by decide +kernel
theorem dX9_tick_41 : decode cX9_tick 41 = .ok (.aload_n 0, 1) := by decide +kernel
theorem dX9_tick_42 : decode cX9_tick 42 = .ok (.getfield 7, 3) := by decide +kernel
theorem dX9_tick_45 : decode cX9_tick 45 = .ok (.bipush 23, 2) := by decide +kernel
theorem dX9_tick_47 : decode cX9_tick 47 = .ok (.iaload, 1) := by decide +kernel
theorem dX9_tick_48 : decode cX9_tick 48 = .ok (.aload_n 0, 1) := by decide +kernel
theorem dX9_tick_49 : decode cX9_tick 49 = .ok (.getfield 7, 3) := by decide +kernel
theorem dX9_tick_52 : decode cX9_tick 52 = .ok (.bipush 22, 2) := by decide +kernel
theorem dX9_tick_54 : decode cX9_tick 54 = .ok (.iaload, 1) := by decide +kernel
theorem dX9_tick_55 : decode cX9_tick 55 = .ok (.if_icmp .ne 35, 3) := by decide +kernel
theorem dX9_tick_58 : decode cX9_tick 58 = .ok (.aload_n 0, 1) := by decide +kernel
theorem dX9_tick_59 : decode cX9_tick 59 = .ok (.getfield 7, 3) := by decide +kernel
theorem dX9_tick_62 : decode cX9_tick 62 = .ok (.bipush 11, 2) := by decide +kernel
theorem dX9_tick_64 : decode cX9_tick 64 = .ok (.iaload, 1) := by decide +kernel
theorem dX9_tick_65 : decode cX9_tick 65 = .ok (.sipush 999, 3) := by decide +kernel
theorem dX9_tick_68 : decode cX9_tick 68 = .ok (.if_icmp .gt 22, 3) := by decide +kernel
theorem dX9_tick_71 : decode cX9_tick 71 = .ok (.aload_n 0, 1) := by decide +kernel
theorem dX9_tick_72 : decode cX9_tick 72 = .ok (.invokevirtual 138, 3) := by decide +kernel
theorem dX9_tick_75 : decode cX9_tick 75 = .ok (.aload_n 0, 1) := by decide +kernel
theorem dX9_tick_76 : decode cX9_tick 76 = .ok (.getfield 7, 3) := by decide +kernel
theorem dX9_tick_79 : decode cX9_tick 79 = .ok (.bipush 27, 2) := by decide +kernel
theorem dX9_tick_81 : decode cX9_tick 81 = .ok (.aload_n 0, 1) := by decide +kernel
theorem dX9_tick_82 : decode cX9_tick 82 = .ok (.getfield 7, 3) := by decide +kernel
theorem dX9_tick_85 : decode cX9_tick 85 = .ok (.sipush 2310, 3) := by decide +kernel
theorem dX9_tick_88 : decode cX9_tick 88 = .ok (.iaload, 1) := by decide +kernel
theorem dX9_tick_89 : decode cX9_tick 89 = .ok (.iastore, 1) := by decide +kernel
theorem dX9_tick_90 : decode cX9_tick 90 = .ok (.aload_n 0, 1) := by decide +kernel
theorem dX9_tick_91 : decode cX9_tick 91 = .ok (.getfield 7, 3) := by decide +kernel
theorem dX9_tick_94 : decode cX9_tick 94 = .ok (.bipush 23, 2) := by decide +kernel
theorem dX9_tick_96 : decode cX9_tick 96 = .ok (.iaload, 1) := by decide +kernel
theorem dX9_tick_97 : decode cX9_tick 97 = .ok (.aload_n 0, 1) := by decide +kernel
theorem dX9_tick_98 : decode cX9_tick 98 = .ok (.getfield 7, 3) := by decide +kernel
theorem dX9_tick_101 : decode cX9_tick 101 = .ok (.bipush 22, 2) := by decide +kernel
theorem dX9_tick_103 : decode cX9_tick 103 = .ok (.iaload, 1) := by decide +kernel
theorem dX9_tick_104 : decode cX9_tick 104 = .ok (.if_icmp .ge 63, 3) := by decide +kernel
theorem dX9_tick_107 : decode cX9_tick 107 = .ok (.aload_n 0, 1) := by decide +kernel
theorem dX9_tick_108 : decode cX9_tick 108 = .ok (.getfield 7, 3) := by decide +kernel
theorem dX9_tick_111 : decode cX9_tick 111 = .ok (.sipush 2054, 3) := by decide +kernel
theorem dX9_tick_114 : decode cX9_tick 114 = .ok (.aload_n 0, 1) := by decide +kernel
theorem dX9_tick_115 : decode cX9_tick 115 = .ok (.getfield 7, 3) := by decide +kernel
theorem dX9_tick_118 : decode cX9_tick 118 = .ok (.bipush 12, 2) := by decide +kernel
theorem dX9_tick_120 : decode cX9_tick 120 = .ok (.iaload, 1) := by decide +kernel
theorem dX9_tick_121 : decode cX9_tick 121 = .ok (.sipush 256, 3) := by decide +kernel
theorem dX9_tick_124 : decode cX9_tick 124 = .ok (.irem, 1) := by decide +kernel
theorem dX9_tick_125 : decode cX9_tick 125 = .ok (.iadd, 1) := by decide +kernel
theorem dX9_tick_126 : decode cX9_tick 126 = .ok (.aload_n 0, 1) := by decide +kernel
theorem dX9_tick_127 : decode cX9_tick 127 = .ok (.getfield 7, 3) := by decide +kernel
theorem dX9_tick_130 : decode cX9_tick 130 = .ok (.sipush 2342, 3) := by decide +kernel
theorem dX9_tick_133 : decode cX9_tick 133 = .ok (.aload_n 0, 1) := by decide +kernel
theorem dX9_tick_134 : decode cX9_tick 134 = .ok (.getfield 7, 3) := by decide +kernel
theorem dX9_tick_137 : decode cX9_tick 137 = .ok (.bipush 23, 2) := by decide +kernel
theorem dX9_tick_139 : decode cX9_tick 139 = .ok (.iaload, 1) := by decide +kernel
theorem dX9_tick_140 : decode cX9_tick 140 = .ok (.iadd, 1) := by decide +kernel
theorem dX9_tick_141 : decode cX9_tick 141 = .ok (.iaload, 1) := by decide +kernel
theorem dX9_tick_142 : decode cX9_tick 142 = .ok (.iastore, 1) := by decide +kernel
theorem dX9_tick_143 : decode cX9_tick 143 = .ok (.aload_n 0, 1) := by decide +kernel
theorem dX9_tick_144 : decode cX9_tick 144 = .ok (.getfield 7, 3) := by decide +kernel
theorem dX9_tick_147 : decode cX9_tick 147 = .ok (.bipush 12, 2) := by decide +kernel
theorem dX9_tick_149 : decode cX9_tick 149 = .ok (.dup2, 1) := by decide +kernel
theorem dX9_tick_150 : decode cX9_tick 150 = .ok (.iaload, 1) := by decide +kernel
theorem dX9_tick_151 : decode cX9_tick 151 = .ok (.iconst 1, 1) := by decide +kernel
theorem dX9_tick_152 : decode cX9_tick 152 = .ok (.iadd, 1) := by decide +kernel
theorem dX9_tick_153 : decode cX9_tick 153 = .ok (.iastore, 1) := by decide +kernel
theorem dX9_tick_154 : decode cX9_tick 154 = .ok (.aload_n 0, 1) := by decide +kernel
theorem dX9_tick_155 : decode cX9_tick 155 = .ok (.getfield 7, 3) := by decide +kernel
theorem dX9_tick_158 : decode cX9_tick 158 = .ok (.bipush 23, 2) := by decide +kernel
theorem dX9_tick_160 : decode cX9_tick 160 = .ok (.dup2, 1) := by decide +kernel
theorem dX9_tick_161 : decode cX9_tick 161 = .ok (.iaload, 1) := by decide +kernel
theorem dX9_tick_162 : decode cX9_tick 162 = .ok (.iconst 1, 1) := by decide +kernel
theorem dX9_tick_163 : decode cX9_tick 163 = .ok (.iadd, 1) := by decide +kernel
theorem dX9_tick_164 : decode cX9_tick 164 = .ok (.iastore, 1) := by decide +kernel
theorem dX9_tick_165 : decode cX9_tick 165 = .ok (.iconst 1, 1) := by decide +kernel
theorem dX9_tick_166 : decode cX9_tick 166 = .ok (.istore_n 1, 1) := by decide +kernel
theorem dX9_tick_167 : decode cX9_tick 167 = .ok (.aload_n 0, 1) := by decide +kernel
theorem dX9_tick_168 : decode cX9_tick 168 = .ok (.getfield 7, 3) := by decide +kernel
theorem dX9_tick_171 : decode cX9_tick 171 = .ok (.bipush 9, 2) := by decide +kernel
theorem dX9_tick_173 : decode cX9_tick 173 = .ok (.dup2, 1) := by decide +kernel
theorem dX9_tick_174 : decode cX9_tick 174 = .ok (.iaload, 1) := by decide +kernel
theorem dX9_tick_175 : decode cX9_tick 175 = .ok (.iconst 1, 1) := by decide +kernel
theorem dX9_tick_176 : decode cX9_tick 176 = .ok (.iadd, 1) := by decide +kernel
theorem dX9_tick_177 : decode cX9_tick 177 = .ok (.iastore, 1) := by decide +kernel
theorem dX9_tick_178 : decode cX9_tick 178 = .ok (.iload_n 1, 1) := by decide +kernel
theorem dX9_tick_179 : decode cX9_tick 179 = .ok (.ireturn, 1) := by decide +kernel
theorem dX9_advance_0 : decode cX9_advance 0 = .ok (.iload_n 1, 1) := by decide +kernel
theorem dX9_advance_1 : decode cX9_advance 1 = .ok (.iconst 1, 1) := by decide +kernel
theorem dX9_advance_2 : decode cX9_advance 2 = .ok (.sipush 500, 3) := by decide +kernel
theorem dX9_advance_5 : decode cX9_advance 5 = .ok (.invokestatic 35, 3) := by decide +kernel
theorem dX9_advance_8 : decode cX9_advance 8 = .ok (.ifCond .ne 7, 3) := by decide +kernel
theorem dX9_advance_11 : decode cX9_advance 11 = .ok (.sipush (-1001), 3) := by decide +kernel
theorem dX9_advance_14 : decode cX9_advance 14 = .ok (.ireturn, 1) := by decide +kernel
theorem dX9_advance_15 : decode cX9_advance 15 = .ok (.iconst 0, 1) := by decide +kernel
theorem dX9_advance_16 : decode cX9_advance 16 = .ok (.istore_n 2, 1) := by decide +kernel
theorem dX9_advance_17 : decode cX9_advance 17 = .ok (.iconst 0, 1) := by decide +kernel
theorem dX9_advance_18 : decode cX9_advance 18 = .ok (.istore_n 3, 1) := by decide +kernel
theorem dX9_advance_19 : decode cX9_advance 19 = .ok (.iload_n 3, 1) := by decide +kernel
theorem dX9_advance_20 : decode cX9_advance 20 = .ok (.iload_n 1, 1) := by decide +kernel
theorem dX9_advance_21 : decode cX9_advance 21 = .ok (.if_icmp .ge 16, 3) := by decide +kernel
theorem dX9_advance_24 : decode cX9_advance 24 = .ok (.iload_n 2, 1) := by decide +kernel
theorem dX9_advance_25 : decode cX9_advance 25 = .ok (.aload_n 0, 1) := by decide +kernel
theorem dX9_advance_26 : decode cX9_advance 26 = .ok (.invokevirtual 141, 3) := by decide +kernel
theorem dX9_advance_29 : decode cX9_advance 29 = .ok (.iadd, 1) := by decide +kernel
theorem dX9_advance_30 : decode cX9_advance 30 = .ok (.istore_n 2, 1) := by decide +kernel
theorem dX9_advance_31 : decode cX9_advance 31 = .ok (.iinc 3 1, 3) := by decide +kernel
theorem dX9_advance_34 : decode cX9_advance 34 = .ok (.goto (-15), 3) := by decide +kernel
theorem dX9_advance_37 : decode cX9_advance 37 = .ok (.iload_n 2, 1) := by decide +kernel
theorem dX9_advance_38 : decode cX9_advance 38 = .ok (.ireturn, 1) := by decide +kernel
theorem dX9_time_0 : decode cX9_time 0 = .ok (.aload_n 0, 1) := by decide +kernel
theorem dX9_time_1 : decode cX9_time 1 = .ok (.getfield 7, 3) := by decide +kernel
theorem dX9_time_4 : decode cX9_time 4 = .ok (.bipush 9, 2) := by decide +kernel
theorem dX9_time_6 : decode cX9_time 6 = .ok (.iaload, 1) := by decide +kernel
theorem dX9_time_7 : decode cX9_time 7 = .ok (.ireturn, 1) := by decide +kernel
theorem dX9_start_0 : decode cX9_start 0 = .ok (.aload_n 0, 1) := by decide +kernel
theorem dX9_start_1 : decode cX9_start 1 = .ok (.getfield 7, 3) := by decide +kernel
theorem dX9_start_4 : decode cX9_start 4 = .ok (.bipush 10, 2) := by decide +kernel
theorem dX9_start_6 : decode cX9_start 6 = .ok (.iaload, 1) := by decide +kernel
theorem dX9_start_7 : decode cX9_start 7 = .ok (.ifCond .ge 9, 3) := by decide +kernel
theorem dX9_start_10 : decode cX9_start 10 = .ok (.sipush (-1004), 3) := by decide +kernel
theorem dX9_start_13 : decode cX9_start 13 = .ok (.goto 10, 3) := by decide +kernel
theorem dX9_start_16 : decode cX9_start 16 = .ok (.aload_n 0, 1) := by decide +kernel
theorem dX9_start_17 : decode cX9_start 17 = .ok (.getfield 7, 3) := by decide +kernel
theorem dX9_start_20 : decode cX9_start 20 = .ok (.bipush 10, 2) := by decide +kernel
theorem dX9_start_22 : decode cX9_start 22 = .ok (.iaload, 1) := by decide +kernel
theorem dX9_start_23 : decode cX9_start 23 = .ok (.ireturn, 1) := by decide +kernel
theorem dX9_output_0 : decode cX9_output 0 = .ok (.iload_n 1, 1) := by decide +kernel
theorem dX9_output_1 : decode cX9_output 1 = .ok (.iconst 1, 1) := by decide +kernel
theorem dX9_output_2 : decode cX9_output 2 = .ok (.sipush 256, 3) := by decide +kernel
theorem dX9_output_5 : decode cX9_output 5 = .ok (.invokestatic 35, 3) := by decide +kernel
theorem dX9_output_8 : decode cX9_output 8 = .ok (.ifCond .ne 7, 3) := by decide +kernel
theorem dX9_output_11 : decode cX9_output 11 = .ok (.sipush (-1001), 3) := by decide +kernel
theorem dX9_output_14 : decode cX9_output 14 = .ok (.ireturn, 1) := by decide +kernel
theorem dX9_output_15 : decode cX9_output 15 = .ok (.iload_n 1, 1) := by decide +kernel
theorem dX9_output_16 : decode cX9_output 16 = .ok (.aload_n 0, 1) := by decide +kernel
theorem dX9_output_17 : decode cX9_output 17 = .ok (.getfield 7, 3) := by decide +kernel
theorem dX9_output_20 : decode cX9_output 20 = .ok (.bipush 12, 2) := by decide +kernel
theorem dX9_output_22 : decode cX9_output 22 = .ok (.iaload, 1) := by decide +kernel
theorem dX9_output_23 : decode cX9_output 23 = .ok (.if_icmp .le 9, 3) := by decide +kernel
theorem dX9_output_26 : decode cX9_output 26 = .ok (.sipush (-1004), 3) := by decide +kernel
theorem dX9_output_29 : decode cX9_output 29 = .ok (.goto 8, 3) := by decide +kernel
theorem dX9_output_32 : decode cX9_output 32 = .ok (.aload_n 0, 1) := by decide +kernel
theorem dX9_output_33 : decode cX9_output 33 = .ok (.iload_n 1, 1) := by decide +kernel
theorem dX9_output_34 : decode cX9_output 34 = .ok (.invokevirtual 123, 3) := by decide +kernel
theorem dX9_output_37 : decode cX9_output 37 = .ok (.ireturn, 1) := by decide +kernel
theorem dX9_outputs_0 : decode cX9_outputs 0 = .ok (.aload_n 0, 1) := by decide +kernel
theorem dX9_outputs_1 : decode cX9_outputs 1 = .ok (.getfield 7, 3) := by decide +kernel
theorem dX9_outputs_4 : decode cX9_outputs 4 = .ok (.bipush 12, 2) := by decide +kernel
theorem dX9_outputs_6 : decode cX9_outputs 6 = .ok (.iaload, 1) := by decide +kernel
theorem dX9_outputs_7 : decode cX9_outputs 7 = .ok (.ireturn, 1) := by decide +kernel
theorem dX9_left_0 : decode cX9_left 0 = .ok (.aload_n 0, 1) := by decide +kernel
theorem dX9_left_1 : decode cX9_left 1 = .ok (.getfield 7, 3) := by decide +kernel
theorem dX9_left_4 : decode cX9_left 4 = .ok (.bipush 22, 2) := by decide +kernel
theorem dX9_left_6 : decode cX9_left 6 = .ok (.iaload, 1) := by decide +kernel
theorem dX9_left_7 : decode cX9_left 7 = .ok (.aload_n 0, 1) := by decide +kernel
theorem dX9_left_8 : decode cX9_left 8 = .ok (.getfield 7, 3) := by decide +kernel
theorem dX9_left_11 : decode cX9_left 11 = .ok (.bipush 23, 2) := by decide +kernel
theorem dX9_left_13 : decode cX9_left 13 = .ok (.iaload, 1) := by decide +kernel
theorem dX9_left_14 : decode cX9_left 14 = .ok (.isub, 1) := by decide +kernel
theorem dX9_left_15 : decode cX9_left 15 = .ok (.ireturn, 1) := by decide +kernel
theorem dX9_next_0 : decode cX9_next 0 = .ok (.aload_n 0, 1) := by decide +kernel
theorem dX9_next_1 : decode cX9_next 1 = .ok (.getfield 7, 3) := by decide +kernel
theorem dX9_next_4 : decode cX9_next 4 = .ok (.bipush 11, 2) := by decide +kernel
theorem dX9_next_6 : decode cX9_next 6 = .ok (.iaload, 1) := by decide +kernel
theorem dX9_next_7 : decode cX9_next 7 = .ok (.sipush 999, 3) := by decide +kernel
theorem dX9_next_10 : decode cX9_next 10 = .ok (.if_icmp .le 9, 3) := by decide +kernel
theorem dX9_next_13 : decode cX9_next 13 = .ok (.sipush (-1004), 3) := by decide +kernel
theorem dX9_next_16 : decode cX9_next 16 = .ok (.goto 10, 3) := by decide +kernel
theorem dX9_next_19 : decode cX9_next 19 = .ok (.aload_n 0, 1) := by decide +kernel
theorem dX9_next_20 : decode cX9_next 20 = .ok (.getfield 7, 3) := by decide +kernel
theorem dX9_next_23 : decode cX9_next 23 = .ok (.bipush 11, 2) := by decide +kernel
theorem dX9_next_25 : decode cX9_next 25 = .ok (.iaload, 1) := by decide +kernel
theorem dX9_next_26 : decode cX9_next 26 = .ok (.ireturn, 1) := by decide +kernel
theorem dX9_kind_0 : decode cX9_kind 0 = .ok (.iload_n 1, 1) := by decide +kernel
theorem dX9_kind_1 : decode cX9_kind 1 = .ok (.iconst 1, 1) := by decide +kernel
theorem dX9_kind_2 : decode cX9_kind 2 = .ok (.bipush 32, 2) := by decide +kernel
theorem dX9_kind_4 : decode cX9_kind 4 = .ok (.invokestatic 35, 3) := by decide +kernel
theorem dX9_kind_7 : decode cX9_kind 7 = .ok (.ifCond .ne 7, 3) := by decide +kernel
theorem dX9_kind_10 : decode cX9_kind 10 = .ok (.sipush (-1001), 3) := by decide +kernel
theorem dX9_kind_13 : decode cX9_kind 13 = .ok (.ireturn, 1) := by decide +kernel
theorem dX9_kind_14 : decode cX9_kind 14 = .ok (.iload_n 1, 1) := by decide +kernel
theorem dX9_kind_15 : decode cX9_kind 15 = .ok (.aload_n 0, 1) := by decide +kernel
theorem dX9_kind_16 : decode cX9_kind 16 = .ok (.getfield 7, 3) := by decide +kernel
theorem dX9_kind_19 : decode cX9_kind 19 = .ok (.bipush 11, 2) := by decide +kernel
theorem dX9_kind_21 : decode cX9_kind 21 = .ok (.iaload, 1) := by decide +kernel
theorem dX9_kind_22 : decode cX9_kind 22 = .ok (.if_icmp .le 9, 3) := by decide +kernel
theorem dX9_kind_25 : decode cX9_kind 25 = .ok (.sipush (-1004), 3) := by decide +kernel
theorem dX9_kind_28 : decode cX9_kind 28 = .ok (.goto 15, 3) := by decide +kernel
theorem dX9_kind_31 : decode cX9_kind 31 = .ok (.aload_n 0, 1) := by decide +kernel
theorem dX9_kind_32 : decode cX9_kind 32 = .ok (.getfield 7, 3) := by decide +kernel
theorem dX9_kind_35 : decode cX9_kind 35 = .ok (.sipush 2310, 3) := by decide +kernel
theorem dX9_kind_38 : decode cX9_kind 38 = .ok (.iload_n 1, 1) := by decide +kernel
theorem dX9_kind_39 : decode cX9_kind 39 = .ok (.iadd, 1) := by decide +kernel
theorem dX9_kind_40 : decode cX9_kind 40 = .ok (.iconst 1, 1) := by decide +kernel
theorem dX9_kind_41 : decode cX9_kind 41 = .ok (.isub, 1) := by decide +kernel
theorem dX9_kind_42 : decode cX9_kind 42 = .ok (.iaload, 1) := by decide +kernel
theorem dX9_kind_43 : decode cX9_kind 43 = .ok (.ireturn, 1) := by decide +kernel
theorem dX9_state_0 : decode cX9_state 0 = .ok (.iload_n 1, 1) := by decide +kernel
theorem dX9_state_1 : decode cX9_state 1 = .ok (.invokestatic 84, 3) := by decide +kernel
theorem dX9_state_4 : decode cX9_state 4 = .ok (.ifCond .eq 15, 3) := by decide +kernel
theorem dX9_state_7 : decode cX9_state 7 = .ok (.aload_n 0, 1) := by decide +kernel
theorem dX9_state_8 : decode cX9_state 8 = .ok (.getfield 7, 3) := by decide +kernel
theorem dX9_state_11 : decode cX9_state 11 = .ok (.bipush 30, 2) := by decide +kernel
theorem dX9_state_13 : decode cX9_state 13 = .ok (.iload_n 1, 1) := by decide +kernel
theorem dX9_state_14 : decode cX9_state 14 = .ok (.iadd, 1) := by decide +kernel
theorem dX9_state_15 : decode cX9_state 15 = .ok (.iaload, 1) := by decide +kernel
theorem dX9_state_16 : decode cX9_state 16 = .ok (.goto 6, 3) := by decide +kernel
theorem dX9_state_19 : decode cX9_state 19 = .ok (.sipush (-1001), 3) := by decide +kernel
theorem dX9_state_22 : decode cX9_state 22 = .ok (.ireturn, 1) := by decide +kernel
theorem dX9_sample_0 : decode cX9_sample 0 = .ok (.iload_n 1, 1) := by decide +kernel
theorem dX9_sample_1 : decode cX9_sample 1 = .ok (.invokestatic 84, 3) := by decide +kernel
theorem dX9_sample_4 : decode cX9_sample 4 = .ok (.ifCond .eq 28, 3) := by decide +kernel
theorem dX9_sample_7 : decode cX9_sample 7 = .ok (.iload_n 2, 1) := by decide +kernel
theorem dX9_sample_8 : decode cX9_sample 8 = .ok (.iconst 0, 1) := by decide +kernel
theorem dX9_sample_9 : decode cX9_sample 9 = .ok (.aload_n 0, 1) := by decide +kernel
theorem dX9_sample_10 : decode cX9_sample 10 = .ok (.getfield 7, 3) := by decide +kernel
theorem dX9_sample_13 : decode cX9_sample 13 = .ok (.iconst 0, 1) := by decide +kernel
theorem dX9_sample_14 : decode cX9_sample 14 = .ok (.iaload, 1) := by decide +kernel
theorem dX9_sample_15 : decode cX9_sample 15 = .ok (.iconst 1, 1) := by decide +kernel
theorem dX9_sample_16 : decode cX9_sample 16 = .ok (.isub, 1) := by decide +kernel
theorem dX9_sample_17 : decode cX9_sample 17 = .ok (.invokestatic 35, 3) := by decide +kernel
theorem dX9_sample_20 : decode cX9_sample 20 = .ok (.ifCond .eq 12, 3) := by decide +kernel
theorem dX9_sample_23 : decode cX9_sample 23 = .ok (.aload_n 0, 1) := by decide +kernel
theorem dX9_sample_24 : decode cX9_sample 24 = .ok (.iload_n 1, 1) := by decide +kernel
theorem dX9_sample_25 : decode cX9_sample 25 = .ok (.iload_n 2, 1) := by decide +kernel
theorem dX9_sample_26 : decode cX9_sample 26 = .ok (.invokevirtual 104, 3) := by decide +kernel
theorem dX9_sample_29 : decode cX9_sample 29 = .ok (.goto 6, 3) := by decide +kernel
theorem dX9_sample_32 : decode cX9_sample 32 = .ok (.sipush (-1001), 3) := by decide +kernel
theorem dX9_sample_35 : decode cX9_sample 35 = .ok (.ireturn, 1) := by decide +kernel
theorem dX9_missing_0 : decode cX9_missing 0 = .ok (.aload_n 0, 1) := by decide +kernel
theorem dX9_missing_1 : decode cX9_missing 1 = .ok (.iload_n 1, 1) := by decide +kernel
theorem dX9_missing_2 : decode cX9_missing 2 = .ok (.iload_n 2, 1) := by decide +kernel
theorem dX9_missing_3 : decode cX9_missing 3 = .ok (.iload_n 3, 1) := by decide +kernel
theorem dX9_missing_4 : decode cX9_missing 4 = .ok (.invokevirtual 91, 3) := by decide +kernel
theorem dX9_missing_7 : decode cX9_missing 7 = .ok (.ifCond .eq 13, 3) := by decide +kernel
theorem dX9_missing_10 : decode cX9_missing 10 = .ok (.aload_n 0, 1) := by decide +kernel
theorem dX9_missing_11 : decode cX9_missing 11 = .ok (.iload_n 1, 1) := by decide +kernel
theorem dX9_missing_12 : decode cX9_missing 12 = .ok (.iload_n 2, 1) := by decide +kernel
theorem dX9_missing_13 : decode cX9_missing 13 = .ok (.iload_n 3, 1) := by decide +kernel
theorem dX9_missing_14 : decode cX9_missing 14 = .ok (.invokevirtual 63, 3) := by decide +kernel
theorem dX9_missing_17 : decode cX9_missing 17 = .ok (.goto 6, 3) := by decide +kernel
theorem dX9_missing_20 : decode cX9_missing 20 = .ok (.sipush (-1001), 3) := by decide +kernel
theorem dX9_missing_23 : decode cX9_missing 23 = .ok (.ireturn, 1) := by decide +kernel
theorem dX9_unrestorable_0 : decode cX9_unrestorable 0 = .ok (.iload_n 1, 1) := by decide +kernel
theorem dX9_unrestorable_1 : decode cX9_unrestorable 1 = .ok (.iconst 0, 1) := by decide +kernel
theorem dX9_unrestorable_2 : decode cX9_unrestorable 2 = .ok (.sipush 999, 3) := by decide +kernel
theorem dX9_unrestorable_5 : decode cX9_unrestorable 5 = .ok (.aload_n 0, 1) := by decide +kernel
theorem dX9_unrestorable_6 : decode cX9_unrestorable 6 = .ok (.invokevirtual 47, 3) := by decide +kernel
theorem dX9_unrestorable_9 : decode cX9_unrestorable 9 = .ok (.idiv, 1) := by decide +kernel
theorem dX9_unrestorable_10 : decode cX9_unrestorable 10 = .ok (.invokestatic 35, 3) := by decide +kernel
theorem dX9_unrestorable_13 : decode cX9_unrestorable 13 = .ok (.ifCond .ne 7, 3) := by decide +kernel
theorem dX9_unrestorable_16 : decode cX9_unrestorable 16 = .ok (.sipush (-1001), 3) := by decide +kernel
theorem dX9_unrestorable_19 : decode cX9_unrestorable 19 = .ok (.ireturn, 1) := by decide +kernel
theorem dX9_unrestorable_20 : decode cX9_unrestorable 20 = .ok (.aload_n 0, 1) := by decide +kernel
theorem dX9_unrestorable_21 : decode cX9_unrestorable 21 = .ok (.invokevirtual 144, 3) := by decide +kernel
theorem dX9_unrestorable_24 : decode cX9_unrestorable 24 = .ok (.aload_n 0, 1) := by decide +kernel
theorem dX9_unrestorable_25 : decode cX9_unrestorable 25 = .ok (.iload_n 1, 1) := by decide +kernel
theorem dX9_unrestorable_26 : decode cX9_unrestorable 26 = .ok (.iconst 1, 1) := by decide +kernel
theorem dX9_unrestorable_27 : decode cX9_unrestorable 27 = .ok (.invokevirtual 80, 3) := by decide +kernel
theorem dX9_unrestorable_30 : decode cX9_unrestorable 30 = .ok (.istore_n 2, 1) := by decide +kernel
theorem dX9_unrestorable_31 : decode cX9_unrestorable 31 = .ok (.iconst 0, 1) := by decide +kernel
theorem dX9_unrestorable_32 : decode cX9_unrestorable 32 = .ok (.istore_n 3, 1) := by decide +kernel
theorem dX9_unrestorable_33 : decode cX9_unrestorable 33 = .ok (.iconst 0, 1) := by decide +kernel
theorem dX9_unrestorable_34 : decode cX9_unrestorable 34 = .ok (.istore 4, 2) := by decide +kernel
theorem dX9_unrestorable_36 : decode cX9_unrestorable 36 = .ok (.iload 4, 2) := by decide +kernel
theorem dX9_unrestorable_38 : decode cX9_unrestorable 38 = .ok (.aload_n 0, 1) := by decide +kernel
theorem dX9_unrestorable_39 : decode cX9_unrestorable 39 = .ok (.invokevirtual 47, 3) := by decide +kernel
theorem dX9_unrestorable_42 : decode cX9_unrestorable 42 = .ok (.if_icmp .ge 33, 3) := by decide +kernel
theorem dX9_unrestorable_45 : decode cX9_unrestorable 45 = .ok (.iload_n 3, 1) := by decide +kernel
theorem dX9_unrestorable_46 : decode cX9_unrestorable 46 = .ok (.aload_n 0, 1) := by decide +kernel
theorem dX9_unrestorable_47 : decode cX9_unrestorable 47 = .ok (.aload_n 0, 1) := by decide +kernel
theorem dX9_unrestorable_48 : decode cX9_unrestorable 48 = .ok (.invokevirtual 47, 3) := by decide +kernel
theorem dX9_unrestorable_51 : decode cX9_unrestorable 51 = .ok (.iload_n 1, 1) := by decide +kernel
theorem dX9_unrestorable_52 : decode cX9_unrestorable 52 = .ok (.imul, 1) := by decide +kernel
theorem dX9_unrestorable_53 : decode cX9_unrestorable 53 = .ok (.iload 4, 2) := by decide +kernel
theorem dX9_unrestorable_55 : decode cX9_unrestorable 55 = .ok (.iadd, 1) := by decide +kernel
theorem dX9_unrestorable_56 : decode cX9_unrestorable 56 = .ok (.invokevirtual 59, 3) := by decide +kernel
theorem dX9_unrestorable_59 : decode cX9_unrestorable 59 = .ok (.ifCond .eq 7, 3) := by decide +kernel
theorem dX9_unrestorable_62 : decode cX9_unrestorable 62 = .ok (.iconst 0, 1) := by decide +kernel
theorem dX9_unrestorable_63 : decode cX9_unrestorable 63 = .ok (.goto 4, 3) := by decide +kernel
theorem dX9_unrestorable_66 : decode cX9_unrestorable 66 = .ok (.iconst 1, 1) := by decide +kernel
theorem dX9_unrestorable_67 : decode cX9_unrestorable 67 = .ok (.iadd, 1) := by decide +kernel
theorem dX9_unrestorable_68 : decode cX9_unrestorable 68 = .ok (.istore_n 3, 1) := by decide +kernel
theorem dX9_unrestorable_69 : decode cX9_unrestorable 69 = .ok (.iinc 4 1, 3) := by decide +kernel
theorem dX9_unrestorable_72 : decode cX9_unrestorable 72 = .ok (.goto (-36), 3) := by decide +kernel
theorem dX9_unrestorable_75 : decode cX9_unrestorable 75 = .ok (.aload_n 0, 1) := by decide +kernel
theorem dX9_unrestorable_76 : decode cX9_unrestorable 76 = .ok (.invokevirtual 147, 3) := by decide +kernel
theorem dX9_unrestorable_79 : decode cX9_unrestorable 79 = .ok (.iload_n 3, 1) := by decide +kernel
theorem dX9_unrestorable_80 : decode cX9_unrestorable 80 = .ok (.ireturn, 1) := by decide +kernel
theorem dX9_paritySample_0 : decode cX9_paritySample 0 = .ok (.aload_n 0, 1) := by decide +kernel
theorem dX9_paritySample_1 : decode cX9_paritySample 1 = .ok (.iload_n 1, 1) := by decide +kernel
theorem dX9_paritySample_2 : decode cX9_paritySample 2 = .ok (.iload_n 2, 1) := by decide +kernel
theorem dX9_paritySample_3 : decode cX9_paritySample 3 = .ok (.iload_n 3, 1) := by decide +kernel
theorem dX9_paritySample_4 : decode cX9_paritySample 4 = .ok (.invokevirtual 91, 3) := by decide +kernel
theorem dX9_paritySample_7 : decode cX9_paritySample 7 = .ok (.ifCond .eq 20, 3) := by decide +kernel
theorem dX9_paritySample_10 : decode cX9_paritySample 10 = .ok (.iload 4, 2) := by decide +kernel
theorem dX9_paritySample_12 : decode cX9_paritySample 12 = .ok (.iconst 0, 1) := by decide +kernel
theorem dX9_paritySample_13 : decode cX9_paritySample 13 = .ok (.aload_n 0, 1) := by decide +kernel
theorem dX9_paritySample_14 : decode cX9_paritySample 14 = .ok (.getfield 7, 3) := by decide +kernel
theorem dX9_paritySample_17 : decode cX9_paritySample 17 = .ok (.iconst 0, 1) := by decide +kernel
theorem dX9_paritySample_18 : decode cX9_paritySample 18 = .ok (.iaload, 1) := by decide +kernel
theorem dX9_paritySample_19 : decode cX9_paritySample 19 = .ok (.iconst 1, 1) := by decide +kernel
theorem dX9_paritySample_20 : decode cX9_paritySample 20 = .ok (.isub, 1) := by decide +kernel
theorem dX9_paritySample_21 : decode cX9_paritySample 21 = .ok (.invokestatic 35, 3) := by decide +kernel
theorem dX9_paritySample_24 : decode cX9_paritySample 24 = .ok (.ifCond .ne 7, 3) := by decide +kernel
theorem dX9_paritySample_27 : decode cX9_paritySample 27 = .ok (.sipush (-1001), 3) := by decide +kernel
theorem dX9_paritySample_30 : decode cX9_paritySample 30 = .ok (.ireturn, 1) := by decide +kernel
theorem dX9_paritySample_31 : decode cX9_paritySample 31 = .ok (.iconst 0, 1) := by decide +kernel
theorem dX9_paritySample_32 : decode cX9_paritySample 32 = .ok (.istore 5, 2) := by decide +kernel
theorem dX9_paritySample_34 : decode cX9_paritySample 34 = .ok (.iconst 0, 1) := by decide +kernel
theorem dX9_paritySample_35 : decode cX9_paritySample 35 = .ok (.istore 6, 2) := by decide +kernel
theorem dX9_paritySample_37 : decode cX9_paritySample 37 = .ok (.iload 6, 2) := by decide +kernel
theorem dX9_paritySample_39 : decode cX9_paritySample 39 = .ok (.aload_n 0, 1) := by decide +kernel
theorem dX9_paritySample_40 : decode cX9_paritySample 40 = .ok (.iload_n 1, 1) := by decide +kernel
theorem dX9_paritySample_41 : decode cX9_paritySample 41 = .ok (.invokevirtual 51, 3) := by decide +kernel
theorem dX9_paritySample_44 : decode cX9_paritySample 44 = .ok (.if_icmp .ge 49, 3) := by decide +kernel
theorem dX9_paritySample_47 : decode cX9_paritySample 47 = .ok (.aload_n 0, 1) := by decide +kernel
theorem dX9_paritySample_48 : decode cX9_paritySample 48 = .ok (.iload_n 1, 1) := by decide +kernel
theorem dX9_paritySample_49 : decode cX9_paritySample 49 = .ok (.iload_n 2, 1) := by decide +kernel
theorem dX9_paritySample_50 : decode cX9_paritySample 50 = .ok (.iload_n 3, 1) := by decide +kernel
theorem dX9_paritySample_51 : decode cX9_paritySample 51 = .ok (.iload 6, 2) := by decide +kernel
theorem dX9_paritySample_53 : decode cX9_paritySample 53 = .ok (.invokevirtual 55, 3) := by decide +kernel
theorem dX9_paritySample_56 : decode cX9_paritySample 56 = .ok (.istore 7, 2) := by decide +kernel
theorem dX9_paritySample_58 : decode cX9_paritySample 58 = .ok (.iload 5, 2) := by decide +kernel
theorem dX9_paritySample_60 : decode cX9_paritySample 60 = .ok (.iload 7, 2) := by decide +kernel
theorem dX9_paritySample_62 : decode cX9_paritySample 62 = .ok (.sipush 999, 3) := by decide +kernel
theorem dX9_paritySample_65 : decode cX9_paritySample 65 = .ok (.if_icmp .le 7, 3) := by decide +kernel
theorem dX9_paritySample_68 : decode cX9_paritySample 68 = .ok (.iconst 0, 1) := by decide +kernel
theorem dX9_paritySample_69 : decode cX9_paritySample 69 = .ok (.goto 15, 3) := by decide +kernel
theorem dX9_paritySample_72 : decode cX9_paritySample 72 = .ok (.aload_n 0, 1) := by decide +kernel
theorem dX9_paritySample_73 : decode cX9_paritySample 73 = .ok (.iload 7, 2) := by decide +kernel
theorem dX9_paritySample_75 : decode cX9_paritySample 75 = .ok (.iload 4, 2) := by decide +kernel
theorem dX9_paritySample_77 : decode cX9_paritySample 77 = .ok (.invokevirtual 104, 3) := by decide +kernel
theorem dX9_paritySample_80 : decode cX9_paritySample 80 = .ok (.sipush 128, 3) := by decide +kernel
theorem dX9_paritySample_83 : decode cX9_paritySample 83 = .ok (.iadd, 1) := by decide +kernel
theorem dX9_paritySample_84 : decode cX9_paritySample 84 = .ok (.ixor, 1) := by decide +kernel
theorem dX9_paritySample_85 : decode cX9_paritySample 85 = .ok (.istore 5, 2) := by decide +kernel
theorem dX9_paritySample_87 : decode cX9_paritySample 87 = .ok (.iinc 6 1, 3) := by decide +kernel
theorem dX9_paritySample_90 : decode cX9_paritySample 90 = .ok (.goto (-53), 3) := by decide +kernel
theorem dX9_paritySample_93 : decode cX9_paritySample 93 = .ok (.iload 5, 2) := by decide +kernel
theorem dX9_paritySample_95 : decode cX9_paritySample 95 = .ok (.ireturn, 1) := by decide +kernel
theorem dX9_transits_0 : decode cX9_transits 0 = .ok (.aload_n 0, 1) := by decide +kernel
theorem dX9_transits_1 : decode cX9_transits 1 = .ok (.getfield 7, 3) := by decide +kernel
theorem dX9_transits_4 : decode cX9_transits 4 = .ok (.bipush 24, 2) := by decide +kernel
theorem dX9_transits_6 : decode cX9_transits 6 = .ok (.iaload, 1) := by decide +kernel
theorem dX9_transits_7 : decode cX9_transits 7 = .ok (.ireturn, 1) := by decide +kernel
theorem dX9_transit_0 : decode cX9_transit 0 = .ok (.iload_n 1, 1) := by decide +kernel
theorem dX9_transit_1 : decode cX9_transit 1 = .ok (.iconst 0, 1) := by decide +kernel
theorem dX9_transit_2 : decode cX9_transit 2 = .ok (.aload_n 0, 1) := by decide +kernel
theorem dX9_transit_3 : decode cX9_transit 3 = .ok (.getfield 7, 3) := by decide +kernel
theorem dX9_transit_6 : decode cX9_transit 6 = .ok (.bipush 24, 2) := by decide +kernel
theorem dX9_transit_8 : decode cX9_transit 8 = .ok (.iaload, 1) := by decide +kernel
theorem dX9_transit_9 : decode cX9_transit 9 = .ok (.iconst 1, 1) := by decide +kernel
theorem dX9_transit_10 : decode cX9_transit 10 = .ok (.isub, 1) := by decide +kernel
theorem dX9_transit_11 : decode cX9_transit 11 = .ok (.invokestatic 35, 3) := by decide +kernel
theorem dX9_transit_14 : decode cX9_transit 14 = .ok (.ifCond .ne 7, 3) := by decide +kernel
theorem dX9_transit_17 : decode cX9_transit 17 = .ok (.sipush (-1001), 3) := by decide +kernel
theorem dX9_transit_20 : decode cX9_transit 20 = .ok (.ireturn, 1) := by decide +kernel
theorem dX9_transit_21 : decode cX9_transit 21 = .ok (.aload_n 0, 1) := by decide +kernel
theorem dX9_transit_22 : decode cX9_transit 22 = .ok (.invokevirtual 98, 3) := by decide +kernel
theorem dX9_transit_25 : decode cX9_transit 25 = .ok (.aload_n 0, 1) := by decide +kernel
theorem dX9_transit_26 : decode cX9_transit 26 = .ok (.getfield 26, 3) := by decide +kernel
theorem dX9_transit_29 : decode cX9_transit 29 = .ok (.iload_n 1, 1) := by decide +kernel
theorem dX9_transit_30 : decode cX9_transit 30 = .ok (.iaload, 1) := by decide +kernel
theorem dX9_transit_31 : decode cX9_transit 31 = .ok (.sipush (-999), 3) := by decide +kernel
theorem dX9_transit_34 : decode cX9_transit 34 = .ok (.if_icmp .ge 9, 3) := by decide +kernel
theorem dX9_transit_37 : decode cX9_transit 37 = .ok (.sipush (-999), 3) := by decide +kernel
theorem dX9_transit_40 : decode cX9_transit 40 = .ok (.goto 9, 3) := by decide +kernel
theorem dX9_transit_43 : decode cX9_transit 43 = .ok (.aload_n 0, 1) := by decide +kernel
theorem dX9_transit_44 : decode cX9_transit 44 = .ok (.getfield 26, 3) := by decide +kernel
theorem dX9_transit_47 : decode cX9_transit 47 = .ok (.iload_n 1, 1) := by decide +kernel
theorem dX9_transit_48 : decode cX9_transit 48 = .ok (.iaload, 1) := by decide +kernel
theorem dX9_transit_49 : decode cX9_transit 49 = .ok (.ireturn, 1) := by decide +kernel
theorem dX9_target_0 : decode cX9_target 0 = .ok (.aload_n 0, 1) := by decide +kernel
theorem dX9_target_1 : decode cX9_target 1 = .ok (.invokevirtual 110, 3) := by decide +kernel
theorem dX9_target_4 : decode cX9_target 4 = .ok (.ireturn, 1) := by decide +kernel
theorem dX9_level_0 : decode cX9_level 0 = .ok (.aload_n 0, 1) := by decide +kernel
theorem dX9_level_1 : decode cX9_level 1 = .ok (.getfield 7, 3) := by decide +kernel
theorem dX9_level_4 : decode cX9_level 4 = .ok (.bipush 11, 2) := by decide +kernel
theorem dX9_level_6 : decode cX9_level 6 = .ok (.iaload, 1) := by decide +kernel
theorem dX9_level_7 : decode cX9_level 7 = .ok (.sipush 999, 3) := by decide +kernel
theorem dX9_level_10 : decode cX9_level 10 = .ok (.if_icmp .le 7, 3) := by decide +kernel
theorem dX9_level_13 : decode cX9_level 13 = .ok (.iconst 0, 1) := by decide +kernel
theorem dX9_level_14 : decode cX9_level 14 = .ok (.goto 14, 3) := by decide +kernel
theorem dX9_level_17 : decode cX9_level 17 = .ok (.aload_n 0, 1) := by decide +kernel
theorem dX9_level_18 : decode cX9_level 18 = .ok (.aload_n 0, 1) := by decide +kernel
theorem dX9_level_19 : decode cX9_level 19 = .ok (.getfield 7, 3) := by decide +kernel
theorem dX9_level_22 : decode cX9_level 22 = .ok (.bipush 11, 2) := by decide +kernel
theorem dX9_level_24 : decode cX9_level 24 = .ok (.iaload, 1) := by decide +kernel
theorem dX9_level_25 : decode cX9_level 25 = .ok (.invokevirtual 107, 3) := by decide +kernel
theorem dX9_level_28 : decode cX9_level 28 = .ok (.ireturn, 1) := by decide +kernel
theorem dX9_taken_0 : decode cX9_taken 0 = .ok (.iload_n 1, 1) := by decide +kernel
theorem dX9_taken_1 : decode cX9_taken 1 = .ok (.iconst 1, 1) := by decide +kernel
theorem dX9_taken_2 : decode cX9_taken 2 = .ok (.iconst 3, 1) := by decide +kernel
theorem dX9_taken_3 : decode cX9_taken 3 = .ok (.invokestatic 35, 3) := by decide +kernel
theorem dX9_taken_6 : decode cX9_taken 6 = .ok (.ifCond .eq 15, 3) := by decide +kernel
theorem dX9_taken_9 : decode cX9_taken 9 = .ok (.aload_n 0, 1) := by decide +kernel
theorem dX9_taken_10 : decode cX9_taken 10 = .ok (.getfield 7, 3) := by decide +kernel
theorem dX9_taken_13 : decode cX9_taken 13 = .ok (.bipush 18, 2) := by decide +kernel
theorem dX9_taken_15 : decode cX9_taken 15 = .ok (.iload_n 1, 1) := by decide +kernel
theorem dX9_taken_16 : decode cX9_taken 16 = .ok (.iadd, 1) := by decide +kernel
theorem dX9_taken_17 : decode cX9_taken 17 = .ok (.iaload, 1) := by decide +kernel
theorem dX9_taken_18 : decode cX9_taken 18 = .ok (.goto 6, 3) := by decide +kernel
theorem dX9_taken_21 : decode cX9_taken 21 = .ok (.sipush (-1001), 3) := by decide +kernel
theorem dX9_taken_24 : decode cX9_taken 24 = .ok (.ireturn, 1) := by decide +kernel
theorem dX9_stretched_0 : decode cX9_stretched 0 = .ok (.aload_n 0, 1) := by decide +kernel
theorem dX9_stretched_1 : decode cX9_stretched 1 = .ok (.getfield 7, 3) := by decide +kernel
theorem dX9_stretched_4 : decode cX9_stretched 4 = .ok (.bipush 15, 2) := by decide +kernel
theorem dX9_stretched_6 : decode cX9_stretched 6 = .ok (.iaload, 1) := by decide +kernel
theorem dX9_stretched_7 : decode cX9_stretched 7 = .ok (.ireturn, 1) := by decide +kernel
theorem dX9_compressed_0 : decode cX9_compressed 0 = .ok (.aload_n 0, 1) := by decide +kernel
theorem dX9_compressed_1 : decode cX9_compressed 1 = .ok (.getfield 7, 3) := by decide +kernel
theorem dX9_compressed_4 : decode cX9_compressed 4 = .ok (.bipush 16, 2) := by decide +kernel
theorem dX9_compressed_6 : decode cX9_compressed 6 = .ok (.iaload, 1) := by decide +kernel
theorem dX9_compressed_7 : decode cX9_compressed 7 = .ok (.ireturn, 1) := by decide +kernel
theorem dX9_late_0 : decode cX9_late 0 = .ok (.aload_n 0, 1) := by decide +kernel
theorem dX9_late_1 : decode cX9_late 1 = .ok (.getfield 7, 3) := by decide +kernel
theorem dX9_late_4 : decode cX9_late 4 = .ok (.bipush 17, 2) := by decide +kernel
theorem dX9_late_6 : decode cX9_late 6 = .ok (.iaload, 1) := by decide +kernel
theorem dX9_late_7 : decode cX9_late 7 = .ok (.ireturn, 1) := by decide +kernel
theorem dX9_duplicates_0 : decode cX9_duplicates 0 = .ok (.aload_n 0, 1) := by decide +kernel
theorem dX9_duplicates_1 : decode cX9_duplicates 1 = .ok (.getfield 7, 3) := by decide +kernel
theorem dX9_duplicates_4 : decode cX9_duplicates 4 = .ok (.bipush 18, 2) := by decide +kernel
theorem dX9_duplicates_6 : decode cX9_duplicates 6 = .ok (.iaload, 1) := by decide +kernel
theorem dX9_duplicates_7 : decode cX9_duplicates 7 = .ok (.ireturn, 1) := by decide +kernel
theorem dX9_loss_0 : decode cX9_loss 0 = .ok (.aload_n 0, 1) := by decide +kernel
theorem dX9_loss_1 : decode cX9_loss 1 = .ok (.getfield 7, 3) := by decide +kernel
theorem dX9_loss_4 : decode cX9_loss 4 = .ok (.bipush 21, 2) := by decide +kernel
theorem dX9_loss_6 : decode cX9_loss 6 = .ok (.iaload, 1) := by decide +kernel
theorem dX9_loss_7 : decode cX9_loss 7 = .ok (.istore_n 2, 1) := by decide +kernel
theorem dX9_loss_8 : decode cX9_loss 8 = .ok (.iload_n 2, 1) := by decide +kernel
theorem dX9_loss_9 : decode cX9_loss 9 = .ok (.ifCond .ne 13, 3) := by decide +kernel
theorem dX9_loss_12 : decode cX9_loss 12 = .ok (.iload_n 1, 1) := by decide +kernel
theorem dX9_loss_13 : decode cX9_loss 13 = .ok (.ifCond .eq 7, 3) := by decide +kernel
theorem dX9_loss_16 : decode cX9_loss 16 = .ok (.iconst 1, 1) := by decide +kernel
theorem dX9_loss_17 : decode cX9_loss 17 = .ok (.goto 4, 3) := by decide +kernel
theorem dX9_loss_20 : decode cX9_loss 20 = .ok (.iconst 0, 1) := by decide +kernel
theorem dX9_loss_21 : decode cX9_loss 21 = .ok (.ireturn, 1) := by decide +kernel
theorem dX9_loss_22 : decode cX9_loss 22 = .ok (.iload_n 2, 1) := by decide +kernel
theorem dX9_loss_23 : decode cX9_loss 23 = .ok (.istore_n 3, 1) := by decide +kernel
theorem dX9_loss_24 : decode cX9_loss 24 = .ok (.aload_n 0, 1) := by decide +kernel
theorem dX9_loss_25 : decode cX9_loss 25 = .ok (.getfield 7, 3) := by decide +kernel
theorem dX9_loss_28 : decode cX9_loss 28 = .ok (.bipush 11, 2) := by decide +kernel
theorem dX9_loss_30 : decode cX9_loss 30 = .ok (.iaload, 1) := by decide +kernel
theorem dX9_loss_31 : decode cX9_loss 31 = .ok (.istore 4, 2) := by decide +kernel
theorem dX9_loss_33 : decode cX9_loss 33 = .ok (.iload 4, 2) := by decide +kernel
theorem dX9_loss_35 : decode cX9_loss 35 = .ok (.ifCond .eq 19, 3) := by decide +kernel
theorem dX9_loss_38 : decode cX9_loss 38 = .ok (.iload_n 3, 1) := by decide +kernel
theorem dX9_loss_39 : decode cX9_loss 39 = .ok (.iload 4, 2) := by decide +kernel
theorem dX9_loss_41 : decode cX9_loss 41 = .ok (.irem, 1) := by decide +kernel
theorem dX9_loss_42 : decode cX9_loss 42 = .ok (.istore 5, 2) := by decide +kernel
theorem dX9_loss_44 : decode cX9_loss 44 = .ok (.iload 4, 2) := by decide +kernel
theorem dX9_loss_46 : decode cX9_loss 46 = .ok (.istore_n 3, 1) := by decide +kernel
theorem dX9_loss_47 : decode cX9_loss 47 = .ok (.iload 5, 2) := by decide +kernel
theorem dX9_loss_49 : decode cX9_loss 49 = .ok (.istore 4, 2) := by decide +kernel
theorem dX9_loss_51 : decode cX9_loss 51 = .ok (.goto (-18), 3) := by decide +kernel
theorem dX9_loss_54 : decode cX9_loss 54 = .ok (.iload_n 1, 1) := by decide +kernel
theorem dX9_loss_55 : decode cX9_loss 55 = .ok (.ifCond .eq 15, 3) := by decide +kernel
theorem dX9_loss_58 : decode cX9_loss 58 = .ok (.aload_n 0, 1) := by decide +kernel
theorem dX9_loss_59 : decode cX9_loss 59 = .ok (.getfield 7, 3) := by decide +kernel
theorem dX9_loss_62 : decode cX9_loss 62 = .ok (.bipush 11, 2) := by decide +kernel
theorem dX9_loss_64 : decode cX9_loss 64 = .ok (.iaload, 1) := by decide +kernel
theorem dX9_loss_65 : decode cX9_loss 65 = .ok (.iload_n 3, 1) := by decide +kernel
theorem dX9_loss_66 : decode cX9_loss 66 = .ok (.idiv, 1) := by decide +kernel
theorem dX9_loss_67 : decode cX9_loss 67 = .ok (.goto 6, 3) := by decide +kernel
theorem dX9_loss_70 : decode cX9_loss 70 = .ok (.iload_n 2, 1) := by decide +kernel
theorem dX9_loss_71 : decode cX9_loss 71 = .ok (.iload_n 3, 1) := by decide +kernel
theorem dX9_loss_72 : decode cX9_loss 72 = .ok (.idiv, 1) := by decide +kernel
theorem dX9_loss_73 : decode cX9_loss 73 = .ok (.ireturn, 1) := by decide +kernel
theorem dX9_longestGap_0 : decode cX9_longestGap 0 = .ok (.aload_n 0, 1) := by decide +kernel
theorem dX9_longestGap_1 : decode cX9_longestGap 1 = .ok (.getfield 7, 3) := by decide +kernel
theorem dX9_longestGap_4 : decode cX9_longestGap 4 = .ok (.bipush 14, 2) := by decide +kernel
theorem dX9_longestGap_6 : decode cX9_longestGap 6 = .ok (.iaload, 1) := by decide +kernel
theorem dX9_longestGap_7 : decode cX9_longestGap 7 = .ok (.ireturn, 1) := by decide +kernel
theorem dX9_keeps_0 : decode cX9_keeps 0 = .ok (.iconst 0, 1) := by decide +kernel
theorem dX9_keeps_1 : decode cX9_keeps 1 = .ok (.istore_n 1, 1) := by decide +kernel
theorem dX9_keeps_2 : decode cX9_keeps 2 = .ok (.iload_n 1, 1) := by decide +kernel
theorem dX9_keeps_3 : decode cX9_keeps 3 = .ok (.sipush 2484, 3) := by decide +kernel
theorem dX9_keeps_6 : decode cX9_keeps 6 = .ok (.if_icmp .ge 21, 3) := by decide +kernel
theorem dX9_keeps_9 : decode cX9_keeps 9 = .ok (.aload_n 0, 1) := by decide +kernel
theorem dX9_keeps_10 : decode cX9_keeps 10 = .ok (.getfield 13, 3) := by decide +kernel
theorem dX9_keeps_13 : decode cX9_keeps 13 = .ok (.iload_n 1, 1) := by decide +kernel
theorem dX9_keeps_14 : decode cX9_keeps 14 = .ok (.aload_n 0, 1) := by decide +kernel
theorem dX9_keeps_15 : decode cX9_keeps 15 = .ok (.getfield 7, 3) := by decide +kernel
theorem dX9_keeps_18 : decode cX9_keeps 18 = .ok (.iload_n 1, 1) := by decide +kernel
theorem dX9_keeps_19 : decode cX9_keeps 19 = .ok (.iaload, 1) := by decide +kernel
theorem dX9_keeps_20 : decode cX9_keeps 20 = .ok (.iastore, 1) := by decide +kernel
theorem dX9_keeps_21 : decode cX9_keeps 21 = .ok (.iinc 1 1, 3) := by decide +kernel
theorem dX9_keeps_24 : decode cX9_keeps 24 = .ok (.goto (-22), 3) := by decide +kernel
theorem dX9_keeps_27 : decode cX9_keeps 27 = .ok (.return_, 1) := by decide +kernel
theorem dX9_brings_0 : decode cX9_brings 0 = .ok (.iconst 0, 1) := by decide +kernel
theorem dX9_brings_1 : decode cX9_brings 1 = .ok (.istore_n 1, 1) := by decide +kernel
theorem dX9_brings_2 : decode cX9_brings 2 = .ok (.iload_n 1, 1) := by decide +kernel
theorem dX9_brings_3 : decode cX9_brings 3 = .ok (.sipush 2484, 3) := by decide +kernel
theorem dX9_brings_6 : decode cX9_brings 6 = .ok (.if_icmp .ge 21, 3) := by decide +kernel
theorem dX9_brings_9 : decode cX9_brings 9 = .ok (.aload_n 0, 1) := by decide +kernel
theorem dX9_brings_10 : decode cX9_brings 10 = .ok (.getfield 7, 3) := by decide +kernel
theorem dX9_brings_13 : decode cX9_brings 13 = .ok (.iload_n 1, 1) := by decide +kernel
theorem dX9_brings_14 : decode cX9_brings 14 = .ok (.aload_n 0, 1) := by decide +kernel
theorem dX9_brings_15 : decode cX9_brings 15 = .ok (.getfield 13, 3) := by decide +kernel
theorem dX9_brings_18 : decode cX9_brings 18 = .ok (.iload_n 1, 1) := by decide +kernel
theorem dX9_brings_19 : decode cX9_brings 19 = .ok (.iaload, 1) := by decide +kernel
theorem dX9_brings_20 : decode cX9_brings 20 = .ok (.iastore, 1) := by decide +kernel
theorem dX9_brings_21 : decode cX9_brings 21 = .ok (.iinc 1 1, 3) := by decide +kernel
theorem dX9_brings_24 : decode cX9_brings 24 = .ok (.goto (-22), 3) := by decide +kernel
theorem dX9_brings_27 : decode cX9_brings 27 = .ok (.return_, 1) := by decide +kernel
theorem dX9_ticksToGap_0 : decode cX9_ticksToGap 0 = .ok (.aload_n 0, 1) := by decide +kernel
theorem dX9_ticksToGap_1 : decode cX9_ticksToGap 1 = .ok (.invokevirtual 144, 3) := by decide +kernel
theorem dX9_ticksToGap_4 : decode cX9_ticksToGap 4 = .ok (.sipush (-1004), 3) := by decide +kernel
theorem dX9_ticksToGap_7 : decode cX9_ticksToGap 7 = .ok (.istore_n 1, 1) := by decide +kernel
theorem dX9_ticksToGap_8 : decode cX9_ticksToGap 8 = .ok (.iconst 0, 1) := by decide +kernel
theorem dX9_ticksToGap_9 : decode cX9_ticksToGap 9 = .ok (.istore_n 2, 1) := by decide +kernel
theorem dX9_ticksToGap_10 : decode cX9_ticksToGap 10 = .ok (.iload_n 2, 1) := by decide +kernel
theorem dX9_ticksToGap_11 : decode cX9_ticksToGap 11 = .ok (.sipush 1000, 3) := by decide +kernel
theorem dX9_ticksToGap_14 : decode cX9_ticksToGap 14 = .ok (.if_icmp .ge 35, 3) := by decide +kernel
theorem dX9_ticksToGap_17 : decode cX9_ticksToGap 17 = .ok (.iload_n 1, 1) := by decide +kernel
theorem dX9_ticksToGap_18 : decode cX9_ticksToGap 18 = .ok (.ifCond .ge 31, 3) := by decide +kernel
theorem dX9_ticksToGap_21 : decode cX9_ticksToGap 21 = .ok (.aload_n 0, 1) := by decide +kernel
theorem dX9_ticksToGap_22 : decode cX9_ticksToGap 22 = .ok (.invokevirtual 141, 3) := by decide +kernel
theorem dX9_ticksToGap_25 : decode cX9_ticksToGap 25 = .ok (.istore_n 3, 1) := by decide +kernel
theorem dX9_ticksToGap_26 : decode cX9_ticksToGap 26 = .ok (.aload_n 0, 1) := by decide +kernel
theorem dX9_ticksToGap_27 : decode cX9_ticksToGap 27 = .ok (.getfield 7, 3) := by decide +kernel
theorem dX9_ticksToGap_30 : decode cX9_ticksToGap 30 = .ok (.bipush 27, 2) := by decide +kernel
theorem dX9_ticksToGap_32 : decode cX9_ticksToGap 32 = .ok (.iaload, 1) := by decide +kernel
theorem dX9_ticksToGap_33 : decode cX9_ticksToGap 33 = .ok (.iconst 3, 1) := by decide +kernel
theorem dX9_ticksToGap_34 : decode cX9_ticksToGap 34 = .ok (.if_icmp .ne 7, 3) := by decide +kernel
theorem dX9_ticksToGap_37 : decode cX9_ticksToGap 37 = .ok (.iload_n 2, 1) := by decide +kernel
theorem dX9_ticksToGap_38 : decode cX9_ticksToGap 38 = .ok (.goto 4, 3) := by decide +kernel
theorem dX9_ticksToGap_41 : decode cX9_ticksToGap 41 = .ok (.iload_n 1, 1) := by decide +kernel
theorem dX9_ticksToGap_42 : decode cX9_ticksToGap 42 = .ok (.istore_n 1, 1) := by decide +kernel
theorem dX9_ticksToGap_43 : decode cX9_ticksToGap 43 = .ok (.iinc 2 1, 3) := by decide +kernel
theorem dX9_ticksToGap_46 : decode cX9_ticksToGap 46 = .ok (.goto (-36), 3) := by decide +kernel
theorem dX9_ticksToGap_49 : decode cX9_ticksToGap 49 = .ok (.aload_n 0, 1) := by decide +kernel
theorem dX9_ticksToGap_50 : decode cX9_ticksToGap 50 = .ok (.invokevirtual 147, 3) := by decide +kernel
theorem dX9_ticksToGap_53 : decode cX9_ticksToGap 53 = .ok (.iload_n 1, 1) := by decide +kernel
theorem dX9_ticksToGap_54 : decode cX9_ticksToGap 54 = .ok (.ireturn, 1) := by decide +kernel
theorem dX9_gapsIn_0 : decode cX9_gapsIn 0 = .ok (.iload_n 1, 1) := by decide +kernel
theorem dX9_gapsIn_1 : decode cX9_gapsIn 1 = .ok (.iconst 1, 1) := by decide +kernel
theorem dX9_gapsIn_2 : decode cX9_gapsIn 2 = .ok (.sipush 1000, 3) := by decide +kernel
theorem dX9_gapsIn_5 : decode cX9_gapsIn 5 = .ok (.invokestatic 35, 3) := by decide +kernel
theorem dX9_gapsIn_8 : decode cX9_gapsIn 8 = .ok (.ifCond .ne 7, 3) := by decide +kernel
theorem dX9_gapsIn_11 : decode cX9_gapsIn 11 = .ok (.sipush (-1001), 3) := by decide +kernel
theorem dX9_gapsIn_14 : decode cX9_gapsIn 14 = .ok (.ireturn, 1) := by decide +kernel
theorem dX9_gapsIn_15 : decode cX9_gapsIn 15 = .ok (.aload_n 0, 1) := by decide +kernel
theorem dX9_gapsIn_16 : decode cX9_gapsIn 16 = .ok (.invokevirtual 144, 3) := by decide +kernel
theorem dX9_gapsIn_19 : decode cX9_gapsIn 19 = .ok (.iconst 0, 1) := by decide +kernel
theorem dX9_gapsIn_20 : decode cX9_gapsIn 20 = .ok (.istore_n 2, 1) := by decide +kernel
theorem dX9_gapsIn_21 : decode cX9_gapsIn 21 = .ok (.iconst 0, 1) := by decide +kernel
theorem dX9_gapsIn_22 : decode cX9_gapsIn 22 = .ok (.istore_n 3, 1) := by decide +kernel
theorem dX9_gapsIn_23 : decode cX9_gapsIn 23 = .ok (.iload_n 3, 1) := by decide +kernel
theorem dX9_gapsIn_24 : decode cX9_gapsIn 24 = .ok (.iload_n 1, 1) := by decide +kernel
theorem dX9_gapsIn_25 : decode cX9_gapsIn 25 = .ok (.if_icmp .ge 34, 3) := by decide +kernel
theorem dX9_gapsIn_28 : decode cX9_gapsIn 28 = .ok (.aload_n 0, 1) := by decide +kernel
theorem dX9_gapsIn_29 : decode cX9_gapsIn 29 = .ok (.invokevirtual 141, 3) := by decide +kernel
theorem dX9_gapsIn_32 : decode cX9_gapsIn 32 = .ok (.istore 4, 2) := by decide +kernel
theorem dX9_gapsIn_34 : decode cX9_gapsIn 34 = .ok (.iload_n 2, 1) := by decide +kernel
theorem dX9_gapsIn_35 : decode cX9_gapsIn 35 = .ok (.aload_n 0, 1) := by decide +kernel
theorem dX9_gapsIn_36 : decode cX9_gapsIn 36 = .ok (.getfield 7, 3) := by decide +kernel
theorem dX9_gapsIn_39 : decode cX9_gapsIn 39 = .ok (.bipush 27, 2) := by decide +kernel
theorem dX9_gapsIn_41 : decode cX9_gapsIn 41 = .ok (.iaload, 1) := by decide +kernel
theorem dX9_gapsIn_42 : decode cX9_gapsIn 42 = .ok (.iconst 3, 1) := by decide +kernel
theorem dX9_gapsIn_43 : decode cX9_gapsIn 43 = .ok (.if_icmp .ne 7, 3) := by decide +kernel
theorem dX9_gapsIn_46 : decode cX9_gapsIn 46 = .ok (.iconst 1, 1) := by decide +kernel
theorem dX9_gapsIn_47 : decode cX9_gapsIn 47 = .ok (.goto 4, 3) := by decide +kernel
theorem dX9_gapsIn_50 : decode cX9_gapsIn 50 = .ok (.iconst 0, 1) := by decide +kernel
theorem dX9_gapsIn_51 : decode cX9_gapsIn 51 = .ok (.iadd, 1) := by decide +kernel
theorem dX9_gapsIn_52 : decode cX9_gapsIn 52 = .ok (.istore_n 2, 1) := by decide +kernel
theorem dX9_gapsIn_53 : decode cX9_gapsIn 53 = .ok (.iinc 3 1, 3) := by decide +kernel
theorem dX9_gapsIn_56 : decode cX9_gapsIn 56 = .ok (.goto (-33), 3) := by decide +kernel
theorem dX9_gapsIn_59 : decode cX9_gapsIn 59 = .ok (.aload_n 0, 1) := by decide +kernel
theorem dX9_gapsIn_60 : decode cX9_gapsIn 60 = .ok (.invokevirtual 147, 3) := by decide +kernel
theorem dX9_gapsIn_63 : decode cX9_gapsIn 63 = .ok (.iload_n 2, 1) := by decide +kernel
theorem dX9_gapsIn_64 : decode cX9_gapsIn 64 = .ok (.ireturn, 1) := by decide +kernel
theorem dX9_ticksToFrame_0 : decode cX9_ticksToFrame 0 = .ok (.iload_n 1, 1) := by decide +kernel
theorem dX9_ticksToFrame_1 : decode cX9_ticksToFrame 1 = .ok (.invokestatic 84, 3) := by decide +kernel
theorem dX9_ticksToFrame_4 : decode cX9_ticksToFrame 4 = .ok (.ifCond .ne 7, 3) := by decide +kernel
theorem dX9_ticksToFrame_7 : decode cX9_ticksToFrame 7 = .ok (.sipush (-1001), 3) := by decide +kernel
theorem dX9_ticksToFrame_10 : decode cX9_ticksToFrame 10 = .ok (.ireturn, 1) := by decide +kernel
theorem dX9_ticksToFrame_11 : decode cX9_ticksToFrame 11 = .ok (.iload_n 1, 1) := by decide +kernel
theorem dX9_ticksToFrame_12 : decode cX9_ticksToFrame 12 = .ok (.aload_n 0, 1) := by decide +kernel
theorem dX9_ticksToFrame_13 : decode cX9_ticksToFrame 13 = .ok (.getfield 7, 3) := by decide +kernel
theorem dX9_ticksToFrame_16 : decode cX9_ticksToFrame 16 = .ok (.bipush 11, 2) := by decide +kernel
theorem dX9_ticksToFrame_18 : decode cX9_ticksToFrame 18 = .ok (.iaload, 1) := by decide +kernel
theorem dX9_ticksToFrame_19 : decode cX9_ticksToFrame 19 = .ok (.if_icmp .ge 7, 3) := by decide +kernel
theorem dX9_ticksToFrame_22 : decode cX9_ticksToFrame 22 = .ok (.sipush (-1003), 3) := by decide +kernel
theorem dX9_ticksToFrame_25 : decode cX9_ticksToFrame 25 = .ok (.ireturn, 1) := by decide +kernel
theorem dX9_ticksToFrame_26 : decode cX9_ticksToFrame 26 = .ok (.aload_n 0, 1) := by decide +kernel
theorem dX9_ticksToFrame_27 : decode cX9_ticksToFrame 27 = .ok (.invokevirtual 144, 3) := by decide +kernel
theorem dX9_ticksToFrame_30 : decode cX9_ticksToFrame 30 = .ok (.sipush (-1004), 3) := by decide +kernel
theorem dX9_ticksToFrame_33 : decode cX9_ticksToFrame 33 = .ok (.istore_n 2, 1) := by decide +kernel
theorem dX9_ticksToFrame_34 : decode cX9_ticksToFrame 34 = .ok (.iconst 0, 1) := by decide +kernel
theorem dX9_ticksToFrame_35 : decode cX9_ticksToFrame 35 = .ok (.istore_n 3, 1) := by decide +kernel
theorem dX9_ticksToFrame_36 : decode cX9_ticksToFrame 36 = .ok (.iload_n 3, 1) := by decide +kernel
theorem dX9_ticksToFrame_37 : decode cX9_ticksToFrame 37 = .ok (.sipush 2000, 3) := by decide +kernel
theorem dX9_ticksToFrame_40 : decode cX9_ticksToFrame 40 = .ok (.if_icmp .ge 36, 3) := by decide +kernel
theorem dX9_ticksToFrame_43 : decode cX9_ticksToFrame 43 = .ok (.iload_n 2, 1) := by decide +kernel
theorem dX9_ticksToFrame_44 : decode cX9_ticksToFrame 44 = .ok (.ifCond .ge 32, 3) := by decide +kernel
theorem dX9_ticksToFrame_47 : decode cX9_ticksToFrame 47 = .ok (.aload_n 0, 1) := by decide +kernel
theorem dX9_ticksToFrame_48 : decode cX9_ticksToFrame 48 = .ok (.invokevirtual 141, 3) := by decide +kernel
theorem dX9_ticksToFrame_51 : decode cX9_ticksToFrame 51 = .ok (.istore 4, 2) := by decide +kernel
theorem dX9_ticksToFrame_53 : decode cX9_ticksToFrame 53 = .ok (.aload_n 0, 1) := by decide +kernel
theorem dX9_ticksToFrame_54 : decode cX9_ticksToFrame 54 = .ok (.getfield 7, 3) := by decide +kernel
theorem dX9_ticksToFrame_57 : decode cX9_ticksToFrame 57 = .ok (.bipush 11, 2) := by decide +kernel
theorem dX9_ticksToFrame_59 : decode cX9_ticksToFrame 59 = .ok (.iaload, 1) := by decide +kernel
theorem dX9_ticksToFrame_60 : decode cX9_ticksToFrame 60 = .ok (.iload_n 1, 1) := by decide +kernel
theorem dX9_ticksToFrame_61 : decode cX9_ticksToFrame 61 = .ok (.if_icmp .le 7, 3) := by decide +kernel
theorem dX9_ticksToFrame_64 : decode cX9_ticksToFrame 64 = .ok (.iload_n 3, 1) := by decide +kernel
theorem dX9_ticksToFrame_65 : decode cX9_ticksToFrame 65 = .ok (.goto 4, 3) := by decide +kernel
theorem dX9_ticksToFrame_68 : decode cX9_ticksToFrame 68 = .ok (.iload_n 2, 1) := by decide +kernel
theorem dX9_ticksToFrame_69 : decode cX9_ticksToFrame 69 = .ok (.istore_n 2, 1) := by decide +kernel
theorem dX9_ticksToFrame_70 : decode cX9_ticksToFrame 70 = .ok (.iinc 3 1, 3) := by decide +kernel
theorem dX9_ticksToFrame_73 : decode cX9_ticksToFrame 73 = .ok (.goto (-37), 3) := by decide +kernel
theorem dX9_ticksToFrame_76 : decode cX9_ticksToFrame 76 = .ok (.aload_n 0, 1) := by decide +kernel
theorem dX9_ticksToFrame_77 : decode cX9_ticksToFrame 77 = .ok (.invokevirtual 147, 3) := by decide +kernel
theorem dX9_ticksToFrame_80 : decode cX9_ticksToFrame 80 = .ok (.iload_n 2, 1) := by decide +kernel
theorem dX9_ticksToFrame_81 : decode cX9_ticksToFrame 81 = .ok (.ireturn, 1) := by decide +kernel
theorem dX9_append_0 : decode cX9_append 0 = .ok (.iload_n 1, 1) := by decide +kernel
theorem dX9_append_1 : decode cX9_append 1 = .ok (.bipush 32, 2) := by decide +kernel
theorem dX9_append_3 : decode cX9_append 3 = .ok (.bipush 126, 2) := by decide +kernel
theorem dX9_append_5 : decode cX9_append 5 = .ok (.invokestatic 35, 3) := by decide +kernel
theorem dX9_append_8 : decode cX9_append 8 = .ok (.ifCond .ne 7, 3) := by decide +kernel
theorem dX9_append_11 : decode cX9_append 11 = .ok (.sipush (-1001), 3) := by decide +kernel
theorem dX9_append_14 : decode cX9_append 14 = .ok (.ireturn, 1) := by decide +kernel
theorem dX9_append_15 : decode cX9_append 15 = .ok (.aload_n 0, 1) := by decide +kernel
theorem dX9_append_16 : decode cX9_append 16 = .ok (.getfield 150, 3) := by decide +kernel
theorem dX9_append_19 : decode cX9_append 19 = .ok (.bipush 120, 2) := by decide +kernel
theorem dX9_append_21 : decode cX9_append 21 = .ok (.if_icmp .ne 7, 3) := by decide +kernel
theorem dX9_append_24 : decode cX9_append 24 = .ok (.sipush (-1002), 3) := by decide +kernel
theorem dX9_append_27 : decode cX9_append 27 = .ok (.ireturn, 1) := by decide +kernel
theorem dX9_append_28 : decode cX9_append 28 = .ok (.aload_n 0, 1) := by decide +kernel
theorem dX9_append_29 : decode cX9_append 29 = .ok (.getfield 23, 3) := by decide +kernel
theorem dX9_append_32 : decode cX9_append 32 = .ok (.aload_n 0, 1) := by decide +kernel
theorem dX9_append_33 : decode cX9_append 33 = .ok (.getfield 150, 3) := by decide +kernel
theorem dX9_append_36 : decode cX9_append 36 = .ok (.iload_n 1, 1) := by decide +kernel
theorem dX9_append_37 : decode cX9_append 37 = .ok (.iastore, 1) := by decide +kernel
theorem dX9_append_38 : decode cX9_append 38 = .ok (.aload_n 0, 1) := by decide +kernel
theorem dX9_append_39 : decode cX9_append 39 = .ok (.dup, 1) := by decide +kernel
theorem dX9_append_40 : decode cX9_append 40 = .ok (.getfield 150, 3) := by decide +kernel
theorem dX9_append_43 : decode cX9_append 43 = .ok (.iconst 1, 1) := by decide +kernel
theorem dX9_append_44 : decode cX9_append 44 = .ok (.iadd, 1) := by decide +kernel
theorem dX9_append_45 : decode cX9_append 45 = .ok (.putfield 150, 3) := by decide +kernel
theorem dX9_append_48 : decode cX9_append 48 = .ok (.aload_n 0, 1) := by decide +kernel
theorem dX9_append_49 : decode cX9_append 49 = .ok (.getfield 150, 3) := by decide +kernel
theorem dX9_append_52 : decode cX9_append 52 = .ok (.ireturn, 1) := by decide +kernel
theorem dX9_clearText_0 : decode cX9_clearText 0 = .ok (.aload_n 0, 1) := by decide +kernel
theorem dX9_clearText_1 : decode cX9_clearText 1 = .ok (.getfield 150, 3) := by decide +kernel
theorem dX9_clearText_4 : decode cX9_clearText 4 = .ok (.istore_n 1, 1) := by decide +kernel
theorem dX9_clearText_5 : decode cX9_clearText 5 = .ok (.aload_n 0, 1) := by decide +kernel
theorem dX9_clearText_6 : decode cX9_clearText 6 = .ok (.iconst 0, 1) := by decide +kernel
theorem dX9_clearText_7 : decode cX9_clearText 7 = .ok (.putfield 150, 3) := by decide +kernel
theorem dX9_clearText_10 : decode cX9_clearText 10 = .ok (.iload_n 1, 1) := by decide +kernel
theorem dX9_clearText_11 : decode cX9_clearText 11 = .ok (.ireturn, 1) := by decide +kernel
theorem dX9_here_0 : decode cX9_here 0 = .ok (.aload_n 0, 1) := by decide +kernel
theorem dX9_here_1 : decode cX9_here 1 = .ok (.getfield 154, 3) := by decide +kernel
theorem dX9_here_4 : decode cX9_here 4 = .ok (.aload_n 0, 1) := by decide +kernel
theorem dX9_here_5 : decode cX9_here 5 = .ok (.getfield 150, 3) := by decide +kernel
theorem dX9_here_8 : decode cX9_here 8 = .ok (.if_icmp .ge 15, 3) := by decide +kernel
theorem dX9_here_11 : decode cX9_here 11 = .ok (.aload_n 0, 1) := by decide +kernel
theorem dX9_here_12 : decode cX9_here 12 = .ok (.getfield 23, 3) := by decide +kernel
theorem dX9_here_15 : decode cX9_here 15 = .ok (.aload_n 0, 1) := by decide +kernel
theorem dX9_here_16 : decode cX9_here 16 = .ok (.getfield 154, 3) := by decide +kernel
theorem dX9_here_19 : decode cX9_here 19 = .ok (.iaload, 1) := by decide +kernel
theorem dX9_here_20 : decode cX9_here 20 = .ok (.goto 4, 3) := by decide +kernel
theorem dX9_here_23 : decode cX9_here 23 = .ok (.iconst 0, 1) := by decide +kernel
theorem dX9_here_24 : decode cX9_here 24 = .ok (.ireturn, 1) := by decide +kernel
theorem dX9_takes__0 : decode cX9_takes_ 0 = .ok (.aload_n 0, 1) := by decide +kernel
theorem dX9_takes__1 : decode cX9_takes_ 1 = .ok (.invokevirtual 157, 3) := by decide +kernel
theorem dX9_takes__4 : decode cX9_takes_ 4 = .ok (.iload_n 1, 1) := by decide +kernel
theorem dX9_takes__5 : decode cX9_takes_ 5 = .ok (.if_icmp .ne 7, 3) := by decide +kernel
theorem dX9_takes__8 : decode cX9_takes_ 8 = .ok (.iconst 1, 1) := by decide +kernel
theorem dX9_takes__9 : decode cX9_takes_ 9 = .ok (.goto 4, 3) := by decide +kernel
theorem dX9_takes__12 : decode cX9_takes_ 12 = .ok (.iconst 0, 1) := by decide +kernel
theorem dX9_takes__13 : decode cX9_takes_ 13 = .ok (.istore_n 2, 1) := by decide +kernel
theorem dX9_takes__14 : decode cX9_takes_ 14 = .ok (.aload_n 0, 1) := by decide +kernel
theorem dX9_takes__15 : decode cX9_takes_ 15 = .ok (.dup, 1) := by decide +kernel
theorem dX9_takes__16 : decode cX9_takes_ 16 = .ok (.getfield 154, 3) := by decide +kernel
theorem dX9_takes__19 : decode cX9_takes_ 19 = .ok (.iload_n 2, 1) := by decide +kernel
theorem dX9_takes__20 : decode cX9_takes_ 20 = .ok (.ifCond .eq 7, 3) := by decide +kernel
theorem dX9_takes__23 : decode cX9_takes_ 23 = .ok (.iconst 1, 1) := by decide +kernel
theorem dX9_takes__24 : decode cX9_takes_ 24 = .ok (.goto 4, 3) := by decide +kernel
theorem dX9_takes__27 : decode cX9_takes_ 27 = .ok (.iconst 0, 1) := by decide +kernel
theorem dX9_takes__28 : decode cX9_takes_ 28 = .ok (.iadd, 1) := by decide +kernel
theorem dX9_takes__29 : decode cX9_takes_ 29 = .ok (.putfield 154, 3) := by decide +kernel
theorem dX9_takes__32 : decode cX9_takes_ 32 = .ok (.iload_n 2, 1) := by decide +kernel
theorem dX9_takes__33 : decode cX9_takes_ 33 = .ok (.ireturn, 1) := by decide +kernel
theorem dX9_number_0 : decode cX9_number 0 = .ok (.iconst (-1), 1) := by decide +kernel
theorem dX9_number_1 : decode cX9_number 1 = .ok (.istore_n 1, 1) := by decide +kernel
theorem dX9_number_2 : decode cX9_number 2 = .ok (.aload_n 0, 1) := by decide +kernel
theorem dX9_number_3 : decode cX9_number 3 = .ok (.getfield 154, 3) := by decide +kernel
theorem dX9_number_6 : decode cX9_number 6 = .ok (.istore_n 2, 1) := by decide +kernel
theorem dX9_number_7 : decode cX9_number 7 = .ok (.aload_n 0, 1) := by decide +kernel
theorem dX9_number_8 : decode cX9_number 8 = .ok (.getfield 154, 3) := by decide +kernel
theorem dX9_number_11 : decode cX9_number 11 = .ok (.iload_n 2, 1) := by decide +kernel
theorem dX9_number_12 : decode cX9_number 12 = .ok (.isub, 1) := by decide +kernel
theorem dX9_number_13 : decode cX9_number 13 = .ok (.iconst 4, 1) := by decide +kernel
theorem dX9_number_14 : decode cX9_number 14 = .ok (.if_icmp .ge 51, 3) := by decide +kernel
theorem dX9_number_17 : decode cX9_number 17 = .ok (.aload_n 0, 1) := by decide +kernel
theorem dX9_number_18 : decode cX9_number 18 = .ok (.invokevirtual 157, 3) := by decide +kernel
theorem dX9_number_21 : decode cX9_number 21 = .ok (.bipush 48, 2) := by decide +kernel
theorem dX9_number_23 : decode cX9_number 23 = .ok (.bipush 57, 2) := by decide +kernel
theorem dX9_number_25 : decode cX9_number 25 = .ok (.invokestatic 35, 3) := by decide +kernel
theorem dX9_number_28 : decode cX9_number 28 = .ok (.ifCond .eq 37, 3) := by decide +kernel
theorem dX9_number_31 : decode cX9_number 31 = .ok (.iload_n 1, 1) := by decide +kernel
theorem dX9_number_32 : decode cX9_number 32 = .ok (.ifCond .ge 7, 3) := by decide +kernel
theorem dX9_number_35 : decode cX9_number 35 = .ok (.iconst 0, 1) := by decide +kernel
theorem dX9_number_36 : decode cX9_number 36 = .ok (.goto 7, 3) := by decide +kernel
theorem dX9_number_39 : decode cX9_number 39 = .ok (.bipush 10, 2) := by decide +kernel
theorem dX9_number_41 : decode cX9_number 41 = .ok (.iload_n 1, 1) := by decide +kernel
theorem dX9_number_42 : decode cX9_number 42 = .ok (.imul, 1) := by decide +kernel
theorem dX9_number_43 : decode cX9_number 43 = .ok (.aload_n 0, 1) := by decide +kernel
theorem dX9_number_44 : decode cX9_number 44 = .ok (.invokevirtual 157, 3) := by decide +kernel
theorem dX9_number_47 : decode cX9_number 47 = .ok (.iadd, 1) := by decide +kernel
theorem dX9_number_48 : decode cX9_number 48 = .ok (.bipush 48, 2) := by decide +kernel
theorem dX9_number_50 : decode cX9_number 50 = .ok (.isub, 1) := by decide +kernel
theorem dX9_number_51 : decode cX9_number 51 = .ok (.istore_n 1, 1) := by decide +kernel
theorem dX9_number_52 : decode cX9_number 52 = .ok (.aload_n 0, 1) := by decide +kernel
theorem dX9_number_53 : decode cX9_number 53 = .ok (.dup, 1) := by decide +kernel
theorem dX9_number_54 : decode cX9_number 54 = .ok (.getfield 154, 3) := by decide +kernel
theorem dX9_number_57 : decode cX9_number 57 = .ok (.iconst 1, 1) := by decide +kernel
theorem dX9_number_58 : decode cX9_number 58 = .ok (.iadd, 1) := by decide +kernel
theorem dX9_number_59 : decode cX9_number 59 = .ok (.putfield 154, 3) := by decide +kernel
theorem dX9_number_62 : decode cX9_number 62 = .ok (.goto (-55), 3) := by decide +kernel
theorem dX9_number_65 : decode cX9_number 65 = .ok (.iload_n 1, 1) := by decide +kernel
theorem dX9_number_66 : decode cX9_number 66 = .ok (.ireturn, 1) := by decide +kernel
theorem dX9_isEntry_0 : decode cX9_isEntry 0 = .ok (.iconst 4, 1) := by decide +kernel
theorem dX9_isEntry_1 : decode cX9_isEntry 1 = .ok (.aload_n 0, 1) := by decide +kernel
theorem dX9_isEntry_2 : decode cX9_isEntry 2 = .ok (.getfield 160, 3) := by decide +kernel
theorem dX9_isEntry_5 : decode cX9_isEntry 5 = .ok (.imul, 1) := by decide +kernel
theorem dX9_isEntry_6 : decode cX9_isEntry 6 = .ok (.istore_n 1, 1) := by decide +kernel
theorem dX9_isEntry_7 : decode cX9_isEntry 7 = .ok (.aload_n 0, 1) := by decide +kernel
theorem dX9_isEntry_8 : decode cX9_isEntry 8 = .ok (.invokevirtual 157, 3) := by decide +kernel
theorem dX9_isEntry_11 : decode cX9_isEntry 11 = .ok (.istore_n 2, 1) := by decide +kernel
theorem dX9_isEntry_12 : decode cX9_isEntry 12 = .ok (.aload_n 0, 1) := by decide +kernel
theorem dX9_isEntry_13 : decode cX9_isEntry 13 = .ok (.getfield 32, 3) := by decide +kernel
theorem dX9_isEntry_16 : decode cX9_isEntry 16 = .ok (.iload_n 1, 1) := by decide +kernel
theorem dX9_isEntry_17 : decode cX9_isEntry 17 = .ok (.iload_n 2, 1) := by decide +kernel
theorem dX9_isEntry_18 : decode cX9_isEntry 18 = .ok (.bipush 100, 2) := by decide +kernel
theorem dX9_isEntry_20 : decode cX9_isEntry 20 = .ok (.if_icmp .ne 7, 3) := by decide +kernel
theorem dX9_isEntry_23 : decode cX9_isEntry 23 = .ok (.iconst 0, 1) := by decide +kernel
theorem dX9_isEntry_24 : decode cX9_isEntry 24 = .ok (.goto 14, 3) := by decide +kernel
theorem dX9_isEntry_27 : decode cX9_isEntry 27 = .ok (.iload_n 2, 1) := by decide +kernel
theorem dX9_isEntry_28 : decode cX9_isEntry 28 = .ok (.bipush 114, 2) := by decide +kernel
theorem dX9_isEntry_30 : decode cX9_isEntry 30 = .ok (.if_icmp .ne 7, 3) := by decide +kernel
theorem dX9_isEntry_33 : decode cX9_isEntry 33 = .ok (.iconst 1, 1) := by decide +kernel
theorem dX9_isEntry_34 : decode cX9_isEntry 34 = .ok (.goto 4, 3) := by decide +kernel
theorem dX9_isEntry_37 : decode cX9_isEntry 37 = .ok (.iconst 2, 1) := by decide +kernel
theorem dX9_isEntry_38 : decode cX9_isEntry 38 = .ok (.iastore, 1) := by decide +kernel
theorem dX9_isEntry_39 : decode cX9_isEntry 39 = .ok (.iload_n 2, 1) := by decide +kernel
theorem dX9_isEntry_40 : decode cX9_isEntry 40 = .ok (.bipush 100, 2) := by decide +kernel
theorem dX9_isEntry_42 : decode cX9_isEntry 42 = .ok (.if_icmp .eq 17, 3) := by decide +kernel
theorem dX9_isEntry_45 : decode cX9_isEntry 45 = .ok (.iload_n 2, 1) := by decide +kernel
theorem dX9_isEntry_46 : decode cX9_isEntry 46 = .ok (.bipush 114, 2) := by decide +kernel
theorem dX9_isEntry_48 : decode cX9_isEntry 48 = .ok (.if_icmp .eq 11, 3) := by decide +kernel
theorem dX9_isEntry_51 : decode cX9_isEntry 51 = .ok (.iload_n 2, 1) := by decide +kernel
theorem dX9_isEntry_52 : decode cX9_isEntry 52 = .ok (.bipush 99, 2) := by decide +kernel
theorem dX9_isEntry_54 : decode cX9_isEntry 54 = .ok (.if_icmp .eq 5, 3) := by decide +kernel
theorem dX9_isEntry_57 : decode cX9_isEntry 57 = .ok (.iconst 0, 1) := by decide +kernel
theorem dX9_isEntry_58 : decode cX9_isEntry 58 = .ok (.ireturn, 1) := by decide +kernel
theorem dX9_isEntry_59 : decode cX9_isEntry 59 = .ok (.aload_n 0, 1) := by decide +kernel
theorem dX9_isEntry_60 : decode cX9_isEntry 60 = .ok (.dup, 1) := by decide +kernel
theorem dX9_isEntry_61 : decode cX9_isEntry 61 = .ok (.getfield 154, 3) := by decide +kernel
theorem dX9_isEntry_64 : decode cX9_isEntry 64 = .ok (.iconst 1, 1) := by decide +kernel
theorem dX9_isEntry_65 : decode cX9_isEntry 65 = .ok (.iadd, 1) := by decide +kernel
theorem dX9_isEntry_66 : decode cX9_isEntry 66 = .ok (.putfield 154, 3) := by decide +kernel
theorem dX9_isEntry_69 : decode cX9_isEntry 69 = .ok (.aload_n 0, 1) := by decide +kernel
theorem dX9_isEntry_70 : decode cX9_isEntry 70 = .ok (.getfield 32, 3) := by decide +kernel
theorem dX9_isEntry_73 : decode cX9_isEntry 73 = .ok (.iload_n 1, 1) := by decide +kernel
theorem dX9_isEntry_74 : decode cX9_isEntry 74 = .ok (.iconst 1, 1) := by decide +kernel
theorem dX9_isEntry_75 : decode cX9_isEntry 75 = .ok (.iadd, 1) := by decide +kernel
theorem dX9_isEntry_76 : decode cX9_isEntry 76 = .ok (.aload_n 0, 1) := by decide +kernel
theorem dX9_isEntry_77 : decode cX9_isEntry 77 = .ok (.invokevirtual 163, 3) := by decide +kernel
theorem dX9_isEntry_80 : decode cX9_isEntry 80 = .ok (.iastore, 1) := by decide +kernel
theorem dX9_isEntry_81 : decode cX9_isEntry 81 = .ok (.aload_n 0, 1) := by decide +kernel
theorem dX9_isEntry_82 : decode cX9_isEntry 82 = .ok (.getfield 32, 3) := by decide +kernel
theorem dX9_isEntry_85 : decode cX9_isEntry 85 = .ok (.iload_n 1, 1) := by decide +kernel
theorem dX9_isEntry_86 : decode cX9_isEntry 86 = .ok (.iconst 2, 1) := by decide +kernel
theorem dX9_isEntry_87 : decode cX9_isEntry 87 = .ok (.iadd, 1) := by decide +kernel
theorem dX9_isEntry_88 : decode cX9_isEntry 88 = .ok (.iconst 0, 1) := by decide +kernel
theorem dX9_isEntry_89 : decode cX9_isEntry 89 = .ok (.iastore, 1) := by decide +kernel
theorem dX9_isEntry_90 : decode cX9_isEntry 90 = .ok (.aload_n 0, 1) := by decide +kernel
theorem dX9_isEntry_91 : decode cX9_isEntry 91 = .ok (.getfield 32, 3) := by decide +kernel
theorem dX9_isEntry_94 : decode cX9_isEntry 94 = .ok (.iload_n 1, 1) := by decide +kernel
theorem dX9_isEntry_95 : decode cX9_isEntry 95 = .ok (.iconst 1, 1) := by decide +kernel
theorem dX9_isEntry_96 : decode cX9_isEntry 96 = .ok (.iadd, 1) := by decide +kernel
theorem dX9_isEntry_97 : decode cX9_isEntry 97 = .ok (.iaload, 1) := by decide +kernel
theorem dX9_isEntry_98 : decode cX9_isEntry 98 = .ok (.ifCond .ge 5, 3) := by decide +kernel
theorem dX9_isEntry_101 : decode cX9_isEntry 101 = .ok (.iconst 0, 1) := by decide +kernel
theorem dX9_isEntry_102 : decode cX9_isEntry 102 = .ok (.ireturn, 1) := by decide +kernel
theorem dX9_isEntry_103 : decode cX9_isEntry 103 = .ok (.aload_n 0, 1) := by decide +kernel
theorem dX9_isEntry_104 : decode cX9_isEntry 104 = .ok (.getfield 32, 3) := by decide +kernel
theorem dX9_isEntry_107 : decode cX9_isEntry 107 = .ok (.iload_n 1, 1) := by decide +kernel
theorem dX9_isEntry_108 : decode cX9_isEntry 108 = .ok (.iaload, 1) := by decide +kernel
theorem dX9_isEntry_109 : decode cX9_isEntry 109 = .ok (.ifCond .le 26, 3) := by decide +kernel
theorem dX9_isEntry_112 : decode cX9_isEntry 112 = .ok (.aload_n 0, 1) := by decide +kernel
theorem dX9_isEntry_113 : decode cX9_isEntry 113 = .ok (.bipush 46, 2) := by decide +kernel
theorem dX9_isEntry_115 : decode cX9_isEntry 115 = .ok (.invokevirtual 166, 3) := by decide +kernel
theorem dX9_isEntry_118 : decode cX9_isEntry 118 = .ok (.ifCond .ne 5, 3) := by decide +kernel
theorem dX9_isEntry_121 : decode cX9_isEntry 121 = .ok (.iconst 0, 1) := by decide +kernel
theorem dX9_isEntry_122 : decode cX9_isEntry 122 = .ok (.ireturn, 1) := by decide +kernel
theorem dX9_isEntry_123 : decode cX9_isEntry 123 = .ok (.aload_n 0, 1) := by decide +kernel
theorem dX9_isEntry_124 : decode cX9_isEntry 124 = .ok (.getfield 32, 3) := by decide +kernel
theorem dX9_isEntry_127 : decode cX9_isEntry 127 = .ok (.iload_n 1, 1) := by decide +kernel
theorem dX9_isEntry_128 : decode cX9_isEntry 128 = .ok (.iconst 2, 1) := by decide +kernel
theorem dX9_isEntry_129 : decode cX9_isEntry 129 = .ok (.iadd, 1) := by decide +kernel
theorem dX9_isEntry_130 : decode cX9_isEntry 130 = .ok (.aload_n 0, 1) := by decide +kernel
theorem dX9_isEntry_131 : decode cX9_isEntry 131 = .ok (.invokevirtual 163, 3) := by decide +kernel
theorem dX9_isEntry_134 : decode cX9_isEntry 134 = .ok (.iastore, 1) := by decide +kernel
theorem dX9_isEntry_135 : decode cX9_isEntry 135 = .ok (.aload_n 0, 1) := by decide +kernel
theorem dX9_isEntry_136 : decode cX9_isEntry 136 = .ok (.getfield 32, 3) := by decide +kernel
theorem dX9_isEntry_139 : decode cX9_isEntry 139 = .ok (.iload_n 1, 1) := by decide +kernel
theorem dX9_isEntry_140 : decode cX9_isEntry 140 = .ok (.iconst 2, 1) := by decide +kernel
theorem dX9_isEntry_141 : decode cX9_isEntry 141 = .ok (.iadd, 1) := by decide +kernel
theorem dX9_isEntry_142 : decode cX9_isEntry 142 = .ok (.iaload, 1) := by decide +kernel
theorem dX9_isEntry_143 : decode cX9_isEntry 143 = .ok (.ifCond .lt 12, 3) := by decide +kernel
theorem dX9_isEntry_146 : decode cX9_isEntry 146 = .ok (.aload_n 0, 1) := by decide +kernel
theorem dX9_isEntry_147 : decode cX9_isEntry 147 = .ok (.bipush 64, 2) := by decide +kernel
theorem dX9_isEntry_149 : decode cX9_isEntry 149 = .ok (.invokevirtual 166, 3) := by decide +kernel
theorem dX9_isEntry_152 : decode cX9_isEntry 152 = .ok (.ifCond .ne 5, 3) := by decide +kernel
theorem dX9_isEntry_155 : decode cX9_isEntry 155 = .ok (.iconst 0, 1) := by decide +kernel
theorem dX9_isEntry_156 : decode cX9_isEntry 156 = .ok (.ireturn, 1) := by decide +kernel
theorem dX9_isEntry_157 : decode cX9_isEntry 157 = .ok (.aload_n 0, 1) := by decide +kernel
theorem dX9_isEntry_158 : decode cX9_isEntry 158 = .ok (.getfield 32, 3) := by decide +kernel
theorem dX9_isEntry_161 : decode cX9_isEntry 161 = .ok (.iload_n 1, 1) := by decide +kernel
theorem dX9_isEntry_162 : decode cX9_isEntry 162 = .ok (.iconst 3, 1) := by decide +kernel
theorem dX9_isEntry_163 : decode cX9_isEntry 163 = .ok (.iadd, 1) := by decide +kernel
theorem dX9_isEntry_164 : decode cX9_isEntry 164 = .ok (.aload_n 0, 1) := by decide +kernel
theorem dX9_isEntry_165 : decode cX9_isEntry 165 = .ok (.invokevirtual 163, 3) := by decide +kernel
theorem dX9_isEntry_168 : decode cX9_isEntry 168 = .ok (.iastore, 1) := by decide +kernel
theorem dX9_isEntry_169 : decode cX9_isEntry 169 = .ok (.aload_n 0, 1) := by decide +kernel
theorem dX9_isEntry_170 : decode cX9_isEntry 170 = .ok (.dup, 1) := by decide +kernel
theorem dX9_isEntry_171 : decode cX9_isEntry 171 = .ok (.getfield 160, 3) := by decide +kernel
theorem dX9_isEntry_174 : decode cX9_isEntry 174 = .ok (.iconst 1, 1) := by decide +kernel
theorem dX9_isEntry_175 : decode cX9_isEntry 175 = .ok (.iadd, 1) := by decide +kernel
theorem dX9_isEntry_176 : decode cX9_isEntry 176 = .ok (.putfield 160, 3) := by decide +kernel
theorem dX9_isEntry_179 : decode cX9_isEntry 179 = .ok (.aload_n 0, 1) := by decide +kernel
theorem dX9_isEntry_180 : decode cX9_isEntry 180 = .ok (.getfield 32, 3) := by decide +kernel
theorem dX9_isEntry_183 : decode cX9_isEntry 183 = .ok (.iload_n 1, 1) := by decide +kernel
theorem dX9_isEntry_184 : decode cX9_isEntry 184 = .ok (.iconst 3, 1) := by decide +kernel
theorem dX9_isEntry_185 : decode cX9_isEntry 185 = .ok (.iadd, 1) := by decide +kernel
theorem dX9_isEntry_186 : decode cX9_isEntry 186 = .ok (.iaload, 1) := by decide +kernel
theorem dX9_isEntry_187 : decode cX9_isEntry 187 = .ok (.ifCond .lt 16, 3) := by decide +kernel
theorem dX9_isEntry_190 : decode cX9_isEntry 190 = .ok (.aload_n 0, 1) := by decide +kernel
theorem dX9_isEntry_191 : decode cX9_isEntry 191 = .ok (.bipush 59, 2) := by decide +kernel
theorem dX9_isEntry_193 : decode cX9_isEntry 193 = .ok (.invokevirtual 166, 3) := by decide +kernel
theorem dX9_isEntry_196 : decode cX9_isEntry 196 = .ok (.ifCond .eq 7, 3) := by decide +kernel
theorem dX9_isEntry_199 : decode cX9_isEntry 199 = .ok (.iconst 1, 1) := by decide +kernel
theorem dX9_isEntry_200 : decode cX9_isEntry 200 = .ok (.goto 4, 3) := by decide +kernel
theorem dX9_isEntry_203 : decode cX9_isEntry 203 = .ok (.iconst 0, 1) := by decide +kernel
theorem dX9_isEntry_204 : decode cX9_isEntry 204 = .ok (.ireturn, 1) := by decide +kernel
theorem dX9_isText_0 : decode cX9_isText 0 = .ok (.aload_n 0, 1) := by decide +kernel
theorem dX9_isText_1 : decode cX9_isText 1 = .ok (.iconst 0, 1) := by decide +kernel
theorem dX9_isText_2 : decode cX9_isText 2 = .ok (.putfield 154, 3) := by decide +kernel
theorem dX9_isText_5 : decode cX9_isText 5 = .ok (.aload_n 0, 1) := by decide +kernel
theorem dX9_isText_6 : decode cX9_isText 6 = .ok (.iconst 0, 1) := by decide +kernel
theorem dX9_isText_7 : decode cX9_isText 7 = .ok (.putfield 160, 3) := by decide +kernel
theorem dX9_isText_10 : decode cX9_isText 10 = .ok (.iconst 1, 1) := by decide +kernel
theorem dX9_isText_11 : decode cX9_isText 11 = .ok (.istore_n 1, 1) := by decide +kernel
theorem dX9_isText_12 : decode cX9_isText 12 = .ok (.iload_n 1, 1) := by decide +kernel
theorem dX9_isText_13 : decode cX9_isText 13 = .ok (.ifCond .eq 22, 3) := by decide +kernel
theorem dX9_isText_16 : decode cX9_isText 16 = .ok (.aload_n 0, 1) := by decide +kernel
theorem dX9_isText_17 : decode cX9_isText 17 = .ok (.getfield 154, 3) := by decide +kernel
theorem dX9_isText_20 : decode cX9_isText 20 = .ok (.aload_n 0, 1) := by decide +kernel
theorem dX9_isText_21 : decode cX9_isText 21 = .ok (.getfield 150, 3) := by decide +kernel
theorem dX9_isText_24 : decode cX9_isText 24 = .ok (.if_icmp .ge 11, 3) := by decide +kernel
theorem dX9_isText_27 : decode cX9_isText 27 = .ok (.aload_n 0, 1) := by decide +kernel
theorem dX9_isText_28 : decode cX9_isText 28 = .ok (.invokevirtual 168, 3) := by decide +kernel
theorem dX9_isText_31 : decode cX9_isText 31 = .ok (.istore_n 1, 1) := by decide +kernel
theorem dX9_isText_32 : decode cX9_isText 32 = .ok (.goto (-20), 3) := by decide +kernel
theorem dX9_isText_35 : decode cX9_isText 35 = .ok (.iload_n 1, 1) := by decide +kernel
theorem dX9_isText_36 : decode cX9_isText 36 = .ok (.ireturn, 1) := by decide +kernel
theorem dX9_faultPosition_0 : decode cX9_faultPosition 0 = .ok (.aload_n 0, 1) := by decide +kernel
theorem dX9_faultPosition_1 : decode cX9_faultPosition 1 = .ok (.invokevirtual 171, 3) := by decide +kernel
theorem dX9_faultPosition_4 : decode cX9_faultPosition 4 = .ok (.ifCond .eq 9, 3) := by decide +kernel
theorem dX9_faultPosition_7 : decode cX9_faultPosition 7 = .ok (.sipush (-1004), 3) := by decide +kernel
theorem dX9_faultPosition_10 : decode cX9_faultPosition 10 = .ok (.goto 7, 3) := by decide +kernel
theorem dX9_faultPosition_13 : decode cX9_faultPosition 13 = .ok (.aload_n 0, 1) := by decide +kernel
theorem dX9_faultPosition_14 : decode cX9_faultPosition 14 = .ok (.getfield 154, 3) := by decide +kernel
theorem dX9_faultPosition_17 : decode cX9_faultPosition 17 = .ok (.ireturn, 1) := by decide +kernel
theorem dX9_isArrival_0 : decode cX9_isArrival 0 = .ok (.aload_n 0, 1) := by decide +kernel
theorem dX9_isArrival_1 : decode cX9_isArrival 1 = .ok (.getfield 32, 3) := by decide +kernel
theorem dX9_isArrival_4 : decode cX9_isArrival 4 = .ok (.iload_n 1, 1) := by decide +kernel
theorem dX9_isArrival_5 : decode cX9_isArrival 5 = .ok (.iaload, 1) := by decide +kernel
theorem dX9_isArrival_6 : decode cX9_isArrival 6 = .ok (.ifCond .ne 17, 3) := by decide +kernel
theorem dX9_isArrival_9 : decode cX9_isArrival 9 = .ok (.aload_n 0, 1) := by decide +kernel
theorem dX9_isArrival_10 : decode cX9_isArrival 10 = .ok (.getfield 32, 3) := by decide +kernel
theorem dX9_isArrival_13 : decode cX9_isArrival 13 = .ok (.iload_n 1, 1) := by decide +kernel
theorem dX9_isArrival_14 : decode cX9_isArrival 14 = .ok (.iconst 1, 1) := by decide +kernel
theorem dX9_isArrival_15 : decode cX9_isArrival 15 = .ok (.iadd, 1) := by decide +kernel
theorem dX9_isArrival_16 : decode cX9_isArrival 16 = .ok (.iaload, 1) := by decide +kernel
theorem dX9_isArrival_17 : decode cX9_isArrival 17 = .ok (.invokestatic 84, 3) := by decide +kernel
theorem dX9_isArrival_20 : decode cX9_isArrival 20 = .ok (.goto 38, 3) := by decide +kernel
theorem dX9_isArrival_23 : decode cX9_isArrival 23 = .ok (.aload_n 0, 1) := by decide +kernel
theorem dX9_isArrival_24 : decode cX9_isArrival 24 = .ok (.aload_n 0, 1) := by decide +kernel
theorem dX9_isArrival_25 : decode cX9_isArrival 25 = .ok (.getfield 32, 3) := by decide +kernel
theorem dX9_isArrival_28 : decode cX9_isArrival 28 = .ok (.iload_n 1, 1) := by decide +kernel
theorem dX9_isArrival_29 : decode cX9_isArrival 29 = .ok (.iaload, 1) := by decide +kernel
theorem dX9_isArrival_30 : decode cX9_isArrival 30 = .ok (.iconst 1, 1) := by decide +kernel
theorem dX9_isArrival_31 : decode cX9_isArrival 31 = .ok (.if_icmp .ne 7, 3) := by decide +kernel
theorem dX9_isArrival_34 : decode cX9_isArrival 34 = .ok (.iconst 1, 1) := by decide +kernel
theorem dX9_isArrival_35 : decode cX9_isArrival 35 = .ok (.goto 4, 3) := by decide +kernel
theorem dX9_isArrival_38 : decode cX9_isArrival 38 = .ok (.iconst 0, 1) := by decide +kernel
theorem dX9_isArrival_39 : decode cX9_isArrival 39 = .ok (.aload_n 0, 1) := by decide +kernel
theorem dX9_isArrival_40 : decode cX9_isArrival 40 = .ok (.getfield 32, 3) := by decide +kernel
theorem dX9_isArrival_43 : decode cX9_isArrival 43 = .ok (.iload_n 1, 1) := by decide +kernel
theorem dX9_isArrival_44 : decode cX9_isArrival 44 = .ok (.iconst 1, 1) := by decide +kernel
theorem dX9_isArrival_45 : decode cX9_isArrival 45 = .ok (.iadd, 1) := by decide +kernel
theorem dX9_isArrival_46 : decode cX9_isArrival 46 = .ok (.iaload, 1) := by decide +kernel
theorem dX9_isArrival_47 : decode cX9_isArrival 47 = .ok (.aload_n 0, 1) := by decide +kernel
theorem dX9_isArrival_48 : decode cX9_isArrival 48 = .ok (.getfield 32, 3) := by decide +kernel
theorem dX9_isArrival_51 : decode cX9_isArrival 51 = .ok (.iload_n 1, 1) := by decide +kernel
theorem dX9_isArrival_52 : decode cX9_isArrival 52 = .ok (.iconst 2, 1) := by decide +kernel
theorem dX9_isArrival_53 : decode cX9_isArrival 53 = .ok (.iadd, 1) := by decide +kernel
theorem dX9_isArrival_54 : decode cX9_isArrival 54 = .ok (.iaload, 1) := by decide +kernel
theorem dX9_isArrival_55 : decode cX9_isArrival 55 = .ok (.invokevirtual 91, 3) := by decide +kernel
theorem dX9_isArrival_58 : decode cX9_isArrival 58 = .ok (.istore_n 2, 1) := by decide +kernel
theorem dX9_isArrival_59 : decode cX9_isArrival 59 = .ok (.iload_n 2, 1) := by decide +kernel
theorem dX9_isArrival_60 : decode cX9_isArrival 60 = .ok (.ifCond .eq 25, 3) := by decide +kernel
theorem dX9_isArrival_63 : decode cX9_isArrival 63 = .ok (.aload_n 0, 1) := by decide +kernel
theorem dX9_isArrival_64 : decode cX9_isArrival 64 = .ok (.getfield 32, 3) := by decide +kernel
theorem dX9_isArrival_67 : decode cX9_isArrival 67 = .ok (.iload_n 1, 1) := by decide +kernel
theorem dX9_isArrival_68 : decode cX9_isArrival 68 = .ok (.iconst 3, 1) := by decide +kernel
theorem dX9_isArrival_69 : decode cX9_isArrival 69 = .ok (.iadd, 1) := by decide +kernel
theorem dX9_isArrival_70 : decode cX9_isArrival 70 = .ok (.iaload, 1) := by decide +kernel
theorem dX9_isArrival_71 : decode cX9_isArrival 71 = .ok (.aload_n 0, 1) := by decide +kernel
theorem dX9_isArrival_72 : decode cX9_isArrival 72 = .ok (.getfield 7, 3) := by decide +kernel
theorem dX9_isArrival_75 : decode cX9_isArrival 75 = .ok (.bipush 9, 2) := by decide +kernel
theorem dX9_isArrival_77 : decode cX9_isArrival 77 = .ok (.iaload, 1) := by decide +kernel
theorem dX9_isArrival_78 : decode cX9_isArrival 78 = .ok (.if_icmp .le 7, 3) := by decide +kernel
theorem dX9_isArrival_81 : decode cX9_isArrival 81 = .ok (.iconst 1, 1) := by decide +kernel
theorem dX9_isArrival_82 : decode cX9_isArrival 82 = .ok (.goto 4, 3) := by decide +kernel
theorem dX9_isArrival_85 : decode cX9_isArrival 85 = .ok (.iconst 0, 1) := by decide +kernel
theorem dX9_isArrival_86 : decode cX9_isArrival 86 = .ok (.ireturn, 1) := by decide +kernel
theorem dX9_schedule_0 : decode cX9_schedule 0 = .ok (.aload_n 0, 1) := by decide +kernel
theorem dX9_schedule_1 : decode cX9_schedule 1 = .ok (.invokevirtual 171, 3) := by decide +kernel
theorem dX9_schedule_4 : decode cX9_schedule 4 = .ok (.ifCond .ne 7, 3) := by decide +kernel
theorem dX9_schedule_7 : decode cX9_schedule 7 = .ok (.sipush (-1003), 3) := by decide +kernel
theorem dX9_schedule_10 : decode cX9_schedule 10 = .ok (.ireturn, 1) := by decide +kernel
theorem dX9_schedule_11 : decode cX9_schedule 11 = .ok (.iconst 0, 1) := by decide +kernel
theorem dX9_schedule_12 : decode cX9_schedule 12 = .ok (.istore_n 1, 1) := by decide +kernel
theorem dX9_schedule_13 : decode cX9_schedule 13 = .ok (.iload_n 1, 1) := by decide +kernel
theorem dX9_schedule_14 : decode cX9_schedule 14 = .ok (.aload_n 0, 1) := by decide +kernel
theorem dX9_schedule_15 : decode cX9_schedule 15 = .ok (.getfield 160, 3) := by decide +kernel
theorem dX9_schedule_18 : decode cX9_schedule 18 = .ok (.if_icmp .ge 23, 3) := by decide +kernel
theorem dX9_schedule_21 : decode cX9_schedule 21 = .ok (.aload_n 0, 1) := by decide +kernel
theorem dX9_schedule_22 : decode cX9_schedule 22 = .ok (.iconst 4, 1) := by decide +kernel
theorem dX9_schedule_23 : decode cX9_schedule 23 = .ok (.iload_n 1, 1) := by decide +kernel
theorem dX9_schedule_24 : decode cX9_schedule 24 = .ok (.imul, 1) := by decide +kernel
theorem dX9_schedule_25 : decode cX9_schedule 25 = .ok (.invokevirtual 174, 3) := by decide +kernel
theorem dX9_schedule_28 : decode cX9_schedule 28 = .ok (.ifCond .ne 7, 3) := by decide +kernel
theorem dX9_schedule_31 : decode cX9_schedule 31 = .ok (.sipush (-1001), 3) := by decide +kernel
theorem dX9_schedule_34 : decode cX9_schedule 34 = .ok (.ireturn, 1) := by decide +kernel
theorem dX9_schedule_35 : decode cX9_schedule 35 = .ok (.iinc 1 1, 3) := by decide +kernel
theorem dX9_schedule_38 : decode cX9_schedule 38 = .ok (.goto (-25), 3) := by decide +kernel
theorem dX9_schedule_41 : decode cX9_schedule 41 = .ok (.aload_n 0, 1) := by decide +kernel
theorem dX9_schedule_42 : decode cX9_schedule 42 = .ok (.getfield 7, 3) := by decide +kernel
theorem dX9_schedule_45 : decode cX9_schedule 45 = .ok (.bipush 25, 2) := by decide +kernel
theorem dX9_schedule_47 : decode cX9_schedule 47 = .ok (.iaload, 1) := by decide +kernel
theorem dX9_schedule_48 : decode cX9_schedule 48 = .ok (.aload_n 0, 1) := by decide +kernel
theorem dX9_schedule_49 : decode cX9_schedule 49 = .ok (.getfield 160, 3) := by decide +kernel
theorem dX9_schedule_52 : decode cX9_schedule 52 = .ok (.iadd, 1) := by decide +kernel
theorem dX9_schedule_53 : decode cX9_schedule 53 = .ok (.bipush 24, 2) := by decide +kernel
theorem dX9_schedule_55 : decode cX9_schedule 55 = .ok (.if_icmp .le 7, 3) := by decide +kernel
theorem dX9_schedule_58 : decode cX9_schedule 58 = .ok (.sipush (-1002), 3) := by decide +kernel
theorem dX9_schedule_61 : decode cX9_schedule 61 = .ok (.ireturn, 1) := by decide +kernel
theorem dX9_schedule_62 : decode cX9_schedule 62 = .ok (.iconst 0, 1) := by decide +kernel
theorem dX9_schedule_63 : decode cX9_schedule 63 = .ok (.istore_n 1, 1) := by decide +kernel
theorem dX9_schedule_64 : decode cX9_schedule 64 = .ok (.iload_n 1, 1) := by decide +kernel
theorem dX9_schedule_65 : decode cX9_schedule 65 = .ok (.iconst 4, 1) := by decide +kernel
theorem dX9_schedule_66 : decode cX9_schedule 66 = .ok (.aload_n 0, 1) := by decide +kernel
theorem dX9_schedule_67 : decode cX9_schedule 67 = .ok (.getfield 160, 3) := by decide +kernel
theorem dX9_schedule_70 : decode cX9_schedule 70 = .ok (.imul, 1) := by decide +kernel
theorem dX9_schedule_71 : decode cX9_schedule 71 = .ok (.if_icmp .ge 35, 3) := by decide +kernel
theorem dX9_schedule_74 : decode cX9_schedule 74 = .ok (.aload_n 0, 1) := by decide +kernel
theorem dX9_schedule_75 : decode cX9_schedule 75 = .ok (.getfield 7, 3) := by decide +kernel
theorem dX9_schedule_78 : decode cX9_schedule 78 = .ok (.sipush 2388, 3) := by decide +kernel
theorem dX9_schedule_81 : decode cX9_schedule 81 = .ok (.iconst 4, 1) := by decide +kernel
theorem dX9_schedule_82 : decode cX9_schedule 82 = .ok (.aload_n 0, 1) := by decide +kernel
theorem dX9_schedule_83 : decode cX9_schedule 83 = .ok (.getfield 7, 3) := by decide +kernel
theorem dX9_schedule_86 : decode cX9_schedule 86 = .ok (.bipush 25, 2) := by decide +kernel
theorem dX9_schedule_88 : decode cX9_schedule 88 = .ok (.iaload, 1) := by decide +kernel
theorem dX9_schedule_89 : decode cX9_schedule 89 = .ok (.imul, 1) := by decide +kernel
theorem dX9_schedule_90 : decode cX9_schedule 90 = .ok (.iadd, 1) := by decide +kernel
theorem dX9_schedule_91 : decode cX9_schedule 91 = .ok (.iload_n 1, 1) := by decide +kernel
theorem dX9_schedule_92 : decode cX9_schedule 92 = .ok (.iadd, 1) := by decide +kernel
theorem dX9_schedule_93 : decode cX9_schedule 93 = .ok (.aload_n 0, 1) := by decide +kernel
theorem dX9_schedule_94 : decode cX9_schedule 94 = .ok (.getfield 32, 3) := by decide +kernel
theorem dX9_schedule_97 : decode cX9_schedule 97 = .ok (.iload_n 1, 1) := by decide +kernel
theorem dX9_schedule_98 : decode cX9_schedule 98 = .ok (.iaload, 1) := by decide +kernel
theorem dX9_schedule_99 : decode cX9_schedule 99 = .ok (.iastore, 1) := by decide +kernel
theorem dX9_schedule_100 : decode cX9_schedule 100 = .ok (.iinc 1 1, 3) := by decide +kernel
theorem dX9_schedule_103 : decode cX9_schedule 103 = .ok (.goto (-39), 3) := by decide +kernel
theorem dX9_schedule_106 : decode cX9_schedule 106 = .ok (.aload_n 0, 1) := by decide +kernel
theorem dX9_schedule_107 : decode cX9_schedule 107 = .ok (.getfield 7, 3) := by decide +kernel
theorem dX9_schedule_110 : decode cX9_schedule 110 = .ok (.bipush 25, 2) := by decide +kernel
theorem dX9_schedule_112 : decode cX9_schedule 112 = .ok (.dup2, 1) := by decide +kernel
theorem dX9_schedule_113 : decode cX9_schedule 113 = .ok (.iaload, 1) := by decide +kernel
theorem dX9_schedule_114 : decode cX9_schedule 114 = .ok (.aload_n 0, 1) := by decide +kernel
theorem dX9_schedule_115 : decode cX9_schedule 115 = .ok (.getfield 160, 3) := by decide +kernel
theorem dX9_schedule_118 : decode cX9_schedule 118 = .ok (.iadd, 1) := by decide +kernel
theorem dX9_schedule_119 : decode cX9_schedule 119 = .ok (.iastore, 1) := by decide +kernel
theorem dX9_schedule_120 : decode cX9_schedule 120 = .ok (.aload_n 0, 1) := by decide +kernel
theorem dX9_schedule_121 : decode cX9_schedule 121 = .ok (.getfield 160, 3) := by decide +kernel
theorem dX9_schedule_124 : decode cX9_schedule 124 = .ok (.ireturn, 1) := by decide +kernel
theorem dX9_scheduled_0 : decode cX9_scheduled 0 = .ok (.aload_n 0, 1) := by decide +kernel
theorem dX9_scheduled_1 : decode cX9_scheduled 1 = .ok (.getfield 7, 3) := by decide +kernel
theorem dX9_scheduled_4 : decode cX9_scheduled 4 = .ok (.bipush 25, 2) := by decide +kernel
theorem dX9_scheduled_6 : decode cX9_scheduled 6 = .ok (.iaload, 1) := by decide +kernel
theorem dX9_scheduled_7 : decode cX9_scheduled 7 = .ok (.ireturn, 1) := by decide +kernel
theorem dX9_keep_0 : decode cX9_keep 0 = .ok (.iload_n 1, 1) := by decide +kernel
theorem dX9_keep_1 : decode cX9_keep 1 = .ok (.iconst 0, 1) := by decide +kernel
theorem dX9_keep_2 : decode cX9_keep 2 = .ok (.iconst 1, 1) := by decide +kernel
theorem dX9_keep_3 : decode cX9_keep 3 = .ok (.invokestatic 35, 3) := by decide +kernel
theorem dX9_keep_6 : decode cX9_keep 6 = .ok (.ifCond .ne 7, 3) := by decide +kernel
theorem dX9_keep_9 : decode cX9_keep 9 = .ok (.sipush (-1001), 3) := by decide +kernel
theorem dX9_keep_12 : decode cX9_keep 12 = .ok (.ireturn, 1) := by decide +kernel
theorem dX9_keep_13 : decode cX9_keep 13 = .ok (.iconst 0, 1) := by decide +kernel
theorem dX9_keep_14 : decode cX9_keep 14 = .ok (.istore_n 2, 1) := by decide +kernel
theorem dX9_keep_15 : decode cX9_keep 15 = .ok (.iload_n 2, 1) := by decide +kernel
theorem dX9_keep_16 : decode cX9_keep 16 = .ok (.sipush 2484, 3) := by decide +kernel
theorem dX9_keep_19 : decode cX9_keep 19 = .ok (.if_icmp .ge 27, 3) := by decide +kernel
theorem dX9_keep_22 : decode cX9_keep 22 = .ok (.aload_n 0, 1) := by decide +kernel
theorem dX9_keep_23 : decode cX9_keep 23 = .ok (.getfield 16, 3) := by decide +kernel
theorem dX9_keep_26 : decode cX9_keep 26 = .ok (.sipush 2484, 3) := by decide +kernel
theorem dX9_keep_29 : decode cX9_keep 29 = .ok (.iload_n 1, 1) := by decide +kernel
theorem dX9_keep_30 : decode cX9_keep 30 = .ok (.imul, 1) := by decide +kernel
theorem dX9_keep_31 : decode cX9_keep 31 = .ok (.iload_n 2, 1) := by decide +kernel
theorem dX9_keep_32 : decode cX9_keep 32 = .ok (.iadd, 1) := by decide +kernel
theorem dX9_keep_33 : decode cX9_keep 33 = .ok (.aload_n 0, 1) := by decide +kernel
theorem dX9_keep_34 : decode cX9_keep 34 = .ok (.getfield 7, 3) := by decide +kernel
theorem dX9_keep_37 : decode cX9_keep 37 = .ok (.iload_n 2, 1) := by decide +kernel
theorem dX9_keep_38 : decode cX9_keep 38 = .ok (.iaload, 1) := by decide +kernel
theorem dX9_keep_39 : decode cX9_keep 39 = .ok (.iastore, 1) := by decide +kernel
theorem dX9_keep_40 : decode cX9_keep 40 = .ok (.iinc 2 1, 3) := by decide +kernel
theorem dX9_keep_43 : decode cX9_keep 43 = .ok (.goto (-28), 3) := by decide +kernel
theorem dX9_keep_46 : decode cX9_keep 46 = .ok (.aload_n 0, 1) := by decide +kernel
theorem dX9_keep_47 : decode cX9_keep 47 = .ok (.getfield 19, 3) := by decide +kernel
theorem dX9_keep_50 : decode cX9_keep 50 = .ok (.iload_n 1, 1) := by decide +kernel
theorem dX9_keep_51 : decode cX9_keep 51 = .ok (.iconst 1, 1) := by decide +kernel
theorem dX9_keep_52 : decode cX9_keep 52 = .ok (.bastore, 1) := by decide +kernel
theorem dX9_keep_53 : decode cX9_keep 53 = .ok (.aload_n 0, 1) := by decide +kernel
theorem dX9_keep_54 : decode cX9_keep 54 = .ok (.getfield 7, 3) := by decide +kernel
theorem dX9_keep_57 : decode cX9_keep 57 = .ok (.bipush 9, 2) := by decide +kernel
theorem dX9_keep_59 : decode cX9_keep 59 = .ok (.iaload, 1) := by decide +kernel
theorem dX9_keep_60 : decode cX9_keep 60 = .ok (.ireturn, 1) := by decide +kernel
theorem dX9_restore_0 : decode cX9_restore 0 = .ok (.iload_n 1, 1) := by decide +kernel
theorem dX9_restore_1 : decode cX9_restore 1 = .ok (.iconst 0, 1) := by decide +kernel
theorem dX9_restore_2 : decode cX9_restore 2 = .ok (.iconst 1, 1) := by decide +kernel
theorem dX9_restore_3 : decode cX9_restore 3 = .ok (.invokestatic 35, 3) := by decide +kernel
theorem dX9_restore_6 : decode cX9_restore 6 = .ok (.ifCond .ne 7, 3) := by decide +kernel
theorem dX9_restore_9 : decode cX9_restore 9 = .ok (.sipush (-1001), 3) := by decide +kernel
theorem dX9_restore_12 : decode cX9_restore 12 = .ok (.ireturn, 1) := by decide +kernel
theorem dX9_restore_13 : decode cX9_restore 13 = .ok (.aload_n 0, 1) := by decide +kernel
theorem dX9_restore_14 : decode cX9_restore 14 = .ok (.getfield 19, 3) := by decide +kernel
theorem dX9_restore_17 : decode cX9_restore 17 = .ok (.iload_n 1, 1) := by decide +kernel
theorem dX9_restore_18 : decode cX9_restore 18 = .ok (.baload, 1) := by decide +kernel
theorem dX9_restore_19 : decode cX9_restore 19 = .ok (.ifCond .ne 7, 3) := by decide +kernel
theorem dX9_restore_22 : decode cX9_restore 22 = .ok (.sipush (-1003), 3) := by decide +kernel
theorem dX9_restore_25 : decode cX9_restore 25 = .ok (.ireturn, 1) := by decide +kernel
theorem dX9_restore_26 : decode cX9_restore 26 = .ok (.iconst 0, 1) := by decide +kernel
theorem dX9_restore_27 : decode cX9_restore 27 = .ok (.istore_n 2, 1) := by decide +kernel
theorem dX9_restore_28 : decode cX9_restore 28 = .ok (.iload_n 2, 1) := by decide +kernel
theorem dX9_restore_29 : decode cX9_restore 29 = .ok (.sipush 2484, 3) := by decide +kernel
theorem dX9_restore_32 : decode cX9_restore 32 = .ok (.if_icmp .ge 27, 3) := by decide +kernel
theorem dX9_restore_35 : decode cX9_restore 35 = .ok (.aload_n 0, 1) := by decide +kernel
theorem dX9_restore_36 : decode cX9_restore 36 = .ok (.getfield 7, 3) := by decide +kernel
theorem dX9_restore_39 : decode cX9_restore 39 = .ok (.iload_n 2, 1) := by decide +kernel
theorem dX9_restore_40 : decode cX9_restore 40 = .ok (.aload_n 0, 1) := by decide +kernel
theorem dX9_restore_41 : decode cX9_restore 41 = .ok (.getfield 16, 3) := by decide +kernel
theorem dX9_restore_44 : decode cX9_restore 44 = .ok (.sipush 2484, 3) := by decide +kernel
theorem dX9_restore_47 : decode cX9_restore 47 = .ok (.iload_n 1, 1) := by decide +kernel
theorem dX9_restore_48 : decode cX9_restore 48 = .ok (.imul, 1) := by decide +kernel
theorem dX9_restore_49 : decode cX9_restore 49 = .ok (.iload_n 2, 1) := by decide +kernel
theorem dX9_restore_50 : decode cX9_restore 50 = .ok (.iadd, 1) := by decide +kernel
theorem dX9_restore_51 : decode cX9_restore 51 = .ok (.iaload, 1) := by decide +kernel
theorem dX9_restore_52 : decode cX9_restore 52 = .ok (.iastore, 1) := by decide +kernel
theorem dX9_restore_53 : decode cX9_restore 53 = .ok (.iinc 2 1, 3) := by decide +kernel
theorem dX9_restore_56 : decode cX9_restore 56 = .ok (.goto (-28), 3) := by decide +kernel
theorem dX9_restore_59 : decode cX9_restore 59 = .ok (.aload_n 0, 1) := by decide +kernel
theorem dX9_restore_60 : decode cX9_restore 60 = .ok (.getfield 7, 3) := by decide +kernel
theorem dX9_restore_63 : decode cX9_restore 63 = .ok (.bipush 9, 2) := by decide +kernel
theorem dX9_restore_65 : decode cX9_restore 65 = .ok (.iaload, 1) := by decide +kernel
theorem dX9_restore_66 : decode cX9_restore 66 = .ok (.ireturn, 1) := by decide +kernel
theorem dX9_more_0 : decode cX9_more 0 = .ok (.ldc2_w 177, 3) := by decide +kernel
theorem dX9_more_3 : decode cX9_more 3 = .ok (.lload_n 0, 1) := by decide +kernel
theorem dX9_more_4 : decode cX9_more 4 = .ok (.lmul, 1) := by decide +kernel
theorem dX9_more_5 : decode cX9_more 5 = .ok (.iload_n 2, 1) := by decide +kernel
theorem dX9_more_6 : decode cX9_more 6 = .ok (.i2l, 1) := by decide +kernel
theorem dX9_more_7 : decode cX9_more 7 = .ok (.ladd, 1) := by decide +kernel
theorem dX9_more_8 : decode cX9_more 8 = .ok (.lreturn, 1) := by decide +kernel
theorem dX9_checksum_0 : decode cX9_checksum 0 = .ok (.ldc2_w 179, 3) := by decide +kernel
theorem dX9_checksum_3 : decode cX9_checksum 3 = .ok (.aload_n 0, 1) := by decide +kernel
theorem dX9_checksum_4 : decode cX9_checksum 4 = .ok (.getfield 7, 3) := by decide +kernel
theorem dX9_checksum_7 : decode cX9_checksum 7 = .ok (.bipush 9, 2) := by decide +kernel
theorem dX9_checksum_9 : decode cX9_checksum 9 = .ok (.iaload, 1) := by decide +kernel
theorem dX9_checksum_10 : decode cX9_checksum 10 = .ok (.invokestatic 181, 3) := by decide +kernel
theorem dX9_checksum_13 : decode cX9_checksum 13 = .ok (.aload_n 0, 1) := by decide +kernel
theorem dX9_checksum_14 : decode cX9_checksum 14 = .ok (.invokevirtual 185, 3) := by decide +kernel
theorem dX9_checksum_17 : decode cX9_checksum 17 = .ok (.invokestatic 181, 3) := by decide +kernel
theorem dX9_checksum_20 : decode cX9_checksum 20 = .ok (.aload_n 0, 1) := by decide +kernel
theorem dX9_checksum_21 : decode cX9_checksum 21 = .ok (.getfield 7, 3) := by decide +kernel
theorem dX9_checksum_24 : decode cX9_checksum 24 = .ok (.bipush 12, 2) := by decide +kernel
theorem dX9_checksum_26 : decode cX9_checksum 26 = .ok (.iaload, 1) := by decide +kernel
theorem dX9_checksum_27 : decode cX9_checksum 27 = .ok (.invokestatic 181, 3) := by decide +kernel
theorem dX9_checksum_30 : decode cX9_checksum 30 = .ok (.lstore_n 1, 1) := by decide +kernel
theorem dX9_checksum_31 : decode cX9_checksum 31 = .ok (.lload_n 1, 1) := by decide +kernel
theorem dX9_checksum_32 : decode cX9_checksum 32 = .ok (.aload_n 0, 1) := by decide +kernel
theorem dX9_checksum_33 : decode cX9_checksum 33 = .ok (.invokevirtual 188, 3) := by decide +kernel
theorem dX9_checksum_36 : decode cX9_checksum 36 = .ok (.invokestatic 181, 3) := by decide +kernel
theorem dX9_checksum_39 : decode cX9_checksum 39 = .ok (.aload_n 0, 1) := by decide +kernel
theorem dX9_checksum_40 : decode cX9_checksum 40 = .ok (.invokevirtual 191, 3) := by decide +kernel
theorem dX9_checksum_43 : decode cX9_checksum 43 = .ok (.invokestatic 181, 3) := by decide +kernel
theorem dX9_checksum_46 : decode cX9_checksum 46 = .ok (.aload_n 0, 1) := by decide +kernel
theorem dX9_checksum_47 : decode cX9_checksum 47 = .ok (.invokevirtual 110, 3) := by decide +kernel
theorem dX9_checksum_50 : decode cX9_checksum 50 = .ok (.invokestatic 181, 3) := by decide +kernel
theorem dX9_checksum_53 : decode cX9_checksum 53 = .ok (.lstore_n 1, 1) := by decide +kernel
theorem dX9_checksum_54 : decode cX9_checksum 54 = .ok (.lload_n 1, 1) := by decide +kernel
theorem dX9_checksum_55 : decode cX9_checksum 55 = .ok (.aload_n 0, 1) := by decide +kernel
theorem dX9_checksum_56 : decode cX9_checksum 56 = .ok (.invokevirtual 194, 3) := by decide +kernel
theorem dX9_checksum_59 : decode cX9_checksum 59 = .ok (.invokestatic 181, 3) := by decide +kernel
theorem dX9_checksum_62 : decode cX9_checksum 62 = .ok (.aload_n 0, 1) := by decide +kernel
theorem dX9_checksum_63 : decode cX9_checksum 63 = .ok (.getfield 7, 3) := by decide +kernel
theorem dX9_checksum_66 : decode cX9_checksum 66 = .ok (.bipush 24, 2) := by decide +kernel
theorem dX9_checksum_68 : decode cX9_checksum 68 = .ok (.iaload, 1) := by decide +kernel
theorem dX9_checksum_69 : decode cX9_checksum 69 = .ok (.invokestatic 181, 3) := by decide +kernel
theorem dX9_checksum_72 : decode cX9_checksum 72 = .ok (.lstore_n 1, 1) := by decide +kernel
theorem dX9_checksum_73 : decode cX9_checksum 73 = .ok (.lload_n 1, 1) := by decide +kernel
theorem dX9_checksum_74 : decode cX9_checksum 74 = .ok (.aload_n 0, 1) := by decide +kernel
theorem dX9_checksum_75 : decode cX9_checksum 75 = .ok (.getfield 7, 3) := by decide +kernel
theorem dX9_checksum_78 : decode cX9_checksum 78 = .ok (.bipush 19, 2) := by decide +kernel
theorem dX9_checksum_80 : decode cX9_checksum 80 = .ok (.iaload, 1) := by decide +kernel
theorem dX9_checksum_81 : decode cX9_checksum 81 = .ok (.invokestatic 181, 3) := by decide +kernel
theorem dX9_checksum_84 : decode cX9_checksum 84 = .ok (.aload_n 0, 1) := by decide +kernel
theorem dX9_checksum_85 : decode cX9_checksum 85 = .ok (.getfield 7, 3) := by decide +kernel
theorem dX9_checksum_88 : decode cX9_checksum 88 = .ok (.bipush 20, 2) := by decide +kernel
theorem dX9_checksum_90 : decode cX9_checksum 90 = .ok (.iaload, 1) := by decide +kernel
theorem dX9_checksum_91 : decode cX9_checksum 91 = .ok (.invokestatic 181, 3) := by decide +kernel
theorem dX9_checksum_94 : decode cX9_checksum 94 = .ok (.aload_n 0, 1) := by decide +kernel
theorem dX9_checksum_95 : decode cX9_checksum 95 = .ok (.getfield 7, 3) := by decide +kernel
theorem dX9_checksum_98 : decode cX9_checksum 98 = .ok (.bipush 21, 2) := by decide +kernel
theorem dX9_checksum_100 : decode cX9_checksum 100 = .ok (.iaload, 1) := by decide +kernel
theorem dX9_checksum_101 : decode cX9_checksum 101 = .ok (.invokestatic 181, 3) := by decide +kernel
theorem dX9_checksum_104 : decode cX9_checksum 104 = .ok (.lstore_n 1, 1) := by decide +kernel
theorem dX9_checksum_105 : decode cX9_checksum 105 = .ok (.lload_n 1, 1) := by decide +kernel
theorem dX9_checksum_106 : decode cX9_checksum 106 = .ok (.aload_n 0, 1) := by decide +kernel
theorem dX9_checksum_107 : decode cX9_checksum 107 = .ok (.getfield 7, 3) := by decide +kernel
theorem dX9_checksum_110 : decode cX9_checksum 110 = .ok (.bipush 15, 2) := by decide +kernel
theorem dX9_checksum_112 : decode cX9_checksum 112 = .ok (.iaload, 1) := by decide +kernel
theorem dX9_checksum_113 : decode cX9_checksum 113 = .ok (.invokestatic 181, 3) := by decide +kernel
theorem dX9_checksum_116 : decode cX9_checksum 116 = .ok (.aload_n 0, 1) := by decide +kernel
theorem dX9_checksum_117 : decode cX9_checksum 117 = .ok (.getfield 7, 3) := by decide +kernel
theorem dX9_checksum_120 : decode cX9_checksum 120 = .ok (.bipush 16, 2) := by decide +kernel
theorem dX9_checksum_122 : decode cX9_checksum 122 = .ok (.iaload, 1) := by decide +kernel
theorem dX9_checksum_123 : decode cX9_checksum 123 = .ok (.invokestatic 181, 3) := by decide +kernel
theorem dX9_checksum_126 : decode cX9_checksum 126 = .ok (.aload_n 0, 1) := by decide +kernel
theorem dX9_checksum_127 : decode cX9_checksum 127 = .ok (.getfield 7, 3) := by decide +kernel
theorem dX9_checksum_130 : decode cX9_checksum 130 = .ok (.bipush 17, 2) := by decide +kernel
theorem dX9_checksum_132 : decode cX9_checksum 132 = .ok (.iaload, 1) := by decide +kernel
theorem dX9_checksum_133 : decode cX9_checksum 133 = .ok (.invokestatic 181, 3) := by decide +kernel
theorem dX9_checksum_136 : decode cX9_checksum 136 = .ok (.lstore_n 1, 1) := by decide +kernel
theorem dX9_checksum_137 : decode cX9_checksum 137 = .ok (.lload_n 1, 1) := by decide +kernel
theorem dX9_checksum_138 : decode cX9_checksum 138 = .ok (.aload_n 0, 1) := by decide +kernel
theorem dX9_checksum_139 : decode cX9_checksum 139 = .ok (.getfield 7, 3) := by decide +kernel
theorem dX9_checksum_142 : decode cX9_checksum 142 = .ok (.bipush 18, 2) := by decide +kernel
theorem dX9_checksum_144 : decode cX9_checksum 144 = .ok (.iaload, 1) := by decide +kernel
theorem dX9_checksum_145 : decode cX9_checksum 145 = .ok (.invokestatic 181, 3) := by decide +kernel
theorem dX9_checksum_148 : decode cX9_checksum 148 = .ok (.aload_n 0, 1) := by decide +kernel
theorem dX9_checksum_149 : decode cX9_checksum 149 = .ok (.getfield 7, 3) := by decide +kernel
theorem dX9_checksum_152 : decode cX9_checksum 152 = .ok (.bipush 14, 2) := by decide +kernel
theorem dX9_checksum_154 : decode cX9_checksum 154 = .ok (.iaload, 1) := by decide +kernel
theorem dX9_checksum_155 : decode cX9_checksum 155 = .ok (.invokestatic 181, 3) := by decide +kernel
theorem dX9_checksum_158 : decode cX9_checksum 158 = .ok (.aload_n 0, 1) := by decide +kernel
theorem dX9_checksum_159 : decode cX9_checksum 159 = .ok (.getfield 7, 3) := by decide +kernel
theorem dX9_checksum_162 : decode cX9_checksum 162 = .ok (.bipush 25, 2) := by decide +kernel
theorem dX9_checksum_164 : decode cX9_checksum 164 = .ok (.iaload, 1) := by decide +kernel
theorem dX9_checksum_165 : decode cX9_checksum 165 = .ok (.invokestatic 181, 3) := by decide +kernel
theorem dX9_checksum_168 : decode cX9_checksum 168 = .ok (.lstore_n 1, 1) := by decide +kernel
theorem dX9_checksum_169 : decode cX9_checksum 169 = .ok (.iconst 1, 1) := by decide +kernel
theorem dX9_checksum_170 : decode cX9_checksum 170 = .ok (.istore_n 3, 1) := by decide +kernel
theorem dX9_checksum_171 : decode cX9_checksum 171 = .ok (.iload_n 3, 1) := by decide +kernel
theorem dX9_checksum_172 : decode cX9_checksum 172 = .ok (.bipush 64, 2) := by decide +kernel
theorem dX9_checksum_174 : decode cX9_checksum 174 = .ok (.if_icmp .gt 19, 3) := by decide +kernel
theorem dX9_checksum_177 : decode cX9_checksum 177 = .ok (.lload_n 1, 1) := by decide +kernel
theorem dX9_checksum_178 : decode cX9_checksum 178 = .ok (.aload_n 0, 1) := by decide +kernel
theorem dX9_checksum_179 : decode cX9_checksum 179 = .ok (.iload_n 3, 1) := by decide +kernel
theorem dX9_checksum_180 : decode cX9_checksum 180 = .ok (.invokevirtual 197, 3) := by decide +kernel
theorem dX9_checksum_183 : decode cX9_checksum 183 = .ok (.invokestatic 181, 3) := by decide +kernel
theorem dX9_checksum_186 : decode cX9_checksum 186 = .ok (.lstore_n 1, 1) := by decide +kernel
theorem dX9_checksum_187 : decode cX9_checksum 187 = .ok (.iinc 3 1, 3) := by decide +kernel
theorem dX9_checksum_190 : decode cX9_checksum 190 = .ok (.goto (-19), 3) := by decide +kernel
theorem dX9_checksum_193 : decode cX9_checksum 193 = .ok (.iconst 1, 1) := by decide +kernel
theorem dX9_checksum_194 : decode cX9_checksum 194 = .ok (.istore_n 3, 1) := by decide +kernel
theorem dX9_checksum_195 : decode cX9_checksum 195 = .ok (.iload_n 3, 1) := by decide +kernel
theorem dX9_checksum_196 : decode cX9_checksum 196 = .ok (.bipush 16, 2) := by decide +kernel
theorem dX9_checksum_198 : decode cX9_checksum 198 = .ok (.if_icmp .gt 19, 3) := by decide +kernel
theorem dX9_checksum_201 : decode cX9_checksum 201 = .ok (.lload_n 1, 1) := by decide +kernel
theorem dX9_checksum_202 : decode cX9_checksum 202 = .ok (.aload_n 0, 1) := by decide +kernel
theorem dX9_checksum_203 : decode cX9_checksum 203 = .ok (.iload_n 3, 1) := by decide +kernel
theorem dX9_checksum_204 : decode cX9_checksum 204 = .ok (.invokevirtual 200, 3) := by decide +kernel
theorem dX9_checksum_207 : decode cX9_checksum 207 = .ok (.invokestatic 181, 3) := by decide +kernel
theorem dX9_checksum_210 : decode cX9_checksum 210 = .ok (.lstore_n 1, 1) := by decide +kernel
theorem dX9_checksum_211 : decode cX9_checksum 211 = .ok (.iinc 3 1, 3) := by decide +kernel
theorem dX9_checksum_214 : decode cX9_checksum 214 = .ok (.goto (-19), 3) := by decide +kernel
theorem dX9_checksum_217 : decode cX9_checksum 217 = .ok (.iconst 0, 1) := by decide +kernel
theorem dX9_checksum_218 : decode cX9_checksum 218 = .ok (.istore_n 3, 1) := by decide +kernel
theorem dX9_checksum_219 : decode cX9_checksum 219 = .ok (.iload_n 3, 1) := by decide +kernel
theorem dX9_checksum_220 : decode cX9_checksum 220 = .ok (.bipush 100, 2) := by decide +kernel
theorem dX9_checksum_222 : decode cX9_checksum 222 = .ok (.if_icmp .ge 23, 3) := by decide +kernel
theorem dX9_checksum_225 : decode cX9_checksum 225 = .ok (.lload_n 1, 1) := by decide +kernel
theorem dX9_checksum_226 : decode cX9_checksum 226 = .ok (.aload_n 0, 1) := by decide +kernel
theorem dX9_checksum_227 : decode cX9_checksum 227 = .ok (.getfield 7, 3) := by decide +kernel
theorem dX9_checksum_230 : decode cX9_checksum 230 = .ok (.bipush 30, 2) := by decide +kernel
theorem dX9_checksum_232 : decode cX9_checksum 232 = .ok (.iload_n 3, 1) := by decide +kernel
theorem dX9_checksum_233 : decode cX9_checksum 233 = .ok (.iadd, 1) := by decide +kernel
theorem dX9_checksum_234 : decode cX9_checksum 234 = .ok (.iaload, 1) := by decide +kernel
theorem dX9_checksum_235 : decode cX9_checksum 235 = .ok (.invokestatic 181, 3) := by decide +kernel
theorem dX9_checksum_238 : decode cX9_checksum 238 = .ok (.lstore_n 1, 1) := by decide +kernel
theorem dX9_checksum_239 : decode cX9_checksum 239 = .ok (.iinc 3 1, 3) := by decide +kernel
theorem dX9_checksum_242 : decode cX9_checksum 242 = .ok (.goto (-23), 3) := by decide +kernel
theorem dX9_checksum_245 : decode cX9_checksum 245 = .ok (.lload_n 1, 1) := by decide +kernel
theorem dX9_checksum_246 : decode cX9_checksum 246 = .ok (.lreturn, 1) := by decide +kernel
