theorem dX0_init_0 : decode cX0_init 0 = .ok (.aload_n 0, 1) := by decide +kernel
theorem dX0_init_1 : decode cX0_init 1 = .ok (.invokespecial 3, 3) := by decide +kernel
theorem dX0_init_4 : decode cX0_init 4 = .ok (.aload_n 0, 1) := by decide +kernel
theorem dX0_init_5 : decode cX0_init 5 = .ok (.sipush 600, 3) := by decide +kernel
theorem dX0_init_8 : decode cX0_init 8 = .ok (.newarray .int, 2) := by decide +kernel
theorem dX0_init_10 : decode cX0_init 10 = .ok (.putfield 11, 3) := by decide +kernel
theorem dX0_init_13 : decode cX0_init 13 = .ok (.aload_n 0, 1) := by decide +kernel
theorem dX0_init_14 : decode cX0_init 14 = .ok (.iconst 0, 1) := by decide +kernel
theorem dX0_init_15 : decode cX0_init 15 = .ok (.putfield 15, 3) := by decide +kernel
theorem dX0_init_18 : decode cX0_init 18 = .ok (.return_, 1) := by decide +kernel
theorem dX0_add_0 : decode cX0_add 0 = .ok (.aload_n 0, 1) := by decide +kernel
theorem dX0_add_1 : decode cX0_add 1 = .ok (.getfield 15, 3) := by decide +kernel
theorem dX0_add_4 : decode cX0_add 4 = .ok (.sipush 600, 3) := by decide +kernel
theorem dX0_add_7 : decode cX0_add 7 = .ok (.if_icmp .ge 28, 3) := by decide +kernel
theorem dX0_add_10 : decode cX0_add 10 = .ok (.aload_n 0, 1) := by decide +kernel
theorem dX0_add_11 : decode cX0_add 11 = .ok (.getfield 11, 3) := by decide +kernel
theorem dX0_add_14 : decode cX0_add 14 = .ok (.aload_n 0, 1) := by decide +kernel
theorem dX0_add_15 : decode cX0_add 15 = .ok (.getfield 15, 3) := by decide +kernel
theorem dX0_add_18 : decode cX0_add 18 = .ok (.iload_n 1, 1) := by decide +kernel
theorem dX0_add_19 : decode cX0_add 19 = .ok (.bipush 14, 2) := by decide +kernel
theorem dX0_add_21 : decode cX0_add 21 = .ok (.ishl, 1) := by decide +kernel
theorem dX0_add_22 : decode cX0_add 22 = .ok (.iload_n 2, 1) := by decide +kernel
theorem dX0_add_23 : decode cX0_add 23 = .ok (.ior, 1) := by decide +kernel
theorem dX0_add_24 : decode cX0_add 24 = .ok (.iastore, 1) := by decide +kernel
theorem dX0_add_25 : decode cX0_add 25 = .ok (.aload_n 0, 1) := by decide +kernel
theorem dX0_add_26 : decode cX0_add 26 = .ok (.dup, 1) := by decide +kernel
theorem dX0_add_27 : decode cX0_add 27 = .ok (.getfield 15, 3) := by decide +kernel
theorem dX0_add_30 : decode cX0_add 30 = .ok (.iconst 1, 1) := by decide +kernel
theorem dX0_add_31 : decode cX0_add 31 = .ok (.iadd, 1) := by decide +kernel
theorem dX0_add_32 : decode cX0_add 32 = .ok (.putfield 15, 3) := by decide +kernel
theorem dX0_add_35 : decode cX0_add 35 = .ok (.return_, 1) := by decide +kernel
theorem dX0_kindAt_0 : decode cX0_kindAt 0 = .ok (.iload_n 1, 1) := by decide +kernel
theorem dX0_kindAt_1 : decode cX0_kindAt 1 = .ok (.ifCond .lt 23, 3) := by decide +kernel
theorem dX0_kindAt_4 : decode cX0_kindAt 4 = .ok (.iload_n 1, 1) := by decide +kernel
theorem dX0_kindAt_5 : decode cX0_kindAt 5 = .ok (.aload_n 0, 1) := by decide +kernel
theorem dX0_kindAt_6 : decode cX0_kindAt 6 = .ok (.getfield 15, 3) := by decide +kernel
theorem dX0_kindAt_9 : decode cX0_kindAt 9 = .ok (.if_icmp .ge 15, 3) := by decide +kernel
theorem dX0_kindAt_12 : decode cX0_kindAt 12 = .ok (.aload_n 0, 1) := by decide +kernel
theorem dX0_kindAt_13 : decode cX0_kindAt 13 = .ok (.getfield 11, 3) := by decide +kernel
theorem dX0_kindAt_16 : decode cX0_kindAt 16 = .ok (.iload_n 1, 1) := by decide +kernel
theorem dX0_kindAt_17 : decode cX0_kindAt 17 = .ok (.iaload, 1) := by decide +kernel
theorem dX0_kindAt_18 : decode cX0_kindAt 18 = .ok (.bipush 14, 2) := by decide +kernel
theorem dX0_kindAt_20 : decode cX0_kindAt 20 = .ok (.ishr, 1) := by decide +kernel
theorem dX0_kindAt_21 : decode cX0_kindAt 21 = .ok (.goto 4, 3) := by decide +kernel
theorem dX0_kindAt_24 : decode cX0_kindAt 24 = .ok (.iconst (-1), 1) := by decide +kernel
theorem dX0_kindAt_25 : decode cX0_kindAt 25 = .ok (.ireturn, 1) := by decide +kernel
theorem dX0_ofAt_0 : decode cX0_ofAt 0 = .ok (.iload_n 1, 1) := by decide +kernel
theorem dX0_ofAt_1 : decode cX0_ofAt 1 = .ok (.ifCond .lt 24, 3) := by decide +kernel
theorem dX0_ofAt_4 : decode cX0_ofAt 4 = .ok (.iload_n 1, 1) := by decide +kernel
theorem dX0_ofAt_5 : decode cX0_ofAt 5 = .ok (.aload_n 0, 1) := by decide +kernel
theorem dX0_ofAt_6 : decode cX0_ofAt 6 = .ok (.getfield 15, 3) := by decide +kernel
theorem dX0_ofAt_9 : decode cX0_ofAt 9 = .ok (.if_icmp .ge 16, 3) := by decide +kernel
theorem dX0_ofAt_12 : decode cX0_ofAt 12 = .ok (.aload_n 0, 1) := by decide +kernel
theorem dX0_ofAt_13 : decode cX0_ofAt 13 = .ok (.getfield 11, 3) := by decide +kernel
theorem dX0_ofAt_16 : decode cX0_ofAt 16 = .ok (.iload_n 1, 1) := by decide +kernel
theorem dX0_ofAt_17 : decode cX0_ofAt 17 = .ok (.iaload, 1) := by decide +kernel
theorem dX0_ofAt_18 : decode cX0_ofAt 18 = .ok (.sipush 16383, 3) := by decide +kernel
theorem dX0_ofAt_21 : decode cX0_ofAt 21 = .ok (.iand, 1) := by decide +kernel
theorem dX0_ofAt_22 : decode cX0_ofAt 22 = .ok (.goto 4, 3) := by decide +kernel
theorem dX0_ofAt_25 : decode cX0_ofAt 25 = .ok (.iconst (-1), 1) := by decide +kernel
theorem dX0_ofAt_26 : decode cX0_ofAt 26 = .ok (.ireturn, 1) := by decide +kernel
theorem dX1_init_0 : decode cX1_init 0 = .ok (.aload_n 0, 1) := by decide +kernel
theorem dX1_init_1 : decode cX1_init 1 = .ok (.invokespecial 3, 3) := by decide +kernel
theorem dX1_init_4 : decode cX1_init 4 = .ok (.aload_n 0, 1) := by decide +kernel
theorem dX1_init_5 : decode cX1_init 5 = .ok (.bipush 7, 2) := by decide +kernel
theorem dX1_init_7 : decode cX1_init 7 = .ok (.bipush 64, 2) := by decide +kernel
theorem dX1_init_9 : decode cX1_init 9 = .ok (.multianewarray 13 2, 4) := by decide +kernel
theorem dX1_init_13 : decode cX1_init 13 = .ok (.putfield 15, 3) := by decide +kernel
theorem dX1_init_16 : decode cX1_init 16 = .ok (.aload_n 0, 1) := by decide +kernel
theorem dX1_init_17 : decode cX1_init 17 = .ok (.sipush 256, 3) := by decide +kernel
theorem dX1_init_20 : decode cX1_init 20 = .ok (.newarray .int, 2) := by decide +kernel
theorem dX1_init_22 : decode cX1_init 22 = .ok (.putfield 18, 3) := by decide +kernel
theorem dX1_init_25 : decode cX1_init 25 = .ok (.aload_n 0, 1) := by decide +kernel
theorem dX1_init_26 : decode cX1_init 26 = .ok (.sipush 256, 3) := by decide +kernel
theorem dX1_init_29 : decode cX1_init 29 = .ok (.newarray .int, 2) := by decide +kernel
theorem dX1_init_31 : decode cX1_init 31 = .ok (.putfield 22, 3) := by decide +kernel
theorem dX1_init_34 : decode cX1_init 34 = .ok (.aload_n 0, 1) := by decide +kernel
theorem dX1_init_35 : decode cX1_init 35 = .ok (.iconst 0, 1) := by decide +kernel
theorem dX1_init_36 : decode cX1_init 36 = .ok (.putfield 25, 3) := by decide +kernel
theorem dX1_init_39 : decode cX1_init 39 = .ok (.aload_n 0, 1) := by decide +kernel
theorem dX1_init_40 : decode cX1_init 40 = .ok (.iconst 0, 1) := by decide +kernel
theorem dX1_init_41 : decode cX1_init 41 = .ok (.putfield 29, 3) := by decide +kernel
theorem dX1_init_44 : decode cX1_init 44 = .ok (.aload_n 0, 1) := by decide +kernel
theorem dX1_init_45 : decode cX1_init 45 = .ok (.iconst 0, 1) := by decide +kernel
theorem dX1_init_46 : decode cX1_init 46 = .ok (.putfield 33, 3) := by decide +kernel
theorem dX1_init_49 : decode cX1_init 49 = .ok (.aload_n 0, 1) := by decide +kernel
theorem dX1_init_50 : decode cX1_init 50 = .ok (.new 36, 3) := by decide +kernel
theorem dX1_init_53 : decode cX1_init 53 = .ok (.dup, 1) := by decide +kernel
theorem dX1_init_54 : decode cX1_init 54 = .ok (.aload_n 1, 1) := by decide +kernel
theorem dX1_init_55 : decode cX1_init 55 = .ok (.new 38, 3) := by decide +kernel
theorem dX1_init_58 : decode cX1_init 58 = .ok (.dup, 1) := by decide +kernel
theorem dX1_init_59 : decode cX1_init 59 = .ok (.invokespecial 40, 3) := by decide +kernel
theorem dX1_init_62 : decode cX1_init 62 = .ok (.invokespecial 41, 3) := by decide +kernel
theorem dX1_init_65 : decode cX1_init 65 = .ok (.putfield 44, 3) := by decide +kernel
theorem dX1_init_68 : decode cX1_init 68 = .ok (.return_, 1) := by decide +kernel
theorem dX1_nightOf_0 : decode cX1_nightOf 0 = .ok (.iload_n 0, 1) := by decide +kernel
theorem dX1_nightOf_1 : decode cX1_nightOf 1 = .ok (.iconst 4, 1) := by decide +kernel
theorem dX1_nightOf_2 : decode cX1_nightOf 2 = .ok (.iload_n 1, 1) := by decide +kernel
theorem dX1_nightOf_3 : decode cX1_nightOf 3 = .ok (.imul, 1) := by decide +kernel
theorem dX1_nightOf_4 : decode cX1_nightOf 4 = .ok (.ishr, 1) := by decide +kernel
theorem dX1_nightOf_5 : decode cX1_nightOf 5 = .ok (.bipush 15, 2) := by decide +kernel
theorem dX1_nightOf_7 : decode cX1_nightOf 7 = .ok (.iand, 1) := by decide +kernel
theorem dX1_nightOf_8 : decode cX1_nightOf 8 = .ok (.ireturn, 1) := by decide +kernel
theorem dX1_learn_0 : decode cX1_learn 0 = .ok (.aload_n 0, 1) := by decide +kernel
theorem dX1_learn_1 : decode cX1_learn 1 = .ok (.getfield 15, 3) := by decide +kernel
theorem dX1_learn_4 : decode cX1_learn 4 = .ok (.iload_n 2, 1) := by decide +kernel
theorem dX1_learn_5 : decode cX1_learn 5 = .ok (.aaload, 1) := by decide +kernel
theorem dX1_learn_6 : decode cX1_learn 6 = .ok (.astore 4, 2) := by decide +kernel
theorem dX1_learn_8 : decode cX1_learn 8 = .ok (.aload 4, 2) := by decide +kernel
theorem dX1_learn_10 : decode cX1_learn 10 = .ok (.iconst (-1), 1) := by decide +kernel
theorem dX1_learn_11 : decode cX1_learn 11 = .ok (.invokestatic 48, 3) := by decide +kernel
theorem dX1_learn_14 : decode cX1_learn 14 = .ok (.aload_n 0, 1) := by decide +kernel
theorem dX1_learn_15 : decode cX1_learn 15 = .ok (.getfield 18, 3) := by decide +kernel
theorem dX1_learn_18 : decode cX1_learn 18 = .ok (.iconst 0, 1) := by decide +kernel
theorem dX1_learn_19 : decode cX1_learn 19 = .ok (.invokestatic 48, 3) := by decide +kernel
theorem dX1_learn_22 : decode cX1_learn 22 = .ok (.aload_n 0, 1) := by decide +kernel
theorem dX1_learn_23 : decode cX1_learn 23 = .ok (.getfield 44, 3) := by decide +kernel
theorem dX1_learn_26 : decode cX1_learn 26 = .ok (.aload_n 1, 1) := by decide +kernel
theorem dX1_learn_27 : decode cX1_learn 27 = .ok (.invokevirtual 54, 3) := by decide +kernel
theorem dX1_learn_30 : decode cX1_learn 30 = .ok (.iload_n 2, 1) := by decide +kernel
theorem dX1_learn_31 : decode cX1_learn 31 = .ok (.aload_n 1, 1) := by decide +kernel
theorem dX1_learn_32 : decode cX1_learn 32 = .ok (.getfield 58, 3) := by decide +kernel
theorem dX1_learn_35 : decode cX1_learn 35 = .ok (.if_icmp .ge 24, 3) := by decide +kernel
theorem dX1_learn_38 : decode cX1_learn 38 = .ok (.aload_n 3, 1) := by decide +kernel
theorem dX1_learn_39 : decode cX1_learn 39 = .ok (.aload_n 0, 1) := by decide +kernel
theorem dX1_learn_40 : decode cX1_learn 40 = .ok (.getfield 44, 3) := by decide +kernel
theorem dX1_learn_43 : decode cX1_learn 43 = .ok (.iload_n 2, 1) := by decide +kernel
theorem dX1_learn_44 : decode cX1_learn 44 = .ok (.invokevirtual 61, 3) := by decide +kernel
theorem dX1_learn_47 : decode cX1_learn 47 = .ok (.aload_n 0, 1) := by decide +kernel
theorem dX1_learn_48 : decode cX1_learn 48 = .ok (.getfield 44, 3) := by decide +kernel
theorem dX1_learn_51 : decode cX1_learn 51 = .ok (.aload_n 3, 1) := by decide +kernel
theorem dX1_learn_52 : decode cX1_learn 52 = .ok (.invokevirtual 67, 3) := by decide +kernel
theorem dX1_learn_55 : decode cX1_learn 55 = .ok (.invokevirtual 71, 3) := by decide +kernel
theorem dX1_learn_58 : decode cX1_learn 58 = .ok (.pop, 1) := by decide +kernel
theorem dX1_learn_59 : decode cX1_learn 59 = .ok (.iconst 0, 1) := by decide +kernel
theorem dX1_learn_60 : decode cX1_learn 60 = .ok (.istore 5, 2) := by decide +kernel
theorem dX1_learn_62 : decode cX1_learn 62 = .ok (.iload 5, 2) := by decide +kernel
theorem dX1_learn_64 : decode cX1_learn 64 = .ok (.aload_n 0, 1) := by decide +kernel
theorem dX1_learn_65 : decode cX1_learn 65 = .ok (.getfield 44, 3) := by decide +kernel
theorem dX1_learn_68 : decode cX1_learn 68 = .ok (.getfield 75, 3) := by decide +kernel
theorem dX1_learn_71 : decode cX1_learn 71 = .ok (.if_icmp .ge 23, 3) := by decide +kernel
theorem dX1_learn_74 : decode cX1_learn 74 = .ok (.aload 4, 2) := by decide +kernel
theorem dX1_learn_76 : decode cX1_learn 76 = .ok (.aload_n 0, 1) := by decide +kernel
theorem dX1_learn_77 : decode cX1_learn 77 = .ok (.getfield 44, 3) := by decide +kernel
theorem dX1_learn_80 : decode cX1_learn 80 = .ok (.getfield 78, 3) := by decide +kernel
theorem dX1_learn_83 : decode cX1_learn 83 = .ok (.iload 5, 2) := by decide +kernel
theorem dX1_learn_85 : decode cX1_learn 85 = .ok (.iaload, 1) := by decide +kernel
theorem dX1_learn_86 : decode cX1_learn 86 = .ok (.iconst 0, 1) := by decide +kernel
theorem dX1_learn_87 : decode cX1_learn 87 = .ok (.iastore, 1) := by decide +kernel
theorem dX1_learn_88 : decode cX1_learn 88 = .ok (.iinc 5 1, 3) := by decide +kernel
theorem dX1_learn_91 : decode cX1_learn 91 = .ok (.goto (-29), 3) := by decide +kernel
theorem dX1_learn_94 : decode cX1_learn 94 = .ok (.iconst 1, 1) := by decide +kernel
theorem dX1_learn_95 : decode cX1_learn 95 = .ok (.istore 5, 2) := by decide +kernel
theorem dX1_learn_97 : decode cX1_learn 97 = .ok (.iload 5, 2) := by decide +kernel
theorem dX1_learn_99 : decode cX1_learn 99 = .ok (.bipush 12, 2) := by decide +kernel
theorem dX1_learn_101 : decode cX1_learn 101 = .ok (.if_icmp .gt 49, 3) := by decide +kernel
theorem dX1_learn_104 : decode cX1_learn 104 = .ok (.aload_n 3, 1) := by decide +kernel
theorem dX1_learn_105 : decode cX1_learn 105 = .ok (.aload_n 0, 1) := by decide +kernel
theorem dX1_learn_106 : decode cX1_learn 106 = .ok (.getfield 44, 3) := by decide +kernel
theorem dX1_learn_109 : decode cX1_learn 109 = .ok (.invokevirtual 83, 3) := by decide +kernel
theorem dX1_learn_112 : decode cX1_learn 112 = .ok (.astore 6, 2) := by decide +kernel
theorem dX1_learn_114 : decode cX1_learn 114 = .ok (.iconst 0, 1) := by decide +kernel
theorem dX1_learn_115 : decode cX1_learn 115 = .ok (.istore 7, 2) := by decide +kernel
theorem dX1_learn_117 : decode cX1_learn 117 = .ok (.iload 7, 2) := by decide +kernel
theorem dX1_learn_119 : decode cX1_learn 119 = .ok (.aload_n 1, 1) := by decide +kernel
theorem dX1_learn_120 : decode cX1_learn 120 = .ok (.getfield 87, 3) := by decide +kernel
theorem dX1_learn_123 : decode cX1_learn 123 = .ok (.if_icmp .ge 21, 3) := by decide +kernel
theorem dX1_learn_126 : decode cX1_learn 126 = .ok (.aload_n 0, 1) := by decide +kernel
theorem dX1_learn_127 : decode cX1_learn 127 = .ok (.iload 7, 2) := by decide +kernel
theorem dX1_learn_129 : decode cX1_learn 129 = .ok (.aload 6, 2) := by decide +kernel
theorem dX1_learn_131 : decode cX1_learn 131 = .ok (.aload 4, 2) := by decide +kernel
theorem dX1_learn_133 : decode cX1_learn 133 = .ok (.iload 5, 2) := by decide +kernel
theorem dX1_learn_135 : decode cX1_learn 135 = .ok (.invokevirtual 90, 3) := by decide +kernel
theorem dX1_learn_138 : decode cX1_learn 138 = .ok (.iinc 7 1, 3) := by decide +kernel
theorem dX1_learn_141 : decode cX1_learn 141 = .ok (.goto (-24), 3) := by decide +kernel
theorem dX1_learn_144 : decode cX1_learn 144 = .ok (.iinc 5 1, 3) := by decide +kernel
theorem dX1_learn_147 : decode cX1_learn 147 = .ok (.goto (-50), 3) := by decide +kernel
theorem dX1_learn_150 : decode cX1_learn 150 = .ok (.return_, 1) := by decide +kernel
theorem dX1_sendOne_0 : decode cX1_sendOne 0 = .ok (.iconst 0, 1) := by decide +kernel
theorem dX1_sendOne_1 : decode cX1_sendOne 1 = .ok (.istore 5, 2) := by decide +kernel
theorem dX1_sendOne_3 : decode cX1_sendOne 3 = .ok (.iconst 0, 1) := by decide +kernel
theorem dX1_sendOne_4 : decode cX1_sendOne 4 = .ok (.istore 6, 2) := by decide +kernel
theorem dX1_sendOne_6 : decode cX1_sendOne 6 = .ok (.iload 6, 2) := by decide +kernel
theorem dX1_sendOne_8 : decode cX1_sendOne 8 = .ok (.aload_n 0, 1) := by decide +kernel
theorem dX1_sendOne_9 : decode cX1_sendOne 9 = .ok (.getfield 44, 3) := by decide +kernel
theorem dX1_sendOne_12 : decode cX1_sendOne 12 = .ok (.getfield 75, 3) := by decide +kernel
theorem dX1_sendOne_15 : decode cX1_sendOne 15 = .ok (.if_icmp .ge 98, 3) := by decide +kernel
theorem dX1_sendOne_18 : decode cX1_sendOne 18 = .ok (.aload_n 0, 1) := by decide +kernel
theorem dX1_sendOne_19 : decode cX1_sendOne 19 = .ok (.getfield 44, 3) := by decide +kernel
theorem dX1_sendOne_22 : decode cX1_sendOne 22 = .ok (.getfield 78, 3) := by decide +kernel
theorem dX1_sendOne_25 : decode cX1_sendOne 25 = .ok (.iload 6, 2) := by decide +kernel
theorem dX1_sendOne_27 : decode cX1_sendOne 27 = .ok (.iaload, 1) := by decide +kernel
theorem dX1_sendOne_28 : decode cX1_sendOne 28 = .ok (.istore 7, 2) := by decide +kernel
theorem dX1_sendOne_30 : decode cX1_sendOne 30 = .ok (.aload_n 0, 1) := by decide +kernel
theorem dX1_sendOne_31 : decode cX1_sendOne 31 = .ok (.getfield 22, 3) := by decide +kernel
theorem dX1_sendOne_34 : decode cX1_sendOne 34 = .ok (.iload 7, 2) := by decide +kernel
theorem dX1_sendOne_36 : decode cX1_sendOne 36 = .ok (.aload_n 2, 1) := by decide +kernel
theorem dX1_sendOne_37 : decode cX1_sendOne 37 = .ok (.iload 7, 2) := by decide +kernel
theorem dX1_sendOne_39 : decode cX1_sendOne 39 = .ok (.iaload, 1) := by decide +kernel
theorem dX1_sendOne_40 : decode cX1_sendOne 40 = .ok (.aload_n 0, 1) := by decide +kernel
theorem dX1_sendOne_41 : decode cX1_sendOne 41 = .ok (.getfield 18, 3) := by decide +kernel
theorem dX1_sendOne_44 : decode cX1_sendOne 44 = .ok (.iload 7, 2) := by decide +kernel
theorem dX1_sendOne_46 : decode cX1_sendOne 46 = .ok (.iaload, 1) := by decide +kernel
theorem dX1_sendOne_47 : decode cX1_sendOne 47 = .ok (.iconst (-1), 1) := by decide +kernel
theorem dX1_sendOne_48 : decode cX1_sendOne 48 = .ok (.ixor, 1) := by decide +kernel
theorem dX1_sendOne_49 : decode cX1_sendOne 49 = .ok (.iand, 1) := by decide +kernel
theorem dX1_sendOne_50 : decode cX1_sendOne 50 = .ok (.iload_n 1, 1) := by decide +kernel
theorem dX1_sendOne_51 : decode cX1_sendOne 51 = .ok (.ishr, 1) := by decide +kernel
theorem dX1_sendOne_52 : decode cX1_sendOne 52 = .ok (.iconst 1, 1) := by decide +kernel
theorem dX1_sendOne_53 : decode cX1_sendOne 53 = .ok (.iand, 1) := by decide +kernel
theorem dX1_sendOne_54 : decode cX1_sendOne 54 = .ok (.iastore, 1) := by decide +kernel
theorem dX1_sendOne_55 : decode cX1_sendOne 55 = .ok (.iload 5, 2) := by decide +kernel
theorem dX1_sendOne_57 : decode cX1_sendOne 57 = .ok (.aload_n 0, 1) := by decide +kernel
theorem dX1_sendOne_58 : decode cX1_sendOne 58 = .ok (.getfield 22, 3) := by decide +kernel
theorem dX1_sendOne_61 : decode cX1_sendOne 61 = .ok (.iload 7, 2) := by decide +kernel
theorem dX1_sendOne_63 : decode cX1_sendOne 63 = .ok (.iaload, 1) := by decide +kernel
theorem dX1_sendOne_64 : decode cX1_sendOne 64 = .ok (.ior, 1) := by decide +kernel
theorem dX1_sendOne_65 : decode cX1_sendOne 65 = .ok (.istore 5, 2) := by decide +kernel
theorem dX1_sendOne_67 : decode cX1_sendOne 67 = .ok (.aload_n 0, 1) := by decide +kernel
theorem dX1_sendOne_68 : decode cX1_sendOne 68 = .ok (.getfield 18, 3) := by decide +kernel
theorem dX1_sendOne_71 : decode cX1_sendOne 71 = .ok (.iload 7, 2) := by decide +kernel
theorem dX1_sendOne_73 : decode cX1_sendOne 73 = .ok (.dup2, 1) := by decide +kernel
theorem dX1_sendOne_74 : decode cX1_sendOne 74 = .ok (.iaload, 1) := by decide +kernel
theorem dX1_sendOne_75 : decode cX1_sendOne 75 = .ok (.aload_n 0, 1) := by decide +kernel
theorem dX1_sendOne_76 : decode cX1_sendOne 76 = .ok (.getfield 22, 3) := by decide +kernel
theorem dX1_sendOne_79 : decode cX1_sendOne 79 = .ok (.iload 7, 2) := by decide +kernel
theorem dX1_sendOne_81 : decode cX1_sendOne 81 = .ok (.iaload, 1) := by decide +kernel
theorem dX1_sendOne_82 : decode cX1_sendOne 82 = .ok (.iload_n 1, 1) := by decide +kernel
theorem dX1_sendOne_83 : decode cX1_sendOne 83 = .ok (.ishl, 1) := by decide +kernel
theorem dX1_sendOne_84 : decode cX1_sendOne 84 = .ok (.ior, 1) := by decide +kernel
theorem dX1_sendOne_85 : decode cX1_sendOne 85 = .ok (.iastore, 1) := by decide +kernel
theorem dX1_sendOne_86 : decode cX1_sendOne 86 = .ok (.aload_n 3, 1) := by decide +kernel
theorem dX1_sendOne_87 : decode cX1_sendOne 87 = .ok (.iload 7, 2) := by decide +kernel
theorem dX1_sendOne_89 : decode cX1_sendOne 89 = .ok (.dup2, 1) := by decide +kernel
theorem dX1_sendOne_90 : decode cX1_sendOne 90 = .ok (.iaload, 1) := by decide +kernel
theorem dX1_sendOne_91 : decode cX1_sendOne 91 = .ok (.aload_n 0, 1) := by decide +kernel
theorem dX1_sendOne_92 : decode cX1_sendOne 92 = .ok (.getfield 22, 3) := by decide +kernel
theorem dX1_sendOne_95 : decode cX1_sendOne 95 = .ok (.iload 7, 2) := by decide +kernel
theorem dX1_sendOne_97 : decode cX1_sendOne 97 = .ok (.iaload, 1) := by decide +kernel
theorem dX1_sendOne_98 : decode cX1_sendOne 98 = .ok (.iload 4, 2) := by decide +kernel
theorem dX1_sendOne_100 : decode cX1_sendOne 100 = .ok (.imul, 1) := by decide +kernel
theorem dX1_sendOne_101 : decode cX1_sendOne 101 = .ok (.iconst 4, 1) := by decide +kernel
theorem dX1_sendOne_102 : decode cX1_sendOne 102 = .ok (.iload_n 1, 1) := by decide +kernel
theorem dX1_sendOne_103 : decode cX1_sendOne 103 = .ok (.imul, 1) := by decide +kernel
theorem dX1_sendOne_104 : decode cX1_sendOne 104 = .ok (.ishl, 1) := by decide +kernel
theorem dX1_sendOne_105 : decode cX1_sendOne 105 = .ok (.ior, 1) := by decide +kernel
theorem dX1_sendOne_106 : decode cX1_sendOne 106 = .ok (.iastore, 1) := by decide +kernel
theorem dX1_sendOne_107 : decode cX1_sendOne 107 = .ok (.iinc 6 1, 3) := by decide +kernel
theorem dX1_sendOne_110 : decode cX1_sendOne 110 = .ok (.goto (-104), 3) := by decide +kernel
theorem dX1_sendOne_113 : decode cX1_sendOne 113 = .ok (.iconst 0, 1) := by decide +kernel
theorem dX1_sendOne_114 : decode cX1_sendOne 114 = .ok (.istore 6, 2) := by decide +kernel
theorem dX1_sendOne_116 : decode cX1_sendOne 116 = .ok (.iload 5, 2) := by decide +kernel
theorem dX1_sendOne_118 : decode cX1_sendOne 118 = .ok (.iconst 1, 1) := by decide +kernel
theorem dX1_sendOne_119 : decode cX1_sendOne 119 = .ok (.if_icmp .ne 44, 3) := by decide +kernel
theorem dX1_sendOne_122 : decode cX1_sendOne 122 = .ok (.iload 6, 2) := by decide +kernel
theorem dX1_sendOne_124 : decode cX1_sendOne 124 = .ok (.aload_n 0, 1) := by decide +kernel
theorem dX1_sendOne_125 : decode cX1_sendOne 125 = .ok (.getfield 44, 3) := by decide +kernel
theorem dX1_sendOne_128 : decode cX1_sendOne 128 = .ok (.getfield 94, 3) := by decide +kernel
theorem dX1_sendOne_131 : decode cX1_sendOne 131 = .ok (.getfield 87, 3) := by decide +kernel
theorem dX1_sendOne_134 : decode cX1_sendOne 134 = .ok (.if_icmp .ge 29, 3) := by decide +kernel
theorem dX1_sendOne_137 : decode cX1_sendOne 137 = .ok (.aload_n 0, 1) := by decide +kernel
theorem dX1_sendOne_138 : decode cX1_sendOne 138 = .ok (.getfield 44, 3) := by decide +kernel
theorem dX1_sendOne_141 : decode cX1_sendOne 141 = .ok (.getfield 98, 3) := by decide +kernel
theorem dX1_sendOne_144 : decode cX1_sendOne 144 = .ok (.iload 6, 2) := by decide +kernel
theorem dX1_sendOne_146 : decode cX1_sendOne 146 = .ok (.aload_n 0, 1) := by decide +kernel
theorem dX1_sendOne_147 : decode cX1_sendOne 147 = .ok (.getfield 22, 3) := by decide +kernel
theorem dX1_sendOne_150 : decode cX1_sendOne 150 = .ok (.aload_n 0, 1) := by decide +kernel
theorem dX1_sendOne_151 : decode cX1_sendOne 151 = .ok (.getfield 44, 3) := by decide +kernel
theorem dX1_sendOne_154 : decode cX1_sendOne 154 = .ok (.invokevirtual 102, 3) := by decide +kernel
theorem dX1_sendOne_157 : decode cX1_sendOne 157 = .ok (.iinc 6 1, 3) := by decide +kernel
theorem dX1_sendOne_160 : decode cX1_sendOne 160 = .ok (.goto (-44), 3) := by decide +kernel
theorem dX1_sendOne_163 : decode cX1_sendOne 163 = .ok (.return_, 1) := by decide +kernel
theorem dX1_scan_0 : decode cX1_scan 0 = .ok (.iconst 0, 1) := by decide +kernel
theorem dX1_scan_1 : decode cX1_scan 1 = .ok (.istore 4, 2) := by decide +kernel
theorem dX1_scan_3 : decode cX1_scan 3 = .ok (.aload_n 0, 1) := by decide +kernel
theorem dX1_scan_4 : decode cX1_scan 4 = .ok (.iconst 0, 1) := by decide +kernel
theorem dX1_scan_5 : decode cX1_scan 5 = .ok (.putfield 29, 3) := by decide +kernel
theorem dX1_scan_8 : decode cX1_scan 8 = .ok (.aload_n 0, 1) := by decide +kernel
theorem dX1_scan_9 : decode cX1_scan 9 = .ok (.iconst 0, 1) := by decide +kernel
theorem dX1_scan_10 : decode cX1_scan 10 = .ok (.putfield 33, 3) := by decide +kernel
theorem dX1_scan_13 : decode cX1_scan 13 = .ok (.iconst 0, 1) := by decide +kernel
theorem dX1_scan_14 : decode cX1_scan 14 = .ok (.istore 5, 2) := by decide +kernel
theorem dX1_scan_16 : decode cX1_scan 16 = .ok (.iload 5, 2) := by decide +kernel
theorem dX1_scan_18 : decode cX1_scan 18 = .ok (.aload_n 1, 1) := by decide +kernel
theorem dX1_scan_19 : decode cX1_scan 19 = .ok (.getfield 58, 3) := by decide +kernel
theorem dX1_scan_22 : decode cX1_scan 22 = .ok (.if_icmp .gt 89, 3) := by decide +kernel
theorem dX1_scan_25 : decode cX1_scan 25 = .ok (.iconst 0, 1) := by decide +kernel
theorem dX1_scan_26 : decode cX1_scan 26 = .ok (.istore 6, 2) := by decide +kernel
theorem dX1_scan_28 : decode cX1_scan 28 = .ok (.iload 6, 2) := by decide +kernel
theorem dX1_scan_30 : decode cX1_scan 30 = .ok (.aload_n 1, 1) := by decide +kernel
theorem dX1_scan_31 : decode cX1_scan 31 = .ok (.invokevirtual 106, 3) := by decide +kernel
theorem dX1_scan_34 : decode cX1_scan 34 = .ok (.if_icmp .ge 71, 3) := by decide +kernel
theorem dX1_scan_37 : decode cX1_scan 37 = .ok (.iload 6, 2) := by decide +kernel
theorem dX1_scan_39 : decode cX1_scan 39 = .ok (.bipush 64, 2) := by decide +kernel
theorem dX1_scan_41 : decode cX1_scan 41 = .ok (.if_icmp .ge 64, 3) := by decide +kernel
theorem dX1_scan_44 : decode cX1_scan 44 = .ok (.aload_n 0, 1) := by decide +kernel
theorem dX1_scan_45 : decode cX1_scan 45 = .ok (.getfield 15, 3) := by decide +kernel
theorem dX1_scan_48 : decode cX1_scan 48 = .ok (.iload 5, 2) := by decide +kernel
theorem dX1_scan_50 : decode cX1_scan 50 = .ok (.aaload, 1) := by decide +kernel
theorem dX1_scan_51 : decode cX1_scan 51 = .ok (.iload 6, 2) := by decide +kernel
theorem dX1_scan_53 : decode cX1_scan 53 = .ok (.iaload, 1) := by decide +kernel
theorem dX1_scan_54 : decode cX1_scan 54 = .ok (.istore 7, 2) := by decide +kernel
theorem dX1_scan_56 : decode cX1_scan 56 = .ok (.iload 7, 2) := by decide +kernel
theorem dX1_scan_58 : decode cX1_scan 58 = .ok (.iconst (-1), 1) := by decide +kernel
theorem dX1_scan_59 : decode cX1_scan 59 = .ok (.if_icmp .eq 40, 3) := by decide +kernel
theorem dX1_scan_62 : decode cX1_scan 62 = .ok (.aload_n 2, 1) := by decide +kernel
theorem dX1_scan_63 : decode cX1_scan 63 = .ok (.iload 7, 2) := by decide +kernel
theorem dX1_scan_65 : decode cX1_scan 65 = .ok (.iload_n 3, 1) := by decide +kernel
theorem dX1_scan_66 : decode cX1_scan 66 = .ok (.invokevirtual 110, 3) := by decide +kernel
theorem dX1_scan_69 : decode cX1_scan 69 = .ok (.ifCond .eq 30, 3) := by decide +kernel
theorem dX1_scan_72 : decode cX1_scan 72 = .ok (.iinc 4 1, 3) := by decide +kernel
theorem dX1_scan_75 : decode cX1_scan 75 = .ok (.aload_n 0, 1) := by decide +kernel
theorem dX1_scan_76 : decode cX1_scan 76 = .ok (.dup, 1) := by decide +kernel
theorem dX1_scan_77 : decode cX1_scan 77 = .ok (.getfield 29, 3) := by decide +kernel
theorem dX1_scan_80 : decode cX1_scan 80 = .ok (.iload 6, 2) := by decide +kernel
theorem dX1_scan_82 : decode cX1_scan 82 = .ok (.ior, 1) := by decide +kernel
theorem dX1_scan_83 : decode cX1_scan 83 = .ok (.putfield 29, 3) := by decide +kernel
theorem dX1_scan_86 : decode cX1_scan 86 = .ok (.aload_n 0, 1) := by decide +kernel
theorem dX1_scan_87 : decode cX1_scan 87 = .ok (.dup, 1) := by decide +kernel
theorem dX1_scan_88 : decode cX1_scan 88 = .ok (.getfield 33, 3) := by decide +kernel
theorem dX1_scan_91 : decode cX1_scan 91 = .ok (.iload 6, 2) := by decide +kernel
theorem dX1_scan_93 : decode cX1_scan 93 = .ok (.iconst (-1), 1) := by decide +kernel
theorem dX1_scan_94 : decode cX1_scan 94 = .ok (.ixor, 1) := by decide +kernel
theorem dX1_scan_95 : decode cX1_scan 95 = .ok (.ior, 1) := by decide +kernel
theorem dX1_scan_96 : decode cX1_scan 96 = .ok (.putfield 33, 3) := by decide +kernel
theorem dX1_scan_99 : decode cX1_scan 99 = .ok (.iinc 6 1, 3) := by decide +kernel
theorem dX1_scan_102 : decode cX1_scan 102 = .ok (.goto (-74), 3) := by decide +kernel
theorem dX1_scan_105 : decode cX1_scan 105 = .ok (.iinc 5 1, 3) := by decide +kernel
theorem dX1_scan_108 : decode cX1_scan 108 = .ok (.goto (-92), 3) := by decide +kernel
theorem dX1_scan_111 : decode cX1_scan 111 = .ok (.iload 4, 2) := by decide +kernel
theorem dX1_scan_113 : decode cX1_scan 113 = .ok (.ireturn, 1) := by decide +kernel
theorem dX2_init_0 : decode cX2_init 0 = .ok (.aload_n 0, 1) := by decide +kernel
theorem dX2_init_1 : decode cX2_init 1 = .ok (.invokespecial 3, 3) := by decide +kernel
theorem dX2_init_4 : decode cX2_init 4 = .ok (.aload_n 0, 1) := by decide +kernel
theorem dX2_init_5 : decode cX2_init 5 = .ok (.bipush 8, 2) := by decide +kernel
theorem dX2_init_7 : decode cX2_init 7 = .ok (.newarray .long, 2) := by decide +kernel
theorem dX2_init_9 : decode cX2_init 9 = .ok (.putfield 11, 3) := by decide +kernel
theorem dX2_init_12 : decode cX2_init 12 = .ok (.aload_n 0, 1) := by decide +kernel
theorem dX2_init_13 : decode cX2_init 13 = .ok (.bipush 8, 2) := by decide +kernel
theorem dX2_init_15 : decode cX2_init 15 = .ok (.newarray .int, 2) := by decide +kernel
theorem dX2_init_17 : decode cX2_init 17 = .ok (.putfield 15, 3) := by decide +kernel
theorem dX2_init_20 : decode cX2_init 20 = .ok (.aload_n 0, 1) := by decide +kernel
theorem dX2_init_21 : decode cX2_init 21 = .ok (.new 19, 3) := by decide +kernel
theorem dX2_init_24 : decode cX2_init 24 = .ok (.dup, 1) := by decide +kernel
theorem dX2_init_25 : decode cX2_init 25 = .ok (.invokespecial 21, 3) := by decide +kernel
theorem dX2_init_28 : decode cX2_init 28 = .ok (.putfield 22, 3) := by decide +kernel
theorem dX2_init_31 : decode cX2_init 31 = .ok (.aload_n 0, 1) := by decide +kernel
theorem dX2_init_32 : decode cX2_init 32 = .ok (.bipush 7, 2) := by decide +kernel
theorem dX2_init_34 : decode cX2_init 34 = .ok (.newarray .int, 2) := by decide +kernel
theorem dX2_init_36 : decode cX2_init 36 = .ok (.putfield 26, 3) := by decide +kernel
theorem dX2_init_39 : decode cX2_init 39 = .ok (.return_, 1) := by decide +kernel
theorem dX2_clear_0 : decode cX2_clear 0 = .ok (.aload_n 0, 1) := by decide +kernel
theorem dX2_clear_1 : decode cX2_clear 1 = .ok (.iconst 0, 1) := by decide +kernel
theorem dX2_clear_2 : decode cX2_clear 2 = .ok (.putfield 29, 3) := by decide +kernel
theorem dX2_clear_5 : decode cX2_clear 5 = .ok (.aload_n 0, 1) := by decide +kernel
theorem dX2_clear_6 : decode cX2_clear 6 = .ok (.iconst 0, 1) := by decide +kernel
theorem dX2_clear_7 : decode cX2_clear 7 = .ok (.putfield 33, 3) := by decide +kernel
theorem dX2_clear_10 : decode cX2_clear 10 = .ok (.aload_n 0, 1) := by decide +kernel
theorem dX2_clear_11 : decode cX2_clear 11 = .ok (.iconst 0, 1) := by decide +kernel
theorem dX2_clear_12 : decode cX2_clear 12 = .ok (.putfield 36, 3) := by decide +kernel
theorem dX2_clear_15 : decode cX2_clear 15 = .ok (.aload_n 0, 1) := by decide +kernel
theorem dX2_clear_16 : decode cX2_clear 16 = .ok (.iconst 0, 1) := by decide +kernel
theorem dX2_clear_17 : decode cX2_clear 17 = .ok (.putfield 39, 3) := by decide +kernel
theorem dX2_clear_20 : decode cX2_clear 20 = .ok (.aload_n 0, 1) := by decide +kernel
theorem dX2_clear_21 : decode cX2_clear 21 = .ok (.iconst 0, 1) := by decide +kernel
theorem dX2_clear_22 : decode cX2_clear 22 = .ok (.putfield 42, 3) := by decide +kernel
theorem dX2_clear_25 : decode cX2_clear 25 = .ok (.aload_n 0, 1) := by decide +kernel
theorem dX2_clear_26 : decode cX2_clear 26 = .ok (.iconst 0, 1) := by decide +kernel
theorem dX2_clear_27 : decode cX2_clear 27 = .ok (.putfield 45, 3) := by decide +kernel
theorem dX2_clear_30 : decode cX2_clear 30 = .ok (.aload_n 0, 1) := by decide +kernel
theorem dX2_clear_31 : decode cX2_clear 31 = .ok (.iconst 0, 1) := by decide +kernel
theorem dX2_clear_32 : decode cX2_clear 32 = .ok (.putfield 49, 3) := by decide +kernel
theorem dX2_clear_35 : decode cX2_clear 35 = .ok (.aload_n 0, 1) := by decide +kernel
theorem dX2_clear_36 : decode cX2_clear 36 = .ok (.getfield 22, 3) := by decide +kernel
theorem dX2_clear_39 : decode cX2_clear 39 = .ok (.iconst 0, 1) := by decide +kernel
theorem dX2_clear_40 : decode cX2_clear 40 = .ok (.putfield 52, 3) := by decide +kernel
theorem dX2_clear_43 : decode cX2_clear 43 = .ok (.return_, 1) := by decide +kernel
theorem dX2_isPerson_0 : decode cX2_isPerson 0 = .ok (.iload_n 1, 1) := by decide +kernel
theorem dX2_isPerson_1 : decode cX2_isPerson 1 = .ok (.ifCond .lt 15, 3) := by decide +kernel
theorem dX2_isPerson_4 : decode cX2_isPerson 4 = .ok (.iload_n 1, 1) := by decide +kernel
theorem dX2_isPerson_5 : decode cX2_isPerson 5 = .ok (.aload_n 0, 1) := by decide +kernel
theorem dX2_isPerson_6 : decode cX2_isPerson 6 = .ok (.getfield 29, 3) := by decide +kernel
theorem dX2_isPerson_9 : decode cX2_isPerson 9 = .ok (.if_icmp .ge 7, 3) := by decide +kernel
theorem dX2_isPerson_12 : decode cX2_isPerson 12 = .ok (.iconst 1, 1) := by decide +kernel
theorem dX2_isPerson_13 : decode cX2_isPerson 13 = .ok (.goto 4, 3) := by decide +kernel
theorem dX2_isPerson_16 : decode cX2_isPerson 16 = .ok (.iconst 0, 1) := by decide +kernel
theorem dX2_isPerson_17 : decode cX2_isPerson 17 = .ok (.ireturn, 1) := by decide +kernel
theorem dX2_arePeople_0 : decode cX2_arePeople 0 = .ok (.iload_n 1, 1) := by decide +kernel
theorem dX2_arePeople_1 : decode cX2_arePeople 1 = .ok (.ifCond .lt 15, 3) := by decide +kernel
theorem dX2_arePeople_4 : decode cX2_arePeople 4 = .ok (.iload_n 1, 1) := by decide +kernel
theorem dX2_arePeople_5 : decode cX2_arePeople 5 = .ok (.aload_n 0, 1) := by decide +kernel
theorem dX2_arePeople_6 : decode cX2_arePeople 6 = .ok (.invokevirtual 55, 3) := by decide +kernel
theorem dX2_arePeople_9 : decode cX2_arePeople 9 = .ok (.if_icmp .ge 7, 3) := by decide +kernel
theorem dX2_arePeople_12 : decode cX2_arePeople 12 = .ok (.iconst 1, 1) := by decide +kernel
theorem dX2_arePeople_13 : decode cX2_arePeople 13 = .ok (.goto 4, 3) := by decide +kernel
theorem dX2_arePeople_16 : decode cX2_arePeople 16 = .ok (.iconst 0, 1) := by decide +kernel
theorem dX2_arePeople_17 : decode cX2_arePeople 17 = .ok (.ireturn, 1) := by decide +kernel
theorem dX2_isWorld_0 : decode cX2_isWorld 0 = .ok (.iload_n 1, 1) := by decide +kernel
theorem dX2_isWorld_1 : decode cX2_isWorld 1 = .ok (.ifCond .lt 15, 3) := by decide +kernel
theorem dX2_isWorld_4 : decode cX2_isWorld 4 = .ok (.iload_n 1, 1) := by decide +kernel
theorem dX2_isWorld_5 : decode cX2_isWorld 5 = .ok (.aload_n 0, 1) := by decide +kernel
theorem dX2_isWorld_6 : decode cX2_isWorld 6 = .ok (.invokevirtual 55, 3) := by decide +kernel
theorem dX2_isWorld_9 : decode cX2_isWorld 9 = .ok (.if_icmp .ge 7, 3) := by decide +kernel
theorem dX2_isWorld_12 : decode cX2_isWorld 12 = .ok (.iconst 1, 1) := by decide +kernel
theorem dX2_isWorld_13 : decode cX2_isWorld 13 = .ok (.goto 4, 3) := by decide +kernel
theorem dX2_isWorld_16 : decode cX2_isWorld 16 = .ok (.iconst 0, 1) := by decide +kernel
theorem dX2_isWorld_17 : decode cX2_isWorld 17 = .ok (.ireturn, 1) := by decide +kernel
theorem dX2_worldCount_0 : decode cX2_worldCount 0 = .ok (.iconst 1, 1) := by decide +kernel
theorem dX2_worldCount_1 : decode cX2_worldCount 1 = .ok (.aload_n 0, 1) := by decide +kernel
theorem dX2_worldCount_2 : decode cX2_worldCount 2 = .ok (.getfield 29, 3) := by decide +kernel
theorem dX2_worldCount_5 : decode cX2_worldCount 5 = .ok (.ishl, 1) := by decide +kernel
theorem dX2_worldCount_6 : decode cX2_worldCount 6 = .ok (.ireturn, 1) := by decide +kernel
theorem dX2_takesPeople_0 : decode cX2_takesPeople 0 = .ok (.aload_n 0, 1) := by decide +kernel
theorem dX2_takesPeople_1 : decode cX2_takesPeople 1 = .ok (.getfield 29, 3) := by decide +kernel
theorem dX2_takesPeople_4 : decode cX2_takesPeople 4 = .ok (.bipush 8, 2) := by decide +kernel
theorem dX2_takesPeople_6 : decode cX2_takesPeople 6 = .ok (.if_icmp .ge 28, 3) := by decide +kernel
theorem dX2_takesPeople_9 : decode cX2_takesPeople 9 = .ok (.aload_n 0, 1) := by decide +kernel
theorem dX2_takesPeople_10 : decode cX2_takesPeople 10 = .ok (.getfield 39, 3) := by decide +kernel
theorem dX2_takesPeople_13 : decode cX2_takesPeople 13 = .ok (.ifCond .ne 21, 3) := by decide +kernel
theorem dX2_takesPeople_16 : decode cX2_takesPeople 16 = .ok (.aload_n 0, 1) := by decide +kernel
theorem dX2_takesPeople_17 : decode cX2_takesPeople 17 = .ok (.getfield 45, 3) := by decide +kernel
theorem dX2_takesPeople_20 : decode cX2_takesPeople 20 = .ok (.ifCond .ne 14, 3) := by decide +kernel
theorem dX2_takesPeople_23 : decode cX2_takesPeople 23 = .ok (.aload_n 0, 1) := by decide +kernel
theorem dX2_takesPeople_24 : decode cX2_takesPeople 24 = .ok (.getfield 42, 3) := by decide +kernel
theorem dX2_takesPeople_27 : decode cX2_takesPeople 27 = .ok (.ifCond .ne 7, 3) := by decide +kernel
theorem dX2_takesPeople_30 : decode cX2_takesPeople 30 = .ok (.iconst 1, 1) := by decide +kernel
theorem dX2_takesPeople_31 : decode cX2_takesPeople 31 = .ok (.goto 4, 3) := by decide +kernel
theorem dX2_takesPeople_34 : decode cX2_takesPeople 34 = .ok (.iconst 0, 1) := by decide +kernel
theorem dX2_takesPeople_35 : decode cX2_takesPeople 35 = .ok (.ireturn, 1) := by decide +kernel
theorem dX2_addPerson_0 : decode cX2_addPerson 0 = .ok (.aload_n 0, 1) := by decide +kernel
theorem dX2_addPerson_1 : decode cX2_addPerson 1 = .ok (.getfield 29, 3) := by decide +kernel
theorem dX2_addPerson_4 : decode cX2_addPerson 4 = .ok (.bipush 8, 2) := by decide +kernel
theorem dX2_addPerson_6 : decode cX2_addPerson 6 = .ok (.if_icmp .ge 71, 3) := by decide +kernel
theorem dX2_addPerson_9 : decode cX2_addPerson 9 = .ok (.iconst 0, 1) := by decide +kernel
theorem dX2_addPerson_10 : decode cX2_addPerson 10 = .ok (.istore_n 3, 1) := by decide +kernel
theorem dX2_addPerson_11 : decode cX2_addPerson 11 = .ok (.iload_n 3, 1) := by decide +kernel
theorem dX2_addPerson_12 : decode cX2_addPerson 12 = .ok (.aload_n 0, 1) := by decide +kernel
theorem dX2_addPerson_13 : decode cX2_addPerson 13 = .ok (.getfield 29, 3) := by decide +kernel
theorem dX2_addPerson_16 : decode cX2_addPerson 16 = .ok (.if_icmp .ge 24, 3) := by decide +kernel
theorem dX2_addPerson_19 : decode cX2_addPerson 19 = .ok (.aload_n 0, 1) := by decide +kernel
theorem dX2_addPerson_20 : decode cX2_addPerson 20 = .ok (.getfield 15, 3) := by decide +kernel
theorem dX2_addPerson_23 : decode cX2_addPerson 23 = .ok (.iload_n 3, 1) := by decide +kernel
theorem dX2_addPerson_24 : decode cX2_addPerson 24 = .ok (.dup2, 1) := by decide +kernel
theorem dX2_addPerson_25 : decode cX2_addPerson 25 = .ok (.iaload, 1) := by decide +kernel
theorem dX2_addPerson_26 : decode cX2_addPerson 26 = .ok (.iconst 1, 1) := by decide +kernel
theorem dX2_addPerson_27 : decode cX2_addPerson 27 = .ok (.aload_n 0, 1) := by decide +kernel
theorem dX2_addPerson_28 : decode cX2_addPerson 28 = .ok (.getfield 29, 3) := by decide +kernel
theorem dX2_addPerson_31 : decode cX2_addPerson 31 = .ok (.ishl, 1) := by decide +kernel
theorem dX2_addPerson_32 : decode cX2_addPerson 32 = .ok (.ior, 1) := by decide +kernel
theorem dX2_addPerson_33 : decode cX2_addPerson 33 = .ok (.iastore, 1) := by decide +kernel
theorem dX2_addPerson_34 : decode cX2_addPerson 34 = .ok (.iinc 3 1, 3) := by decide +kernel
theorem dX2_addPerson_37 : decode cX2_addPerson 37 = .ok (.goto (-26), 3) := by decide +kernel
theorem dX2_addPerson_40 : decode cX2_addPerson 40 = .ok (.aload_n 0, 1) := by decide +kernel
theorem dX2_addPerson_41 : decode cX2_addPerson 41 = .ok (.getfield 15, 3) := by decide +kernel
theorem dX2_addPerson_44 : decode cX2_addPerson 44 = .ok (.aload_n 0, 1) := by decide +kernel
theorem dX2_addPerson_45 : decode cX2_addPerson 45 = .ok (.getfield 29, 3) := by decide +kernel
theorem dX2_addPerson_48 : decode cX2_addPerson 48 = .ok (.iconst 1, 1) := by decide +kernel
theorem dX2_addPerson_49 : decode cX2_addPerson 49 = .ok (.aload_n 0, 1) := by decide +kernel
theorem dX2_addPerson_50 : decode cX2_addPerson 50 = .ok (.getfield 29, 3) := by decide +kernel
theorem dX2_addPerson_53 : decode cX2_addPerson 53 = .ok (.ishl, 1) := by decide +kernel
theorem dX2_addPerson_54 : decode cX2_addPerson 54 = .ok (.iconst 1, 1) := by decide +kernel
theorem dX2_addPerson_55 : decode cX2_addPerson 55 = .ok (.isub, 1) := by decide +kernel
theorem dX2_addPerson_56 : decode cX2_addPerson 56 = .ok (.iastore, 1) := by decide +kernel
theorem dX2_addPerson_57 : decode cX2_addPerson 57 = .ok (.aload_n 0, 1) := by decide +kernel
theorem dX2_addPerson_58 : decode cX2_addPerson 58 = .ok (.getfield 11, 3) := by decide +kernel
theorem dX2_addPerson_61 : decode cX2_addPerson 61 = .ok (.aload_n 0, 1) := by decide +kernel
theorem dX2_addPerson_62 : decode cX2_addPerson 62 = .ok (.getfield 29, 3) := by decide +kernel
theorem dX2_addPerson_65 : decode cX2_addPerson 65 = .ok (.lload_n 1, 1) := by decide +kernel
theorem dX2_addPerson_66 : decode cX2_addPerson 66 = .ok (.lastore, 1) := by decide +kernel
theorem dX2_addPerson_67 : decode cX2_addPerson 67 = .ok (.aload_n 0, 1) := by decide +kernel
theorem dX2_addPerson_68 : decode cX2_addPerson 68 = .ok (.dup, 1) := by decide +kernel
theorem dX2_addPerson_69 : decode cX2_addPerson 69 = .ok (.getfield 29, 3) := by decide +kernel
theorem dX2_addPerson_72 : decode cX2_addPerson 72 = .ok (.iconst 1, 1) := by decide +kernel
theorem dX2_addPerson_73 : decode cX2_addPerson 73 = .ok (.iadd, 1) := by decide +kernel
theorem dX2_addPerson_74 : decode cX2_addPerson 74 = .ok (.putfield 29, 3) := by decide +kernel
theorem dX2_addPerson_77 : decode cX2_addPerson 77 = .ok (.return_, 1) := by decide +kernel
theorem dX2_find_0 : decode cX2_find 0 = .ok (.iconst 0, 1) := by decide +kernel
theorem dX2_find_1 : decode cX2_find 1 = .ok (.istore_n 3, 1) := by decide +kernel
theorem dX2_find_2 : decode cX2_find 2 = .ok (.iload_n 3, 1) := by decide +kernel
theorem dX2_find_3 : decode cX2_find 3 = .ok (.aload_n 0, 1) := by decide +kernel
theorem dX2_find_4 : decode cX2_find 4 = .ok (.getfield 29, 3) := by decide +kernel
theorem dX2_find_7 : decode cX2_find 7 = .ok (.if_icmp .ge 22, 3) := by decide +kernel
theorem dX2_find_10 : decode cX2_find 10 = .ok (.aload_n 0, 1) := by decide +kernel
theorem dX2_find_11 : decode cX2_find 11 = .ok (.getfield 11, 3) := by decide +kernel
theorem dX2_find_14 : decode cX2_find 14 = .ok (.iload_n 3, 1) := by decide +kernel
theorem dX2_find_15 : decode cX2_find 15 = .ok (.laload, 1) := by decide +kernel
theorem dX2_find_16 : decode cX2_find 16 = .ok (.lload_n 1, 1) := by decide +kernel
theorem dX2_find_17 : decode cX2_find 17 = .ok (.lcmp, 1) := by decide +kernel
theorem dX2_find_18 : decode cX2_find 18 = .ok (.ifCond .ne 5, 3) := by decide +kernel
theorem dX2_find_21 : decode cX2_find 21 = .ok (.iload_n 3, 1) := by decide +kernel
theorem dX2_find_22 : decode cX2_find 22 = .ok (.ireturn, 1) := by decide +kernel
theorem dX2_find_23 : decode cX2_find 23 = .ok (.iinc 3 1, 3) := by decide +kernel
theorem dX2_find_26 : decode cX2_find 26 = .ok (.goto (-24), 3) := by decide +kernel
theorem dX2_find_29 : decode cX2_find 29 = .ok (.iconst (-1), 1) := by decide +kernel
theorem dX2_find_30 : decode cX2_find 30 = .ok (.ireturn, 1) := by decide +kernel
theorem dX2_giveMirror_0 : decode cX2_giveMirror 0 = .ok (.aload_n 0, 1) := by decide +kernel
theorem dX2_giveMirror_1 : decode cX2_giveMirror 1 = .ok (.iload_n 1, 1) := by decide +kernel
theorem dX2_giveMirror_2 : decode cX2_giveMirror 2 = .ok (.invokevirtual 59, 3) := by decide +kernel
theorem dX2_giveMirror_5 : decode cX2_giveMirror 5 = .ok (.ifCond .eq 15, 3) := by decide +kernel
theorem dX2_giveMirror_8 : decode cX2_giveMirror 8 = .ok (.aload_n 0, 1) := by decide +kernel
theorem dX2_giveMirror_9 : decode cX2_giveMirror 9 = .ok (.getfield 15, 3) := by decide +kernel
theorem dX2_giveMirror_12 : decode cX2_giveMirror 12 = .ok (.iload_n 1, 1) := by decide +kernel
theorem dX2_giveMirror_13 : decode cX2_giveMirror 13 = .ok (.dup2, 1) := by decide +kernel
theorem dX2_giveMirror_14 : decode cX2_giveMirror 14 = .ok (.iaload, 1) := by decide +kernel
theorem dX2_giveMirror_15 : decode cX2_giveMirror 15 = .ok (.iconst 1, 1) := by decide +kernel
theorem dX2_giveMirror_16 : decode cX2_giveMirror 16 = .ok (.iload_n 1, 1) := by decide +kernel
theorem dX2_giveMirror_17 : decode cX2_giveMirror 17 = .ok (.ishl, 1) := by decide +kernel
theorem dX2_giveMirror_18 : decode cX2_giveMirror 18 = .ok (.ior, 1) := by decide +kernel
theorem dX2_giveMirror_19 : decode cX2_giveMirror 19 = .ok (.iastore, 1) := by decide +kernel
theorem dX2_giveMirror_20 : decode cX2_giveMirror 20 = .ok (.return_, 1) := by decide +kernel
theorem dX2_canBlind_0 : decode cX2_canBlind 0 = .ok (.aload_n 0, 1) := by decide +kernel
theorem dX2_canBlind_1 : decode cX2_canBlind 1 = .ok (.iload_n 1, 1) := by decide +kernel
theorem dX2_canBlind_2 : decode cX2_canBlind 2 = .ok (.invokevirtual 59, 3) := by decide +kernel
theorem dX2_canBlind_5 : decode cX2_canBlind 5 = .ok (.ifCond .eq 26, 3) := by decide +kernel
theorem dX2_canBlind_8 : decode cX2_canBlind 8 = .ok (.iload_n 1, 1) := by decide +kernel
theorem dX2_canBlind_9 : decode cX2_canBlind 9 = .ok (.iload_n 2, 1) := by decide +kernel
theorem dX2_canBlind_10 : decode cX2_canBlind 10 = .ok (.if_icmp .eq 21, 3) := by decide +kernel
theorem dX2_canBlind_13 : decode cX2_canBlind 13 = .ok (.aload_n 0, 1) := by decide +kernel
theorem dX2_canBlind_14 : decode cX2_canBlind 14 = .ok (.getfield 15, 3) := by decide +kernel
theorem dX2_canBlind_17 : decode cX2_canBlind 17 = .ok (.iload_n 1, 1) := by decide +kernel
theorem dX2_canBlind_18 : decode cX2_canBlind 18 = .ok (.iaload, 1) := by decide +kernel
theorem dX2_canBlind_19 : decode cX2_canBlind 19 = .ok (.iload_n 2, 1) := by decide +kernel
theorem dX2_canBlind_20 : decode cX2_canBlind 20 = .ok (.ishr, 1) := by decide +kernel
theorem dX2_canBlind_21 : decode cX2_canBlind 21 = .ok (.iconst 1, 1) := by decide +kernel
theorem dX2_canBlind_22 : decode cX2_canBlind 22 = .ok (.iand, 1) := by decide +kernel
theorem dX2_canBlind_23 : decode cX2_canBlind 23 = .ok (.iconst 1, 1) := by decide +kernel
theorem dX2_canBlind_24 : decode cX2_canBlind 24 = .ok (.if_icmp .ne 7, 3) := by decide +kernel
theorem dX2_canBlind_27 : decode cX2_canBlind 27 = .ok (.iconst 1, 1) := by decide +kernel
theorem dX2_canBlind_28 : decode cX2_canBlind 28 = .ok (.goto 4, 3) := by decide +kernel
theorem dX2_canBlind_31 : decode cX2_canBlind 31 = .ok (.iconst 0, 1) := by decide +kernel
theorem dX2_canBlind_32 : decode cX2_canBlind 32 = .ok (.ireturn, 1) := by decide +kernel
theorem dX2_addBlind_0 : decode cX2_addBlind 0 = .ok (.aload_n 0, 1) := by decide +kernel
theorem dX2_addBlind_1 : decode cX2_addBlind 1 = .ok (.iload_n 1, 1) := by decide +kernel
theorem dX2_addBlind_2 : decode cX2_addBlind 2 = .ok (.invokevirtual 59, 3) := by decide +kernel
theorem dX2_addBlind_5 : decode cX2_addBlind 5 = .ok (.ifCond .eq 17, 3) := by decide +kernel
theorem dX2_addBlind_8 : decode cX2_addBlind 8 = .ok (.aload_n 0, 1) := by decide +kernel
theorem dX2_addBlind_9 : decode cX2_addBlind 9 = .ok (.getfield 15, 3) := by decide +kernel
theorem dX2_addBlind_12 : decode cX2_addBlind 12 = .ok (.iload_n 1, 1) := by decide +kernel
theorem dX2_addBlind_13 : decode cX2_addBlind 13 = .ok (.dup2, 1) := by decide +kernel
theorem dX2_addBlind_14 : decode cX2_addBlind 14 = .ok (.iaload, 1) := by decide +kernel
theorem dX2_addBlind_15 : decode cX2_addBlind 15 = .ok (.iconst 1, 1) := by decide +kernel
theorem dX2_addBlind_16 : decode cX2_addBlind 16 = .ok (.iload_n 2, 1) := by decide +kernel
theorem dX2_addBlind_17 : decode cX2_addBlind 17 = .ok (.ishl, 1) := by decide +kernel
theorem dX2_addBlind_18 : decode cX2_addBlind 18 = .ok (.iconst (-1), 1) := by decide +kernel
theorem dX2_addBlind_19 : decode cX2_addBlind 19 = .ok (.ixor, 1) := by decide +kernel
theorem dX2_addBlind_20 : decode cX2_addBlind 20 = .ok (.iand, 1) := by decide +kernel
theorem dX2_addBlind_21 : decode cX2_addBlind 21 = .ok (.iastore, 1) := by decide +kernel
theorem dX2_addBlind_22 : decode cX2_addBlind 22 = .ok (.aload_n 0, 1) := by decide +kernel
theorem dX2_addBlind_23 : decode cX2_addBlind 23 = .ok (.dup, 1) := by decide +kernel
theorem dX2_addBlind_24 : decode cX2_addBlind 24 = .ok (.getfield 39, 3) := by decide +kernel
theorem dX2_addBlind_27 : decode cX2_addBlind 27 = .ok (.iconst 1, 1) := by decide +kernel
theorem dX2_addBlind_28 : decode cX2_addBlind 28 = .ok (.iadd, 1) := by decide +kernel
theorem dX2_addBlind_29 : decode cX2_addBlind 29 = .ok (.putfield 39, 3) := by decide +kernel
theorem dX2_addBlind_32 : decode cX2_addBlind 32 = .ok (.return_, 1) := by decide +kernel
theorem dX2_endSaying_0 : decode cX2_endSaying 0 = .ok (.aload_n 0, 1) := by decide +kernel
theorem dX2_endSaying_1 : decode cX2_endSaying 1 = .ok (.getfield 42, 3) := by decide +kernel
theorem dX2_endSaying_4 : decode cX2_endSaying 4 = .ok (.bipush 6, 2) := by decide +kernel
theorem dX2_endSaying_6 : decode cX2_endSaying 6 = .ok (.if_icmp .ge 29, 3) := by decide +kernel
theorem dX2_endSaying_9 : decode cX2_endSaying 9 = .ok (.aload_n 0, 1) := by decide +kernel
theorem dX2_endSaying_10 : decode cX2_endSaying 10 = .ok (.dup, 1) := by decide +kernel
theorem dX2_endSaying_11 : decode cX2_endSaying 11 = .ok (.getfield 42, 3) := by decide +kernel
theorem dX2_endSaying_14 : decode cX2_endSaying 14 = .ok (.iconst 1, 1) := by decide +kernel
theorem dX2_endSaying_15 : decode cX2_endSaying 15 = .ok (.iadd, 1) := by decide +kernel
theorem dX2_endSaying_16 : decode cX2_endSaying 16 = .ok (.putfield 42, 3) := by decide +kernel
theorem dX2_endSaying_19 : decode cX2_endSaying 19 = .ok (.aload_n 0, 1) := by decide +kernel
theorem dX2_endSaying_20 : decode cX2_endSaying 20 = .ok (.getfield 26, 3) := by decide +kernel
theorem dX2_endSaying_23 : decode cX2_endSaying 23 = .ok (.aload_n 0, 1) := by decide +kernel
theorem dX2_endSaying_24 : decode cX2_endSaying 24 = .ok (.getfield 42, 3) := by decide +kernel
theorem dX2_endSaying_27 : decode cX2_endSaying 27 = .ok (.aload_n 0, 1) := by decide +kernel
theorem dX2_endSaying_28 : decode cX2_endSaying 28 = .ok (.getfield 22, 3) := by decide +kernel
theorem dX2_endSaying_31 : decode cX2_endSaying 31 = .ok (.getfield 52, 3) := by decide +kernel
theorem dX2_endSaying_34 : decode cX2_endSaying 34 = .ok (.iastore, 1) := by decide +kernel
theorem dX2_endSaying_35 : decode cX2_endSaying 35 = .ok (.return_, 1) := by decide +kernel
theorem dX3_opens_0 : decode cX3_opens 0 = .ok (.iload_n 0, 1) := by decide +kernel
theorem dX3_opens_1 : decode cX3_opens 1 = .ok (.sipush 270, 3) := by decide +kernel
theorem dX3_opens_4 : decode cX3_opens 4 = .ok (.if_icmp .eq 23, 3) := by decide +kernel
theorem dX3_opens_7 : decode cX3_opens 7 = .ok (.iload_n 0, 1) := by decide +kernel
theorem dX3_opens_8 : decode cX3_opens 8 = .ok (.sipush 271, 3) := by decide +kernel
theorem dX3_opens_11 : decode cX3_opens 11 = .ok (.if_icmp .eq 16, 3) := by decide +kernel
theorem dX3_opens_14 : decode cX3_opens 14 = .ok (.iload_n 0, 1) := by decide +kernel
theorem dX3_opens_15 : decode cX3_opens 15 = .ok (.sipush 272, 3) := by decide +kernel
theorem dX3_opens_18 : decode cX3_opens 18 = .ok (.if_icmp .eq 9, 3) := by decide +kernel
theorem dX3_opens_21 : decode cX3_opens 21 = .ok (.iload_n 0, 1) := by decide +kernel
theorem dX3_opens_22 : decode cX3_opens 22 = .ok (.bipush 40, 2) := by decide +kernel
theorem dX3_opens_24 : decode cX3_opens 24 = .ok (.if_icmp .ne 7, 3) := by decide +kernel
theorem dX3_opens_27 : decode cX3_opens 27 = .ok (.iconst 1, 1) := by decide +kernel
theorem dX3_opens_28 : decode cX3_opens 28 = .ok (.goto 4, 3) := by decide +kernel
theorem dX3_opens_31 : decode cX3_opens 31 = .ok (.iconst 0, 1) := by decide +kernel
theorem dX3_opens_32 : decode cX3_opens 32 = .ok (.ireturn, 1) := by decide +kernel
theorem dX3_isLeaf_0 : decode cX3_isLeaf 0 = .ok (.iload_n 0, 1) := by decide +kernel
theorem dX3_isLeaf_1 : decode cX3_isLeaf 1 = .ok (.sipush 274, 3) := by decide +kernel
theorem dX3_isLeaf_4 : decode cX3_isLeaf 4 = .ok (.if_icmp .eq 24, 3) := by decide +kernel
theorem dX3_isLeaf_7 : decode cX3_isLeaf 7 = .ok (.iload_n 0, 1) := by decide +kernel
theorem dX3_isLeaf_8 : decode cX3_isLeaf 8 = .ok (.sipush 268, 3) := by decide +kernel
theorem dX3_isLeaf_11 : decode cX3_isLeaf 11 = .ok (.if_icmp .eq 17, 3) := by decide +kernel
theorem dX3_isLeaf_14 : decode cX3_isLeaf 14 = .ok (.iload_n 0, 1) := by decide +kernel
theorem dX3_isLeaf_15 : decode cX3_isLeaf 15 = .ok (.sipush 262, 3) := by decide +kernel
theorem dX3_isLeaf_18 : decode cX3_isLeaf 18 = .ok (.if_icmp .eq 10, 3) := by decide +kernel
theorem dX3_isLeaf_21 : decode cX3_isLeaf 21 = .ok (.iload_n 0, 1) := by decide +kernel
theorem dX3_isLeaf_22 : decode cX3_isLeaf 22 = .ok (.sipush 269, 3) := by decide +kernel
theorem dX3_isLeaf_25 : decode cX3_isLeaf 25 = .ok (.if_icmp .ne 7, 3) := by decide +kernel
theorem dX3_isLeaf_28 : decode cX3_isLeaf 28 = .ok (.iconst 1, 1) := by decide +kernel
theorem dX3_isLeaf_29 : decode cX3_isLeaf 29 = .ok (.goto 4, 3) := by decide +kernel
theorem dX3_isLeaf_32 : decode cX3_isLeaf 32 = .ok (.iconst 0, 1) := by decide +kernel
theorem dX3_isLeaf_33 : decode cX3_isLeaf 33 = .ok (.ireturn, 1) := by decide +kernel
theorem dX3_startsUnit_0 : decode cX3_startsUnit 0 = .ok (.iload_n 0, 1) := by decide +kernel
theorem dX3_startsUnit_1 : decode cX3_startsUnit 1 = .ok (.invokestatic 11, 3) := by decide +kernel
theorem dX3_startsUnit_4 : decode cX3_startsUnit 4 = .ok (.ifCond .ne 10, 3) := by decide +kernel
theorem dX3_startsUnit_7 : decode cX3_startsUnit 7 = .ok (.iload_n 0, 1) := by decide +kernel
theorem dX3_startsUnit_8 : decode cX3_startsUnit 8 = .ok (.invokestatic 15, 3) := by decide +kernel
theorem dX3_startsUnit_11 : decode cX3_startsUnit 11 = .ok (.ifCond .eq 7, 3) := by decide +kernel
theorem dX3_startsUnit_14 : decode cX3_startsUnit 14 = .ok (.iconst 1, 1) := by decide +kernel
theorem dX3_startsUnit_15 : decode cX3_startsUnit 15 = .ok (.goto 4, 3) := by decide +kernel
theorem dX3_startsUnit_18 : decode cX3_startsUnit 18 = .ok (.iconst 0, 1) := by decide +kernel
theorem dX3_startsUnit_19 : decode cX3_startsUnit 19 = .ok (.ireturn, 1) := by decide +kernel
theorem dX3_rankOf_0 : decode cX3_rankOf 0 = .ok (.iload_n 0, 1) := by decide +kernel
theorem dX3_rankOf_1 : decode cX3_rankOf 1 = .ok (.lookupswitch 93 #[(42, 91), (43, 89), (45, 89), (47, 91), (60, 87), (61, 87), (62, 87), (265, 83), (266, 85)], 83) := by decide +kernel
theorem dX3_rankOf_84 : decode cX3_rankOf 84 = .ok (.iconst 0, 1) := by decide +kernel
theorem dX3_rankOf_85 : decode cX3_rankOf 85 = .ok (.ireturn, 1) := by decide +kernel
theorem dX3_rankOf_86 : decode cX3_rankOf 86 = .ok (.iconst 1, 1) := by decide +kernel
theorem dX3_rankOf_87 : decode cX3_rankOf 87 = .ok (.ireturn, 1) := by decide +kernel
theorem dX3_rankOf_88 : decode cX3_rankOf 88 = .ok (.iconst 2, 1) := by decide +kernel
theorem dX3_rankOf_89 : decode cX3_rankOf 89 = .ok (.ireturn, 1) := by decide +kernel
theorem dX3_rankOf_90 : decode cX3_rankOf 90 = .ok (.iconst 3, 1) := by decide +kernel
theorem dX3_rankOf_91 : decode cX3_rankOf 91 = .ok (.ireturn, 1) := by decide +kernel
theorem dX3_rankOf_92 : decode cX3_rankOf 92 = .ok (.iconst 4, 1) := by decide +kernel
theorem dX3_rankOf_93 : decode cX3_rankOf 93 = .ok (.ireturn, 1) := by decide +kernel
theorem dX3_rankOf_94 : decode cX3_rankOf 94 = .ok (.iconst (-1), 1) := by decide +kernel
theorem dX3_rankOf_95 : decode cX3_rankOf 95 = .ok (.ireturn, 1) := by decide +kernel
theorem dX4_init_0 : decode cX4_init 0 = .ok (.aload_n 0, 1) := by decide +kernel
theorem dX4_init_1 : decode cX4_init 1 = .ok (.invokespecial 3, 3) := by decide +kernel
theorem dX4_init_4 : decode cX4_init 4 = .ok (.aload_n 0, 1) := by decide +kernel
theorem dX4_init_5 : decode cX4_init 5 = .ok (.bipush 44, 2) := by decide +kernel
theorem dX4_init_7 : decode cX4_init 7 = .ok (.sipush 256, 3) := by decide +kernel
theorem dX4_init_10 : decode cX4_init 10 = .ok (.multianewarray 13 2, 4) := by decide +kernel
theorem dX4_init_14 : decode cX4_init 14 = .ok (.putfield 15, 3) := by decide +kernel
theorem dX4_init_17 : decode cX4_init 17 = .ok (.aload_n 0, 1) := by decide +kernel
theorem dX4_init_18 : decode cX4_init 18 = .ok (.sipush 256, 3) := by decide +kernel
theorem dX4_init_21 : decode cX4_init 21 = .ok (.newarray .int, 2) := by decide +kernel
theorem dX4_init_23 : decode cX4_init 23 = .ok (.putfield 18, 3) := by decide +kernel
theorem dX4_init_26 : decode cX4_init 26 = .ok (.aload_n 0, 1) := by decide +kernel
theorem dX4_init_27 : decode cX4_init 27 = .ok (.sipush 256, 3) := by decide +kernel
theorem dX4_init_30 : decode cX4_init 30 = .ok (.newarray .int, 2) := by decide +kernel
theorem dX4_init_32 : decode cX4_init 32 = .ok (.putfield 22, 3) := by decide +kernel
theorem dX4_init_35 : decode cX4_init 35 = .ok (.aload_n 0, 1) := by decide +kernel
theorem dX4_init_36 : decode cX4_init 36 = .ok (.sipush 256, 3) := by decide +kernel
theorem dX4_init_39 : decode cX4_init 39 = .ok (.newarray .int, 2) := by decide +kernel
theorem dX4_init_41 : decode cX4_init 41 = .ok (.putfield 25, 3) := by decide +kernel
theorem dX4_init_44 : decode cX4_init 44 = .ok (.aload_n 0, 1) := by decide +kernel
theorem dX4_init_45 : decode cX4_init 45 = .ok (.sipush 256, 3) := by decide +kernel
theorem dX4_init_48 : decode cX4_init 48 = .ok (.newarray .int, 2) := by decide +kernel
theorem dX4_init_50 : decode cX4_init 50 = .ok (.putfield 28, 3) := by decide +kernel
theorem dX4_init_53 : decode cX4_init 53 = .ok (.aload_n 0, 1) := by decide +kernel
theorem dX4_init_54 : decode cX4_init 54 = .ok (.iconst 0, 1) := by decide +kernel
theorem dX4_init_55 : decode cX4_init 55 = .ok (.putfield 31, 3) := by decide +kernel
theorem dX4_init_58 : decode cX4_init 58 = .ok (.return_, 1) := by decide +kernel
theorem dX4_result_0 : decode cX4_result 0 = .ok (.aload_n 0, 1) := by decide +kernel
theorem dX4_result_1 : decode cX4_result 1 = .ok (.getfield 15, 3) := by decide +kernel
theorem dX4_result_4 : decode cX4_result 4 = .ok (.iconst 0, 1) := by decide +kernel
theorem dX4_result_5 : decode cX4_result 5 = .ok (.aaload, 1) := by decide +kernel
theorem dX4_result_6 : decode cX4_result 6 = .ok (.areturn, 1) := by decide +kernel
theorem dX4_weighSaying_0 : decode cX4_weighSaying 0 = .ok (.aload_n 1, 1) := by decide +kernel
theorem dX4_weighSaying_1 : decode cX4_weighSaying 1 = .ok (.getfield 35, 3) := by decide +kernel
theorem dX4_weighSaying_4 : decode cX4_weighSaying 4 = .ok (.astore_n 3, 1) := by decide +kernel
theorem dX4_weighSaying_5 : decode cX4_weighSaying 5 = .ok (.iload_n 2, 1) := by decide +kernel
theorem dX4_weighSaying_6 : decode cX4_weighSaying 6 = .ok (.ifCond .lt 34, 3) := by decide +kernel
theorem dX4_weighSaying_9 : decode cX4_weighSaying 9 = .ok (.iload_n 2, 1) := by decide +kernel
theorem dX4_weighSaying_10 : decode cX4_weighSaying 10 = .ok (.aload_n 3, 1) := by decide +kernel
theorem dX4_weighSaying_11 : decode cX4_weighSaying 11 = .ok (.getfield 41, 3) := by decide +kernel
theorem dX4_weighSaying_14 : decode cX4_weighSaying 14 = .ok (.if_icmp .ge 26, 3) := by decide +kernel
theorem dX4_weighSaying_17 : decode cX4_weighSaying 17 = .ok (.aload_n 0, 1) := by decide +kernel
theorem dX4_weighSaying_18 : decode cX4_weighSaying 18 = .ok (.aload_n 1, 1) := by decide +kernel
theorem dX4_weighSaying_19 : decode cX4_weighSaying 19 = .ok (.aload_n 3, 1) := by decide +kernel
theorem dX4_weighSaying_20 : decode cX4_weighSaying 20 = .ok (.getfield 44, 3) := by decide +kernel
theorem dX4_weighSaying_23 : decode cX4_weighSaying 23 = .ok (.aload_n 3, 1) := by decide +kernel
theorem dX4_weighSaying_24 : decode cX4_weighSaying 24 = .ok (.getfield 48, 3) := by decide +kernel
theorem dX4_weighSaying_27 : decode cX4_weighSaying 27 = .ok (.iload_n 2, 1) := by decide +kernel
theorem dX4_weighSaying_28 : decode cX4_weighSaying 28 = .ok (.iaload, 1) := by decide +kernel
theorem dX4_weighSaying_29 : decode cX4_weighSaying 29 = .ok (.aload_n 3, 1) := by decide +kernel
theorem dX4_weighSaying_30 : decode cX4_weighSaying 30 = .ok (.getfield 48, 3) := by decide +kernel
theorem dX4_weighSaying_33 : decode cX4_weighSaying 33 = .ok (.iload_n 2, 1) := by decide +kernel
theorem dX4_weighSaying_34 : decode cX4_weighSaying 34 = .ok (.iconst 1, 1) := by decide +kernel
theorem dX4_weighSaying_35 : decode cX4_weighSaying 35 = .ok (.iadd, 1) := by decide +kernel
theorem dX4_weighSaying_36 : decode cX4_weighSaying 36 = .ok (.iaload, 1) := by decide +kernel
theorem dX4_weighSaying_37 : decode cX4_weighSaying 37 = .ok (.invokevirtual 51, 3) := by decide +kernel
theorem dX4_weighSaying_40 : decode cX4_weighSaying 40 = .ok (.return_, 1) := by decide +kernel
theorem dX4_weigh_0 : decode cX4_weigh 0 = .ok (.aload_n 0, 1) := by decide +kernel
theorem dX4_weigh_1 : decode cX4_weigh 1 = .ok (.iconst 0, 1) := by decide +kernel
theorem dX4_weigh_2 : decode cX4_weigh 2 = .ok (.putfield 31, 3) := by decide +kernel
theorem dX4_weigh_5 : decode cX4_weigh 5 = .ok (.iload_n 3, 1) := by decide +kernel
theorem dX4_weigh_6 : decode cX4_weigh 6 = .ok (.istore 5, 2) := by decide +kernel
theorem dX4_weigh_8 : decode cX4_weigh 8 = .ok (.iload 5, 2) := by decide +kernel
theorem dX4_weigh_10 : decode cX4_weigh 10 = .ok (.iload 4, 2) := by decide +kernel
theorem dX4_weigh_12 : decode cX4_weigh 12 = .ok (.if_icmp .ge 160, 3) := by decide +kernel
theorem dX4_weigh_15 : decode cX4_weigh 15 = .ok (.aload_n 2, 1) := by decide +kernel
theorem dX4_weigh_16 : decode cX4_weigh 16 = .ok (.iload 5, 2) := by decide +kernel
theorem dX4_weigh_18 : decode cX4_weigh 18 = .ok (.invokevirtual 55, 3) := by decide +kernel
theorem dX4_weigh_21 : decode cX4_weigh 21 = .ok (.istore 6, 2) := by decide +kernel
theorem dX4_weigh_23 : decode cX4_weigh 23 = .ok (.iload 6, 2) := by decide +kernel
theorem dX4_weigh_25 : decode cX4_weigh 25 = .ok (.invokestatic 61, 3) := by decide +kernel
theorem dX4_weigh_28 : decode cX4_weigh 28 = .ok (.ifCond .eq 19, 3) := by decide +kernel
theorem dX4_weigh_31 : decode cX4_weigh 31 = .ok (.aload_n 0, 1) := by decide +kernel
theorem dX4_weigh_32 : decode cX4_weigh 32 = .ok (.aload_n 1, 1) := by decide +kernel
theorem dX4_weigh_33 : decode cX4_weigh 33 = .ok (.iload 6, 2) := by decide +kernel
theorem dX4_weigh_35 : decode cX4_weigh 35 = .ok (.aload_n 2, 1) := by decide +kernel
theorem dX4_weigh_36 : decode cX4_weigh 36 = .ok (.iload 5, 2) := by decide +kernel
theorem dX4_weigh_38 : decode cX4_weigh 38 = .ok (.invokevirtual 67, 3) := by decide +kernel
theorem dX4_weigh_41 : decode cX4_weigh 41 = .ok (.invokevirtual 70, 3) := by decide +kernel
theorem dX4_weigh_44 : decode cX4_weigh 44 = .ok (.goto 122, 3) := by decide +kernel
theorem dX4_weigh_47 : decode cX4_weigh 47 = .ok (.iload 6, 2) := by decide +kernel
theorem dX4_weigh_49 : decode cX4_weigh 49 = .ok (.invokestatic 74, 3) := by decide +kernel
theorem dX4_weigh_52 : decode cX4_weigh 52 = .ok (.iconst (-1), 1) := by decide +kernel
theorem dX4_weigh_53 : decode cX4_weigh 53 = .ok (.if_icmp .eq 13, 3) := by decide +kernel
theorem dX4_weigh_56 : decode cX4_weigh 56 = .ok (.aload_n 0, 1) := by decide +kernel
theorem dX4_weigh_57 : decode cX4_weigh 57 = .ok (.aload_n 1, 1) := by decide +kernel
theorem dX4_weigh_58 : decode cX4_weigh 58 = .ok (.iload 6, 2) := by decide +kernel
theorem dX4_weigh_60 : decode cX4_weigh 60 = .ok (.invokevirtual 77, 3) := by decide +kernel
theorem dX4_weigh_63 : decode cX4_weigh 63 = .ok (.goto 103, 3) := by decide +kernel
theorem dX4_weigh_66 : decode cX4_weigh 66 = .ok (.aload_n 0, 1) := by decide +kernel
theorem dX4_weigh_67 : decode cX4_weigh 67 = .ok (.getfield 31, 3) := by decide +kernel
theorem dX4_weigh_70 : decode cX4_weigh 70 = .ok (.iconst 1, 1) := by decide +kernel
theorem dX4_weigh_71 : decode cX4_weigh 71 = .ok (.if_icmp .lt 95, 3) := by decide +kernel
theorem dX4_weigh_74 : decode cX4_weigh 74 = .ok (.aload_n 0, 1) := by decide +kernel
theorem dX4_weigh_75 : decode cX4_weigh 75 = .ok (.getfield 15, 3) := by decide +kernel
theorem dX4_weigh_78 : decode cX4_weigh 78 = .ok (.aload_n 0, 1) := by decide +kernel
theorem dX4_weigh_79 : decode cX4_weigh 79 = .ok (.getfield 31, 3) := by decide +kernel
theorem dX4_weigh_82 : decode cX4_weigh 82 = .ok (.iconst 1, 1) := by decide +kernel
theorem dX4_weigh_83 : decode cX4_weigh 83 = .ok (.isub, 1) := by decide +kernel
theorem dX4_weigh_84 : decode cX4_weigh 84 = .ok (.aaload, 1) := by decide +kernel
theorem dX4_weigh_85 : decode cX4_weigh 85 = .ok (.astore 7, 2) := by decide +kernel
theorem dX4_weigh_87 : decode cX4_weigh 87 = .ok (.iload 6, 2) := by decide +kernel
theorem dX4_weigh_89 : decode cX4_weigh 89 = .ok (.tableswitch 70 267 271 #[35, 70, 70, 44, 60], 35) := by decide +kernel
theorem dX4_weigh_124 : decode cX4_weigh 124 = .ok (.aload_n 1, 1) := by decide +kernel
theorem dX4_weigh_125 : decode cX4_weigh 125 = .ok (.aload 7, 2) := by decide +kernel
theorem dX4_weigh_127 : decode cX4_weigh 127 = .ok (.invokestatic 81, 3) := by decide +kernel
theorem dX4_weigh_130 : decode cX4_weigh 130 = .ok (.goto 36, 3) := by decide +kernel
theorem dX4_weigh_133 : decode cX4_weigh 133 = .ok (.aload_n 0, 1) := by decide +kernel
theorem dX4_weigh_134 : decode cX4_weigh 134 = .ok (.aload_n 1, 1) := by decide +kernel
theorem dX4_weigh_135 : decode cX4_weigh 135 = .ok (.aload_n 2, 1) := by decide +kernel
theorem dX4_weigh_136 : decode cX4_weigh 136 = .ok (.iload 5, 2) := by decide +kernel
theorem dX4_weigh_138 : decode cX4_weigh 138 = .ok (.invokevirtual 67, 3) := by decide +kernel
theorem dX4_weigh_141 : decode cX4_weigh 141 = .ok (.aload 7, 2) := by decide +kernel
theorem dX4_weigh_143 : decode cX4_weigh 143 = .ok (.invokevirtual 85, 3) := by decide +kernel
theorem dX4_weigh_146 : decode cX4_weigh 146 = .ok (.goto 20, 3) := by decide +kernel
theorem dX4_weigh_149 : decode cX4_weigh 149 = .ok (.aload_n 0, 1) := by decide +kernel
theorem dX4_weigh_150 : decode cX4_weigh 150 = .ok (.aload_n 1, 1) := by decide +kernel
theorem dX4_weigh_151 : decode cX4_weigh 151 = .ok (.aload 7, 2) := by decide +kernel
theorem dX4_weigh_153 : decode cX4_weigh 153 = .ok (.invokevirtual 89, 3) := by decide +kernel
theorem dX4_weigh_156 : decode cX4_weigh 156 = .ok (.goto 10, 3) := by decide +kernel
theorem dX4_weigh_159 : decode cX4_weigh 159 = .ok (.aload_n 0, 1) := by decide +kernel
theorem dX4_weigh_160 : decode cX4_weigh 160 = .ok (.aload_n 1, 1) := by decide +kernel
theorem dX4_weigh_161 : decode cX4_weigh 161 = .ok (.aload 7, 2) := by decide +kernel
theorem dX4_weigh_163 : decode cX4_weigh 163 = .ok (.invokevirtual 92, 3) := by decide +kernel
theorem dX4_weigh_166 : decode cX4_weigh 166 = .ok (.iinc 5 1, 3) := by decide +kernel
theorem dX4_weigh_169 : decode cX4_weigh 169 = .ok (.goto (-161), 3) := by decide +kernel
theorem dX4_weigh_172 : decode cX4_weigh 172 = .ok (.return_, 1) := by decide +kernel
theorem dX4_pushLeaf_0 : decode cX4_pushLeaf 0 = .ok (.aload_n 0, 1) := by decide +kernel
theorem dX4_pushLeaf_1 : decode cX4_pushLeaf 1 = .ok (.getfield 31, 3) := by decide +kernel
theorem dX4_pushLeaf_4 : decode cX4_pushLeaf 4 = .ok (.bipush 44, 2) := by decide +kernel
theorem dX4_pushLeaf_6 : decode cX4_pushLeaf 6 = .ok (.if_icmp .lt 4, 3) := by decide +kernel
theorem dX4_pushLeaf_9 : decode cX4_pushLeaf 9 = .ok (.return_, 1) := by decide +kernel
theorem dX4_pushLeaf_10 : decode cX4_pushLeaf 10 = .ok (.aload_n 0, 1) := by decide +kernel
theorem dX4_pushLeaf_11 : decode cX4_pushLeaf 11 = .ok (.getfield 15, 3) := by decide +kernel
theorem dX4_pushLeaf_14 : decode cX4_pushLeaf 14 = .ok (.aload_n 0, 1) := by decide +kernel
theorem dX4_pushLeaf_15 : decode cX4_pushLeaf 15 = .ok (.getfield 31, 3) := by decide +kernel
theorem dX4_pushLeaf_18 : decode cX4_pushLeaf 18 = .ok (.aaload, 1) := by decide +kernel
theorem dX4_pushLeaf_19 : decode cX4_pushLeaf 19 = .ok (.astore 4, 2) := by decide +kernel
theorem dX4_pushLeaf_21 : decode cX4_pushLeaf 21 = .ok (.aload_n 0, 1) := by decide +kernel
theorem dX4_pushLeaf_22 : decode cX4_pushLeaf 22 = .ok (.dup, 1) := by decide +kernel
theorem dX4_pushLeaf_23 : decode cX4_pushLeaf 23 = .ok (.getfield 31, 3) := by decide +kernel
theorem dX4_pushLeaf_26 : decode cX4_pushLeaf 26 = .ok (.iconst 1, 1) := by decide +kernel
theorem dX4_pushLeaf_27 : decode cX4_pushLeaf 27 = .ok (.iadd, 1) := by decide +kernel
theorem dX4_pushLeaf_28 : decode cX4_pushLeaf 28 = .ok (.putfield 31, 3) := by decide +kernel
theorem dX4_pushLeaf_31 : decode cX4_pushLeaf 31 = .ok (.iconst 0, 1) := by decide +kernel
theorem dX4_pushLeaf_32 : decode cX4_pushLeaf 32 = .ok (.istore 5, 2) := by decide +kernel
theorem dX4_pushLeaf_34 : decode cX4_pushLeaf 34 = .ok (.iload 5, 2) := by decide +kernel
theorem dX4_pushLeaf_36 : decode cX4_pushLeaf 36 = .ok (.aload_n 1, 1) := by decide +kernel
theorem dX4_pushLeaf_37 : decode cX4_pushLeaf 37 = .ok (.getfield 95, 3) := by decide +kernel
theorem dX4_pushLeaf_40 : decode cX4_pushLeaf 40 = .ok (.if_icmp .ge 34, 3) := by decide +kernel
theorem dX4_pushLeaf_43 : decode cX4_pushLeaf 43 = .ok (.aload_n 1, 1) := by decide +kernel
theorem dX4_pushLeaf_44 : decode cX4_pushLeaf 44 = .ok (.getfield 98, 3) := by decide +kernel
theorem dX4_pushLeaf_47 : decode cX4_pushLeaf 47 = .ok (.iload 5, 2) := by decide +kernel
theorem dX4_pushLeaf_49 : decode cX4_pushLeaf 49 = .ok (.iaload, 1) := by decide +kernel
theorem dX4_pushLeaf_50 : decode cX4_pushLeaf 50 = .ok (.istore 6, 2) := by decide +kernel
theorem dX4_pushLeaf_52 : decode cX4_pushLeaf 52 = .ok (.aload 4, 2) := by decide +kernel
theorem dX4_pushLeaf_54 : decode cX4_pushLeaf 54 = .ok (.iload 6, 2) := by decide +kernel
theorem dX4_pushLeaf_56 : decode cX4_pushLeaf 56 = .ok (.iload_n 2, 1) := by decide +kernel
theorem dX4_pushLeaf_57 : decode cX4_pushLeaf 57 = .ok (.iload_n 3, 1) := by decide +kernel
theorem dX4_pushLeaf_58 : decode cX4_pushLeaf 58 = .ok (.iload 6, 2) := by decide +kernel
theorem dX4_pushLeaf_60 : decode cX4_pushLeaf 60 = .ok (.aload_n 1, 1) := by decide +kernel
theorem dX4_pushLeaf_61 : decode cX4_pushLeaf 61 = .ok (.getfield 101, 3) := by decide +kernel
theorem dX4_pushLeaf_64 : decode cX4_pushLeaf 64 = .ok (.invokestatic 104, 3) := by decide +kernel
theorem dX4_pushLeaf_67 : decode cX4_pushLeaf 67 = .ok (.iastore, 1) := by decide +kernel
theorem dX4_pushLeaf_68 : decode cX4_pushLeaf 68 = .ok (.iinc 5 1, 3) := by decide +kernel
theorem dX4_pushLeaf_71 : decode cX4_pushLeaf 71 = .ok (.goto (-37), 3) := by decide +kernel
theorem dX4_pushLeaf_74 : decode cX4_pushLeaf 74 = .ok (.return_, 1) := by decide +kernel
theorem dX4_leaf_0 : decode cX4_leaf 0 = .ok (.iload_n 0, 1) := by decide +kernel
theorem dX4_leaf_1 : decode cX4_leaf 1 = .ok (.lookupswitch 48 #[(262, 42), (268, 37), (274, 35)], 35) := by decide +kernel
theorem dX4_leaf_36 : decode cX4_leaf 36 = .ok (.iload_n 1, 1) := by decide +kernel
theorem dX4_leaf_37 : decode cX4_leaf 37 = .ok (.ireturn, 1) := by decide +kernel
theorem dX4_leaf_38 : decode cX4_leaf 38 = .ok (.iload_n 2, 1) := by decide +kernel
theorem dX4_leaf_39 : decode cX4_leaf 39 = .ok (.invokestatic 108, 3) := by decide +kernel
theorem dX4_leaf_42 : decode cX4_leaf 42 = .ok (.ireturn, 1) := by decide +kernel
theorem dX4_leaf_43 : decode cX4_leaf 43 = .ok (.iload_n 2, 1) := by decide +kernel
theorem dX4_leaf_44 : decode cX4_leaf 44 = .ok (.iload_n 1, 1) := by decide +kernel
theorem dX4_leaf_45 : decode cX4_leaf 45 = .ok (.ishr, 1) := by decide +kernel
theorem dX4_leaf_46 : decode cX4_leaf 46 = .ok (.iconst 1, 1) := by decide +kernel
theorem dX4_leaf_47 : decode cX4_leaf 47 = .ok (.iand, 1) := by decide +kernel
theorem dX4_leaf_48 : decode cX4_leaf 48 = .ok (.ireturn, 1) := by decide +kernel
theorem dX4_leaf_49 : decode cX4_leaf 49 = .ok (.iload_n 3, 1) := by decide +kernel
theorem dX4_leaf_50 : decode cX4_leaf 50 = .ok (.iload_n 1, 1) := by decide +kernel
theorem dX4_leaf_51 : decode cX4_leaf 51 = .ok (.ishr, 1) := by decide +kernel
theorem dX4_leaf_52 : decode cX4_leaf 52 = .ok (.iconst 1, 1) := by decide +kernel
theorem dX4_leaf_53 : decode cX4_leaf 53 = .ok (.iand, 1) := by decide +kernel
theorem dX4_leaf_54 : decode cX4_leaf 54 = .ok (.ireturn, 1) := by decide +kernel
theorem dX4_negate_0 : decode cX4_negate 0 = .ok (.iconst 0, 1) := by decide +kernel
theorem dX4_negate_1 : decode cX4_negate 1 = .ok (.istore_n 2, 1) := by decide +kernel
theorem dX4_negate_2 : decode cX4_negate 2 = .ok (.iload_n 2, 1) := by decide +kernel
theorem dX4_negate_3 : decode cX4_negate 3 = .ok (.aload_n 0, 1) := by decide +kernel
theorem dX4_negate_4 : decode cX4_negate 4 = .ok (.getfield 95, 3) := by decide +kernel
theorem dX4_negate_7 : decode cX4_negate 7 = .ok (.if_icmp .ge 30, 3) := by decide +kernel
theorem dX4_negate_10 : decode cX4_negate 10 = .ok (.aload_n 0, 1) := by decide +kernel
theorem dX4_negate_11 : decode cX4_negate 11 = .ok (.getfield 98, 3) := by decide +kernel
theorem dX4_negate_14 : decode cX4_negate 14 = .ok (.iload_n 2, 1) := by decide +kernel
theorem dX4_negate_15 : decode cX4_negate 15 = .ok (.iaload, 1) := by decide +kernel
theorem dX4_negate_16 : decode cX4_negate 16 = .ok (.istore_n 3, 1) := by decide +kernel
theorem dX4_negate_17 : decode cX4_negate 17 = .ok (.aload_n 1, 1) := by decide +kernel
theorem dX4_negate_18 : decode cX4_negate 18 = .ok (.iload_n 3, 1) := by decide +kernel
theorem dX4_negate_19 : decode cX4_negate 19 = .ok (.aload_n 1, 1) := by decide +kernel
theorem dX4_negate_20 : decode cX4_negate 20 = .ok (.iload_n 3, 1) := by decide +kernel
theorem dX4_negate_21 : decode cX4_negate 21 = .ok (.iaload, 1) := by decide +kernel
theorem dX4_negate_22 : decode cX4_negate 22 = .ok (.ifCond .ne 7, 3) := by decide +kernel
theorem dX4_negate_25 : decode cX4_negate 25 = .ok (.iconst 1, 1) := by decide +kernel
theorem dX4_negate_26 : decode cX4_negate 26 = .ok (.goto 4, 3) := by decide +kernel
theorem dX4_negate_29 : decode cX4_negate 29 = .ok (.iconst 0, 1) := by decide +kernel
theorem dX4_negate_30 : decode cX4_negate 30 = .ok (.iastore, 1) := by decide +kernel
theorem dX4_negate_31 : decode cX4_negate 31 = .ok (.iinc 2 1, 3) := by decide +kernel
theorem dX4_negate_34 : decode cX4_negate 34 = .ok (.goto (-32), 3) := by decide +kernel
theorem dX4_negate_37 : decode cX4_negate 37 = .ok (.return_, 1) := by decide +kernel
theorem dX4_joinTop_0 : decode cX4_joinTop 0 = .ok (.aload_n 0, 1) := by decide +kernel
theorem dX4_joinTop_1 : decode cX4_joinTop 1 = .ok (.getfield 31, 3) := by decide +kernel
theorem dX4_joinTop_4 : decode cX4_joinTop 4 = .ok (.iconst 2, 1) := by decide +kernel
theorem dX4_joinTop_5 : decode cX4_joinTop 5 = .ok (.if_icmp .ge 4, 3) := by decide +kernel
theorem dX4_joinTop_8 : decode cX4_joinTop 8 = .ok (.return_, 1) := by decide +kernel
theorem dX4_joinTop_9 : decode cX4_joinTop 9 = .ok (.aload_n 0, 1) := by decide +kernel
theorem dX4_joinTop_10 : decode cX4_joinTop 10 = .ok (.dup, 1) := by decide +kernel
theorem dX4_joinTop_11 : decode cX4_joinTop 11 = .ok (.getfield 31, 3) := by decide +kernel
theorem dX4_joinTop_14 : decode cX4_joinTop 14 = .ok (.iconst 1, 1) := by decide +kernel
theorem dX4_joinTop_15 : decode cX4_joinTop 15 = .ok (.isub, 1) := by decide +kernel
theorem dX4_joinTop_16 : decode cX4_joinTop 16 = .ok (.putfield 31, 3) := by decide +kernel
theorem dX4_joinTop_19 : decode cX4_joinTop 19 = .ok (.aload_n 0, 1) := by decide +kernel
theorem dX4_joinTop_20 : decode cX4_joinTop 20 = .ok (.getfield 15, 3) := by decide +kernel
theorem dX4_joinTop_23 : decode cX4_joinTop 23 = .ok (.aload_n 0, 1) := by decide +kernel
theorem dX4_joinTop_24 : decode cX4_joinTop 24 = .ok (.getfield 31, 3) := by decide +kernel
theorem dX4_joinTop_27 : decode cX4_joinTop 27 = .ok (.iconst 1, 1) := by decide +kernel
theorem dX4_joinTop_28 : decode cX4_joinTop 28 = .ok (.isub, 1) := by decide +kernel
theorem dX4_joinTop_29 : decode cX4_joinTop 29 = .ok (.aaload, 1) := by decide +kernel
theorem dX4_joinTop_30 : decode cX4_joinTop 30 = .ok (.astore_n 3, 1) := by decide +kernel
theorem dX4_joinTop_31 : decode cX4_joinTop 31 = .ok (.aload_n 0, 1) := by decide +kernel
theorem dX4_joinTop_32 : decode cX4_joinTop 32 = .ok (.getfield 15, 3) := by decide +kernel
theorem dX4_joinTop_35 : decode cX4_joinTop 35 = .ok (.aload_n 0, 1) := by decide +kernel
theorem dX4_joinTop_36 : decode cX4_joinTop 36 = .ok (.getfield 31, 3) := by decide +kernel
theorem dX4_joinTop_39 : decode cX4_joinTop 39 = .ok (.aaload, 1) := by decide +kernel
theorem dX4_joinTop_40 : decode cX4_joinTop 40 = .ok (.astore 4, 2) := by decide +kernel
theorem dX4_joinTop_42 : decode cX4_joinTop 42 = .ok (.iconst 0, 1) := by decide +kernel
theorem dX4_joinTop_43 : decode cX4_joinTop 43 = .ok (.istore 5, 2) := by decide +kernel
theorem dX4_joinTop_45 : decode cX4_joinTop 45 = .ok (.iload 5, 2) := by decide +kernel
theorem dX4_joinTop_47 : decode cX4_joinTop 47 = .ok (.aload_n 1, 1) := by decide +kernel
theorem dX4_joinTop_48 : decode cX4_joinTop 48 = .ok (.getfield 95, 3) := by decide +kernel
theorem dX4_joinTop_51 : decode cX4_joinTop 51 = .ok (.if_icmp .ge 35, 3) := by decide +kernel
theorem dX4_joinTop_54 : decode cX4_joinTop 54 = .ok (.aload_n 1, 1) := by decide +kernel
theorem dX4_joinTop_55 : decode cX4_joinTop 55 = .ok (.getfield 98, 3) := by decide +kernel
theorem dX4_joinTop_58 : decode cX4_joinTop 58 = .ok (.iload 5, 2) := by decide +kernel
theorem dX4_joinTop_60 : decode cX4_joinTop 60 = .ok (.iaload, 1) := by decide +kernel
theorem dX4_joinTop_61 : decode cX4_joinTop 61 = .ok (.istore 6, 2) := by decide +kernel
theorem dX4_joinTop_63 : decode cX4_joinTop 63 = .ok (.aload_n 3, 1) := by decide +kernel
theorem dX4_joinTop_64 : decode cX4_joinTop 64 = .ok (.iload 6, 2) := by decide +kernel
theorem dX4_joinTop_66 : decode cX4_joinTop 66 = .ok (.iload_n 2, 1) := by decide +kernel
theorem dX4_joinTop_67 : decode cX4_joinTop 67 = .ok (.aload_n 3, 1) := by decide +kernel
theorem dX4_joinTop_68 : decode cX4_joinTop 68 = .ok (.iload 6, 2) := by decide +kernel
theorem dX4_joinTop_70 : decode cX4_joinTop 70 = .ok (.iaload, 1) := by decide +kernel
theorem dX4_joinTop_71 : decode cX4_joinTop 71 = .ok (.aload 4, 2) := by decide +kernel
theorem dX4_joinTop_73 : decode cX4_joinTop 73 = .ok (.iload 6, 2) := by decide +kernel
theorem dX4_joinTop_75 : decode cX4_joinTop 75 = .ok (.iaload, 1) := by decide +kernel
theorem dX4_joinTop_76 : decode cX4_joinTop 76 = .ok (.invokestatic 113, 3) := by decide +kernel
theorem dX4_joinTop_79 : decode cX4_joinTop 79 = .ok (.iastore, 1) := by decide +kernel
theorem dX4_joinTop_80 : decode cX4_joinTop 80 = .ok (.iinc 5 1, 3) := by decide +kernel
theorem dX4_joinTop_83 : decode cX4_joinTop 83 = .ok (.goto (-38), 3) := by decide +kernel
theorem dX4_joinTop_86 : decode cX4_joinTop 86 = .ok (.return_, 1) := by decide +kernel
theorem dX4_joined_0 : decode cX4_joined 0 = .ok (.iload_n 0, 1) := by decide +kernel
theorem dX4_joined_1 : decode cX4_joined 1 = .ok (.lookupswitch 146 #[(42, 83), (43, 75), (45, 79), (47, 87), (60, 99), (61, 121), (62, 110), (266, 132)], 75) := by decide +kernel
theorem dX4_joined_76 : decode cX4_joined 76 = .ok (.iload_n 1, 1) := by decide +kernel
theorem dX4_joined_77 : decode cX4_joined 77 = .ok (.iload_n 2, 1) := by decide +kernel
theorem dX4_joined_78 : decode cX4_joined 78 = .ok (.iadd, 1) := by decide +kernel
theorem dX4_joined_79 : decode cX4_joined 79 = .ok (.ireturn, 1) := by decide +kernel
theorem dX4_joined_80 : decode cX4_joined 80 = .ok (.iload_n 1, 1) := by decide +kernel
theorem dX4_joined_81 : decode cX4_joined 81 = .ok (.iload_n 2, 1) := by decide +kernel
theorem dX4_joined_82 : decode cX4_joined 82 = .ok (.isub, 1) := by decide +kernel
theorem dX4_joined_83 : decode cX4_joined 83 = .ok (.ireturn, 1) := by decide +kernel
theorem dX4_joined_84 : decode cX4_joined 84 = .ok (.iload_n 1, 1) := by decide +kernel
theorem dX4_joined_85 : decode cX4_joined 85 = .ok (.iload_n 2, 1) := by decide +kernel
theorem dX4_joined_86 : decode cX4_joined 86 = .ok (.imul, 1) := by decide +kernel
theorem dX4_joined_87 : decode cX4_joined 87 = .ok (.ireturn, 1) := by decide +kernel
theorem dX4_joined_88 : decode cX4_joined 88 = .ok (.iload_n 2, 1) := by decide +kernel
theorem dX4_joined_89 : decode cX4_joined 89 = .ok (.ifCond .ne 7, 3) := by decide +kernel
theorem dX4_joined_92 : decode cX4_joined 92 = .ok (.iconst 0, 1) := by decide +kernel
theorem dX4_joined_93 : decode cX4_joined 93 = .ok (.goto 6, 3) := by decide +kernel
theorem dX4_joined_96 : decode cX4_joined 96 = .ok (.iload_n 1, 1) := by decide +kernel
theorem dX4_joined_97 : decode cX4_joined 97 = .ok (.iload_n 2, 1) := by decide +kernel
theorem dX4_joined_98 : decode cX4_joined 98 = .ok (.idiv, 1) := by decide +kernel
theorem dX4_joined_99 : decode cX4_joined 99 = .ok (.ireturn, 1) := by decide +kernel
theorem dX4_joined_100 : decode cX4_joined 100 = .ok (.iload_n 1, 1) := by decide +kernel
theorem dX4_joined_101 : decode cX4_joined 101 = .ok (.iload_n 2, 1) := by decide +kernel
theorem dX4_joined_102 : decode cX4_joined 102 = .ok (.if_icmp .ge 7, 3) := by decide +kernel
theorem dX4_joined_105 : decode cX4_joined 105 = .ok (.iconst 1, 1) := by decide +kernel
theorem dX4_joined_106 : decode cX4_joined 106 = .ok (.goto 4, 3) := by decide +kernel
theorem dX4_joined_109 : decode cX4_joined 109 = .ok (.iconst 0, 1) := by decide +kernel
theorem dX4_joined_110 : decode cX4_joined 110 = .ok (.ireturn, 1) := by decide +kernel
theorem dX4_joined_111 : decode cX4_joined 111 = .ok (.iload_n 1, 1) := by decide +kernel
theorem dX4_joined_112 : decode cX4_joined 112 = .ok (.iload_n 2, 1) := by decide +kernel
theorem dX4_joined_113 : decode cX4_joined 113 = .ok (.if_icmp .le 7, 3) := by decide +kernel
theorem dX4_joined_116 : decode cX4_joined 116 = .ok (.iconst 1, 1) := by decide +kernel
theorem dX4_joined_117 : decode cX4_joined 117 = .ok (.goto 4, 3) := by decide +kernel
theorem dX4_joined_120 : decode cX4_joined 120 = .ok (.iconst 0, 1) := by decide +kernel
theorem dX4_joined_121 : decode cX4_joined 121 = .ok (.ireturn, 1) := by decide +kernel
theorem dX4_joined_122 : decode cX4_joined 122 = .ok (.iload_n 1, 1) := by decide +kernel
theorem dX4_joined_123 : decode cX4_joined 123 = .ok (.iload_n 2, 1) := by decide +kernel
theorem dX4_joined_124 : decode cX4_joined 124 = .ok (.if_icmp .ne 7, 3) := by decide +kernel
theorem dX4_joined_127 : decode cX4_joined 127 = .ok (.iconst 1, 1) := by decide +kernel
theorem dX4_joined_128 : decode cX4_joined 128 = .ok (.goto 4, 3) := by decide +kernel
theorem dX4_joined_131 : decode cX4_joined 131 = .ok (.iconst 0, 1) := by decide +kernel
theorem dX4_joined_132 : decode cX4_joined 132 = .ok (.ireturn, 1) := by decide +kernel
theorem dX4_joined_133 : decode cX4_joined 133 = .ok (.iload_n 1, 1) := by decide +kernel
theorem dX4_joined_134 : decode cX4_joined 134 = .ok (.ifCond .eq 11, 3) := by decide +kernel
theorem dX4_joined_137 : decode cX4_joined 137 = .ok (.iload_n 2, 1) := by decide +kernel
theorem dX4_joined_138 : decode cX4_joined 138 = .ok (.ifCond .eq 7, 3) := by decide +kernel
theorem dX4_joined_141 : decode cX4_joined 141 = .ok (.iconst 1, 1) := by decide +kernel
theorem dX4_joined_142 : decode cX4_joined 142 = .ok (.goto 4, 3) := by decide +kernel
theorem dX4_joined_145 : decode cX4_joined 145 = .ok (.iconst 0, 1) := by decide +kernel
theorem dX4_joined_146 : decode cX4_joined 146 = .ok (.ireturn, 1) := by decide +kernel
theorem dX4_joined_147 : decode cX4_joined 147 = .ok (.iload_n 1, 1) := by decide +kernel
theorem dX4_joined_148 : decode cX4_joined 148 = .ok (.ifCond .ne 7, 3) := by decide +kernel
theorem dX4_joined_151 : decode cX4_joined 151 = .ok (.iload_n 2, 1) := by decide +kernel
theorem dX4_joined_152 : decode cX4_joined 152 = .ok (.ifCond .eq 7, 3) := by decide +kernel
theorem dX4_joined_155 : decode cX4_joined 155 = .ok (.iconst 1, 1) := by decide +kernel
theorem dX4_joined_156 : decode cX4_joined 156 = .ok (.goto 4, 3) := by decide +kernel
theorem dX4_joined_159 : decode cX4_joined 159 = .ok (.iconst 0, 1) := by decide +kernel
theorem dX4_joined_160 : decode cX4_joined 160 = .ok (.ireturn, 1) := by decide +kernel
theorem dX4_markKnown_0 : decode cX4_markKnown 0 = .ok (.iconst 0, 1) := by decide +kernel
theorem dX4_markKnown_1 : decode cX4_markKnown 1 = .ok (.istore 4, 2) := by decide +kernel
theorem dX4_markKnown_3 : decode cX4_markKnown 3 = .ok (.iload 4, 2) := by decide +kernel
theorem dX4_markKnown_5 : decode cX4_markKnown 5 = .ok (.aload_n 1, 1) := by decide +kernel
theorem dX4_markKnown_6 : decode cX4_markKnown 6 = .ok (.getfield 95, 3) := by decide +kernel
theorem dX4_markKnown_9 : decode cX4_markKnown 9 = .ok (.if_icmp .ge 24, 3) := by decide +kernel
theorem dX4_markKnown_12 : decode cX4_markKnown 12 = .ok (.aload_n 0, 1) := by decide +kernel
theorem dX4_markKnown_13 : decode cX4_markKnown 13 = .ok (.getfield 22, 3) := by decide +kernel
theorem dX4_markKnown_16 : decode cX4_markKnown 16 = .ok (.aload_n 2, 1) := by decide +kernel
theorem dX4_markKnown_17 : decode cX4_markKnown 17 = .ok (.aload_n 1, 1) := by decide +kernel
theorem dX4_markKnown_18 : decode cX4_markKnown 18 = .ok (.getfield 98, 3) := by decide +kernel
theorem dX4_markKnown_21 : decode cX4_markKnown 21 = .ok (.iload 4, 2) := by decide +kernel
theorem dX4_markKnown_23 : decode cX4_markKnown 23 = .ok (.iaload, 1) := by decide +kernel
theorem dX4_markKnown_24 : decode cX4_markKnown 24 = .ok (.iaload, 1) := by decide +kernel
theorem dX4_markKnown_25 : decode cX4_markKnown 25 = .ok (.iconst 1, 1) := by decide +kernel
theorem dX4_markKnown_26 : decode cX4_markKnown 26 = .ok (.iastore, 1) := by decide +kernel
theorem dX4_markKnown_27 : decode cX4_markKnown 27 = .ok (.iinc 4 1, 3) := by decide +kernel
theorem dX4_markKnown_30 : decode cX4_markKnown 30 = .ok (.goto (-27), 3) := by decide +kernel
theorem dX4_markKnown_33 : decode cX4_markKnown 33 = .ok (.iconst 0, 1) := by decide +kernel
theorem dX4_markKnown_34 : decode cX4_markKnown 34 = .ok (.istore 4, 2) := by decide +kernel
theorem dX4_markKnown_36 : decode cX4_markKnown 36 = .ok (.iload 4, 2) := by decide +kernel
theorem dX4_markKnown_38 : decode cX4_markKnown 38 = .ok (.aload_n 1, 1) := by decide +kernel
theorem dX4_markKnown_39 : decode cX4_markKnown 39 = .ok (.getfield 95, 3) := by decide +kernel
theorem dX4_markKnown_42 : decode cX4_markKnown 42 = .ok (.if_icmp .ge 35, 3) := by decide +kernel
theorem dX4_markKnown_45 : decode cX4_markKnown 45 = .ok (.aload_n 1, 1) := by decide +kernel
theorem dX4_markKnown_46 : decode cX4_markKnown 46 = .ok (.getfield 98, 3) := by decide +kernel
theorem dX4_markKnown_49 : decode cX4_markKnown 49 = .ok (.iload 4, 2) := by decide +kernel
theorem dX4_markKnown_51 : decode cX4_markKnown 51 = .ok (.iaload, 1) := by decide +kernel
theorem dX4_markKnown_52 : decode cX4_markKnown 52 = .ok (.istore 5, 2) := by decide +kernel
theorem dX4_markKnown_54 : decode cX4_markKnown 54 = .ok (.aload_n 3, 1) := by decide +kernel
theorem dX4_markKnown_55 : decode cX4_markKnown 55 = .ok (.iload 5, 2) := by decide +kernel
theorem dX4_markKnown_57 : decode cX4_markKnown 57 = .ok (.iaload, 1) := by decide +kernel
theorem dX4_markKnown_58 : decode cX4_markKnown 58 = .ok (.ifCond .ne 13, 3) := by decide +kernel
theorem dX4_markKnown_61 : decode cX4_markKnown 61 = .ok (.aload_n 0, 1) := by decide +kernel
theorem dX4_markKnown_62 : decode cX4_markKnown 62 = .ok (.getfield 22, 3) := by decide +kernel
theorem dX4_markKnown_65 : decode cX4_markKnown 65 = .ok (.aload_n 2, 1) := by decide +kernel
theorem dX4_markKnown_66 : decode cX4_markKnown 66 = .ok (.iload 5, 2) := by decide +kernel
theorem dX4_markKnown_68 : decode cX4_markKnown 68 = .ok (.iaload, 1) := by decide +kernel
theorem dX4_markKnown_69 : decode cX4_markKnown 69 = .ok (.iconst 0, 1) := by decide +kernel
theorem dX4_markKnown_70 : decode cX4_markKnown 70 = .ok (.iastore, 1) := by decide +kernel
theorem dX4_markKnown_71 : decode cX4_markKnown 71 = .ok (.iinc 4 1, 3) := by decide +kernel
theorem dX4_markKnown_74 : decode cX4_markKnown 74 = .ok (.goto (-38), 3) := by decide +kernel
theorem dX4_markKnown_77 : decode cX4_markKnown 77 = .ok (.return_, 1) := by decide +kernel
theorem dX4_knowsOne_0 : decode cX4_knowsOne 0 = .ok (.aload_n 1, 1) := by decide +kernel
theorem dX4_knowsOne_1 : decode cX4_knowsOne 1 = .ok (.getfield 117, 3) := by decide +kernel
theorem dX4_knowsOne_4 : decode cX4_knowsOne 4 = .ok (.iload_n 2, 1) := by decide +kernel
theorem dX4_knowsOne_5 : decode cX4_knowsOne 5 = .ok (.invokevirtual 121, 3) := by decide +kernel
theorem dX4_knowsOne_8 : decode cX4_knowsOne 8 = .ok (.astore 4, 2) := by decide +kernel
theorem dX4_knowsOne_10 : decode cX4_knowsOne 10 = .ok (.aload_n 0, 1) := by decide +kernel
theorem dX4_knowsOne_11 : decode cX4_knowsOne 11 = .ok (.aload_n 1, 1) := by decide +kernel
theorem dX4_knowsOne_12 : decode cX4_knowsOne 12 = .ok (.aload 4, 2) := by decide +kernel
theorem dX4_knowsOne_14 : decode cX4_knowsOne 14 = .ok (.aload_n 3, 1) := by decide +kernel
theorem dX4_knowsOne_15 : decode cX4_knowsOne 15 = .ok (.invokevirtual 127, 3) := by decide +kernel
theorem dX4_knowsOne_18 : decode cX4_knowsOne 18 = .ok (.iconst 0, 1) := by decide +kernel
theorem dX4_knowsOne_19 : decode cX4_knowsOne 19 = .ok (.istore 5, 2) := by decide +kernel
theorem dX4_knowsOne_21 : decode cX4_knowsOne 21 = .ok (.iload 5, 2) := by decide +kernel
theorem dX4_knowsOne_23 : decode cX4_knowsOne 23 = .ok (.aload_n 1, 1) := by decide +kernel
theorem dX4_knowsOne_24 : decode cX4_knowsOne 24 = .ok (.getfield 95, 3) := by decide +kernel
theorem dX4_knowsOne_27 : decode cX4_knowsOne 27 = .ok (.if_icmp .ge 32, 3) := by decide +kernel
theorem dX4_knowsOne_30 : decode cX4_knowsOne 30 = .ok (.aload_n 1, 1) := by decide +kernel
theorem dX4_knowsOne_31 : decode cX4_knowsOne 31 = .ok (.getfield 98, 3) := by decide +kernel
theorem dX4_knowsOne_34 : decode cX4_knowsOne 34 = .ok (.iload 5, 2) := by decide +kernel
theorem dX4_knowsOne_36 : decode cX4_knowsOne 36 = .ok (.iaload, 1) := by decide +kernel
theorem dX4_knowsOne_37 : decode cX4_knowsOne 37 = .ok (.istore 6, 2) := by decide +kernel
theorem dX4_knowsOne_39 : decode cX4_knowsOne 39 = .ok (.aload_n 3, 1) := by decide +kernel
theorem dX4_knowsOne_40 : decode cX4_knowsOne 40 = .ok (.iload 6, 2) := by decide +kernel
theorem dX4_knowsOne_42 : decode cX4_knowsOne 42 = .ok (.aload_n 0, 1) := by decide +kernel
theorem dX4_knowsOne_43 : decode cX4_knowsOne 43 = .ok (.getfield 22, 3) := by decide +kernel
theorem dX4_knowsOne_46 : decode cX4_knowsOne 46 = .ok (.aload 4, 2) := by decide +kernel
theorem dX4_knowsOne_48 : decode cX4_knowsOne 48 = .ok (.iload 6, 2) := by decide +kernel
theorem dX4_knowsOne_50 : decode cX4_knowsOne 50 = .ok (.iaload, 1) := by decide +kernel
theorem dX4_knowsOne_51 : decode cX4_knowsOne 51 = .ok (.iaload, 1) := by decide +kernel
theorem dX4_knowsOne_52 : decode cX4_knowsOne 52 = .ok (.iastore, 1) := by decide +kernel
theorem dX4_knowsOne_53 : decode cX4_knowsOne 53 = .ok (.iinc 5 1, 3) := by decide +kernel
theorem dX4_knowsOne_56 : decode cX4_knowsOne 56 = .ok (.goto (-35), 3) := by decide +kernel
theorem dX4_knowsOne_59 : decode cX4_knowsOne 59 = .ok (.return_, 1) := by decide +kernel
theorem dX4_knowAll_0 : decode cX4_knowAll 0 = .ok (.aload_n 0, 1) := by decide +kernel
theorem dX4_knowAll_1 : decode cX4_knowAll 1 = .ok (.getfield 18, 3) := by decide +kernel
theorem dX4_knowAll_4 : decode cX4_knowAll 4 = .ok (.iconst 1, 1) := by decide +kernel
theorem dX4_knowAll_5 : decode cX4_knowAll 5 = .ok (.invokestatic 131, 3) := by decide +kernel
theorem dX4_knowAll_8 : decode cX4_knowAll 8 = .ok (.iconst 0, 1) := by decide +kernel
theorem dX4_knowAll_9 : decode cX4_knowAll 9 = .ok (.istore_n 3, 1) := by decide +kernel
theorem dX4_knowAll_10 : decode cX4_knowAll 10 = .ok (.iload_n 3, 1) := by decide +kernel
theorem dX4_knowAll_11 : decode cX4_knowAll 11 = .ok (.aload_n 1, 1) := by decide +kernel
theorem dX4_knowAll_12 : decode cX4_knowAll 12 = .ok (.getfield 35, 3) := by decide +kernel
theorem dX4_knowAll_15 : decode cX4_knowAll 15 = .ok (.getfield 137, 3) := by decide +kernel
theorem dX4_knowAll_18 : decode cX4_knowAll 18 = .ok (.if_icmp .ge 74, 3) := by decide +kernel
theorem dX4_knowAll_21 : decode cX4_knowAll 21 = .ok (.aload_n 1, 1) := by decide +kernel
theorem dX4_knowAll_22 : decode cX4_knowAll 22 = .ok (.getfield 117, 3) := by decide +kernel
theorem dX4_knowAll_25 : decode cX4_knowAll 25 = .ok (.iload_n 3, 1) := by decide +kernel
theorem dX4_knowAll_26 : decode cX4_knowAll 26 = .ok (.invokevirtual 121, 3) := by decide +kernel
theorem dX4_knowAll_29 : decode cX4_knowAll 29 = .ok (.astore 4, 2) := by decide +kernel
theorem dX4_knowAll_31 : decode cX4_knowAll 31 = .ok (.aload_n 0, 1) := by decide +kernel
theorem dX4_knowAll_32 : decode cX4_knowAll 32 = .ok (.aload_n 1, 1) := by decide +kernel
theorem dX4_knowAll_33 : decode cX4_knowAll 33 = .ok (.aload 4, 2) := by decide +kernel
theorem dX4_knowAll_35 : decode cX4_knowAll 35 = .ok (.aload_n 2, 1) := by decide +kernel
theorem dX4_knowAll_36 : decode cX4_knowAll 36 = .ok (.invokevirtual 127, 3) := by decide +kernel
theorem dX4_knowAll_39 : decode cX4_knowAll 39 = .ok (.iconst 0, 1) := by decide +kernel
theorem dX4_knowAll_40 : decode cX4_knowAll 40 = .ok (.istore 5, 2) := by decide +kernel
theorem dX4_knowAll_42 : decode cX4_knowAll 42 = .ok (.iload 5, 2) := by decide +kernel
theorem dX4_knowAll_44 : decode cX4_knowAll 44 = .ok (.aload_n 1, 1) := by decide +kernel
theorem dX4_knowAll_45 : decode cX4_knowAll 45 = .ok (.getfield 95, 3) := by decide +kernel
theorem dX4_knowAll_48 : decode cX4_knowAll 48 = .ok (.if_icmp .ge 38, 3) := by decide +kernel
theorem dX4_knowAll_51 : decode cX4_knowAll 51 = .ok (.aload_n 1, 1) := by decide +kernel
theorem dX4_knowAll_52 : decode cX4_knowAll 52 = .ok (.getfield 98, 3) := by decide +kernel
theorem dX4_knowAll_55 : decode cX4_knowAll 55 = .ok (.iload 5, 2) := by decide +kernel
theorem dX4_knowAll_57 : decode cX4_knowAll 57 = .ok (.iaload, 1) := by decide +kernel
theorem dX4_knowAll_58 : decode cX4_knowAll 58 = .ok (.istore 6, 2) := by decide +kernel
theorem dX4_knowAll_60 : decode cX4_knowAll 60 = .ok (.aload_n 0, 1) := by decide +kernel
theorem dX4_knowAll_61 : decode cX4_knowAll 61 = .ok (.getfield 18, 3) := by decide +kernel
theorem dX4_knowAll_64 : decode cX4_knowAll 64 = .ok (.iload 6, 2) := by decide +kernel
theorem dX4_knowAll_66 : decode cX4_knowAll 66 = .ok (.dup2, 1) := by decide +kernel
theorem dX4_knowAll_67 : decode cX4_knowAll 67 = .ok (.iaload, 1) := by decide +kernel
theorem dX4_knowAll_68 : decode cX4_knowAll 68 = .ok (.aload_n 0, 1) := by decide +kernel
theorem dX4_knowAll_69 : decode cX4_knowAll 69 = .ok (.getfield 22, 3) := by decide +kernel
theorem dX4_knowAll_72 : decode cX4_knowAll 72 = .ok (.aload 4, 2) := by decide +kernel
theorem dX4_knowAll_74 : decode cX4_knowAll 74 = .ok (.iload 6, 2) := by decide +kernel
theorem dX4_knowAll_76 : decode cX4_knowAll 76 = .ok (.iaload, 1) := by decide +kernel
theorem dX4_knowAll_77 : decode cX4_knowAll 77 = .ok (.iaload, 1) := by decide +kernel
theorem dX4_knowAll_78 : decode cX4_knowAll 78 = .ok (.iand, 1) := by decide +kernel
theorem dX4_knowAll_79 : decode cX4_knowAll 79 = .ok (.iastore, 1) := by decide +kernel
theorem dX4_knowAll_80 : decode cX4_knowAll 80 = .ok (.iinc 5 1, 3) := by decide +kernel
theorem dX4_knowAll_83 : decode cX4_knowAll 83 = .ok (.goto (-41), 3) := by decide +kernel
theorem dX4_knowAll_86 : decode cX4_knowAll 86 = .ok (.iinc 3 1, 3) := by decide +kernel
theorem dX4_knowAll_89 : decode cX4_knowAll 89 = .ok (.goto (-79), 3) := by decide +kernel
theorem dX4_knowAll_92 : decode cX4_knowAll 92 = .ok (.aload_n 0, 1) := by decide +kernel
theorem dX4_knowAll_93 : decode cX4_knowAll 93 = .ok (.getfield 18, 3) := by decide +kernel
theorem dX4_knowAll_96 : decode cX4_knowAll 96 = .ok (.iconst 0, 1) := by decide +kernel
theorem dX4_knowAll_97 : decode cX4_knowAll 97 = .ok (.aload_n 2, 1) := by decide +kernel
theorem dX4_knowAll_98 : decode cX4_knowAll 98 = .ok (.iconst 0, 1) := by decide +kernel
theorem dX4_knowAll_99 : decode cX4_knowAll 99 = .ok (.sipush 256, 3) := by decide +kernel
theorem dX4_knowAll_102 : decode cX4_knowAll 102 = .ok (.invokestatic 140, 3) := by decide +kernel
theorem dX4_knowAll_105 : decode cX4_knowAll 105 = .ok (.return_, 1) := by decide +kernel
theorem dX4_knowInCommon_0 : decode cX4_knowInCommon 0 = .ok (.aload_n 0, 1) := by decide +kernel
theorem dX4_knowInCommon_1 : decode cX4_knowInCommon 1 = .ok (.aload_n 1, 1) := by decide +kernel
theorem dX4_knowInCommon_2 : decode cX4_knowInCommon 2 = .ok (.invokevirtual 146, 3) := by decide +kernel
theorem dX4_knowInCommon_5 : decode cX4_knowInCommon 5 = .ok (.aload_n 0, 1) := by decide +kernel
theorem dX4_knowInCommon_6 : decode cX4_knowInCommon 6 = .ok (.getfield 18, 3) := by decide +kernel
theorem dX4_knowInCommon_9 : decode cX4_knowInCommon 9 = .ok (.iconst 1, 1) := by decide +kernel
theorem dX4_knowInCommon_10 : decode cX4_knowInCommon 10 = .ok (.invokestatic 131, 3) := by decide +kernel
theorem dX4_knowInCommon_13 : decode cX4_knowInCommon 13 = .ok (.iconst 0, 1) := by decide +kernel
theorem dX4_knowInCommon_14 : decode cX4_knowInCommon 14 = .ok (.istore_n 3, 1) := by decide +kernel
theorem dX4_knowInCommon_15 : decode cX4_knowInCommon 15 = .ok (.iload_n 3, 1) := by decide +kernel
theorem dX4_knowInCommon_16 : decode cX4_knowInCommon 16 = .ok (.aload_n 1, 1) := by decide +kernel
theorem dX4_knowInCommon_17 : decode cX4_knowInCommon 17 = .ok (.getfield 95, 3) := by decide +kernel
theorem dX4_knowInCommon_20 : decode cX4_knowInCommon 20 = .ok (.if_icmp .ge 36, 3) := by decide +kernel
theorem dX4_knowInCommon_23 : decode cX4_knowInCommon 23 = .ok (.aload_n 1, 1) := by decide +kernel
theorem dX4_knowInCommon_24 : decode cX4_knowInCommon 24 = .ok (.getfield 98, 3) := by decide +kernel
theorem dX4_knowInCommon_27 : decode cX4_knowInCommon 27 = .ok (.iload_n 3, 1) := by decide +kernel
theorem dX4_knowInCommon_28 : decode cX4_knowInCommon 28 = .ok (.iaload, 1) := by decide +kernel
theorem dX4_knowInCommon_29 : decode cX4_knowInCommon 29 = .ok (.istore 4, 2) := by decide +kernel
theorem dX4_knowInCommon_31 : decode cX4_knowInCommon 31 = .ok (.aload_n 2, 1) := by decide +kernel
theorem dX4_knowInCommon_32 : decode cX4_knowInCommon 32 = .ok (.iload 4, 2) := by decide +kernel
theorem dX4_knowInCommon_34 : decode cX4_knowInCommon 34 = .ok (.iaload, 1) := by decide +kernel
theorem dX4_knowInCommon_35 : decode cX4_knowInCommon 35 = .ok (.ifCond .ne 15, 3) := by decide +kernel
theorem dX4_knowInCommon_38 : decode cX4_knowInCommon 38 = .ok (.aload_n 0, 1) := by decide +kernel
theorem dX4_knowInCommon_39 : decode cX4_knowInCommon 39 = .ok (.getfield 18, 3) := by decide +kernel
theorem dX4_knowInCommon_42 : decode cX4_knowInCommon 42 = .ok (.aload_n 0, 1) := by decide +kernel
theorem dX4_knowInCommon_43 : decode cX4_knowInCommon 43 = .ok (.iload 4, 2) := by decide +kernel
theorem dX4_knowInCommon_45 : decode cX4_knowInCommon 45 = .ok (.invokevirtual 150, 3) := by decide +kernel
theorem dX4_knowInCommon_48 : decode cX4_knowInCommon 48 = .ok (.iconst 0, 1) := by decide +kernel
theorem dX4_knowInCommon_49 : decode cX4_knowInCommon 49 = .ok (.iastore, 1) := by decide +kernel
theorem dX4_knowInCommon_50 : decode cX4_knowInCommon 50 = .ok (.iinc 3 1, 3) := by decide +kernel
theorem dX4_knowInCommon_53 : decode cX4_knowInCommon 53 = .ok (.goto (-38), 3) := by decide +kernel
theorem dX4_knowInCommon_56 : decode cX4_knowInCommon 56 = .ok (.iconst 0, 1) := by decide +kernel
theorem dX4_knowInCommon_57 : decode cX4_knowInCommon 57 = .ok (.istore_n 3, 1) := by decide +kernel
theorem dX4_knowInCommon_58 : decode cX4_knowInCommon 58 = .ok (.iload_n 3, 1) := by decide +kernel
theorem dX4_knowInCommon_59 : decode cX4_knowInCommon 59 = .ok (.aload_n 1, 1) := by decide +kernel
theorem dX4_knowInCommon_60 : decode cX4_knowInCommon 60 = .ok (.getfield 95, 3) := by decide +kernel
theorem dX4_knowInCommon_63 : decode cX4_knowInCommon 63 = .ok (.if_icmp .ge 32, 3) := by decide +kernel
theorem dX4_knowInCommon_66 : decode cX4_knowInCommon 66 = .ok (.aload_n 1, 1) := by decide +kernel
theorem dX4_knowInCommon_67 : decode cX4_knowInCommon 67 = .ok (.getfield 98, 3) := by decide +kernel
theorem dX4_knowInCommon_70 : decode cX4_knowInCommon 70 = .ok (.iload_n 3, 1) := by decide +kernel
theorem dX4_knowInCommon_71 : decode cX4_knowInCommon 71 = .ok (.iaload, 1) := by decide +kernel
theorem dX4_knowInCommon_72 : decode cX4_knowInCommon 72 = .ok (.istore 4, 2) := by decide +kernel
theorem dX4_knowInCommon_74 : decode cX4_knowInCommon 74 = .ok (.aload_n 2, 1) := by decide +kernel
theorem dX4_knowInCommon_75 : decode cX4_knowInCommon 75 = .ok (.iload 4, 2) := by decide +kernel
theorem dX4_knowInCommon_77 : decode cX4_knowInCommon 77 = .ok (.aload_n 0, 1) := by decide +kernel
theorem dX4_knowInCommon_78 : decode cX4_knowInCommon 78 = .ok (.getfield 18, 3) := by decide +kernel
theorem dX4_knowInCommon_81 : decode cX4_knowInCommon 81 = .ok (.aload_n 0, 1) := by decide +kernel
theorem dX4_knowInCommon_82 : decode cX4_knowInCommon 82 = .ok (.iload 4, 2) := by decide +kernel
theorem dX4_knowInCommon_84 : decode cX4_knowInCommon 84 = .ok (.invokevirtual 150, 3) := by decide +kernel
theorem dX4_knowInCommon_87 : decode cX4_knowInCommon 87 = .ok (.iaload, 1) := by decide +kernel
theorem dX4_knowInCommon_88 : decode cX4_knowInCommon 88 = .ok (.iastore, 1) := by decide +kernel
theorem dX4_knowInCommon_89 : decode cX4_knowInCommon 89 = .ok (.iinc 3 1, 3) := by decide +kernel
theorem dX4_knowInCommon_92 : decode cX4_knowInCommon 92 = .ok (.goto (-34), 3) := by decide +kernel
theorem dX4_knowInCommon_95 : decode cX4_knowInCommon 95 = .ok (.return_, 1) := by decide +kernel
theorem dX4_linkGroups_0 : decode cX4_linkGroups 0 = .ok (.iconst 0, 1) := by decide +kernel
theorem dX4_linkGroups_1 : decode cX4_linkGroups 1 = .ok (.istore_n 2, 1) := by decide +kernel
theorem dX4_linkGroups_2 : decode cX4_linkGroups 2 = .ok (.iload_n 2, 1) := by decide +kernel
theorem dX4_linkGroups_3 : decode cX4_linkGroups 3 = .ok (.sipush 256, 3) := by decide +kernel
theorem dX4_linkGroups_6 : decode cX4_linkGroups 6 = .ok (.if_icmp .ge 16, 3) := by decide +kernel
theorem dX4_linkGroups_9 : decode cX4_linkGroups 9 = .ok (.aload_n 0, 1) := by decide +kernel
theorem dX4_linkGroups_10 : decode cX4_linkGroups 10 = .ok (.getfield 25, 3) := by decide +kernel
theorem dX4_linkGroups_13 : decode cX4_linkGroups 13 = .ok (.iload_n 2, 1) := by decide +kernel
theorem dX4_linkGroups_14 : decode cX4_linkGroups 14 = .ok (.iload_n 2, 1) := by decide +kernel
theorem dX4_linkGroups_15 : decode cX4_linkGroups 15 = .ok (.iastore, 1) := by decide +kernel
theorem dX4_linkGroups_16 : decode cX4_linkGroups 16 = .ok (.iinc 2 1, 3) := by decide +kernel
theorem dX4_linkGroups_19 : decode cX4_linkGroups 19 = .ok (.goto (-17), 3) := by decide +kernel
theorem dX4_linkGroups_22 : decode cX4_linkGroups 22 = .ok (.iconst 0, 1) := by decide +kernel
theorem dX4_linkGroups_23 : decode cX4_linkGroups 23 = .ok (.istore_n 2, 1) := by decide +kernel
theorem dX4_linkGroups_24 : decode cX4_linkGroups 24 = .ok (.iload_n 2, 1) := by decide +kernel
theorem dX4_linkGroups_25 : decode cX4_linkGroups 25 = .ok (.aload_n 1, 1) := by decide +kernel
theorem dX4_linkGroups_26 : decode cX4_linkGroups 26 = .ok (.getfield 35, 3) := by decide +kernel
theorem dX4_linkGroups_29 : decode cX4_linkGroups 29 = .ok (.getfield 137, 3) := by decide +kernel
theorem dX4_linkGroups_32 : decode cX4_linkGroups 32 = .ok (.if_icmp .ge 119, 3) := by decide +kernel
theorem dX4_linkGroups_35 : decode cX4_linkGroups 35 = .ok (.aload_n 1, 1) := by decide +kernel
theorem dX4_linkGroups_36 : decode cX4_linkGroups 36 = .ok (.getfield 117, 3) := by decide +kernel
theorem dX4_linkGroups_39 : decode cX4_linkGroups 39 = .ok (.iload_n 2, 1) := by decide +kernel
theorem dX4_linkGroups_40 : decode cX4_linkGroups 40 = .ok (.invokevirtual 121, 3) := by decide +kernel
theorem dX4_linkGroups_43 : decode cX4_linkGroups 43 = .ok (.astore_n 3, 1) := by decide +kernel
theorem dX4_linkGroups_44 : decode cX4_linkGroups 44 = .ok (.aload_n 0, 1) := by decide +kernel
theorem dX4_linkGroups_45 : decode cX4_linkGroups 45 = .ok (.getfield 22, 3) := by decide +kernel
theorem dX4_linkGroups_48 : decode cX4_linkGroups 48 = .ok (.iconst (-1), 1) := by decide +kernel
theorem dX4_linkGroups_49 : decode cX4_linkGroups 49 = .ok (.invokestatic 131, 3) := by decide +kernel
theorem dX4_linkGroups_52 : decode cX4_linkGroups 52 = .ok (.iconst 0, 1) := by decide +kernel
theorem dX4_linkGroups_53 : decode cX4_linkGroups 53 = .ok (.istore 4, 2) := by decide +kernel
theorem dX4_linkGroups_55 : decode cX4_linkGroups 55 = .ok (.iload 4, 2) := by decide +kernel
theorem dX4_linkGroups_57 : decode cX4_linkGroups 57 = .ok (.aload_n 1, 1) := by decide +kernel
theorem dX4_linkGroups_58 : decode cX4_linkGroups 58 = .ok (.getfield 95, 3) := by decide +kernel
theorem dX4_linkGroups_61 : decode cX4_linkGroups 61 = .ok (.if_icmp .ge 84, 3) := by decide +kernel
theorem dX4_linkGroups_64 : decode cX4_linkGroups 64 = .ok (.aload_n 1, 1) := by decide +kernel
theorem dX4_linkGroups_65 : decode cX4_linkGroups 65 = .ok (.getfield 98, 3) := by decide +kernel
theorem dX4_linkGroups_68 : decode cX4_linkGroups 68 = .ok (.iload 4, 2) := by decide +kernel
theorem dX4_linkGroups_70 : decode cX4_linkGroups 70 = .ok (.iaload, 1) := by decide +kernel
theorem dX4_linkGroups_71 : decode cX4_linkGroups 71 = .ok (.istore 5, 2) := by decide +kernel
theorem dX4_linkGroups_73 : decode cX4_linkGroups 73 = .ok (.aload_n 0, 1) := by decide +kernel
theorem dX4_linkGroups_74 : decode cX4_linkGroups 74 = .ok (.getfield 22, 3) := by decide +kernel
theorem dX4_linkGroups_77 : decode cX4_linkGroups 77 = .ok (.aload_n 3, 1) := by decide +kernel
theorem dX4_linkGroups_78 : decode cX4_linkGroups 78 = .ok (.iload 5, 2) := by decide +kernel
theorem dX4_linkGroups_80 : decode cX4_linkGroups 80 = .ok (.iaload, 1) := by decide +kernel
theorem dX4_linkGroups_81 : decode cX4_linkGroups 81 = .ok (.iaload, 1) := by decide +kernel
theorem dX4_linkGroups_82 : decode cX4_linkGroups 82 = .ok (.istore 6, 2) := by decide +kernel
theorem dX4_linkGroups_84 : decode cX4_linkGroups 84 = .ok (.iload 6, 2) := by decide +kernel
theorem dX4_linkGroups_86 : decode cX4_linkGroups 86 = .ok (.iconst (-1), 1) := by decide +kernel
theorem dX4_linkGroups_87 : decode cX4_linkGroups 87 = .ok (.if_icmp .ne 17, 3) := by decide +kernel
theorem dX4_linkGroups_90 : decode cX4_linkGroups 90 = .ok (.aload_n 0, 1) := by decide +kernel
theorem dX4_linkGroups_91 : decode cX4_linkGroups 91 = .ok (.getfield 22, 3) := by decide +kernel
theorem dX4_linkGroups_94 : decode cX4_linkGroups 94 = .ok (.aload_n 3, 1) := by decide +kernel
theorem dX4_linkGroups_95 : decode cX4_linkGroups 95 = .ok (.iload 5, 2) := by decide +kernel
theorem dX4_linkGroups_97 : decode cX4_linkGroups 97 = .ok (.iaload, 1) := by decide +kernel
theorem dX4_linkGroups_98 : decode cX4_linkGroups 98 = .ok (.iload 5, 2) := by decide +kernel
theorem dX4_linkGroups_100 : decode cX4_linkGroups 100 = .ok (.iastore, 1) := by decide +kernel
theorem dX4_linkGroups_101 : decode cX4_linkGroups 101 = .ok (.goto 38, 3) := by decide +kernel
theorem dX4_linkGroups_104 : decode cX4_linkGroups 104 = .ok (.aload_n 0, 1) := by decide +kernel
theorem dX4_linkGroups_105 : decode cX4_linkGroups 105 = .ok (.iload 6, 2) := by decide +kernel
theorem dX4_linkGroups_107 : decode cX4_linkGroups 107 = .ok (.invokevirtual 150, 3) := by decide +kernel
theorem dX4_linkGroups_110 : decode cX4_linkGroups 110 = .ok (.istore 7, 2) := by decide +kernel
theorem dX4_linkGroups_112 : decode cX4_linkGroups 112 = .ok (.aload_n 0, 1) := by decide +kernel
theorem dX4_linkGroups_113 : decode cX4_linkGroups 113 = .ok (.iload 5, 2) := by decide +kernel
theorem dX4_linkGroups_115 : decode cX4_linkGroups 115 = .ok (.invokevirtual 150, 3) := by decide +kernel
theorem dX4_linkGroups_118 : decode cX4_linkGroups 118 = .ok (.istore 8, 2) := by decide +kernel
theorem dX4_linkGroups_120 : decode cX4_linkGroups 120 = .ok (.aload_n 0, 1) := by decide +kernel
theorem dX4_linkGroups_121 : decode cX4_linkGroups 121 = .ok (.getfield 25, 3) := by decide +kernel
theorem dX4_linkGroups_124 : decode cX4_linkGroups 124 = .ok (.iload 7, 2) := by decide +kernel
theorem dX4_linkGroups_126 : decode cX4_linkGroups 126 = .ok (.iload 8, 2) := by decide +kernel
theorem dX4_linkGroups_128 : decode cX4_linkGroups 128 = .ok (.invokestatic 153, 3) := by decide +kernel
theorem dX4_linkGroups_131 : decode cX4_linkGroups 131 = .ok (.iload 7, 2) := by decide +kernel
theorem dX4_linkGroups_133 : decode cX4_linkGroups 133 = .ok (.iload 8, 2) := by decide +kernel
theorem dX4_linkGroups_135 : decode cX4_linkGroups 135 = .ok (.invokestatic 159, 3) := by decide +kernel
theorem dX4_linkGroups_138 : decode cX4_linkGroups 138 = .ok (.iastore, 1) := by decide +kernel
theorem dX4_linkGroups_139 : decode cX4_linkGroups 139 = .ok (.iinc 4 1, 3) := by decide +kernel
theorem dX4_linkGroups_142 : decode cX4_linkGroups 142 = .ok (.goto (-87), 3) := by decide +kernel
theorem dX4_linkGroups_145 : decode cX4_linkGroups 145 = .ok (.iinc 2 1, 3) := by decide +kernel
theorem dX4_linkGroups_148 : decode cX4_linkGroups 148 = .ok (.goto (-124), 3) := by decide +kernel
theorem dX4_linkGroups_151 : decode cX4_linkGroups 151 = .ok (.return_, 1) := by decide +kernel
theorem dX4_rootOf_0 : decode cX4_rootOf 0 = .ok (.iload_n 1, 1) := by decide +kernel
theorem dX4_rootOf_1 : decode cX4_rootOf 1 = .ok (.istore_n 2, 1) := by decide +kernel
theorem dX4_rootOf_2 : decode cX4_rootOf 2 = .ok (.iconst 0, 1) := by decide +kernel
theorem dX4_rootOf_3 : decode cX4_rootOf 3 = .ok (.istore_n 3, 1) := by decide +kernel
theorem dX4_rootOf_4 : decode cX4_rootOf 4 = .ok (.iload_n 3, 1) := by decide +kernel
theorem dX4_rootOf_5 : decode cX4_rootOf 5 = .ok (.sipush 256, 3) := by decide +kernel
theorem dX4_rootOf_8 : decode cX4_rootOf 8 = .ok (.if_icmp .ge 43, 3) := by decide +kernel
theorem dX4_rootOf_11 : decode cX4_rootOf 11 = .ok (.aload_n 0, 1) := by decide +kernel
theorem dX4_rootOf_12 : decode cX4_rootOf 12 = .ok (.getfield 25, 3) := by decide +kernel
theorem dX4_rootOf_15 : decode cX4_rootOf 15 = .ok (.iload_n 2, 1) := by decide +kernel
theorem dX4_rootOf_16 : decode cX4_rootOf 16 = .ok (.iaload, 1) := by decide +kernel
theorem dX4_rootOf_17 : decode cX4_rootOf 17 = .ok (.iload_n 2, 1) := by decide +kernel
theorem dX4_rootOf_18 : decode cX4_rootOf 18 = .ok (.if_icmp .eq 33, 3) := by decide +kernel
theorem dX4_rootOf_21 : decode cX4_rootOf 21 = .ok (.aload_n 0, 1) := by decide +kernel
theorem dX4_rootOf_22 : decode cX4_rootOf 22 = .ok (.getfield 25, 3) := by decide +kernel
theorem dX4_rootOf_25 : decode cX4_rootOf 25 = .ok (.iload_n 2, 1) := by decide +kernel
theorem dX4_rootOf_26 : decode cX4_rootOf 26 = .ok (.aload_n 0, 1) := by decide +kernel
theorem dX4_rootOf_27 : decode cX4_rootOf 27 = .ok (.getfield 25, 3) := by decide +kernel
theorem dX4_rootOf_30 : decode cX4_rootOf 30 = .ok (.aload_n 0, 1) := by decide +kernel
theorem dX4_rootOf_31 : decode cX4_rootOf 31 = .ok (.getfield 25, 3) := by decide +kernel
theorem dX4_rootOf_34 : decode cX4_rootOf 34 = .ok (.iload_n 2, 1) := by decide +kernel
theorem dX4_rootOf_35 : decode cX4_rootOf 35 = .ok (.iaload, 1) := by decide +kernel
theorem dX4_rootOf_36 : decode cX4_rootOf 36 = .ok (.iaload, 1) := by decide +kernel
theorem dX4_rootOf_37 : decode cX4_rootOf 37 = .ok (.iastore, 1) := by decide +kernel
theorem dX4_rootOf_38 : decode cX4_rootOf 38 = .ok (.aload_n 0, 1) := by decide +kernel
theorem dX4_rootOf_39 : decode cX4_rootOf 39 = .ok (.getfield 25, 3) := by decide +kernel
theorem dX4_rootOf_42 : decode cX4_rootOf 42 = .ok (.iload_n 2, 1) := by decide +kernel
theorem dX4_rootOf_43 : decode cX4_rootOf 43 = .ok (.iaload, 1) := by decide +kernel
theorem dX4_rootOf_44 : decode cX4_rootOf 44 = .ok (.istore_n 2, 1) := by decide +kernel
theorem dX4_rootOf_45 : decode cX4_rootOf 45 = .ok (.iinc 3 1, 3) := by decide +kernel
theorem dX4_rootOf_48 : decode cX4_rootOf 48 = .ok (.goto (-44), 3) := by decide +kernel
theorem dX4_rootOf_51 : decode cX4_rootOf 51 = .ok (.iload_n 2, 1) := by decide +kernel
theorem dX4_rootOf_52 : decode cX4_rootOf 52 = .ok (.ireturn, 1) := by decide +kernel
theorem dX4_depth_0 : decode cX4_depth 0 = .ok (.aload_n 1, 1) := by decide +kernel
theorem dX4_depth_1 : decode cX4_depth 1 = .ok (.getfield 35, 3) := by decide +kernel
theorem dX4_depth_4 : decode cX4_depth 4 = .ok (.getfield 162, 3) := by decide +kernel
theorem dX4_depth_7 : decode cX4_depth 7 = .ok (.istore_n 2, 1) := by decide +kernel
theorem dX4_depth_8 : decode cX4_depth 8 = .ok (.aload_n 0, 1) := by decide +kernel
theorem dX4_depth_9 : decode cX4_depth 9 = .ok (.getfield 15, 3) := by decide +kernel
theorem dX4_depth_12 : decode cX4_depth 12 = .ok (.iconst 0, 1) := by decide +kernel
theorem dX4_depth_13 : decode cX4_depth 13 = .ok (.aaload, 1) := by decide +kernel
theorem dX4_depth_14 : decode cX4_depth 14 = .ok (.astore_n 3, 1) := by decide +kernel
theorem dX4_depth_15 : decode cX4_depth 15 = .ok (.aload_n 0, 1) := by decide +kernel
theorem dX4_depth_16 : decode cX4_depth 16 = .ok (.getfield 15, 3) := by decide +kernel
theorem dX4_depth_19 : decode cX4_depth 19 = .ok (.iconst 1, 1) := by decide +kernel
theorem dX4_depth_20 : decode cX4_depth 20 = .ok (.aaload, 1) := by decide +kernel
theorem dX4_depth_21 : decode cX4_depth 21 = .ok (.astore 4, 2) := by decide +kernel
theorem dX4_depth_23 : decode cX4_depth 23 = .ok (.aload_n 3, 1) := by decide +kernel
theorem dX4_depth_24 : decode cX4_depth 24 = .ok (.iload_n 2, 1) := by decide +kernel
theorem dX4_depth_25 : decode cX4_depth 25 = .ok (.iaload, 1) := by decide +kernel
theorem dX4_depth_26 : decode cX4_depth 26 = .ok (.ifCond .ne 5, 3) := by decide +kernel
theorem dX4_depth_29 : decode cX4_depth 29 = .ok (.iconst (-1), 1) := by decide +kernel
theorem dX4_depth_30 : decode cX4_depth 30 = .ok (.ireturn, 1) := by decide +kernel
theorem dX4_depth_31 : decode cX4_depth 31 = .ok (.aload_n 3, 1) := by decide +kernel
theorem dX4_depth_32 : decode cX4_depth 32 = .ok (.iconst 0, 1) := by decide +kernel
theorem dX4_depth_33 : decode cX4_depth 33 = .ok (.aload 4, 2) := by decide +kernel
theorem dX4_depth_35 : decode cX4_depth 35 = .ok (.iconst 0, 1) := by decide +kernel
theorem dX4_depth_36 : decode cX4_depth 36 = .ok (.sipush 256, 3) := by decide +kernel
theorem dX4_depth_39 : decode cX4_depth 39 = .ok (.invokestatic 140, 3) := by decide +kernel
theorem dX4_depth_42 : decode cX4_depth 42 = .ok (.aload_n 0, 1) := by decide +kernel
theorem dX4_depth_43 : decode cX4_depth 43 = .ok (.aload_n 1, 1) := by decide +kernel
theorem dX4_depth_44 : decode cX4_depth 44 = .ok (.aload 4, 2) := by decide +kernel
theorem dX4_depth_46 : decode cX4_depth 46 = .ok (.invokevirtual 92, 3) := by decide +kernel
theorem dX4_depth_49 : decode cX4_depth 49 = .ok (.aload 4, 2) := by decide +kernel
theorem dX4_depth_51 : decode cX4_depth 51 = .ok (.iload_n 2, 1) := by decide +kernel
theorem dX4_depth_52 : decode cX4_depth 52 = .ok (.iaload, 1) := by decide +kernel
theorem dX4_depth_53 : decode cX4_depth 53 = .ok (.ifCond .eq 6, 3) := by decide +kernel
theorem dX4_depth_56 : decode cX4_depth 56 = .ok (.bipush 99, 2) := by decide +kernel
theorem dX4_depth_58 : decode cX4_depth 58 = .ok (.ireturn, 1) := by decide +kernel
theorem dX4_depth_59 : decode cX4_depth 59 = .ok (.iconst 0, 1) := by decide +kernel
theorem dX4_depth_60 : decode cX4_depth 60 = .ok (.istore 5, 2) := by decide +kernel
theorem dX4_depth_62 : decode cX4_depth 62 = .ok (.iload 5, 2) := by decide +kernel
theorem dX4_depth_64 : decode cX4_depth 64 = .ok (.bipush 98, 2) := by decide +kernel
theorem dX4_depth_66 : decode cX4_depth 66 = .ok (.if_icmp .ge 24, 3) := by decide +kernel
theorem dX4_depth_69 : decode cX4_depth 69 = .ok (.aload_n 0, 1) := by decide +kernel
theorem dX4_depth_70 : decode cX4_depth 70 = .ok (.aload_n 1, 1) := by decide +kernel
theorem dX4_depth_71 : decode cX4_depth 71 = .ok (.aload_n 3, 1) := by decide +kernel
theorem dX4_depth_72 : decode cX4_depth 72 = .ok (.invokevirtual 89, 3) := by decide +kernel
theorem dX4_depth_75 : decode cX4_depth 75 = .ok (.aload_n 3, 1) := by decide +kernel
theorem dX4_depth_76 : decode cX4_depth 76 = .ok (.iload_n 2, 1) := by decide +kernel
theorem dX4_depth_77 : decode cX4_depth 77 = .ok (.iaload, 1) := by decide +kernel
theorem dX4_depth_78 : decode cX4_depth 78 = .ok (.ifCond .ne 6, 3) := by decide +kernel
theorem dX4_depth_81 : decode cX4_depth 81 = .ok (.iload 5, 2) := by decide +kernel
theorem dX4_depth_83 : decode cX4_depth 83 = .ok (.ireturn, 1) := by decide +kernel
theorem dX4_depth_84 : decode cX4_depth 84 = .ok (.iinc 5 1, 3) := by decide +kernel
theorem dX4_depth_87 : decode cX4_depth 87 = .ok (.goto (-25), 3) := by decide +kernel
theorem dX4_depth_90 : decode cX4_depth 90 = .ok (.bipush 98, 2) := by decide +kernel
theorem dX4_depth_92 : decode cX4_depth 92 = .ok (.ireturn, 1) := by decide +kernel
theorem dX4_ownMark_0 : decode cX4_ownMark 0 = .ok (.aload_n 1, 1) := by decide +kernel
theorem dX4_ownMark_1 : decode cX4_ownMark 1 = .ok (.getfield 117, 3) := by decide +kernel
theorem dX4_ownMark_4 : decode cX4_ownMark 4 = .ok (.iload_n 2, 1) := by decide +kernel
theorem dX4_ownMark_5 : decode cX4_ownMark 5 = .ok (.invokevirtual 121, 3) := by decide +kernel
theorem dX4_ownMark_8 : decode cX4_ownMark 8 = .ok (.astore_n 3, 1) := by decide +kernel
theorem dX4_ownMark_9 : decode cX4_ownMark 9 = .ok (.aload_n 0, 1) := by decide +kernel
theorem dX4_ownMark_10 : decode cX4_ownMark 10 = .ok (.aload_n 1, 1) := by decide +kernel
theorem dX4_ownMark_11 : decode cX4_ownMark 11 = .ok (.iload_n 2, 1) := by decide +kernel
theorem dX4_ownMark_12 : decode cX4_ownMark 12 = .ok (.aload_n 3, 1) := by decide +kernel
theorem dX4_ownMark_13 : decode cX4_ownMark 13 = .ok (.invokevirtual 165, 3) := by decide +kernel
theorem dX4_ownMark_16 : decode cX4_ownMark 16 = .ok (.aload_n 0, 1) := by decide +kernel
theorem dX4_ownMark_17 : decode cX4_ownMark 17 = .ok (.getfield 22, 3) := by decide +kernel
theorem dX4_ownMark_20 : decode cX4_ownMark 20 = .ok (.aload_n 3, 1) := by decide +kernel
theorem dX4_ownMark_21 : decode cX4_ownMark 21 = .ok (.aload_n 1, 1) := by decide +kernel
theorem dX4_ownMark_22 : decode cX4_ownMark 22 = .ok (.getfield 35, 3) := by decide +kernel
theorem dX4_ownMark_25 : decode cX4_ownMark 25 = .ok (.getfield 162, 3) := by decide +kernel
theorem dX4_ownMark_28 : decode cX4_ownMark 28 = .ok (.iaload, 1) := by decide +kernel
theorem dX4_ownMark_29 : decode cX4_ownMark 29 = .ok (.iaload, 1) := by decide +kernel
theorem dX4_ownMark_30 : decode cX4_ownMark 30 = .ok (.lookupswitch 30 #[(1, 26), (2, 28)], 26) := by decide +kernel
theorem dX4_ownMark_56 : decode cX4_ownMark 56 = .ok (.iconst 1, 1) := by decide +kernel
theorem dX4_ownMark_57 : decode cX4_ownMark 57 = .ok (.ireturn, 1) := by decide +kernel
theorem dX4_ownMark_58 : decode cX4_ownMark 58 = .ok (.iconst 0, 1) := by decide +kernel
theorem dX4_ownMark_59 : decode cX4_ownMark 59 = .ok (.ireturn, 1) := by decide +kernel
theorem dX4_ownMark_60 : decode cX4_ownMark 60 = .ok (.bipush (-2), 2) := by decide +kernel
theorem dX4_ownMark_62 : decode cX4_ownMark 62 = .ok (.ireturn, 1) := by decide +kernel
theorem dX4_markOwn_0 : decode cX4_markOwn 0 = .ok (.iconst 0, 1) := by decide +kernel
theorem dX4_markOwn_1 : decode cX4_markOwn 1 = .ok (.istore 4, 2) := by decide +kernel
theorem dX4_markOwn_3 : decode cX4_markOwn 3 = .ok (.iload 4, 2) := by decide +kernel
theorem dX4_markOwn_5 : decode cX4_markOwn 5 = .ok (.aload_n 1, 1) := by decide +kernel
theorem dX4_markOwn_6 : decode cX4_markOwn 6 = .ok (.getfield 95, 3) := by decide +kernel
theorem dX4_markOwn_9 : decode cX4_markOwn 9 = .ok (.if_icmp .ge 24, 3) := by decide +kernel
theorem dX4_markOwn_12 : decode cX4_markOwn 12 = .ok (.aload_n 0, 1) := by decide +kernel
theorem dX4_markOwn_13 : decode cX4_markOwn 13 = .ok (.getfield 22, 3) := by decide +kernel
theorem dX4_markOwn_16 : decode cX4_markOwn 16 = .ok (.aload_n 3, 1) := by decide +kernel
theorem dX4_markOwn_17 : decode cX4_markOwn 17 = .ok (.aload_n 1, 1) := by decide +kernel
theorem dX4_markOwn_18 : decode cX4_markOwn 18 = .ok (.getfield 98, 3) := by decide +kernel
theorem dX4_markOwn_21 : decode cX4_markOwn 21 = .ok (.iload 4, 2) := by decide +kernel
theorem dX4_markOwn_23 : decode cX4_markOwn 23 = .ok (.iaload, 1) := by decide +kernel
theorem dX4_markOwn_24 : decode cX4_markOwn 24 = .ok (.iaload, 1) := by decide +kernel
theorem dX4_markOwn_25 : decode cX4_markOwn 25 = .ok (.iconst 0, 1) := by decide +kernel
theorem dX4_markOwn_26 : decode cX4_markOwn 26 = .ok (.iastore, 1) := by decide +kernel
theorem dX4_markOwn_27 : decode cX4_markOwn 27 = .ok (.iinc 4 1, 3) := by decide +kernel
theorem dX4_markOwn_30 : decode cX4_markOwn 30 = .ok (.goto (-27), 3) := by decide +kernel
theorem dX4_markOwn_33 : decode cX4_markOwn 33 = .ok (.iconst 0, 1) := by decide +kernel
theorem dX4_markOwn_34 : decode cX4_markOwn 34 = .ok (.istore 4, 2) := by decide +kernel
theorem dX4_markOwn_36 : decode cX4_markOwn 36 = .ok (.iload 4, 2) := by decide +kernel
theorem dX4_markOwn_38 : decode cX4_markOwn 38 = .ok (.aload_n 1, 1) := by decide +kernel
theorem dX4_markOwn_39 : decode cX4_markOwn 39 = .ok (.getfield 95, 3) := by decide +kernel
theorem dX4_markOwn_42 : decode cX4_markOwn 42 = .ok (.if_icmp .ge 45, 3) := by decide +kernel
theorem dX4_markOwn_45 : decode cX4_markOwn 45 = .ok (.aload_n 1, 1) := by decide +kernel
theorem dX4_markOwn_46 : decode cX4_markOwn 46 = .ok (.getfield 98, 3) := by decide +kernel
theorem dX4_markOwn_49 : decode cX4_markOwn 49 = .ok (.iload 4, 2) := by decide +kernel
theorem dX4_markOwn_51 : decode cX4_markOwn 51 = .ok (.iaload, 1) := by decide +kernel
theorem dX4_markOwn_52 : decode cX4_markOwn 52 = .ok (.istore 5, 2) := by decide +kernel
theorem dX4_markOwn_54 : decode cX4_markOwn 54 = .ok (.aload_n 0, 1) := by decide +kernel
theorem dX4_markOwn_55 : decode cX4_markOwn 55 = .ok (.getfield 22, 3) := by decide +kernel
theorem dX4_markOwn_58 : decode cX4_markOwn 58 = .ok (.aload_n 3, 1) := by decide +kernel
theorem dX4_markOwn_59 : decode cX4_markOwn 59 = .ok (.iload 5, 2) := by decide +kernel
theorem dX4_markOwn_61 : decode cX4_markOwn 61 = .ok (.iaload, 1) := by decide +kernel
theorem dX4_markOwn_62 : decode cX4_markOwn 62 = .ok (.dup2, 1) := by decide +kernel
theorem dX4_markOwn_63 : decode cX4_markOwn 63 = .ok (.iaload, 1) := by decide +kernel
theorem dX4_markOwn_64 : decode cX4_markOwn 64 = .ok (.iload 5, 2) := by decide +kernel
theorem dX4_markOwn_66 : decode cX4_markOwn 66 = .ok (.iload_n 2, 1) := by decide +kernel
theorem dX4_markOwn_67 : decode cX4_markOwn 67 = .ok (.ishr, 1) := by decide +kernel
theorem dX4_markOwn_68 : decode cX4_markOwn 68 = .ok (.iconst 1, 1) := by decide +kernel
theorem dX4_markOwn_69 : decode cX4_markOwn 69 = .ok (.iand, 1) := by decide +kernel
theorem dX4_markOwn_70 : decode cX4_markOwn 70 = .ok (.iconst 1, 1) := by decide +kernel
theorem dX4_markOwn_71 : decode cX4_markOwn 71 = .ok (.if_icmp .ne 7, 3) := by decide +kernel
theorem dX4_markOwn_74 : decode cX4_markOwn 74 = .ok (.iconst 1, 1) := by decide +kernel
theorem dX4_markOwn_75 : decode cX4_markOwn 75 = .ok (.goto 4, 3) := by decide +kernel
theorem dX4_markOwn_78 : decode cX4_markOwn 78 = .ok (.iconst 2, 1) := by decide +kernel
theorem dX4_markOwn_79 : decode cX4_markOwn 79 = .ok (.ior, 1) := by decide +kernel
theorem dX4_markOwn_80 : decode cX4_markOwn 80 = .ok (.iastore, 1) := by decide +kernel
theorem dX4_markOwn_81 : decode cX4_markOwn 81 = .ok (.iinc 4 1, 3) := by decide +kernel
theorem dX4_markOwn_84 : decode cX4_markOwn 84 = .ok (.goto (-48), 3) := by decide +kernel
theorem dX4_markOwn_87 : decode cX4_markOwn 87 = .ok (.return_, 1) := by decide +kernel
theorem dX4_findGoers_0 : decode cX4_findGoers 0 = .ok (.aload_n 0, 1) := by decide +kernel
theorem dX4_findGoers_1 : decode cX4_findGoers 1 = .ok (.getfield 28, 3) := by decide +kernel
theorem dX4_findGoers_4 : decode cX4_findGoers 4 = .ok (.iconst 0, 1) := by decide +kernel
theorem dX4_findGoers_5 : decode cX4_findGoers 5 = .ok (.invokestatic 131, 3) := by decide +kernel
theorem dX4_findGoers_8 : decode cX4_findGoers 8 = .ok (.aload_n 1, 1) := by decide +kernel
theorem dX4_findGoers_9 : decode cX4_findGoers 9 = .ok (.getfield 101, 3) := by decide +kernel
theorem dX4_findGoers_12 : decode cX4_findGoers 12 = .ok (.aload_n 1, 1) := by decide +kernel
theorem dX4_findGoers_13 : decode cX4_findGoers 13 = .ok (.getfield 35, 3) := by decide +kernel
theorem dX4_findGoers_16 : decode cX4_findGoers 16 = .ok (.getfield 168, 3) := by decide +kernel
theorem dX4_findGoers_19 : decode cX4_findGoers 19 = .ok (.ior, 1) := by decide +kernel
theorem dX4_findGoers_20 : decode cX4_findGoers 20 = .ok (.istore_n 2, 1) := by decide +kernel
theorem dX4_findGoers_21 : decode cX4_findGoers 21 = .ok (.iconst 0, 1) := by decide +kernel
theorem dX4_findGoers_22 : decode cX4_findGoers 22 = .ok (.istore_n 3, 1) := by decide +kernel
theorem dX4_findGoers_23 : decode cX4_findGoers 23 = .ok (.iload_n 3, 1) := by decide +kernel
theorem dX4_findGoers_24 : decode cX4_findGoers 24 = .ok (.aload_n 1, 1) := by decide +kernel
theorem dX4_findGoers_25 : decode cX4_findGoers 25 = .ok (.getfield 35, 3) := by decide +kernel
theorem dX4_findGoers_28 : decode cX4_findGoers 28 = .ok (.getfield 137, 3) := by decide +kernel
theorem dX4_findGoers_31 : decode cX4_findGoers 31 = .ok (.if_icmp .ge 113, 3) := by decide +kernel
theorem dX4_findGoers_34 : decode cX4_findGoers 34 = .ok (.iload_n 2, 1) := by decide +kernel
theorem dX4_findGoers_35 : decode cX4_findGoers 35 = .ok (.iload_n 3, 1) := by decide +kernel
theorem dX4_findGoers_36 : decode cX4_findGoers 36 = .ok (.ishr, 1) := by decide +kernel
theorem dX4_findGoers_37 : decode cX4_findGoers 37 = .ok (.iconst 1, 1) := by decide +kernel
theorem dX4_findGoers_38 : decode cX4_findGoers 38 = .ok (.iand, 1) := by decide +kernel
theorem dX4_findGoers_39 : decode cX4_findGoers 39 = .ok (.iconst 1, 1) := by decide +kernel
theorem dX4_findGoers_40 : decode cX4_findGoers 40 = .ok (.if_icmp .ne 6, 3) := by decide +kernel
theorem dX4_findGoers_43 : decode cX4_findGoers 43 = .ok (.goto 95, 3) := by decide +kernel
theorem dX4_findGoers_46 : decode cX4_findGoers 46 = .ok (.aload_n 1, 1) := by decide +kernel
theorem dX4_findGoers_47 : decode cX4_findGoers 47 = .ok (.getfield 117, 3) := by decide +kernel
theorem dX4_findGoers_50 : decode cX4_findGoers 50 = .ok (.iload_n 3, 1) := by decide +kernel
theorem dX4_findGoers_51 : decode cX4_findGoers 51 = .ok (.invokevirtual 121, 3) := by decide +kernel
theorem dX4_findGoers_54 : decode cX4_findGoers 54 = .ok (.astore 4, 2) := by decide +kernel
theorem dX4_findGoers_56 : decode cX4_findGoers 56 = .ok (.aload_n 0, 1) := by decide +kernel
theorem dX4_findGoers_57 : decode cX4_findGoers 57 = .ok (.aload_n 1, 1) := by decide +kernel
theorem dX4_findGoers_58 : decode cX4_findGoers 58 = .ok (.iload_n 3, 1) := by decide +kernel
theorem dX4_findGoers_59 : decode cX4_findGoers 59 = .ok (.aload 4, 2) := by decide +kernel
theorem dX4_findGoers_61 : decode cX4_findGoers 61 = .ok (.invokevirtual 165, 3) := by decide +kernel
theorem dX4_findGoers_64 : decode cX4_findGoers 64 = .ok (.iconst 0, 1) := by decide +kernel
theorem dX4_findGoers_65 : decode cX4_findGoers 65 = .ok (.istore 5, 2) := by decide +kernel
theorem dX4_findGoers_67 : decode cX4_findGoers 67 = .ok (.iload 5, 2) := by decide +kernel
theorem dX4_findGoers_69 : decode cX4_findGoers 69 = .ok (.aload_n 1, 1) := by decide +kernel
theorem dX4_findGoers_70 : decode cX4_findGoers 70 = .ok (.getfield 95, 3) := by decide +kernel
theorem dX4_findGoers_73 : decode cX4_findGoers 73 = .ok (.if_icmp .ge 65, 3) := by decide +kernel
theorem dX4_findGoers_76 : decode cX4_findGoers 76 = .ok (.aload_n 1, 1) := by decide +kernel
theorem dX4_findGoers_77 : decode cX4_findGoers 77 = .ok (.getfield 98, 3) := by decide +kernel
theorem dX4_findGoers_80 : decode cX4_findGoers 80 = .ok (.iload 5, 2) := by decide +kernel
theorem dX4_findGoers_82 : decode cX4_findGoers 82 = .ok (.iaload, 1) := by decide +kernel
theorem dX4_findGoers_83 : decode cX4_findGoers 83 = .ok (.istore 6, 2) := by decide +kernel
theorem dX4_findGoers_85 : decode cX4_findGoers 85 = .ok (.aload_n 0, 1) := by decide +kernel
theorem dX4_findGoers_86 : decode cX4_findGoers 86 = .ok (.getfield 22, 3) := by decide +kernel
theorem dX4_findGoers_89 : decode cX4_findGoers 89 = .ok (.aload 4, 2) := by decide +kernel
theorem dX4_findGoers_91 : decode cX4_findGoers 91 = .ok (.iload 6, 2) := by decide +kernel
theorem dX4_findGoers_93 : decode cX4_findGoers 93 = .ok (.iaload, 1) := by decide +kernel
theorem dX4_findGoers_94 : decode cX4_findGoers 94 = .ok (.iaload, 1) := by decide +kernel
theorem dX4_findGoers_95 : decode cX4_findGoers 95 = .ok (.istore 7, 2) := by decide +kernel
theorem dX4_findGoers_97 : decode cX4_findGoers 97 = .ok (.iload 7, 2) := by decide +kernel
theorem dX4_findGoers_99 : decode cX4_findGoers 99 = .ok (.iconst 1, 1) := by decide +kernel
theorem dX4_findGoers_100 : decode cX4_findGoers 100 = .ok (.if_icmp .eq 19, 3) := by decide +kernel
theorem dX4_findGoers_103 : decode cX4_findGoers 103 = .ok (.iload 7, 2) := by decide +kernel
theorem dX4_findGoers_105 : decode cX4_findGoers 105 = .ok (.iconst 2, 1) := by decide +kernel
theorem dX4_findGoers_106 : decode cX4_findGoers 106 = .ok (.if_icmp .ne 26, 3) := by decide +kernel
theorem dX4_findGoers_109 : decode cX4_findGoers 109 = .ok (.aload_n 1, 1) := by decide +kernel
theorem dX4_findGoers_110 : decode cX4_findGoers 110 = .ok (.getfield 35, 3) := by decide +kernel
theorem dX4_findGoers_113 : decode cX4_findGoers 113 = .ok (.getfield 171, 3) := by decide +kernel
theorem dX4_findGoers_116 : decode cX4_findGoers 116 = .ok (.ifCond .eq 16, 3) := by decide +kernel
theorem dX4_findGoers_119 : decode cX4_findGoers 119 = .ok (.aload_n 0, 1) := by decide +kernel
theorem dX4_findGoers_120 : decode cX4_findGoers 120 = .ok (.getfield 28, 3) := by decide +kernel
theorem dX4_findGoers_123 : decode cX4_findGoers 123 = .ok (.iload 6, 2) := by decide +kernel
theorem dX4_findGoers_125 : decode cX4_findGoers 125 = .ok (.dup2, 1) := by decide +kernel
theorem dX4_findGoers_126 : decode cX4_findGoers 126 = .ok (.iaload, 1) := by decide +kernel
theorem dX4_findGoers_127 : decode cX4_findGoers 127 = .ok (.iconst 1, 1) := by decide +kernel
theorem dX4_findGoers_128 : decode cX4_findGoers 128 = .ok (.iload_n 3, 1) := by decide +kernel
theorem dX4_findGoers_129 : decode cX4_findGoers 129 = .ok (.ishl, 1) := by decide +kernel
theorem dX4_findGoers_130 : decode cX4_findGoers 130 = .ok (.ior, 1) := by decide +kernel
theorem dX4_findGoers_131 : decode cX4_findGoers 131 = .ok (.iastore, 1) := by decide +kernel
theorem dX4_findGoers_132 : decode cX4_findGoers 132 = .ok (.iinc 5 1, 3) := by decide +kernel
theorem dX4_findGoers_135 : decode cX4_findGoers 135 = .ok (.goto (-68), 3) := by decide +kernel
theorem dX4_findGoers_138 : decode cX4_findGoers 138 = .ok (.iinc 3 1, 3) := by decide +kernel
theorem dX4_findGoers_141 : decode cX4_findGoers 141 = .ok (.goto (-118), 3) := by decide +kernel
theorem dX4_findGoers_144 : decode cX4_findGoers 144 = .ok (.aload_n 0, 1) := by decide +kernel
theorem dX4_findGoers_145 : decode cX4_findGoers 145 = .ok (.getfield 28, 3) := by decide +kernel
theorem dX4_findGoers_148 : decode cX4_findGoers 148 = .ok (.areturn, 1) := by decide +kernel
theorem dX4_pass_0 : decode cX4_pass 0 = .ok (.aload_n 0, 1) := by decide +kernel
theorem dX4_pass_1 : decode cX4_pass 1 = .ok (.aload_n 1, 1) := by decide +kernel
theorem dX4_pass_2 : decode cX4_pass 2 = .ok (.invokevirtual 175, 3) := by decide +kernel
theorem dX4_pass_5 : decode cX4_pass 5 = .ok (.pop, 1) := by decide +kernel
theorem dX4_pass_6 : decode cX4_pass 6 = .ok (.aload_n 0, 1) := by decide +kernel
theorem dX4_pass_7 : decode cX4_pass 7 = .ok (.getfield 28, 3) := by decide +kernel
theorem dX4_pass_10 : decode cX4_pass 10 = .ok (.aload_n 1, 1) := by decide +kernel
theorem dX4_pass_11 : decode cX4_pass 11 = .ok (.getfield 35, 3) := by decide +kernel
theorem dX4_pass_14 : decode cX4_pass 14 = .ok (.getfield 162, 3) := by decide +kernel
theorem dX4_pass_17 : decode cX4_pass 17 = .ok (.iaload, 1) := by decide +kernel
theorem dX4_pass_18 : decode cX4_pass 18 = .ok (.istore_n 2, 1) := by decide +kernel
theorem dX4_pass_19 : decode cX4_pass 19 = .ok (.aload_n 1, 1) := by decide +kernel
theorem dX4_pass_20 : decode cX4_pass 20 = .ok (.aload_n 0, 1) := by decide +kernel
theorem dX4_pass_21 : decode cX4_pass 21 = .ok (.getfield 28, 3) := by decide +kernel
theorem dX4_pass_24 : decode cX4_pass 24 = .ok (.iload_n 2, 1) := by decide +kernel
theorem dX4_pass_25 : decode cX4_pass 25 = .ok (.invokevirtual 179, 3) := by decide +kernel
theorem dX4_pass_28 : decode cX4_pass 28 = .ok (.aload_n 1, 1) := by decide +kernel
theorem dX4_pass_29 : decode cX4_pass 29 = .ok (.dup, 1) := by decide +kernel
theorem dX4_pass_30 : decode cX4_pass 30 = .ok (.getfield 101, 3) := by decide +kernel
theorem dX4_pass_33 : decode cX4_pass 33 = .ok (.iload_n 2, 1) := by decide +kernel
theorem dX4_pass_34 : decode cX4_pass 34 = .ok (.ior, 1) := by decide +kernel
theorem dX4_pass_35 : decode cX4_pass 35 = .ok (.putfield 101, 3) := by decide +kernel
theorem dX4_pass_38 : decode cX4_pass 38 = .ok (.aload_n 1, 1) := by decide +kernel
theorem dX4_pass_39 : decode cX4_pass 39 = .ok (.dup, 1) := by decide +kernel
theorem dX4_pass_40 : decode cX4_pass 40 = .ok (.getfield 182, 3) := by decide +kernel
theorem dX4_pass_43 : decode cX4_pass 43 = .ok (.iconst 1, 1) := by decide +kernel
theorem dX4_pass_44 : decode cX4_pass 44 = .ok (.iadd, 1) := by decide +kernel
theorem dX4_pass_45 : decode cX4_pass 45 = .ok (.putfield 182, 3) := by decide +kernel
theorem dX4_pass_48 : decode cX4_pass 48 = .ok (.iload_n 2, 1) := by decide +kernel
theorem dX4_pass_49 : decode cX4_pass 49 = .ok (.ireturn, 1) := by decide +kernel
theorem dX5_init_0 : decode cX5_init 0 = .ok (.aload_n 0, 1) := by decide +kernel
theorem dX5_init_1 : decode cX5_init 1 = .ok (.invokespecial 3, 3) := by decide +kernel
theorem dX5_init_4 : decode cX5_init 4 = .ok (.aload_n 0, 1) := by decide +kernel
theorem dX5_init_5 : decode cX5_init 5 = .ok (.iconst 0, 1) := by decide +kernel
theorem dX5_init_6 : decode cX5_init 6 = .ok (.putfield 9, 3) := by decide +kernel
theorem dX5_init_9 : decode cX5_init 9 = .ok (.aload_n 0, 1) := by decide +kernel
theorem dX5_init_10 : decode cX5_init 10 = .ok (.iconst (-1), 1) := by decide +kernel
theorem dX5_init_11 : decode cX5_init 11 = .ok (.putfield 15, 3) := by decide +kernel
theorem dX5_init_14 : decode cX5_init 14 = .ok (.aload_n 0, 1) := by decide +kernel
theorem dX5_init_15 : decode cX5_init 15 = .ok (.iconst 0, 1) := by decide +kernel
theorem dX5_init_16 : decode cX5_init 16 = .ok (.putfield 18, 3) := by decide +kernel
theorem dX5_init_19 : decode cX5_init 19 = .ok (.aload_n 0, 1) := by decide +kernel
theorem dX5_init_20 : decode cX5_init 20 = .ok (.iconst 0, 1) := by decide +kernel
theorem dX5_init_21 : decode cX5_init 21 = .ok (.putfield 21, 3) := by decide +kernel
theorem dX5_init_24 : decode cX5_init 24 = .ok (.aload_n 0, 1) := by decide +kernel
theorem dX5_init_25 : decode cX5_init 25 = .ok (.iconst 0, 1) := by decide +kernel
theorem dX5_init_26 : decode cX5_init 26 = .ok (.putfield 24, 3) := by decide +kernel
theorem dX5_init_29 : decode cX5_init 29 = .ok (.aload_n 0, 1) := by decide +kernel
theorem dX5_init_30 : decode cX5_init 30 = .ok (.sipush 275, 3) := by decide +kernel
theorem dX5_init_33 : decode cX5_init 33 = .ok (.putfield 29, 3) := by decide +kernel
theorem dX5_init_36 : decode cX5_init 36 = .ok (.aload_n 0, 1) := by decide +kernel
theorem dX5_init_37 : decode cX5_init 37 = .ok (.new 32, 3) := by decide +kernel
theorem dX5_init_40 : decode cX5_init 40 = .ok (.dup, 1) := by decide +kernel
theorem dX5_init_41 : decode cX5_init 41 = .ok (.aload_n 1, 1) := by decide +kernel
theorem dX5_init_42 : decode cX5_init 42 = .ok (.invokespecial 34, 3) := by decide +kernel
theorem dX5_init_45 : decode cX5_init 45 = .ok (.putfield 37, 3) := by decide +kernel
theorem dX5_init_48 : decode cX5_init 48 = .ok (.aload_n 0, 1) := by decide +kernel
theorem dX5_init_49 : decode cX5_init 49 = .ok (.aload_n 2, 1) := by decide +kernel
theorem dX5_init_50 : decode cX5_init 50 = .ok (.putfield 41, 3) := by decide +kernel
theorem dX5_init_53 : decode cX5_init 53 = .ok (.aload_n 0, 1) := by decide +kernel
theorem dX5_init_54 : decode cX5_init 54 = .ok (.aload_n 3, 1) := by decide +kernel
theorem dX5_init_55 : decode cX5_init 55 = .ok (.putfield 45, 3) := by decide +kernel
theorem dX5_init_58 : decode cX5_init 58 = .ok (.return_, 1) := by decide +kernel
theorem dX5_readIsland_0 : decode cX5_readIsland 0 = .ok (.aload_n 1, 1) := by decide +kernel
theorem dX5_readIsland_1 : decode cX5_readIsland 1 = .ok (.invokevirtual 49, 3) := by decide +kernel
theorem dX5_readIsland_4 : decode cX5_readIsland 4 = .ok (.aload_n 0, 1) := by decide +kernel
theorem dX5_readIsland_5 : decode cX5_readIsland 5 = .ok (.aload_n 1, 1) := by decide +kernel
theorem dX5_readIsland_6 : decode cX5_readIsland 6 = .ok (.aload_n 1, 1) := by decide +kernel
theorem dX5_readIsland_7 : decode cX5_readIsland 7 = .ok (.getfield 54, 3) := by decide +kernel
theorem dX5_readIsland_10 : decode cX5_readIsland 10 = .ok (.bipush 60, 2) := by decide +kernel
theorem dX5_readIsland_12 : decode cX5_readIsland 12 = .ok (.invokevirtual 55, 3) := by decide +kernel
theorem dX5_readIsland_15 : decode cX5_readIsland 15 = .ok (.iconst 0, 1) := by decide +kernel
theorem dX5_readIsland_16 : decode cX5_readIsland 16 = .ok (.istore_n 2, 1) := by decide +kernel
theorem dX5_readIsland_17 : decode cX5_readIsland 17 = .ok (.iload_n 2, 1) := by decide +kernel
theorem dX5_readIsland_18 : decode cX5_readIsland 18 = .ok (.sipush 1600, 3) := by decide +kernel
theorem dX5_readIsland_21 : decode cX5_readIsland 21 = .ok (.if_icmp .ge 120, 3) := by decide +kernel
theorem dX5_readIsland_24 : decode cX5_readIsland 24 = .ok (.aload_n 0, 1) := by decide +kernel
theorem dX5_readIsland_25 : decode cX5_readIsland 25 = .ok (.getfield 29, 3) := by decide +kernel
theorem dX5_readIsland_28 : decode cX5_readIsland 28 = .ok (.sipush 275, 3) := by decide +kernel
theorem dX5_readIsland_31 : decode cX5_readIsland 31 = .ok (.if_icmp .eq 110, 3) := by decide +kernel
theorem dX5_readIsland_34 : decode cX5_readIsland 34 = .ok (.aload_n 0, 1) := by decide +kernel
theorem dX5_readIsland_35 : decode cX5_readIsland 35 = .ok (.getfield 9, 3) := by decide +kernel
theorem dX5_readIsland_38 : decode cX5_readIsland 38 = .ok (.ifCond .ne 103, 3) := by decide +kernel
theorem dX5_readIsland_41 : decode cX5_readIsland 41 = .ok (.aload_n 0, 1) := by decide +kernel
theorem dX5_readIsland_42 : decode cX5_readIsland 42 = .ok (.getfield 29, 3) := by decide +kernel
theorem dX5_readIsland_45 : decode cX5_readIsland 45 = .ok (.tableswitch 79 256 264 #[51, 79, 79, 79, 58, 65, 79, 79, 72], 51) := by decide +kernel
theorem dX5_readIsland_96 : decode cX5_readIsland 96 = .ok (.aload_n 0, 1) := by decide +kernel
theorem dX5_readIsland_97 : decode cX5_readIsland 97 = .ok (.invokevirtual 61, 3) := by decide +kernel
theorem dX5_readIsland_100 : decode cX5_readIsland 100 = .ok (.goto 29, 3) := by decide +kernel
theorem dX5_readIsland_103 : decode cX5_readIsland 103 = .ok (.aload_n 0, 1) := by decide +kernel
theorem dX5_readIsland_104 : decode cX5_readIsland 104 = .ok (.invokevirtual 64, 3) := by decide +kernel
theorem dX5_readIsland_107 : decode cX5_readIsland 107 = .ok (.goto 22, 3) := by decide +kernel
theorem dX5_readIsland_110 : decode cX5_readIsland 110 = .ok (.aload_n 0, 1) := by decide +kernel
theorem dX5_readIsland_111 : decode cX5_readIsland 111 = .ok (.invokevirtual 67, 3) := by decide +kernel
theorem dX5_readIsland_114 : decode cX5_readIsland 114 = .ok (.goto 15, 3) := by decide +kernel
theorem dX5_readIsland_117 : decode cX5_readIsland 117 = .ok (.aload_n 0, 1) := by decide +kernel
theorem dX5_readIsland_118 : decode cX5_readIsland 118 = .ok (.invokevirtual 70, 3) := by decide +kernel
theorem dX5_readIsland_121 : decode cX5_readIsland 121 = .ok (.goto 8, 3) := by decide +kernel
theorem dX5_readIsland_124 : decode cX5_readIsland 124 = .ok (.aload_n 0, 1) := by decide +kernel
theorem dX5_readIsland_125 : decode cX5_readIsland 125 = .ok (.iconst 2, 1) := by decide +kernel
theorem dX5_readIsland_126 : decode cX5_readIsland 126 = .ok (.invokevirtual 73, 3) := by decide +kernel
theorem dX5_readIsland_129 : decode cX5_readIsland 129 = .ok (.aload_n 0, 1) := by decide +kernel
theorem dX5_readIsland_130 : decode cX5_readIsland 130 = .ok (.bipush 59, 2) := by decide +kernel
theorem dX5_readIsland_132 : decode cX5_readIsland 132 = .ok (.invokevirtual 77, 3) := by decide +kernel
theorem dX5_readIsland_135 : decode cX5_readIsland 135 = .ok (.iinc 2 1, 3) := by decide +kernel
theorem dX5_readIsland_138 : decode cX5_readIsland 138 = .ok (.goto (-121), 3) := by decide +kernel
theorem dX5_readIsland_141 : decode cX5_readIsland 141 = .ok (.aload_n 1, 1) := by decide +kernel
theorem dX5_readIsland_142 : decode cX5_readIsland 142 = .ok (.aload_n 0, 1) := by decide +kernel
theorem dX5_readIsland_143 : decode cX5_readIsland 143 = .ok (.getfield 21, 3) := by decide +kernel
theorem dX5_readIsland_146 : decode cX5_readIsland 146 = .ok (.putfield 80, 3) := by decide +kernel
theorem dX5_readIsland_149 : decode cX5_readIsland 149 = .ok (.aload_n 0, 1) := by decide +kernel
theorem dX5_readIsland_150 : decode cX5_readIsland 150 = .ok (.getfield 9, 3) := by decide +kernel
theorem dX5_readIsland_153 : decode cX5_readIsland 153 = .ok (.ifCond .ne 7, 3) := by decide +kernel
theorem dX5_readIsland_156 : decode cX5_readIsland 156 = .ok (.iconst 1, 1) := by decide +kernel
theorem dX5_readIsland_157 : decode cX5_readIsland 157 = .ok (.goto 4, 3) := by decide +kernel
theorem dX5_readIsland_160 : decode cX5_readIsland 160 = .ok (.iconst 0, 1) := by decide +kernel
theorem dX5_readIsland_161 : decode cX5_readIsland 161 = .ok (.ireturn, 1) := by decide +kernel
theorem dX5_readFormula_0 : decode cX5_readFormula 0 = .ok (.aload_n 2, 1) := by decide +kernel
theorem dX5_readFormula_1 : decode cX5_readFormula 1 = .ok (.iconst 0, 1) := by decide +kernel
theorem dX5_readFormula_2 : decode cX5_readFormula 2 = .ok (.putfield 81, 3) := by decide +kernel
theorem dX5_readFormula_5 : decode cX5_readFormula 5 = .ok (.aload_n 0, 1) := by decide +kernel
theorem dX5_readFormula_6 : decode cX5_readFormula 6 = .ok (.aload_n 1, 1) := by decide +kernel
theorem dX5_readFormula_7 : decode cX5_readFormula 7 = .ok (.aload_n 2, 1) := by decide +kernel
theorem dX5_readFormula_8 : decode cX5_readFormula 8 = .ok (.bipush 30, 2) := by decide +kernel
theorem dX5_readFormula_10 : decode cX5_readFormula 10 = .ok (.invokevirtual 55, 3) := by decide +kernel
theorem dX5_readFormula_13 : decode cX5_readFormula 13 = .ok (.aload_n 0, 1) := by decide +kernel
theorem dX5_readFormula_14 : decode cX5_readFormula 14 = .ok (.iconst 0, 1) := by decide +kernel
theorem dX5_readFormula_15 : decode cX5_readFormula 15 = .ok (.iconst 0, 1) := by decide +kernel
theorem dX5_readFormula_16 : decode cX5_readFormula 16 = .ok (.invokevirtual 86, 3) := by decide +kernel
theorem dX5_readFormula_19 : decode cX5_readFormula 19 = .ok (.aload_n 0, 1) := by decide +kernel
theorem dX5_readFormula_20 : decode cX5_readFormula 20 = .ok (.getfield 29, 3) := by decide +kernel
theorem dX5_readFormula_23 : decode cX5_readFormula 23 = .ok (.sipush 275, 3) := by decide +kernel
theorem dX5_readFormula_26 : decode cX5_readFormula 26 = .ok (.if_icmp .eq 8, 3) := by decide +kernel
theorem dX5_readFormula_29 : decode cX5_readFormula 29 = .ok (.aload_n 0, 1) := by decide +kernel
theorem dX5_readFormula_30 : decode cX5_readFormula 30 = .ok (.iconst 2, 1) := by decide +kernel
theorem dX5_readFormula_31 : decode cX5_readFormula 31 = .ok (.invokevirtual 73, 3) := by decide +kernel
theorem dX5_readFormula_34 : decode cX5_readFormula 34 = .ok (.aload_n 0, 1) := by decide +kernel
theorem dX5_readFormula_35 : decode cX5_readFormula 35 = .ok (.getfield 9, 3) := by decide +kernel
theorem dX5_readFormula_38 : decode cX5_readFormula 38 = .ok (.ifCond .ne 7, 3) := by decide +kernel
theorem dX5_readFormula_41 : decode cX5_readFormula 41 = .ok (.iconst 1, 1) := by decide +kernel
theorem dX5_readFormula_42 : decode cX5_readFormula 42 = .ok (.goto 4, 3) := by decide +kernel
theorem dX5_readFormula_45 : decode cX5_readFormula 45 = .ok (.iconst 0, 1) := by decide +kernel
theorem dX5_readFormula_46 : decode cX5_readFormula 46 = .ok (.ireturn, 1) := by decide +kernel
theorem dX5_begin_0 : decode cX5_begin 0 = .ok (.aload_n 0, 1) := by decide +kernel
theorem dX5_begin_1 : decode cX5_begin 1 = .ok (.aload_n 1, 1) := by decide +kernel
theorem dX5_begin_2 : decode cX5_begin 2 = .ok (.putfield 41, 3) := by decide +kernel
theorem dX5_begin_5 : decode cX5_begin 5 = .ok (.aload_n 0, 1) := by decide +kernel
theorem dX5_begin_6 : decode cX5_begin 6 = .ok (.aload_n 2, 1) := by decide +kernel
theorem dX5_begin_7 : decode cX5_begin 7 = .ok (.putfield 45, 3) := by decide +kernel
theorem dX5_begin_10 : decode cX5_begin 10 = .ok (.aload_n 0, 1) := by decide +kernel
theorem dX5_begin_11 : decode cX5_begin 11 = .ok (.iload_n 3, 1) := by decide +kernel
theorem dX5_begin_12 : decode cX5_begin 12 = .ok (.putfield 18, 3) := by decide +kernel
theorem dX5_begin_15 : decode cX5_begin 15 = .ok (.aload_n 0, 1) := by decide +kernel
theorem dX5_begin_16 : decode cX5_begin 16 = .ok (.iconst 0, 1) := by decide +kernel
theorem dX5_begin_17 : decode cX5_begin 17 = .ok (.putfield 21, 3) := by decide +kernel
theorem dX5_begin_20 : decode cX5_begin 20 = .ok (.aload_n 0, 1) := by decide +kernel
theorem dX5_begin_21 : decode cX5_begin 21 = .ok (.iconst 0, 1) := by decide +kernel
theorem dX5_begin_22 : decode cX5_begin 22 = .ok (.putfield 9, 3) := by decide +kernel
theorem dX5_begin_25 : decode cX5_begin 25 = .ok (.aload_n 0, 1) := by decide +kernel
theorem dX5_begin_26 : decode cX5_begin 26 = .ok (.iconst (-1), 1) := by decide +kernel
theorem dX5_begin_27 : decode cX5_begin 27 = .ok (.putfield 15, 3) := by decide +kernel
theorem dX5_begin_30 : decode cX5_begin 30 = .ok (.aload_n 0, 1) := by decide +kernel
theorem dX5_begin_31 : decode cX5_begin 31 = .ok (.getfield 37, 3) := by decide +kernel
theorem dX5_begin_34 : decode cX5_begin 34 = .ok (.invokevirtual 90, 3) := by decide +kernel
theorem dX5_begin_37 : decode cX5_begin 37 = .ok (.aload_n 0, 1) := by decide +kernel
theorem dX5_begin_38 : decode cX5_begin 38 = .ok (.iconst 0, 1) := by decide +kernel
theorem dX5_begin_39 : decode cX5_begin 39 = .ok (.putfield 24, 3) := by decide +kernel
theorem dX5_begin_42 : decode cX5_begin 42 = .ok (.aload_n 0, 1) := by decide +kernel
theorem dX5_begin_43 : decode cX5_begin 43 = .ok (.aload_n 0, 1) := by decide +kernel
theorem dX5_begin_44 : decode cX5_begin 44 = .ok (.getfield 37, 3) := by decide +kernel
theorem dX5_begin_47 : decode cX5_begin 47 = .ok (.iconst 0, 1) := by decide +kernel
theorem dX5_begin_48 : decode cX5_begin 48 = .ok (.invokevirtual 93, 3) := by decide +kernel
theorem dX5_begin_51 : decode cX5_begin 51 = .ok (.putfield 29, 3) := by decide +kernel
theorem dX5_begin_54 : decode cX5_begin 54 = .ok (.return_, 1) := by decide +kernel
theorem dX5_readPerson_0 : decode cX5_readPerson 0 = .ok (.aload_n 0, 1) := by decide +kernel
theorem dX5_readPerson_1 : decode cX5_readPerson 1 = .ok (.getfield 41, 3) := by decide +kernel
theorem dX5_readPerson_4 : decode cX5_readPerson 4 = .ok (.invokevirtual 97, 3) := by decide +kernel
theorem dX5_readPerson_7 : decode cX5_readPerson 7 = .ok (.ifCond .ne 8, 3) := by decide +kernel
theorem dX5_readPerson_10 : decode cX5_readPerson 10 = .ok (.aload_n 0, 1) := by decide +kernel
theorem dX5_readPerson_11 : decode cX5_readPerson 11 = .ok (.iconst 2, 1) := by decide +kernel
theorem dX5_readPerson_12 : decode cX5_readPerson 12 = .ok (.invokevirtual 73, 3) := by decide +kernel
theorem dX5_readPerson_15 : decode cX5_readPerson 15 = .ok (.aload_n 0, 1) := by decide +kernel
theorem dX5_readPerson_16 : decode cX5_readPerson 16 = .ok (.invokevirtual 101, 3) := by decide +kernel
theorem dX5_readPerson_19 : decode cX5_readPerson 19 = .ok (.aload_n 0, 1) := by decide +kernel
theorem dX5_readPerson_20 : decode cX5_readPerson 20 = .ok (.getfield 37, 3) := by decide +kernel
theorem dX5_readPerson_23 : decode cX5_readPerson 23 = .ok (.aload_n 0, 1) := by decide +kernel
theorem dX5_readPerson_24 : decode cX5_readPerson 24 = .ok (.getfield 24, 3) := by decide +kernel
theorem dX5_readPerson_27 : decode cX5_readPerson 27 = .ok (.invokevirtual 104, 3) := by decide +kernel
theorem dX5_readPerson_30 : decode cX5_readPerson 30 = .ok (.lstore_n 1, 1) := by decide +kernel
theorem dX5_readPerson_31 : decode cX5_readPerson 31 = .ok (.aload_n 0, 1) := by decide +kernel
theorem dX5_readPerson_32 : decode cX5_readPerson 32 = .ok (.getfield 41, 3) := by decide +kernel
theorem dX5_readPerson_35 : decode cX5_readPerson 35 = .ok (.getfield 108, 3) := by decide +kernel
theorem dX5_readPerson_38 : decode cX5_readPerson 38 = .ok (.istore_n 3, 1) := by decide +kernel
theorem dX5_readPerson_39 : decode cX5_readPerson 39 = .ok (.aload_n 0, 1) := by decide +kernel
theorem dX5_readPerson_40 : decode cX5_readPerson 40 = .ok (.getfield 29, 3) := by decide +kernel
theorem dX5_readPerson_43 : decode cX5_readPerson 43 = .ok (.sipush 273, 3) := by decide +kernel
theorem dX5_readPerson_46 : decode cX5_readPerson 46 = .ok (.if_icmp .eq 11, 3) := by decide +kernel
theorem dX5_readPerson_49 : decode cX5_readPerson 49 = .ok (.aload_n 0, 1) := by decide +kernel
theorem dX5_readPerson_50 : decode cX5_readPerson 50 = .ok (.iconst 2, 1) := by decide +kernel
theorem dX5_readPerson_51 : decode cX5_readPerson 51 = .ok (.invokevirtual 73, 3) := by decide +kernel
theorem dX5_readPerson_54 : decode cX5_readPerson 54 = .ok (.goto 35, 3) := by decide +kernel
theorem dX5_readPerson_57 : decode cX5_readPerson 57 = .ok (.aload_n 0, 1) := by decide +kernel
theorem dX5_readPerson_58 : decode cX5_readPerson 58 = .ok (.getfield 41, 3) := by decide +kernel
theorem dX5_readPerson_61 : decode cX5_readPerson 61 = .ok (.lload_n 1, 1) := by decide +kernel
theorem dX5_readPerson_62 : decode cX5_readPerson 62 = .ok (.invokevirtual 111, 3) := by decide +kernel
theorem dX5_readPerson_65 : decode cX5_readPerson 65 = .ok (.iconst (-1), 1) := by decide +kernel
theorem dX5_readPerson_66 : decode cX5_readPerson 66 = .ok (.if_icmp .eq 11, 3) := by decide +kernel
theorem dX5_readPerson_69 : decode cX5_readPerson 69 = .ok (.aload_n 0, 1) := by decide +kernel
theorem dX5_readPerson_70 : decode cX5_readPerson 70 = .ok (.iconst 3, 1) := by decide +kernel
theorem dX5_readPerson_71 : decode cX5_readPerson 71 = .ok (.invokevirtual 73, 3) := by decide +kernel
theorem dX5_readPerson_74 : decode cX5_readPerson 74 = .ok (.goto 15, 3) := by decide +kernel
theorem dX5_readPerson_77 : decode cX5_readPerson 77 = .ok (.aload_n 0, 1) := by decide +kernel
theorem dX5_readPerson_78 : decode cX5_readPerson 78 = .ok (.getfield 41, 3) := by decide +kernel
theorem dX5_readPerson_81 : decode cX5_readPerson 81 = .ok (.lload_n 1, 1) := by decide +kernel
theorem dX5_readPerson_82 : decode cX5_readPerson 82 = .ok (.invokevirtual 115, 3) := by decide +kernel
theorem dX5_readPerson_85 : decode cX5_readPerson 85 = .ok (.aload_n 0, 1) := by decide +kernel
theorem dX5_readPerson_86 : decode cX5_readPerson 86 = .ok (.invokevirtual 101, 3) := by decide +kernel
theorem dX5_readPerson_89 : decode cX5_readPerson 89 = .ok (.aload_n 0, 1) := by decide +kernel
theorem dX5_readPerson_90 : decode cX5_readPerson 90 = .ok (.sipush 257, 3) := by decide +kernel
theorem dX5_readPerson_93 : decode cX5_readPerson 93 = .ok (.invokevirtual 119, 3) := by decide +kernel
theorem dX5_readPerson_96 : decode cX5_readPerson 96 = .ok (.ifCond .eq 18, 3) := by decide +kernel
theorem dX5_readPerson_99 : decode cX5_readPerson 99 = .ok (.aload_n 0, 1) := by decide +kernel
theorem dX5_readPerson_100 : decode cX5_readPerson 100 = .ok (.getfield 41, 3) := by decide +kernel
theorem dX5_readPerson_103 : decode cX5_readPerson 103 = .ok (.dup, 1) := by decide +kernel
theorem dX5_readPerson_104 : decode cX5_readPerson 104 = .ok (.getfield 123, 3) := by decide +kernel
theorem dX5_readPerson_107 : decode cX5_readPerson 107 = .ok (.iconst 1, 1) := by decide +kernel
theorem dX5_readPerson_108 : decode cX5_readPerson 108 = .ok (.iload_n 3, 1) := by decide +kernel
theorem dX5_readPerson_109 : decode cX5_readPerson 109 = .ok (.ishl, 1) := by decide +kernel
theorem dX5_readPerson_110 : decode cX5_readPerson 110 = .ok (.ior, 1) := by decide +kernel
theorem dX5_readPerson_111 : decode cX5_readPerson 111 = .ok (.putfield 123, 3) := by decide +kernel
theorem dX5_readPerson_114 : decode cX5_readPerson 114 = .ok (.aload_n 0, 1) := by decide +kernel
theorem dX5_readPerson_115 : decode cX5_readPerson 115 = .ok (.sipush 258, 3) := by decide +kernel
theorem dX5_readPerson_118 : decode cX5_readPerson 118 = .ok (.invokevirtual 119, 3) := by decide +kernel
theorem dX5_readPerson_121 : decode cX5_readPerson 121 = .ok (.ifCond .eq 11, 3) := by decide +kernel
theorem dX5_readPerson_124 : decode cX5_readPerson 124 = .ok (.aload_n 0, 1) := by decide +kernel
theorem dX5_readPerson_125 : decode cX5_readPerson 125 = .ok (.getfield 41, 3) := by decide +kernel
theorem dX5_readPerson_128 : decode cX5_readPerson 128 = .ok (.iload_n 3, 1) := by decide +kernel
theorem dX5_readPerson_129 : decode cX5_readPerson 129 = .ok (.invokevirtual 126, 3) := by decide +kernel
theorem dX5_readPerson_132 : decode cX5_readPerson 132 = .ok (.aload_n 0, 1) := by decide +kernel
theorem dX5_readPerson_133 : decode cX5_readPerson 133 = .ok (.sipush 259, 3) := by decide +kernel
theorem dX5_readPerson_136 : decode cX5_readPerson 136 = .ok (.invokevirtual 119, 3) := by decide +kernel
theorem dX5_readPerson_139 : decode cX5_readPerson 139 = .ok (.ifCond .eq 18, 3) := by decide +kernel
theorem dX5_readPerson_142 : decode cX5_readPerson 142 = .ok (.aload_n 0, 1) := by decide +kernel
theorem dX5_readPerson_143 : decode cX5_readPerson 143 = .ok (.getfield 41, 3) := by decide +kernel
theorem dX5_readPerson_146 : decode cX5_readPerson 146 = .ok (.dup, 1) := by decide +kernel
theorem dX5_readPerson_147 : decode cX5_readPerson 147 = .ok (.getfield 129, 3) := by decide +kernel
theorem dX5_readPerson_150 : decode cX5_readPerson 150 = .ok (.iconst 1, 1) := by decide +kernel
theorem dX5_readPerson_151 : decode cX5_readPerson 151 = .ok (.iload_n 3, 1) := by decide +kernel
theorem dX5_readPerson_152 : decode cX5_readPerson 152 = .ok (.ishl, 1) := by decide +kernel
theorem dX5_readPerson_153 : decode cX5_readPerson 153 = .ok (.ior, 1) := by decide +kernel
theorem dX5_readPerson_154 : decode cX5_readPerson 154 = .ok (.putfield 129, 3) := by decide +kernel
theorem dX5_readPerson_157 : decode cX5_readPerson 157 = .ok (.return_, 1) := by decide +kernel
theorem dX5_readBlind_0 : decode cX5_readBlind 0 = .ok (.aload_n 0, 1) := by decide +kernel
theorem dX5_readBlind_1 : decode cX5_readBlind 1 = .ok (.getfield 41, 3) := by decide +kernel
theorem dX5_readBlind_4 : decode cX5_readBlind 4 = .ok (.getfield 132, 3) := by decide +kernel
theorem dX5_readBlind_7 : decode cX5_readBlind 7 = .ok (.bipush 30, 2) := by decide +kernel
theorem dX5_readBlind_9 : decode cX5_readBlind 9 = .ok (.if_icmp .lt 8, 3) := by decide +kernel
theorem dX5_readBlind_12 : decode cX5_readBlind 12 = .ok (.aload_n 0, 1) := by decide +kernel
theorem dX5_readBlind_13 : decode cX5_readBlind 13 = .ok (.iconst 2, 1) := by decide +kernel
theorem dX5_readBlind_14 : decode cX5_readBlind 14 = .ok (.invokevirtual 73, 3) := by decide +kernel
theorem dX5_readBlind_17 : decode cX5_readBlind 17 = .ok (.aload_n 0, 1) := by decide +kernel
theorem dX5_readBlind_18 : decode cX5_readBlind 18 = .ok (.invokevirtual 101, 3) := by decide +kernel
theorem dX5_readBlind_21 : decode cX5_readBlind 21 = .ok (.aload_n 0, 1) := by decide +kernel
theorem dX5_readBlind_22 : decode cX5_readBlind 22 = .ok (.invokevirtual 135, 3) := by decide +kernel
theorem dX5_readBlind_25 : decode cX5_readBlind 25 = .ok (.istore_n 1, 1) := by decide +kernel
theorem dX5_readBlind_26 : decode cX5_readBlind 26 = .ok (.aload_n 0, 1) := by decide +kernel
theorem dX5_readBlind_27 : decode cX5_readBlind 27 = .ok (.invokevirtual 101, 3) := by decide +kernel
theorem dX5_readBlind_30 : decode cX5_readBlind 30 = .ok (.aload_n 0, 1) := by decide +kernel
theorem dX5_readBlind_31 : decode cX5_readBlind 31 = .ok (.invokevirtual 135, 3) := by decide +kernel
theorem dX5_readBlind_34 : decode cX5_readBlind 34 = .ok (.istore_n 2, 1) := by decide +kernel
theorem dX5_readBlind_35 : decode cX5_readBlind 35 = .ok (.aload_n 0, 1) := by decide +kernel
theorem dX5_readBlind_36 : decode cX5_readBlind 36 = .ok (.getfield 9, 3) := by decide +kernel
theorem dX5_readBlind_39 : decode cX5_readBlind 39 = .ok (.ifCond .ne 20, 3) := by decide +kernel
theorem dX5_readBlind_42 : decode cX5_readBlind 42 = .ok (.aload_n 0, 1) := by decide +kernel
theorem dX5_readBlind_43 : decode cX5_readBlind 43 = .ok (.getfield 41, 3) := by decide +kernel
theorem dX5_readBlind_46 : decode cX5_readBlind 46 = .ok (.iload_n 1, 1) := by decide +kernel
theorem dX5_readBlind_47 : decode cX5_readBlind 47 = .ok (.iload_n 2, 1) := by decide +kernel
theorem dX5_readBlind_48 : decode cX5_readBlind 48 = .ok (.invokevirtual 139, 3) := by decide +kernel
theorem dX5_readBlind_51 : decode cX5_readBlind 51 = .ok (.ifCond .ne 8, 3) := by decide +kernel
theorem dX5_readBlind_54 : decode cX5_readBlind 54 = .ok (.aload_n 0, 1) := by decide +kernel
theorem dX5_readBlind_55 : decode cX5_readBlind 55 = .ok (.iconst 3, 1) := by decide +kernel
theorem dX5_readBlind_56 : decode cX5_readBlind 56 = .ok (.invokevirtual 73, 3) := by decide +kernel
theorem dX5_readBlind_59 : decode cX5_readBlind 59 = .ok (.aload_n 0, 1) := by decide +kernel
theorem dX5_readBlind_60 : decode cX5_readBlind 60 = .ok (.getfield 9, 3) := by decide +kernel
theorem dX5_readBlind_63 : decode cX5_readBlind 63 = .ok (.ifCond .ne 12, 3) := by decide +kernel
theorem dX5_readBlind_66 : decode cX5_readBlind 66 = .ok (.aload_n 0, 1) := by decide +kernel
theorem dX5_readBlind_67 : decode cX5_readBlind 67 = .ok (.getfield 41, 3) := by decide +kernel
theorem dX5_readBlind_70 : decode cX5_readBlind 70 = .ok (.iload_n 1, 1) := by decide +kernel
theorem dX5_readBlind_71 : decode cX5_readBlind 71 = .ok (.iload_n 2, 1) := by decide +kernel
theorem dX5_readBlind_72 : decode cX5_readBlind 72 = .ok (.invokevirtual 143, 3) := by decide +kernel
theorem dX5_readBlind_75 : decode cX5_readBlind 75 = .ok (.aload_n 0, 1) := by decide +kernel
theorem dX5_readBlind_76 : decode cX5_readBlind 76 = .ok (.invokevirtual 101, 3) := by decide +kernel
theorem dX5_readBlind_79 : decode cX5_readBlind 79 = .ok (.return_, 1) := by decide +kernel
theorem dX5_readLaw_0 : decode cX5_readLaw 0 = .ok (.aload_n 0, 1) := by decide +kernel
theorem dX5_readLaw_1 : decode cX5_readLaw 1 = .ok (.getfield 41, 3) := by decide +kernel
theorem dX5_readLaw_4 : decode cX5_readLaw 4 = .ok (.getfield 146, 3) := by decide +kernel
theorem dX5_readLaw_7 : decode cX5_readLaw 7 = .ok (.ifCond .eq 8, 3) := by decide +kernel
theorem dX5_readLaw_10 : decode cX5_readLaw 10 = .ok (.aload_n 0, 1) := by decide +kernel
theorem dX5_readLaw_11 : decode cX5_readLaw 11 = .ok (.iconst 2, 1) := by decide +kernel
theorem dX5_readLaw_12 : decode cX5_readLaw 12 = .ok (.invokevirtual 73, 3) := by decide +kernel
theorem dX5_readLaw_15 : decode cX5_readLaw 15 = .ok (.aload_n 0, 1) := by decide +kernel
theorem dX5_readLaw_16 : decode cX5_readLaw 16 = .ok (.getfield 41, 3) := by decide +kernel
theorem dX5_readLaw_19 : decode cX5_readLaw 19 = .ok (.iconst 1, 1) := by decide +kernel
theorem dX5_readLaw_20 : decode cX5_readLaw 20 = .ok (.putfield 146, 3) := by decide +kernel
theorem dX5_readLaw_23 : decode cX5_readLaw 23 = .ok (.aload_n 0, 1) := by decide +kernel
theorem dX5_readLaw_24 : decode cX5_readLaw 24 = .ok (.invokevirtual 101, 3) := by decide +kernel
theorem dX5_readLaw_27 : decode cX5_readLaw 27 = .ok (.aload_n 0, 1) := by decide +kernel
theorem dX5_readLaw_28 : decode cX5_readLaw 28 = .ok (.sipush 263, 3) := by decide +kernel
theorem dX5_readLaw_31 : decode cX5_readLaw 31 = .ok (.invokevirtual 119, 3) := by decide +kernel
theorem dX5_readLaw_34 : decode cX5_readLaw 34 = .ok (.ifCond .eq 14, 3) := by decide +kernel
theorem dX5_readLaw_37 : decode cX5_readLaw 37 = .ok (.aload_n 0, 1) := by decide +kernel
theorem dX5_readLaw_38 : decode cX5_readLaw 38 = .ok (.getfield 41, 3) := by decide +kernel
theorem dX5_readLaw_41 : decode cX5_readLaw 41 = .ok (.iconst 1, 1) := by decide +kernel
theorem dX5_readLaw_42 : decode cX5_readLaw 42 = .ok (.putfield 150, 3) := by decide +kernel
theorem dX5_readLaw_45 : decode cX5_readLaw 45 = .ok (.goto 10, 3) := by decide +kernel
theorem dX5_readLaw_48 : decode cX5_readLaw 48 = .ok (.aload_n 0, 1) := by decide +kernel
theorem dX5_readLaw_49 : decode cX5_readLaw 49 = .ok (.sipush 262, 3) := by decide +kernel
theorem dX5_readLaw_52 : decode cX5_readLaw 52 = .ok (.invokevirtual 77, 3) := by decide +kernel
theorem dX5_readLaw_55 : decode cX5_readLaw 55 = .ok (.return_, 1) := by decide +kernel
theorem dX5_readSaying_0 : decode cX5_readSaying 0 = .ok (.aload_n 0, 1) := by decide +kernel
theorem dX5_readSaying_1 : decode cX5_readSaying 1 = .ok (.getfield 41, 3) := by decide +kernel
theorem dX5_readSaying_4 : decode cX5_readSaying 4 = .ok (.getfield 153, 3) := by decide +kernel
theorem dX5_readSaying_7 : decode cX5_readSaying 7 = .ok (.bipush 6, 2) := by decide +kernel
theorem dX5_readSaying_9 : decode cX5_readSaying 9 = .ok (.if_icmp .lt 8, 3) := by decide +kernel
theorem dX5_readSaying_12 : decode cX5_readSaying 12 = .ok (.aload_n 0, 1) := by decide +kernel
theorem dX5_readSaying_13 : decode cX5_readSaying 13 = .ok (.iconst 2, 1) := by decide +kernel
theorem dX5_readSaying_14 : decode cX5_readSaying 14 = .ok (.invokevirtual 73, 3) := by decide +kernel
theorem dX5_readSaying_17 : decode cX5_readSaying 17 = .ok (.aload_n 0, 1) := by decide +kernel
theorem dX5_readSaying_18 : decode cX5_readSaying 18 = .ok (.invokevirtual 101, 3) := by decide +kernel
theorem dX5_readSaying_21 : decode cX5_readSaying 21 = .ok (.aload_n 0, 1) := by decide +kernel
theorem dX5_readSaying_22 : decode cX5_readSaying 22 = .ok (.iconst 0, 1) := by decide +kernel
theorem dX5_readSaying_23 : decode cX5_readSaying 23 = .ok (.iconst 0, 1) := by decide +kernel
theorem dX5_readSaying_24 : decode cX5_readSaying 24 = .ok (.invokevirtual 86, 3) := by decide +kernel
theorem dX5_readSaying_27 : decode cX5_readSaying 27 = .ok (.aload_n 0, 1) := by decide +kernel
theorem dX5_readSaying_28 : decode cX5_readSaying 28 = .ok (.getfield 41, 3) := by decide +kernel
theorem dX5_readSaying_31 : decode cX5_readSaying 31 = .ok (.invokevirtual 156, 3) := by decide +kernel
theorem dX5_readSaying_34 : decode cX5_readSaying 34 = .ok (.return_, 1) := by decide +kernel
theorem dX5_readPart_0 : decode cX5_readPart 0 = .ok (.iconst 4, 1) := by decide +kernel
theorem dX5_readPart_1 : decode cX5_readPart 1 = .ok (.istore_n 3, 1) := by decide +kernel
theorem dX5_readPart_2 : decode cX5_readPart 2 = .ok (.aload_n 0, 1) := by decide +kernel
theorem dX5_readPart_3 : decode cX5_readPart 3 = .ok (.getfield 29, 3) := by decide +kernel
theorem dX5_readPart_6 : decode cX5_readPart 6 = .ok (.sipush 267, 3) := by decide +kernel
theorem dX5_readPart_9 : decode cX5_readPart 9 = .ok (.if_icmp .ne 42, 3) := by decide +kernel
theorem dX5_readPart_12 : decode cX5_readPart 12 = .ok (.iload_n 1, 1) := by decide +kernel
theorem dX5_readPart_13 : decode cX5_readPart 13 = .ok (.iconst 2, 1) := by decide +kernel
theorem dX5_readPart_14 : decode cX5_readPart 14 = .ok (.if_icmp .gt 37, 3) := by decide +kernel
theorem dX5_readPart_17 : decode cX5_readPart 17 = .ok (.iload_n 2, 1) := by decide +kernel
theorem dX5_readPart_18 : decode cX5_readPart 18 = .ok (.bipush 6, 2) := by decide +kernel
theorem dX5_readPart_20 : decode cX5_readPart 20 = .ok (.if_icmp .gt 31, 3) := by decide +kernel
theorem dX5_readPart_23 : decode cX5_readPart 23 = .ok (.aload_n 0, 1) := by decide +kernel
theorem dX5_readPart_24 : decode cX5_readPart 24 = .ok (.invokevirtual 101, 3) := by decide +kernel
theorem dX5_readPart_27 : decode cX5_readPart 27 = .ok (.aload_n 0, 1) := by decide +kernel
theorem dX5_readPart_28 : decode cX5_readPart 28 = .ok (.iconst 2, 1) := by decide +kernel
theorem dX5_readPart_29 : decode cX5_readPart 29 = .ok (.iload_n 2, 1) := by decide +kernel
theorem dX5_readPart_30 : decode cX5_readPart 30 = .ok (.iconst 1, 1) := by decide +kernel
theorem dX5_readPart_31 : decode cX5_readPart 31 = .ok (.iadd, 1) := by decide +kernel
theorem dX5_readPart_32 : decode cX5_readPart 32 = .ok (.invokevirtual 86, 3) := by decide +kernel
theorem dX5_readPart_35 : decode cX5_readPart 35 = .ok (.aload_n 0, 1) := by decide +kernel
theorem dX5_readPart_36 : decode cX5_readPart 36 = .ok (.getfield 45, 3) := by decide +kernel
theorem dX5_readPart_39 : decode cX5_readPart 39 = .ok (.sipush 267, 3) := by decide +kernel
theorem dX5_readPart_42 : decode cX5_readPart 42 = .ok (.iconst 0, 1) := by decide +kernel
theorem dX5_readPart_43 : decode cX5_readPart 43 = .ok (.invokevirtual 159, 3) := by decide +kernel
theorem dX5_readPart_46 : decode cX5_readPart 46 = .ok (.iconst 1, 1) := by decide +kernel
theorem dX5_readPart_47 : decode cX5_readPart 47 = .ok (.istore_n 3, 1) := by decide +kernel
theorem dX5_readPart_48 : decode cX5_readPart 48 = .ok (.goto 8, 3) := by decide +kernel
theorem dX5_readPart_51 : decode cX5_readPart 51 = .ok (.aload_n 0, 1) := by decide +kernel
theorem dX5_readPart_52 : decode cX5_readPart 52 = .ok (.iload_n 2, 1) := by decide +kernel
theorem dX5_readPart_53 : decode cX5_readPart 53 = .ok (.invokevirtual 162, 3) := by decide +kernel
theorem dX5_readPart_56 : decode cX5_readPart 56 = .ok (.iconst 0, 1) := by decide +kernel
theorem dX5_readPart_57 : decode cX5_readPart 57 = .ok (.istore 4, 2) := by decide +kernel
theorem dX5_readPart_59 : decode cX5_readPart 59 = .ok (.iload 4, 2) := by decide +kernel
theorem dX5_readPart_61 : decode cX5_readPart 61 = .ok (.sipush 1600, 3) := by decide +kernel
theorem dX5_readPart_64 : decode cX5_readPart 64 = .ok (.if_icmp .ge 76, 3) := by decide +kernel
theorem dX5_readPart_67 : decode cX5_readPart 67 = .ok (.aload_n 0, 1) := by decide +kernel
theorem dX5_readPart_68 : decode cX5_readPart 68 = .ok (.getfield 29, 3) := by decide +kernel
theorem dX5_readPart_71 : decode cX5_readPart 71 = .ok (.istore 5, 2) := by decide +kernel
theorem dX5_readPart_73 : decode cX5_readPart 73 = .ok (.iload 5, 2) := by decide +kernel
theorem dX5_readPart_75 : decode cX5_readPart 75 = .ok (.invokestatic 165, 3) := by decide +kernel
theorem dX5_readPart_78 : decode cX5_readPart 78 = .ok (.istore 6, 2) := by decide +kernel
theorem dX5_readPart_80 : decode cX5_readPart 80 = .ok (.iload 6, 2) := by decide +kernel
theorem dX5_readPart_82 : decode cX5_readPart 82 = .ok (.iload_n 1, 1) := by decide +kernel
theorem dX5_readPart_83 : decode cX5_readPart 83 = .ok (.if_icmp .lt 57, 3) := by decide +kernel
theorem dX5_readPart_86 : decode cX5_readPart 86 = .ok (.iload 6, 2) := by decide +kernel
theorem dX5_readPart_88 : decode cX5_readPart 88 = .ok (.iload_n 3, 1) := by decide +kernel
theorem dX5_readPart_89 : decode cX5_readPart 89 = .ok (.if_icmp .le 6, 3) := by decide +kernel
theorem dX5_readPart_92 : decode cX5_readPart 92 = .ok (.goto 48, 3) := by decide +kernel
theorem dX5_readPart_95 : decode cX5_readPart 95 = .ok (.aload_n 0, 1) := by decide +kernel
theorem dX5_readPart_96 : decode cX5_readPart 96 = .ok (.invokevirtual 101, 3) := by decide +kernel
theorem dX5_readPart_99 : decode cX5_readPart 99 = .ok (.aload_n 0, 1) := by decide +kernel
theorem dX5_readPart_100 : decode cX5_readPart 100 = .ok (.iload 6, 2) := by decide +kernel
theorem dX5_readPart_102 : decode cX5_readPart 102 = .ok (.iconst 1, 1) := by decide +kernel
theorem dX5_readPart_103 : decode cX5_readPart 103 = .ok (.iadd, 1) := by decide +kernel
theorem dX5_readPart_104 : decode cX5_readPart 104 = .ok (.iload_n 2, 1) := by decide +kernel
theorem dX5_readPart_105 : decode cX5_readPart 105 = .ok (.invokevirtual 86, 3) := by decide +kernel
theorem dX5_readPart_108 : decode cX5_readPart 108 = .ok (.aload_n 0, 1) := by decide +kernel
theorem dX5_readPart_109 : decode cX5_readPart 109 = .ok (.getfield 45, 3) := by decide +kernel
theorem dX5_readPart_112 : decode cX5_readPart 112 = .ok (.iload 5, 2) := by decide +kernel
theorem dX5_readPart_114 : decode cX5_readPart 114 = .ok (.iconst 0, 1) := by decide +kernel
theorem dX5_readPart_115 : decode cX5_readPart 115 = .ok (.invokevirtual 159, 3) := by decide +kernel
theorem dX5_readPart_118 : decode cX5_readPart 118 = .ok (.iload 6, 2) := by decide +kernel
theorem dX5_readPart_120 : decode cX5_readPart 120 = .ok (.iconst 2, 1) := by decide +kernel
theorem dX5_readPart_121 : decode cX5_readPart 121 = .ok (.if_icmp .ne 10, 3) := by decide +kernel
theorem dX5_readPart_124 : decode cX5_readPart 124 = .ok (.iload 6, 2) := by decide +kernel
theorem dX5_readPart_126 : decode cX5_readPart 126 = .ok (.iconst 1, 1) := by decide +kernel
theorem dX5_readPart_127 : decode cX5_readPart 127 = .ok (.isub, 1) := by decide +kernel
theorem dX5_readPart_128 : decode cX5_readPart 128 = .ok (.goto 5, 3) := by decide +kernel
theorem dX5_readPart_131 : decode cX5_readPart 131 = .ok (.iload 6, 2) := by decide +kernel
theorem dX5_readPart_133 : decode cX5_readPart 133 = .ok (.istore_n 3, 1) := by decide +kernel
theorem dX5_readPart_134 : decode cX5_readPart 134 = .ok (.iinc 4 1, 3) := by decide +kernel
theorem dX5_readPart_137 : decode cX5_readPart 137 = .ok (.goto (-78), 3) := by decide +kernel
theorem dX5_readPart_140 : decode cX5_readPart 140 = .ok (.return_, 1) := by decide +kernel
theorem dX5_readUnit_0 : decode cX5_readUnit 0 = .ok (.aload_n 0, 1) := by decide +kernel
theorem dX5_readUnit_1 : decode cX5_readUnit 1 = .ok (.getfield 29, 3) := by decide +kernel
theorem dX5_readUnit_4 : decode cX5_readUnit 4 = .ok (.istore_n 2, 1) := by decide +kernel
theorem dX5_readUnit_5 : decode cX5_readUnit 5 = .ok (.iload_n 2, 1) := by decide +kernel
theorem dX5_readUnit_6 : decode cX5_readUnit 6 = .ok (.invokestatic 168, 3) := by decide +kernel
theorem dX5_readUnit_9 : decode cX5_readUnit 9 = .ok (.istore_n 3, 1) := by decide +kernel
theorem dX5_readUnit_10 : decode cX5_readUnit 10 = .ok (.iload_n 2, 1) := by decide +kernel
theorem dX5_readUnit_11 : decode cX5_readUnit 11 = .ok (.invokestatic 171, 3) := by decide +kernel
theorem dX5_readUnit_14 : decode cX5_readUnit 14 = .ok (.ifCond .eq 24, 3) := by decide +kernel
theorem dX5_readUnit_17 : decode cX5_readUnit 17 = .ok (.aload_n 0, 1) := by decide +kernel
theorem dX5_readUnit_18 : decode cX5_readUnit 18 = .ok (.getfield 21, 3) := by decide +kernel
theorem dX5_readUnit_21 : decode cX5_readUnit 21 = .ok (.aload_n 0, 1) := by decide +kernel
theorem dX5_readUnit_22 : decode cX5_readUnit 22 = .ok (.getfield 18, 3) := by decide +kernel
theorem dX5_readUnit_25 : decode cX5_readUnit 25 = .ok (.if_icmp .ge 13, 3) := by decide +kernel
theorem dX5_readUnit_28 : decode cX5_readUnit 28 = .ok (.iload_n 3, 1) := by decide +kernel
theorem dX5_readUnit_29 : decode cX5_readUnit 29 = .ok (.ifCond .eq 15, 3) := by decide +kernel
theorem dX5_readUnit_32 : decode cX5_readUnit 32 = .ok (.iload_n 1, 1) := by decide +kernel
theorem dX5_readUnit_33 : decode cX5_readUnit 33 = .ok (.bipush 6, 2) := by decide +kernel
theorem dX5_readUnit_35 : decode cX5_readUnit 35 = .ok (.if_icmp .le 9, 3) := by decide +kernel
theorem dX5_readUnit_38 : decode cX5_readUnit 38 = .ok (.aload_n 0, 1) := by decide +kernel
theorem dX5_readUnit_39 : decode cX5_readUnit 39 = .ok (.iconst 2, 1) := by decide +kernel
theorem dX5_readUnit_40 : decode cX5_readUnit 40 = .ok (.invokevirtual 73, 3) := by decide +kernel
theorem dX5_readUnit_43 : decode cX5_readUnit 43 = .ok (.return_, 1) := by decide +kernel
theorem dX5_readUnit_44 : decode cX5_readUnit 44 = .ok (.aload_n 0, 1) := by decide +kernel
theorem dX5_readUnit_45 : decode cX5_readUnit 45 = .ok (.dup, 1) := by decide +kernel
theorem dX5_readUnit_46 : decode cX5_readUnit 46 = .ok (.getfield 21, 3) := by decide +kernel
theorem dX5_readUnit_49 : decode cX5_readUnit 49 = .ok (.iconst 1, 1) := by decide +kernel
theorem dX5_readUnit_50 : decode cX5_readUnit 50 = .ok (.iadd, 1) := by decide +kernel
theorem dX5_readUnit_51 : decode cX5_readUnit 51 = .ok (.putfield 21, 3) := by decide +kernel
theorem dX5_readUnit_54 : decode cX5_readUnit 54 = .ok (.iload_n 2, 1) := by decide +kernel
theorem dX5_readUnit_55 : decode cX5_readUnit 55 = .ok (.sipush 274, 3) := by decide +kernel
theorem dX5_readUnit_58 : decode cX5_readUnit 58 = .ok (.if_icmp .ne 18, 3) := by decide +kernel
theorem dX5_readUnit_61 : decode cX5_readUnit 61 = .ok (.aload_n 0, 1) := by decide +kernel
theorem dX5_readUnit_62 : decode cX5_readUnit 62 = .ok (.getfield 37, 3) := by decide +kernel
theorem dX5_readUnit_65 : decode cX5_readUnit 65 = .ok (.aload_n 0, 1) := by decide +kernel
theorem dX5_readUnit_66 : decode cX5_readUnit 66 = .ok (.getfield 24, 3) := by decide +kernel
theorem dX5_readUnit_69 : decode cX5_readUnit 69 = .ok (.invokevirtual 104, 3) := by decide +kernel
theorem dX5_readUnit_72 : decode cX5_readUnit 72 = .ok (.l2i, 1) := by decide +kernel
theorem dX5_readUnit_73 : decode cX5_readUnit 73 = .ok (.goto 4, 3) := by decide +kernel
theorem dX5_readUnit_76 : decode cX5_readUnit 76 = .ok (.iconst 0, 1) := by decide +kernel
theorem dX5_readUnit_77 : decode cX5_readUnit 77 = .ok (.istore 4, 2) := by decide +kernel
theorem dX5_readUnit_79 : decode cX5_readUnit 79 = .ok (.aload_n 0, 1) := by decide +kernel
theorem dX5_readUnit_80 : decode cX5_readUnit 80 = .ok (.invokevirtual 101, 3) := by decide +kernel
theorem dX5_readUnit_83 : decode cX5_readUnit 83 = .ok (.iload_n 2, 1) := by decide +kernel
theorem dX5_readUnit_84 : decode cX5_readUnit 84 = .ok (.sipush 262, 3) := by decide +kernel
theorem dX5_readUnit_87 : decode cX5_readUnit 87 = .ok (.if_icmp .eq 17, 3) := by decide +kernel
theorem dX5_readUnit_90 : decode cX5_readUnit 90 = .ok (.iload_n 2, 1) := by decide +kernel
theorem dX5_readUnit_91 : decode cX5_readUnit 91 = .ok (.sipush 269, 3) := by decide +kernel
theorem dX5_readUnit_94 : decode cX5_readUnit 94 = .ok (.if_icmp .eq 10, 3) := by decide +kernel
theorem dX5_readUnit_97 : decode cX5_readUnit 97 = .ok (.iload_n 2, 1) := by decide +kernel
theorem dX5_readUnit_98 : decode cX5_readUnit 98 = .ok (.sipush 270, 3) := by decide +kernel
theorem dX5_readUnit_101 : decode cX5_readUnit 101 = .ok (.if_icmp .ne 17, 3) := by decide +kernel
theorem dX5_readUnit_104 : decode cX5_readUnit 104 = .ok (.aload_n 0, 1) := by decide +kernel
theorem dX5_readUnit_105 : decode cX5_readUnit 105 = .ok (.invokevirtual 135, 3) := by decide +kernel
theorem dX5_readUnit_108 : decode cX5_readUnit 108 = .ok (.iconst 0, 1) := by decide +kernel
theorem dX5_readUnit_109 : decode cX5_readUnit 109 = .ok (.invokestatic 174, 3) := by decide +kernel
theorem dX5_readUnit_112 : decode cX5_readUnit 112 = .ok (.istore 4, 2) := by decide +kernel
theorem dX5_readUnit_114 : decode cX5_readUnit 114 = .ok (.aload_n 0, 1) := by decide +kernel
theorem dX5_readUnit_115 : decode cX5_readUnit 115 = .ok (.invokevirtual 101, 3) := by decide +kernel
theorem dX5_readUnit_118 : decode cX5_readUnit 118 = .ok (.iload_n 3, 1) := by decide +kernel
theorem dX5_readUnit_119 : decode cX5_readUnit 119 = .ok (.ifCond .eq 29, 3) := by decide +kernel
theorem dX5_readUnit_122 : decode cX5_readUnit 122 = .ok (.iload_n 2, 1) := by decide +kernel
theorem dX5_readUnit_123 : decode cX5_readUnit 123 = .ok (.bipush 40, 2) := by decide +kernel
theorem dX5_readUnit_125 : decode cX5_readUnit 125 = .ok (.if_icmp .eq 9, 3) := by decide +kernel
theorem dX5_readUnit_128 : decode cX5_readUnit 128 = .ok (.aload_n 0, 1) := by decide +kernel
theorem dX5_readUnit_129 : decode cX5_readUnit 129 = .ok (.bipush 40, 2) := by decide +kernel
theorem dX5_readUnit_131 : decode cX5_readUnit 131 = .ok (.invokevirtual 77, 3) := by decide +kernel
theorem dX5_readUnit_134 : decode cX5_readUnit 134 = .ok (.aload_n 0, 1) := by decide +kernel
theorem dX5_readUnit_135 : decode cX5_readUnit 135 = .ok (.iconst 0, 1) := by decide +kernel
theorem dX5_readUnit_136 : decode cX5_readUnit 136 = .ok (.iload_n 1, 1) := by decide +kernel
theorem dX5_readUnit_137 : decode cX5_readUnit 137 = .ok (.iconst 1, 1) := by decide +kernel
theorem dX5_readUnit_138 : decode cX5_readUnit 138 = .ok (.iadd, 1) := by decide +kernel
theorem dX5_readUnit_139 : decode cX5_readUnit 139 = .ok (.invokevirtual 86, 3) := by decide +kernel
theorem dX5_readUnit_142 : decode cX5_readUnit 142 = .ok (.aload_n 0, 1) := by decide +kernel
theorem dX5_readUnit_143 : decode cX5_readUnit 143 = .ok (.bipush 41, 2) := by decide +kernel
theorem dX5_readUnit_145 : decode cX5_readUnit 145 = .ok (.invokevirtual 77, 3) := by decide +kernel
theorem dX5_readUnit_148 : decode cX5_readUnit 148 = .ok (.iload_n 2, 1) := by decide +kernel
theorem dX5_readUnit_149 : decode cX5_readUnit 149 = .ok (.bipush 40, 2) := by decide +kernel
theorem dX5_readUnit_151 : decode cX5_readUnit 151 = .ok (.if_icmp .eq 13, 3) := by decide +kernel
theorem dX5_readUnit_154 : decode cX5_readUnit 154 = .ok (.aload_n 0, 1) := by decide +kernel
theorem dX5_readUnit_155 : decode cX5_readUnit 155 = .ok (.getfield 45, 3) := by decide +kernel
theorem dX5_readUnit_158 : decode cX5_readUnit 158 = .ok (.iload_n 2, 1) := by decide +kernel
theorem dX5_readUnit_159 : decode cX5_readUnit 159 = .ok (.iload 4, 2) := by decide +kernel
theorem dX5_readUnit_161 : decode cX5_readUnit 161 = .ok (.invokevirtual 159, 3) := by decide +kernel
theorem dX5_readUnit_164 : decode cX5_readUnit 164 = .ok (.return_, 1) := by decide +kernel
theorem dX5_readName_0 : decode cX5_readName 0 = .ok (.aload_n 0, 1) := by decide +kernel
theorem dX5_readName_1 : decode cX5_readName 1 = .ok (.getfield 29, 3) := by decide +kernel
theorem dX5_readName_4 : decode cX5_readName 4 = .ok (.sipush 273, 3) := by decide +kernel
theorem dX5_readName_7 : decode cX5_readName 7 = .ok (.if_icmp .eq 10, 3) := by decide +kernel
theorem dX5_readName_10 : decode cX5_readName 10 = .ok (.aload_n 0, 1) := by decide +kernel
theorem dX5_readName_11 : decode cX5_readName 11 = .ok (.iconst 2, 1) := by decide +kernel
theorem dX5_readName_12 : decode cX5_readName 12 = .ok (.invokevirtual 73, 3) := by decide +kernel
theorem dX5_readName_15 : decode cX5_readName 15 = .ok (.iconst (-1), 1) := by decide +kernel
theorem dX5_readName_16 : decode cX5_readName 16 = .ok (.ireturn, 1) := by decide +kernel
theorem dX5_readName_17 : decode cX5_readName 17 = .ok (.aload_n 0, 1) := by decide +kernel
theorem dX5_readName_18 : decode cX5_readName 18 = .ok (.getfield 41, 3) := by decide +kernel
theorem dX5_readName_21 : decode cX5_readName 21 = .ok (.aload_n 0, 1) := by decide +kernel
theorem dX5_readName_22 : decode cX5_readName 22 = .ok (.getfield 37, 3) := by decide +kernel
theorem dX5_readName_25 : decode cX5_readName 25 = .ok (.aload_n 0, 1) := by decide +kernel
theorem dX5_readName_26 : decode cX5_readName 26 = .ok (.getfield 24, 3) := by decide +kernel
theorem dX5_readName_29 : decode cX5_readName 29 = .ok (.invokevirtual 104, 3) := by decide +kernel
theorem dX5_readName_32 : decode cX5_readName 32 = .ok (.invokevirtual 111, 3) := by decide +kernel
theorem dX5_readName_35 : decode cX5_readName 35 = .ok (.istore_n 1, 1) := by decide +kernel
theorem dX5_readName_36 : decode cX5_readName 36 = .ok (.iload_n 1, 1) := by decide +kernel
theorem dX5_readName_37 : decode cX5_readName 37 = .ok (.iconst (-1), 1) := by decide +kernel
theorem dX5_readName_38 : decode cX5_readName 38 = .ok (.if_icmp .ne 8, 3) := by decide +kernel
theorem dX5_readName_41 : decode cX5_readName 41 = .ok (.aload_n 0, 1) := by decide +kernel
theorem dX5_readName_42 : decode cX5_readName 42 = .ok (.iconst 4, 1) := by decide +kernel
theorem dX5_readName_43 : decode cX5_readName 43 = .ok (.invokevirtual 73, 3) := by decide +kernel
theorem dX5_readName_46 : decode cX5_readName 46 = .ok (.iload_n 1, 1) := by decide +kernel
theorem dX5_readName_47 : decode cX5_readName 47 = .ok (.ireturn, 1) := by decide +kernel
theorem dX5_accept_0 : decode cX5_accept 0 = .ok (.aload_n 0, 1) := by decide +kernel
theorem dX5_accept_1 : decode cX5_accept 1 = .ok (.getfield 29, 3) := by decide +kernel
theorem dX5_accept_4 : decode cX5_accept 4 = .ok (.iload_n 1, 1) := by decide +kernel
theorem dX5_accept_5 : decode cX5_accept 5 = .ok (.if_icmp .ne 7, 3) := by decide +kernel
theorem dX5_accept_8 : decode cX5_accept 8 = .ok (.iconst 1, 1) := by decide +kernel
theorem dX5_accept_9 : decode cX5_accept 9 = .ok (.goto 4, 3) := by decide +kernel
theorem dX5_accept_12 : decode cX5_accept 12 = .ok (.iconst 0, 1) := by decide +kernel
theorem dX5_accept_13 : decode cX5_accept 13 = .ok (.istore_n 2, 1) := by decide +kernel
theorem dX5_accept_14 : decode cX5_accept 14 = .ok (.iload_n 2, 1) := by decide +kernel
theorem dX5_accept_15 : decode cX5_accept 15 = .ok (.ifCond .eq 7, 3) := by decide +kernel
theorem dX5_accept_18 : decode cX5_accept 18 = .ok (.aload_n 0, 1) := by decide +kernel
theorem dX5_accept_19 : decode cX5_accept 19 = .ok (.invokevirtual 101, 3) := by decide +kernel
theorem dX5_accept_22 : decode cX5_accept 22 = .ok (.iload_n 2, 1) := by decide +kernel
theorem dX5_accept_23 : decode cX5_accept 23 = .ok (.ireturn, 1) := by decide +kernel
theorem dX5_expect_0 : decode cX5_expect 0 = .ok (.aload_n 0, 1) := by decide +kernel
theorem dX5_expect_1 : decode cX5_expect 1 = .ok (.getfield 29, 3) := by decide +kernel
theorem dX5_expect_4 : decode cX5_expect 4 = .ok (.iload_n 1, 1) := by decide +kernel
theorem dX5_expect_5 : decode cX5_expect 5 = .ok (.if_icmp .ne 10, 3) := by decide +kernel
theorem dX5_expect_8 : decode cX5_expect 8 = .ok (.aload_n 0, 1) := by decide +kernel
theorem dX5_expect_9 : decode cX5_expect 9 = .ok (.invokevirtual 101, 3) := by decide +kernel
theorem dX5_expect_12 : decode cX5_expect 12 = .ok (.goto 8, 3) := by decide +kernel
theorem dX5_expect_15 : decode cX5_expect 15 = .ok (.aload_n 0, 1) := by decide +kernel
theorem dX5_expect_16 : decode cX5_expect 16 = .ok (.iconst 2, 1) := by decide +kernel
theorem dX5_expect_17 : decode cX5_expect 17 = .ok (.invokevirtual 73, 3) := by decide +kernel
theorem dX5_expect_20 : decode cX5_expect 20 = .ok (.return_, 1) := by decide +kernel
theorem dX5_fail_0 : decode cX5_fail 0 = .ok (.aload_n 0, 1) := by decide +kernel
theorem dX5_fail_1 : decode cX5_fail 1 = .ok (.getfield 9, 3) := by decide +kernel
theorem dX5_fail_4 : decode cX5_fail 4 = .ok (.ifCond .ne 44, 3) := by decide +kernel
theorem dX5_fail_7 : decode cX5_fail 7 = .ok (.aload_n 0, 1) := by decide +kernel
theorem dX5_fail_8 : decode cX5_fail 8 = .ok (.aload_n 0, 1) := by decide +kernel
theorem dX5_fail_9 : decode cX5_fail 9 = .ok (.getfield 29, 3) := by decide +kernel
theorem dX5_fail_12 : decode cX5_fail 12 = .ok (.sipush 276, 3) := by decide +kernel
theorem dX5_fail_15 : decode cX5_fail 15 = .ok (.if_icmp .ne 7, 3) := by decide +kernel
theorem dX5_fail_18 : decode cX5_fail 18 = .ok (.iconst 1, 1) := by decide +kernel
theorem dX5_fail_19 : decode cX5_fail 19 = .ok (.goto 4, 3) := by decide +kernel
theorem dX5_fail_22 : decode cX5_fail 22 = .ok (.iload_n 1, 1) := by decide +kernel
theorem dX5_fail_23 : decode cX5_fail 23 = .ok (.putfield 9, 3) := by decide +kernel
theorem dX5_fail_26 : decode cX5_fail 26 = .ok (.aload_n 0, 1) := by decide +kernel
theorem dX5_fail_27 : decode cX5_fail 27 = .ok (.aload_n 0, 1) := by decide +kernel
theorem dX5_fail_28 : decode cX5_fail 28 = .ok (.getfield 37, 3) := by decide +kernel
theorem dX5_fail_31 : decode cX5_fail 31 = .ok (.aload_n 0, 1) := by decide +kernel
theorem dX5_fail_32 : decode cX5_fail 32 = .ok (.getfield 24, 3) := by decide +kernel
theorem dX5_fail_35 : decode cX5_fail 35 = .ok (.invokevirtual 180, 3) := by decide +kernel
theorem dX5_fail_38 : decode cX5_fail 38 = .ok (.putfield 15, 3) := by decide +kernel
theorem dX5_fail_41 : decode cX5_fail 41 = .ok (.aload_n 0, 1) := by decide +kernel
theorem dX5_fail_42 : decode cX5_fail 42 = .ok (.sipush 277, 3) := by decide +kernel
theorem dX5_fail_45 : decode cX5_fail 45 = .ok (.putfield 29, 3) := by decide +kernel
theorem dX5_fail_48 : decode cX5_fail 48 = .ok (.return_, 1) := by decide +kernel
theorem dX5_advance_0 : decode cX5_advance 0 = .ok (.aload_n 0, 1) := by decide +kernel
theorem dX5_advance_1 : decode cX5_advance 1 = .ok (.getfield 9, 3) := by decide +kernel
theorem dX5_advance_4 : decode cX5_advance 4 = .ok (.ifCond .ne 28, 3) := by decide +kernel
theorem dX5_advance_7 : decode cX5_advance 7 = .ok (.aload_n 0, 1) := by decide +kernel
theorem dX5_advance_8 : decode cX5_advance 8 = .ok (.dup, 1) := by decide +kernel
theorem dX5_advance_9 : decode cX5_advance 9 = .ok (.getfield 24, 3) := by decide +kernel
theorem dX5_advance_12 : decode cX5_advance 12 = .ok (.iconst 1, 1) := by decide +kernel
theorem dX5_advance_13 : decode cX5_advance 13 = .ok (.iadd, 1) := by decide +kernel
theorem dX5_advance_14 : decode cX5_advance 14 = .ok (.putfield 24, 3) := by decide +kernel
theorem dX5_advance_17 : decode cX5_advance 17 = .ok (.aload_n 0, 1) := by decide +kernel
theorem dX5_advance_18 : decode cX5_advance 18 = .ok (.aload_n 0, 1) := by decide +kernel
theorem dX5_advance_19 : decode cX5_advance 19 = .ok (.getfield 37, 3) := by decide +kernel
theorem dX5_advance_22 : decode cX5_advance 22 = .ok (.aload_n 0, 1) := by decide +kernel
theorem dX5_advance_23 : decode cX5_advance 23 = .ok (.getfield 24, 3) := by decide +kernel
theorem dX5_advance_26 : decode cX5_advance 26 = .ok (.invokevirtual 93, 3) := by decide +kernel
theorem dX5_advance_29 : decode cX5_advance 29 = .ok (.putfield 29, 3) := by decide +kernel
theorem dX5_advance_32 : decode cX5_advance 32 = .ok (.return_, 1) := by decide +kernel
theorem dX6_init_0 : decode cX6_init 0 = .ok (.aload_n 0, 1) := by decide +kernel
theorem dX6_init_1 : decode cX6_init 1 = .ok (.invokespecial 3, 3) := by decide +kernel
theorem dX6_init_4 : decode cX6_init 4 = .ok (.aload_n 0, 1) := by decide +kernel
theorem dX6_init_5 : decode cX6_init 5 = .ok (.sipush 256, 3) := by decide +kernel
theorem dX6_init_8 : decode cX6_init 8 = .ok (.newarray .int, 2) := by decide +kernel
theorem dX6_init_10 : decode cX6_init 10 = .ok (.putfield 11, 3) := by decide +kernel
theorem dX6_init_13 : decode cX6_init 13 = .ok (.aload_n 0, 1) := by decide +kernel
theorem dX6_init_14 : decode cX6_init 14 = .ok (.iconst 0, 1) := by decide +kernel
theorem dX6_init_15 : decode cX6_init 15 = .ok (.putfield 17, 3) := by decide +kernel
theorem dX6_init_18 : decode cX6_init 18 = .ok (.aload_n 0, 1) := by decide +kernel
theorem dX6_init_19 : decode cX6_init 19 = .ok (.iconst 0, 1) := by decide +kernel
theorem dX6_init_20 : decode cX6_init 20 = .ok (.putfield 21, 3) := by decide +kernel
theorem dX6_init_23 : decode cX6_init 23 = .ok (.aload_n 0, 1) := by decide +kernel
theorem dX6_init_24 : decode cX6_init 24 = .ok (.iconst 0, 1) := by decide +kernel
theorem dX6_init_25 : decode cX6_init 25 = .ok (.putfield 24, 3) := by decide +kernel
theorem dX6_init_28 : decode cX6_init 28 = .ok (.aload_n 0, 1) := by decide +kernel
theorem dX6_init_29 : decode cX6_init 29 = .ok (.iconst 0, 1) := by decide +kernel
theorem dX6_init_30 : decode cX6_init 30 = .ok (.putfield 27, 3) := by decide +kernel
theorem dX6_init_33 : decode cX6_init 33 = .ok (.aload_n 0, 1) := by decide +kernel
theorem dX6_init_34 : decode cX6_init 34 = .ok (.aload_n 1, 1) := by decide +kernel
theorem dX6_init_35 : decode cX6_init 35 = .ok (.putfield 30, 3) := by decide +kernel
theorem dX6_init_38 : decode cX6_init 38 = .ok (.aload_n 0, 1) := by decide +kernel
theorem dX6_init_39 : decode cX6_init 39 = .ok (.aload_n 2, 1) := by decide +kernel
theorem dX6_init_40 : decode cX6_init 40 = .ok (.putfield 34, 3) := by decide +kernel
theorem dX6_init_43 : decode cX6_init 43 = .ok (.return_, 1) := by decide +kernel
theorem dX6_open_0 : decode cX6_open 0 = .ok (.aload_n 0, 1) := by decide +kernel
theorem dX6_open_1 : decode cX6_open 1 = .ok (.aload_n 1, 1) := by decide +kernel
theorem dX6_open_2 : decode cX6_open 2 = .ok (.putfield 30, 3) := by decide +kernel
theorem dX6_open_5 : decode cX6_open 5 = .ok (.aload_n 0, 1) := by decide +kernel
theorem dX6_open_6 : decode cX6_open 6 = .ok (.aload_n 1, 1) := by decide +kernel
theorem dX6_open_7 : decode cX6_open 7 = .ok (.invokevirtual 38, 3) := by decide +kernel
theorem dX6_open_10 : decode cX6_open 10 = .ok (.putfield 17, 3) := by decide +kernel
theorem dX6_open_13 : decode cX6_open 13 = .ok (.iconst 0, 1) := by decide +kernel
theorem dX6_open_14 : decode cX6_open 14 = .ok (.istore_n 2, 1) := by decide +kernel
theorem dX6_open_15 : decode cX6_open 15 = .ok (.iload_n 2, 1) := by decide +kernel
theorem dX6_open_16 : decode cX6_open 16 = .ok (.aload_n 0, 1) := by decide +kernel
theorem dX6_open_17 : decode cX6_open 17 = .ok (.getfield 17, 3) := by decide +kernel
theorem dX6_open_20 : decode cX6_open 20 = .ok (.if_icmp .ge 16, 3) := by decide +kernel
theorem dX6_open_23 : decode cX6_open 23 = .ok (.aload_n 0, 1) := by decide +kernel
theorem dX6_open_24 : decode cX6_open 24 = .ok (.getfield 11, 3) := by decide +kernel
theorem dX6_open_27 : decode cX6_open 27 = .ok (.iload_n 2, 1) := by decide +kernel
theorem dX6_open_28 : decode cX6_open 28 = .ok (.iload_n 2, 1) := by decide +kernel
theorem dX6_open_29 : decode cX6_open 29 = .ok (.iastore, 1) := by decide +kernel
theorem dX6_open_30 : decode cX6_open 30 = .ok (.iinc 2 1, 3) := by decide +kernel
theorem dX6_open_33 : decode cX6_open 33 = .ok (.goto (-18), 3) := by decide +kernel
theorem dX6_open_36 : decode cX6_open 36 = .ok (.aload_n 0, 1) := by decide +kernel
theorem dX6_open_37 : decode cX6_open 37 = .ok (.iconst 0, 1) := by decide +kernel
theorem dX6_open_38 : decode cX6_open 38 = .ok (.putfield 21, 3) := by decide +kernel
theorem dX6_open_41 : decode cX6_open 41 = .ok (.aload_n 0, 1) := by decide +kernel
theorem dX6_open_42 : decode cX6_open 42 = .ok (.iconst 0, 1) := by decide +kernel
theorem dX6_open_43 : decode cX6_open 43 = .ok (.putfield 24, 3) := by decide +kernel
theorem dX6_open_46 : decode cX6_open 46 = .ok (.aload_n 0, 1) := by decide +kernel
theorem dX6_open_47 : decode cX6_open 47 = .ok (.iconst 0, 1) := by decide +kernel
theorem dX6_open_48 : decode cX6_open 48 = .ok (.putfield 27, 3) := by decide +kernel
theorem dX6_open_51 : decode cX6_open 51 = .ok (.aload_n 0, 1) := by decide +kernel
theorem dX6_open_52 : decode cX6_open 52 = .ok (.getfield 34, 3) := by decide +kernel
theorem dX6_open_55 : decode cX6_open 55 = .ok (.aload_n 1, 1) := by decide +kernel
theorem dX6_open_56 : decode cX6_open 56 = .ok (.invokevirtual 42, 3) := by decide +kernel
theorem dX6_open_59 : decode cX6_open 59 = .ok (.return_, 1) := by decide +kernel
theorem dX6_copy_0 : decode cX6_copy 0 = .ok (.aload_n 0, 1) := by decide +kernel
theorem dX6_copy_1 : decode cX6_copy 1 = .ok (.aload_n 1, 1) := by decide +kernel
theorem dX6_copy_2 : decode cX6_copy 2 = .ok (.invokevirtual 48, 3) := by decide +kernel
theorem dX6_copy_5 : decode cX6_copy 5 = .ok (.aload_n 0, 1) := by decide +kernel
theorem dX6_copy_6 : decode cX6_copy 6 = .ok (.aload_n 1, 1) := by decide +kernel
theorem dX6_copy_7 : decode cX6_copy 7 = .ok (.getfield 24, 3) := by decide +kernel
theorem dX6_copy_10 : decode cX6_copy 10 = .ok (.putfield 24, 3) := by decide +kernel
theorem dX6_copy_13 : decode cX6_copy 13 = .ok (.aload_n 0, 1) := by decide +kernel
theorem dX6_copy_14 : decode cX6_copy 14 = .ok (.aload_n 1, 1) := by decide +kernel
theorem dX6_copy_15 : decode cX6_copy 15 = .ok (.getfield 27, 3) := by decide +kernel
theorem dX6_copy_18 : decode cX6_copy 18 = .ok (.putfield 27, 3) := by decide +kernel
theorem dX6_copy_21 : decode cX6_copy 21 = .ok (.aload_n 0, 1) := by decide +kernel
theorem dX6_copy_22 : decode cX6_copy 22 = .ok (.getfield 34, 3) := by decide +kernel
theorem dX6_copy_25 : decode cX6_copy 25 = .ok (.aload_n 1, 1) := by decide +kernel
theorem dX6_copy_26 : decode cX6_copy 26 = .ok (.getfield 34, 3) := by decide +kernel
theorem dX6_copy_29 : decode cX6_copy 29 = .ok (.invokevirtual 52, 3) := by decide +kernel
theorem dX6_copy_32 : decode cX6_copy 32 = .ok (.return_, 1) := by decide +kernel
theorem dX6_follow_0 : decode cX6_follow 0 = .ok (.aload_n 0, 1) := by decide +kernel
theorem dX6_follow_1 : decode cX6_follow 1 = .ok (.aload_n 1, 1) := by decide +kernel
theorem dX6_follow_2 : decode cX6_follow 2 = .ok (.getfield 30, 3) := by decide +kernel
theorem dX6_follow_5 : decode cX6_follow 5 = .ok (.putfield 30, 3) := by decide +kernel
theorem dX6_follow_8 : decode cX6_follow 8 = .ok (.aload_n 1, 1) := by decide +kernel
theorem dX6_follow_9 : decode cX6_follow 9 = .ok (.getfield 11, 3) := by decide +kernel
theorem dX6_follow_12 : decode cX6_follow 12 = .ok (.iconst 0, 1) := by decide +kernel
theorem dX6_follow_13 : decode cX6_follow 13 = .ok (.aload_n 0, 1) := by decide +kernel
theorem dX6_follow_14 : decode cX6_follow 14 = .ok (.getfield 11, 3) := by decide +kernel
theorem dX6_follow_17 : decode cX6_follow 17 = .ok (.iconst 0, 1) := by decide +kernel
theorem dX6_follow_18 : decode cX6_follow 18 = .ok (.aload_n 1, 1) := by decide +kernel
theorem dX6_follow_19 : decode cX6_follow 19 = .ok (.getfield 17, 3) := by decide +kernel
theorem dX6_follow_22 : decode cX6_follow 22 = .ok (.invokestatic 56, 3) := by decide +kernel
theorem dX6_follow_25 : decode cX6_follow 25 = .ok (.aload_n 0, 1) := by decide +kernel
theorem dX6_follow_26 : decode cX6_follow 26 = .ok (.aload_n 1, 1) := by decide +kernel
theorem dX6_follow_27 : decode cX6_follow 27 = .ok (.getfield 17, 3) := by decide +kernel
theorem dX6_follow_30 : decode cX6_follow 30 = .ok (.putfield 17, 3) := by decide +kernel
theorem dX6_follow_33 : decode cX6_follow 33 = .ok (.aload_n 0, 1) := by decide +kernel
theorem dX6_follow_34 : decode cX6_follow 34 = .ok (.aload_n 1, 1) := by decide +kernel
theorem dX6_follow_35 : decode cX6_follow 35 = .ok (.getfield 21, 3) := by decide +kernel
theorem dX6_follow_38 : decode cX6_follow 38 = .ok (.putfield 21, 3) := by decide +kernel
theorem dX6_follow_41 : decode cX6_follow 41 = .ok (.return_, 1) := by decide +kernel
theorem dX6_contains_0 : decode cX6_contains 0 = .ok (.iconst 0, 1) := by decide +kernel
theorem dX6_contains_1 : decode cX6_contains 1 = .ok (.istore_n 2, 1) := by decide +kernel
theorem dX6_contains_2 : decode cX6_contains 2 = .ok (.iload_n 2, 1) := by decide +kernel
theorem dX6_contains_3 : decode cX6_contains 3 = .ok (.aload_n 0, 1) := by decide +kernel
theorem dX6_contains_4 : decode cX6_contains 4 = .ok (.getfield 17, 3) := by decide +kernel
theorem dX6_contains_7 : decode cX6_contains 7 = .ok (.if_icmp .ge 21, 3) := by decide +kernel
theorem dX6_contains_10 : decode cX6_contains 10 = .ok (.aload_n 0, 1) := by decide +kernel
theorem dX6_contains_11 : decode cX6_contains 11 = .ok (.getfield 11, 3) := by decide +kernel
theorem dX6_contains_14 : decode cX6_contains 14 = .ok (.iload_n 2, 1) := by decide +kernel
theorem dX6_contains_15 : decode cX6_contains 15 = .ok (.iaload, 1) := by decide +kernel
theorem dX6_contains_16 : decode cX6_contains 16 = .ok (.iload_n 1, 1) := by decide +kernel
theorem dX6_contains_17 : decode cX6_contains 17 = .ok (.if_icmp .ne 5, 3) := by decide +kernel
theorem dX6_contains_20 : decode cX6_contains 20 = .ok (.iconst 1, 1) := by decide +kernel
theorem dX6_contains_21 : decode cX6_contains 21 = .ok (.ireturn, 1) := by decide +kernel
theorem dX6_contains_22 : decode cX6_contains 22 = .ok (.iinc 2 1, 3) := by decide +kernel
theorem dX6_contains_25 : decode cX6_contains 25 = .ok (.goto (-23), 3) := by decide +kernel
theorem dX6_contains_28 : decode cX6_contains 28 = .ok (.iconst 0, 1) := by decide +kernel
theorem dX6_contains_29 : decode cX6_contains 29 = .ok (.ireturn, 1) := by decide +kernel
theorem dX6_countSo_0 : decode cX6_countSo 0 = .ok (.iconst 0, 1) := by decide +kernel
theorem dX6_countSo_1 : decode cX6_countSo 1 = .ok (.istore_n 2, 1) := by decide +kernel
theorem dX6_countSo_2 : decode cX6_countSo 2 = .ok (.iconst 0, 1) := by decide +kernel
theorem dX6_countSo_3 : decode cX6_countSo 3 = .ok (.istore_n 3, 1) := by decide +kernel
theorem dX6_countSo_4 : decode cX6_countSo 4 = .ok (.iload_n 3, 1) := by decide +kernel
theorem dX6_countSo_5 : decode cX6_countSo 5 = .ok (.aload_n 0, 1) := by decide +kernel
theorem dX6_countSo_6 : decode cX6_countSo 6 = .ok (.getfield 17, 3) := by decide +kernel
theorem dX6_countSo_9 : decode cX6_countSo 9 = .ok (.if_icmp .ge 28, 3) := by decide +kernel
theorem dX6_countSo_12 : decode cX6_countSo 12 = .ok (.iload_n 2, 1) := by decide +kernel
theorem dX6_countSo_13 : decode cX6_countSo 13 = .ok (.aload_n 1, 1) := by decide +kernel
theorem dX6_countSo_14 : decode cX6_countSo 14 = .ok (.aload_n 0, 1) := by decide +kernel
theorem dX6_countSo_15 : decode cX6_countSo 15 = .ok (.getfield 11, 3) := by decide +kernel
theorem dX6_countSo_18 : decode cX6_countSo 18 = .ok (.iload_n 3, 1) := by decide +kernel
theorem dX6_countSo_19 : decode cX6_countSo 19 = .ok (.iaload, 1) := by decide +kernel
theorem dX6_countSo_20 : decode cX6_countSo 20 = .ok (.iaload, 1) := by decide +kernel
theorem dX6_countSo_21 : decode cX6_countSo 21 = .ok (.ifCond .eq 7, 3) := by decide +kernel
theorem dX6_countSo_24 : decode cX6_countSo 24 = .ok (.iconst 1, 1) := by decide +kernel
theorem dX6_countSo_25 : decode cX6_countSo 25 = .ok (.goto 4, 3) := by decide +kernel
theorem dX6_countSo_28 : decode cX6_countSo 28 = .ok (.iconst 0, 1) := by decide +kernel
theorem dX6_countSo_29 : decode cX6_countSo 29 = .ok (.iadd, 1) := by decide +kernel
theorem dX6_countSo_30 : decode cX6_countSo 30 = .ok (.istore_n 2, 1) := by decide +kernel
theorem dX6_countSo_31 : decode cX6_countSo 31 = .ok (.iinc 3 1, 3) := by decide +kernel
theorem dX6_countSo_34 : decode cX6_countSo 34 = .ok (.goto (-30), 3) := by decide +kernel
theorem dX6_countSo_37 : decode cX6_countSo 37 = .ok (.iload_n 2, 1) := by decide +kernel
theorem dX6_countSo_38 : decode cX6_countSo 38 = .ok (.ireturn, 1) := by decide +kernel
theorem dX6_hear_0 : decode cX6_hear 0 = .ok (.aload_n 1, 1) := by decide +kernel
theorem dX6_hear_1 : decode cX6_hear 1 = .ok (.aload_n 0, 1) := by decide +kernel
theorem dX6_hear_2 : decode cX6_hear 2 = .ok (.getfield 30, 3) := by decide +kernel
theorem dX6_hear_5 : decode cX6_hear 5 = .ok (.getfield 62, 3) := by decide +kernel
theorem dX6_hear_8 : decode cX6_hear 8 = .ok (.iaload, 1) := by decide +kernel
theorem dX6_hear_9 : decode cX6_hear 9 = .ok (.ifCond .eq 11, 3) := by decide +kernel
theorem dX6_hear_12 : decode cX6_hear 12 = .ok (.aload_n 0, 1) := by decide +kernel
theorem dX6_hear_13 : decode cX6_hear 13 = .ok (.aload_n 1, 1) := by decide +kernel
theorem dX6_hear_14 : decode cX6_hear 14 = .ok (.invokevirtual 65, 3) := by decide +kernel
theorem dX6_hear_17 : decode cX6_hear 17 = .ok (.goto 4, 3) := by decide +kernel
theorem dX6_hear_20 : decode cX6_hear 20 = .ok (.iconst (-1), 1) := by decide +kernel
theorem dX6_hear_21 : decode cX6_hear 21 = .ok (.ireturn, 1) := by decide +kernel
theorem dX6_keepSo_0 : decode cX6_keepSo 0 = .ok (.iconst 0, 1) := by decide +kernel
theorem dX6_keepSo_1 : decode cX6_keepSo 1 = .ok (.istore_n 2, 1) := by decide +kernel
theorem dX6_keepSo_2 : decode cX6_keepSo 2 = .ok (.iconst 0, 1) := by decide +kernel
theorem dX6_keepSo_3 : decode cX6_keepSo 3 = .ok (.istore_n 3, 1) := by decide +kernel
theorem dX6_keepSo_4 : decode cX6_keepSo 4 = .ok (.iload_n 3, 1) := by decide +kernel
theorem dX6_keepSo_5 : decode cX6_keepSo 5 = .ok (.aload_n 0, 1) := by decide +kernel
theorem dX6_keepSo_6 : decode cX6_keepSo 6 = .ok (.getfield 17, 3) := by decide +kernel
theorem dX6_keepSo_9 : decode cX6_keepSo 9 = .ok (.if_icmp .ge 35, 3) := by decide +kernel
theorem dX6_keepSo_12 : decode cX6_keepSo 12 = .ok (.aload_n 1, 1) := by decide +kernel
theorem dX6_keepSo_13 : decode cX6_keepSo 13 = .ok (.aload_n 0, 1) := by decide +kernel
theorem dX6_keepSo_14 : decode cX6_keepSo 14 = .ok (.getfield 11, 3) := by decide +kernel
theorem dX6_keepSo_17 : decode cX6_keepSo 17 = .ok (.iload_n 3, 1) := by decide +kernel
theorem dX6_keepSo_18 : decode cX6_keepSo 18 = .ok (.iaload, 1) := by decide +kernel
theorem dX6_keepSo_19 : decode cX6_keepSo 19 = .ok (.iaload, 1) := by decide +kernel
theorem dX6_keepSo_20 : decode cX6_keepSo 20 = .ok (.ifCond .eq 18, 3) := by decide +kernel
theorem dX6_keepSo_23 : decode cX6_keepSo 23 = .ok (.aload_n 0, 1) := by decide +kernel
theorem dX6_keepSo_24 : decode cX6_keepSo 24 = .ok (.getfield 11, 3) := by decide +kernel
theorem dX6_keepSo_27 : decode cX6_keepSo 27 = .ok (.iload_n 2, 1) := by decide +kernel
theorem dX6_keepSo_28 : decode cX6_keepSo 28 = .ok (.aload_n 0, 1) := by decide +kernel
theorem dX6_keepSo_29 : decode cX6_keepSo 29 = .ok (.getfield 11, 3) := by decide +kernel
theorem dX6_keepSo_32 : decode cX6_keepSo 32 = .ok (.iload_n 3, 1) := by decide +kernel
theorem dX6_keepSo_33 : decode cX6_keepSo 33 = .ok (.iaload, 1) := by decide +kernel
theorem dX6_keepSo_34 : decode cX6_keepSo 34 = .ok (.iastore, 1) := by decide +kernel
theorem dX6_keepSo_35 : decode cX6_keepSo 35 = .ok (.iinc 2 1, 3) := by decide +kernel
theorem dX6_keepSo_38 : decode cX6_keepSo 38 = .ok (.iinc 3 1, 3) := by decide +kernel
theorem dX6_keepSo_41 : decode cX6_keepSo 41 = .ok (.goto (-37), 3) := by decide +kernel
theorem dX6_keepSo_44 : decode cX6_keepSo 44 = .ok (.aload_n 0, 1) := by decide +kernel
theorem dX6_keepSo_45 : decode cX6_keepSo 45 = .ok (.getfield 17, 3) := by decide +kernel
theorem dX6_keepSo_48 : decode cX6_keepSo 48 = .ok (.iload_n 2, 1) := by decide +kernel
theorem dX6_keepSo_49 : decode cX6_keepSo 49 = .ok (.isub, 1) := by decide +kernel
theorem dX6_keepSo_50 : decode cX6_keepSo 50 = .ok (.istore_n 3, 1) := by decide +kernel
theorem dX6_keepSo_51 : decode cX6_keepSo 51 = .ok (.aload_n 0, 1) := by decide +kernel
theorem dX6_keepSo_52 : decode cX6_keepSo 52 = .ok (.iload_n 2, 1) := by decide +kernel
theorem dX6_keepSo_53 : decode cX6_keepSo 53 = .ok (.putfield 17, 3) := by decide +kernel
theorem dX6_keepSo_56 : decode cX6_keepSo 56 = .ok (.iload_n 3, 1) := by decide +kernel
theorem dX6_keepSo_57 : decode cX6_keepSo 57 = .ok (.ireturn, 1) := by decide +kernel
theorem dX6_keepEqual_0 : decode cX6_keepEqual 0 = .ok (.iconst 0, 1) := by decide +kernel
theorem dX6_keepEqual_1 : decode cX6_keepEqual 1 = .ok (.istore_n 3, 1) := by decide +kernel
theorem dX6_keepEqual_2 : decode cX6_keepEqual 2 = .ok (.iconst 0, 1) := by decide +kernel
theorem dX6_keepEqual_3 : decode cX6_keepEqual 3 = .ok (.istore 4, 2) := by decide +kernel
theorem dX6_keepEqual_5 : decode cX6_keepEqual 5 = .ok (.iload 4, 2) := by decide +kernel
theorem dX6_keepEqual_7 : decode cX6_keepEqual 7 = .ok (.aload_n 0, 1) := by decide +kernel
theorem dX6_keepEqual_8 : decode cX6_keepEqual 8 = .ok (.getfield 17, 3) := by decide +kernel
theorem dX6_keepEqual_11 : decode cX6_keepEqual 11 = .ok (.if_icmp .ge 38, 3) := by decide +kernel
theorem dX6_keepEqual_14 : decode cX6_keepEqual 14 = .ok (.aload_n 1, 1) := by decide +kernel
theorem dX6_keepEqual_15 : decode cX6_keepEqual 15 = .ok (.aload_n 0, 1) := by decide +kernel
theorem dX6_keepEqual_16 : decode cX6_keepEqual 16 = .ok (.getfield 11, 3) := by decide +kernel
theorem dX6_keepEqual_19 : decode cX6_keepEqual 19 = .ok (.iload 4, 2) := by decide +kernel
theorem dX6_keepEqual_21 : decode cX6_keepEqual 21 = .ok (.iaload, 1) := by decide +kernel
theorem dX6_keepEqual_22 : decode cX6_keepEqual 22 = .ok (.iaload, 1) := by decide +kernel
theorem dX6_keepEqual_23 : decode cX6_keepEqual 23 = .ok (.iload_n 2, 1) := by decide +kernel
theorem dX6_keepEqual_24 : decode cX6_keepEqual 24 = .ok (.if_icmp .ne 19, 3) := by decide +kernel
theorem dX6_keepEqual_27 : decode cX6_keepEqual 27 = .ok (.aload_n 0, 1) := by decide +kernel
theorem dX6_keepEqual_28 : decode cX6_keepEqual 28 = .ok (.getfield 11, 3) := by decide +kernel
theorem dX6_keepEqual_31 : decode cX6_keepEqual 31 = .ok (.iload_n 3, 1) := by decide +kernel
theorem dX6_keepEqual_32 : decode cX6_keepEqual 32 = .ok (.aload_n 0, 1) := by decide +kernel
theorem dX6_keepEqual_33 : decode cX6_keepEqual 33 = .ok (.getfield 11, 3) := by decide +kernel
theorem dX6_keepEqual_36 : decode cX6_keepEqual 36 = .ok (.iload 4, 2) := by decide +kernel
theorem dX6_keepEqual_38 : decode cX6_keepEqual 38 = .ok (.iaload, 1) := by decide +kernel
theorem dX6_keepEqual_39 : decode cX6_keepEqual 39 = .ok (.iastore, 1) := by decide +kernel
theorem dX6_keepEqual_40 : decode cX6_keepEqual 40 = .ok (.iinc 3 1, 3) := by decide +kernel
theorem dX6_keepEqual_43 : decode cX6_keepEqual 43 = .ok (.iinc 4 1, 3) := by decide +kernel
theorem dX6_keepEqual_46 : decode cX6_keepEqual 46 = .ok (.goto (-41), 3) := by decide +kernel
theorem dX6_keepEqual_49 : decode cX6_keepEqual 49 = .ok (.aload_n 0, 1) := by decide +kernel
theorem dX6_keepEqual_50 : decode cX6_keepEqual 50 = .ok (.iload_n 3, 1) := by decide +kernel
theorem dX6_keepEqual_51 : decode cX6_keepEqual 51 = .ok (.putfield 17, 3) := by decide +kernel
theorem dX6_keepEqual_54 : decode cX6_keepEqual 54 = .ok (.return_, 1) := by decide +kernel
theorem dX6_note_0 : decode cX6_note 0 = .ok (.iconst 0, 1) := by decide +kernel
theorem dX6_note_1 : decode cX6_note 1 = .ok (.istore_n 3, 1) := by decide +kernel
theorem dX6_note_2 : decode cX6_note 2 = .ok (.iload_n 3, 1) := by decide +kernel
theorem dX6_note_3 : decode cX6_note 3 = .ok (.aload_n 0, 1) := by decide +kernel
theorem dX6_note_4 : decode cX6_note 4 = .ok (.getfield 17, 3) := by decide +kernel
theorem dX6_note_7 : decode cX6_note 7 = .ok (.if_icmp .ge 23, 3) := by decide +kernel
theorem dX6_note_10 : decode cX6_note 10 = .ok (.aload_n 1, 1) := by decide +kernel
theorem dX6_note_11 : decode cX6_note 11 = .ok (.aload_n 0, 1) := by decide +kernel
theorem dX6_note_12 : decode cX6_note 12 = .ok (.getfield 11, 3) := by decide +kernel
theorem dX6_note_15 : decode cX6_note 15 = .ok (.iload_n 3, 1) := by decide +kernel
theorem dX6_note_16 : decode cX6_note 16 = .ok (.iaload, 1) := by decide +kernel
theorem dX6_note_17 : decode cX6_note 17 = .ok (.dup2, 1) := by decide +kernel
theorem dX6_note_18 : decode cX6_note 18 = .ok (.laload, 1) := by decide +kernel
theorem dX6_note_19 : decode cX6_note 19 = .ok (.lconst 1, 1) := by decide +kernel
theorem dX6_note_20 : decode cX6_note 20 = .ok (.iload_n 2, 1) := by decide +kernel
theorem dX6_note_21 : decode cX6_note 21 = .ok (.lshl, 1) := by decide +kernel
theorem dX6_note_22 : decode cX6_note 22 = .ok (.lor, 1) := by decide +kernel
theorem dX6_note_23 : decode cX6_note 23 = .ok (.lastore, 1) := by decide +kernel
theorem dX6_note_24 : decode cX6_note 24 = .ok (.iinc 3 1, 3) := by decide +kernel
theorem dX6_note_27 : decode cX6_note 27 = .ok (.goto (-25), 3) := by decide +kernel
theorem dX6_note_30 : decode cX6_note 30 = .ok (.return_, 1) := by decide +kernel
theorem dX6_keepNoted_0 : decode cX6_keepNoted 0 = .ok (.iconst 0, 1) := by decide +kernel
theorem dX6_keepNoted_1 : decode cX6_keepNoted 1 = .ok (.istore_n 3, 1) := by decide +kernel
theorem dX6_keepNoted_2 : decode cX6_keepNoted 2 = .ok (.iconst 0, 1) := by decide +kernel
theorem dX6_keepNoted_3 : decode cX6_keepNoted 3 = .ok (.istore 4, 2) := by decide +kernel
theorem dX6_keepNoted_5 : decode cX6_keepNoted 5 = .ok (.iload 4, 2) := by decide +kernel
theorem dX6_keepNoted_7 : decode cX6_keepNoted 7 = .ok (.aload_n 0, 1) := by decide +kernel
theorem dX6_keepNoted_8 : decode cX6_keepNoted 8 = .ok (.getfield 17, 3) := by decide +kernel
theorem dX6_keepNoted_11 : decode cX6_keepNoted 11 = .ok (.if_icmp .ge 43, 3) := by decide +kernel
theorem dX6_keepNoted_14 : decode cX6_keepNoted 14 = .ok (.aload_n 1, 1) := by decide +kernel
theorem dX6_keepNoted_15 : decode cX6_keepNoted 15 = .ok (.aload_n 0, 1) := by decide +kernel
theorem dX6_keepNoted_16 : decode cX6_keepNoted 16 = .ok (.getfield 11, 3) := by decide +kernel
theorem dX6_keepNoted_19 : decode cX6_keepNoted 19 = .ok (.iload 4, 2) := by decide +kernel
theorem dX6_keepNoted_21 : decode cX6_keepNoted 21 = .ok (.iaload, 1) := by decide +kernel
theorem dX6_keepNoted_22 : decode cX6_keepNoted 22 = .ok (.laload, 1) := by decide +kernel
theorem dX6_keepNoted_23 : decode cX6_keepNoted 23 = .ok (.iload_n 2, 1) := by decide +kernel
theorem dX6_keepNoted_24 : decode cX6_keepNoted 24 = .ok (.lshr, 1) := by decide +kernel
theorem dX6_keepNoted_25 : decode cX6_keepNoted 25 = .ok (.lconst 1, 1) := by decide +kernel
theorem dX6_keepNoted_26 : decode cX6_keepNoted 26 = .ok (.land, 1) := by decide +kernel
theorem dX6_keepNoted_27 : decode cX6_keepNoted 27 = .ok (.lconst 1, 1) := by decide +kernel
theorem dX6_keepNoted_28 : decode cX6_keepNoted 28 = .ok (.lcmp, 1) := by decide +kernel
theorem dX6_keepNoted_29 : decode cX6_keepNoted 29 = .ok (.ifCond .ne 19, 3) := by decide +kernel
theorem dX6_keepNoted_32 : decode cX6_keepNoted 32 = .ok (.aload_n 0, 1) := by decide +kernel
theorem dX6_keepNoted_33 : decode cX6_keepNoted 33 = .ok (.getfield 11, 3) := by decide +kernel
theorem dX6_keepNoted_36 : decode cX6_keepNoted 36 = .ok (.iload_n 3, 1) := by decide +kernel
theorem dX6_keepNoted_37 : decode cX6_keepNoted 37 = .ok (.aload_n 0, 1) := by decide +kernel
theorem dX6_keepNoted_38 : decode cX6_keepNoted 38 = .ok (.getfield 11, 3) := by decide +kernel
theorem dX6_keepNoted_41 : decode cX6_keepNoted 41 = .ok (.iload 4, 2) := by decide +kernel
theorem dX6_keepNoted_43 : decode cX6_keepNoted 43 = .ok (.iaload, 1) := by decide +kernel
theorem dX6_keepNoted_44 : decode cX6_keepNoted 44 = .ok (.iastore, 1) := by decide +kernel
theorem dX6_keepNoted_45 : decode cX6_keepNoted 45 = .ok (.iinc 3 1, 3) := by decide +kernel
theorem dX6_keepNoted_48 : decode cX6_keepNoted 48 = .ok (.iinc 4 1, 3) := by decide +kernel
theorem dX6_keepNoted_51 : decode cX6_keepNoted 51 = .ok (.goto (-46), 3) := by decide +kernel
theorem dX6_keepNoted_54 : decode cX6_keepNoted 54 = .ok (.aload_n 0, 1) := by decide +kernel
theorem dX6_keepNoted_55 : decode cX6_keepNoted 55 = .ok (.iload_n 3, 1) := by decide +kernel
theorem dX6_keepNoted_56 : decode cX6_keepNoted 56 = .ok (.putfield 17, 3) := by decide +kernel
theorem dX6_keepNoted_59 : decode cX6_keepNoted 59 = .ok (.return_, 1) := by decide +kernel
theorem dX7_init_0 : decode cX7_init 0 = .ok (.aload_n 0, 1) := by decide +kernel
theorem dX7_init_1 : decode cX7_init 1 = .ok (.invokespecial 3, 3) := by decide +kernel
theorem dX7_init_4 : decode cX7_init 4 = .ok (.aload_n 0, 1) := by decide +kernel
theorem dX7_init_5 : decode cX7_init 5 = .ok (.bipush 20, 2) := by decide +kernel
theorem dX7_init_7 : decode cX7_init 7 = .ok (.newarray .int, 2) := by decide +kernel
theorem dX7_init_9 : decode cX7_init 9 = .ok (.putfield 11, 3) := by decide +kernel
theorem dX7_init_12 : decode cX7_init 12 = .ok (.aload_n 0, 1) := by decide +kernel
theorem dX7_init_13 : decode cX7_init 13 = .ok (.bipush 20, 2) := by decide +kernel
theorem dX7_init_15 : decode cX7_init 15 = .ok (.newarray .int, 2) := by decide +kernel
theorem dX7_init_17 : decode cX7_init 17 = .ok (.putfield 15, 3) := by decide +kernel
theorem dX7_init_20 : decode cX7_init 20 = .ok (.aload_n 0, 1) := by decide +kernel
theorem dX7_init_21 : decode cX7_init 21 = .ok (.bipush 20, 2) := by decide +kernel
theorem dX7_init_23 : decode cX7_init 23 = .ok (.newarray .boolean, 2) := by decide +kernel
theorem dX7_init_25 : decode cX7_init 25 = .ok (.putfield 18, 3) := by decide +kernel
theorem dX7_init_28 : decode cX7_init 28 = .ok (.aload_n 0, 1) := by decide +kernel
theorem dX7_init_29 : decode cX7_init 29 = .ok (.bipush 20, 2) := by decide +kernel
theorem dX7_init_31 : decode cX7_init 31 = .ok (.newarray .int, 2) := by decide +kernel
theorem dX7_init_33 : decode cX7_init 33 = .ok (.putfield 22, 3) := by decide +kernel
theorem dX7_init_36 : decode cX7_init 36 = .ok (.aload_n 0, 1) := by decide +kernel
theorem dX7_init_37 : decode cX7_init 37 = .ok (.bipush 20, 2) := by decide +kernel
theorem dX7_init_39 : decode cX7_init 39 = .ok (.newarray .int, 2) := by decide +kernel
theorem dX7_init_41 : decode cX7_init 41 = .ok (.putfield 25, 3) := by decide +kernel
theorem dX7_init_44 : decode cX7_init 44 = .ok (.aload_n 0, 1) := by decide +kernel
theorem dX7_init_45 : decode cX7_init 45 = .ok (.iconst 0, 1) := by decide +kernel
theorem dX7_init_46 : decode cX7_init 46 = .ok (.putfield 28, 3) := by decide +kernel
theorem dX7_init_49 : decode cX7_init 49 = .ok (.aload_n 0, 1) := by decide +kernel
theorem dX7_init_50 : decode cX7_init 50 = .ok (.iconst 0, 1) := by decide +kernel
theorem dX7_init_51 : decode cX7_init 51 = .ok (.putfield 32, 3) := by decide +kernel
theorem dX7_init_54 : decode cX7_init 54 = .ok (.return_, 1) := by decide +kernel
theorem dX7_tell_0 : decode cX7_tell 0 = .ok (.iload_n 2, 1) := by decide +kernel
theorem dX7_tell_1 : decode cX7_tell 1 = .ok (.iconst 1, 1) := by decide +kernel
theorem dX7_tell_2 : decode cX7_tell 2 = .ok (.if_icmp .lt 18, 3) := by decide +kernel
theorem dX7_tell_5 : decode cX7_tell 5 = .ok (.iload_n 2, 1) := by decide +kernel
theorem dX7_tell_6 : decode cX7_tell 6 = .ok (.bipush 12, 2) := by decide +kernel
theorem dX7_tell_8 : decode cX7_tell 8 = .ok (.if_icmp .gt 12, 3) := by decide +kernel
theorem dX7_tell_11 : decode cX7_tell 11 = .ok (.aload_n 0, 1) := by decide +kernel
theorem dX7_tell_12 : decode cX7_tell 12 = .ok (.getfield 28, 3) := by decide +kernel
theorem dX7_tell_15 : decode cX7_tell 15 = .ok (.bipush 20, 2) := by decide +kernel
theorem dX7_tell_17 : decode cX7_tell 17 = .ok (.if_icmp .lt 5, 3) := by decide +kernel
theorem dX7_tell_20 : decode cX7_tell 20 = .ok (.iconst (-1), 1) := by decide +kernel
theorem dX7_tell_21 : decode cX7_tell 21 = .ok (.ireturn, 1) := by decide +kernel
theorem dX7_tell_22 : decode cX7_tell 22 = .ok (.aload_n 0, 1) := by decide +kernel
theorem dX7_tell_23 : decode cX7_tell 23 = .ok (.getfield 11, 3) := by decide +kernel
theorem dX7_tell_26 : decode cX7_tell 26 = .ok (.aload_n 0, 1) := by decide +kernel
theorem dX7_tell_27 : decode cX7_tell 27 = .ok (.getfield 28, 3) := by decide +kernel
theorem dX7_tell_30 : decode cX7_tell 30 = .ok (.iload_n 1, 1) := by decide +kernel
theorem dX7_tell_31 : decode cX7_tell 31 = .ok (.iastore, 1) := by decide +kernel
theorem dX7_tell_32 : decode cX7_tell 32 = .ok (.aload_n 0, 1) := by decide +kernel
theorem dX7_tell_33 : decode cX7_tell 33 = .ok (.getfield 15, 3) := by decide +kernel
theorem dX7_tell_36 : decode cX7_tell 36 = .ok (.aload_n 0, 1) := by decide +kernel
theorem dX7_tell_37 : decode cX7_tell 37 = .ok (.getfield 28, 3) := by decide +kernel
theorem dX7_tell_40 : decode cX7_tell 40 = .ok (.iload_n 2, 1) := by decide +kernel
theorem dX7_tell_41 : decode cX7_tell 41 = .ok (.iastore, 1) := by decide +kernel
theorem dX7_tell_42 : decode cX7_tell 42 = .ok (.aload_n 0, 1) := by decide +kernel
theorem dX7_tell_43 : decode cX7_tell 43 = .ok (.getfield 18, 3) := by decide +kernel
theorem dX7_tell_46 : decode cX7_tell 46 = .ok (.aload_n 0, 1) := by decide +kernel
theorem dX7_tell_47 : decode cX7_tell 47 = .ok (.getfield 28, 3) := by decide +kernel
theorem dX7_tell_50 : decode cX7_tell 50 = .ok (.iload_n 3, 1) := by decide +kernel
theorem dX7_tell_51 : decode cX7_tell 51 = .ok (.bastore, 1) := by decide +kernel
theorem dX7_tell_52 : decode cX7_tell 52 = .ok (.aload_n 0, 1) := by decide +kernel
theorem dX7_tell_53 : decode cX7_tell 53 = .ok (.getfield 22, 3) := by decide +kernel
theorem dX7_tell_56 : decode cX7_tell 56 = .ok (.aload_n 0, 1) := by decide +kernel
theorem dX7_tell_57 : decode cX7_tell 57 = .ok (.getfield 28, 3) := by decide +kernel
theorem dX7_tell_60 : decode cX7_tell 60 = .ok (.aload_n 0, 1) := by decide +kernel
theorem dX7_tell_61 : decode cX7_tell 61 = .ok (.getfield 32, 3) := by decide +kernel
theorem dX7_tell_64 : decode cX7_tell 64 = .ok (.iastore, 1) := by decide +kernel
theorem dX7_tell_65 : decode cX7_tell 65 = .ok (.aload_n 0, 1) := by decide +kernel
theorem dX7_tell_66 : decode cX7_tell 66 = .ok (.getfield 25, 3) := by decide +kernel
theorem dX7_tell_69 : decode cX7_tell 69 = .ok (.aload_n 0, 1) := by decide +kernel
theorem dX7_tell_70 : decode cX7_tell 70 = .ok (.getfield 28, 3) := by decide +kernel
theorem dX7_tell_73 : decode cX7_tell 73 = .ok (.iconst (-1), 1) := by decide +kernel
theorem dX7_tell_74 : decode cX7_tell 74 = .ok (.iastore, 1) := by decide +kernel
theorem dX7_tell_75 : decode cX7_tell 75 = .ok (.aload_n 0, 1) := by decide +kernel
theorem dX7_tell_76 : decode cX7_tell 76 = .ok (.dup, 1) := by decide +kernel
theorem dX7_tell_77 : decode cX7_tell 77 = .ok (.getfield 28, 3) := by decide +kernel
theorem dX7_tell_80 : decode cX7_tell 80 = .ok (.iconst 1, 1) := by decide +kernel
theorem dX7_tell_81 : decode cX7_tell 81 = .ok (.iadd, 1) := by decide +kernel
theorem dX7_tell_82 : decode cX7_tell 82 = .ok (.putfield 28, 3) := by decide +kernel
theorem dX7_tell_85 : decode cX7_tell 85 = .ok (.aload_n 0, 1) := by decide +kernel
theorem dX7_tell_86 : decode cX7_tell 86 = .ok (.getfield 28, 3) := by decide +kernel
theorem dX7_tell_89 : decode cX7_tell 89 = .ok (.iconst 1, 1) := by decide +kernel
theorem dX7_tell_90 : decode cX7_tell 90 = .ok (.isub, 1) := by decide +kernel
theorem dX7_tell_91 : decode cX7_tell 91 = .ok (.ireturn, 1) := by decide +kernel
theorem dX7_takeBack_0 : decode cX7_takeBack 0 = .ok (.iload_n 1, 1) := by decide +kernel
theorem dX7_takeBack_1 : decode cX7_takeBack 1 = .ok (.ifCond .lt 21, 3) := by decide +kernel
theorem dX7_takeBack_4 : decode cX7_takeBack 4 = .ok (.iload_n 1, 1) := by decide +kernel
theorem dX7_takeBack_5 : decode cX7_takeBack 5 = .ok (.aload_n 0, 1) := by decide +kernel
theorem dX7_takeBack_6 : decode cX7_takeBack 6 = .ok (.getfield 28, 3) := by decide +kernel
theorem dX7_takeBack_9 : decode cX7_takeBack 9 = .ok (.if_icmp .ge 13, 3) := by decide +kernel
theorem dX7_takeBack_12 : decode cX7_takeBack 12 = .ok (.aload_n 0, 1) := by decide +kernel
theorem dX7_takeBack_13 : decode cX7_takeBack 13 = .ok (.getfield 25, 3) := by decide +kernel
theorem dX7_takeBack_16 : decode cX7_takeBack 16 = .ok (.iload_n 1, 1) := by decide +kernel
theorem dX7_takeBack_17 : decode cX7_takeBack 17 = .ok (.iaload, 1) := by decide +kernel
theorem dX7_takeBack_18 : decode cX7_takeBack 18 = .ok (.iconst (-1), 1) := by decide +kernel
theorem dX7_takeBack_19 : decode cX7_takeBack 19 = .ok (.if_icmp .eq 5, 3) := by decide +kernel
theorem dX7_takeBack_22 : decode cX7_takeBack 22 = .ok (.iconst 0, 1) := by decide +kernel
theorem dX7_takeBack_23 : decode cX7_takeBack 23 = .ok (.ireturn, 1) := by decide +kernel
theorem dX7_takeBack_24 : decode cX7_takeBack 24 = .ok (.aload_n 0, 1) := by decide +kernel
theorem dX7_takeBack_25 : decode cX7_takeBack 25 = .ok (.getfield 25, 3) := by decide +kernel
theorem dX7_takeBack_28 : decode cX7_takeBack 28 = .ok (.iload_n 1, 1) := by decide +kernel
theorem dX7_takeBack_29 : decode cX7_takeBack 29 = .ok (.aload_n 0, 1) := by decide +kernel
theorem dX7_takeBack_30 : decode cX7_takeBack 30 = .ok (.getfield 32, 3) := by decide +kernel
theorem dX7_takeBack_33 : decode cX7_takeBack 33 = .ok (.iastore, 1) := by decide +kernel
theorem dX7_takeBack_34 : decode cX7_takeBack 34 = .ok (.iconst 1, 1) := by decide +kernel
theorem dX7_takeBack_35 : decode cX7_takeBack 35 = .ok (.ireturn, 1) := by decide +kernel
theorem dX7_goOn_0 : decode cX7_goOn 0 = .ok (.iload_n 1, 1) := by decide +kernel
theorem dX7_goOn_1 : decode cX7_goOn 1 = .ok (.ifCond .lt 21, 3) := by decide +kernel
theorem dX7_goOn_4 : decode cX7_goOn 4 = .ok (.iload_n 1, 1) := by decide +kernel
theorem dX7_goOn_5 : decode cX7_goOn 5 = .ok (.sipush 1000, 3) := by decide +kernel
theorem dX7_goOn_8 : decode cX7_goOn 8 = .ok (.if_icmp .gt 14, 3) := by decide +kernel
theorem dX7_goOn_11 : decode cX7_goOn 11 = .ok (.aload_n 0, 1) := by decide +kernel
theorem dX7_goOn_12 : decode cX7_goOn 12 = .ok (.getfield 32, 3) := by decide +kernel
theorem dX7_goOn_15 : decode cX7_goOn 15 = .ok (.iload_n 1, 1) := by decide +kernel
theorem dX7_goOn_16 : decode cX7_goOn 16 = .ok (.iadd, 1) := by decide +kernel
theorem dX7_goOn_17 : decode cX7_goOn 17 = .ok (.ldc 35, 2) := by decide +kernel
theorem dX7_goOn_19 : decode cX7_goOn 19 = .ok (.if_icmp .le 5, 3) := by decide +kernel
theorem dX7_goOn_22 : decode cX7_goOn 22 = .ok (.iconst (-1), 1) := by decide +kernel
theorem dX7_goOn_23 : decode cX7_goOn 23 = .ok (.ireturn, 1) := by decide +kernel
theorem dX7_goOn_24 : decode cX7_goOn 24 = .ok (.aload_n 0, 1) := by decide +kernel
theorem dX7_goOn_25 : decode cX7_goOn 25 = .ok (.dup, 1) := by decide +kernel
theorem dX7_goOn_26 : decode cX7_goOn 26 = .ok (.getfield 32, 3) := by decide +kernel
theorem dX7_goOn_29 : decode cX7_goOn 29 = .ok (.iload_n 1, 1) := by decide +kernel
theorem dX7_goOn_30 : decode cX7_goOn 30 = .ok (.iadd, 1) := by decide +kernel
theorem dX7_goOn_31 : decode cX7_goOn 31 = .ok (.putfield 32, 3) := by decide +kernel
theorem dX7_goOn_34 : decode cX7_goOn 34 = .ok (.aload_n 0, 1) := by decide +kernel
theorem dX7_goOn_35 : decode cX7_goOn 35 = .ok (.getfield 32, 3) := by decide +kernel
theorem dX7_goOn_38 : decode cX7_goOn 38 = .ok (.ireturn, 1) := by decide +kernel
theorem dX7_counts_0 : decode cX7_counts 0 = .ok (.aload_n 0, 1) := by decide +kernel
theorem dX7_counts_1 : decode cX7_counts 1 = .ok (.getfield 22, 3) := by decide +kernel
theorem dX7_counts_4 : decode cX7_counts 4 = .ok (.iload_n 1, 1) := by decide +kernel
theorem dX7_counts_5 : decode cX7_counts 5 = .ok (.iaload, 1) := by decide +kernel
theorem dX7_counts_6 : decode cX7_counts 6 = .ok (.iload_n 2, 1) := by decide +kernel
theorem dX7_counts_7 : decode cX7_counts 7 = .ok (.if_icmp .gt 27, 3) := by decide +kernel
theorem dX7_counts_10 : decode cX7_counts 10 = .ok (.aload_n 0, 1) := by decide +kernel
theorem dX7_counts_11 : decode cX7_counts 11 = .ok (.getfield 25, 3) := by decide +kernel
theorem dX7_counts_14 : decode cX7_counts 14 = .ok (.iload_n 1, 1) := by decide +kernel
theorem dX7_counts_15 : decode cX7_counts 15 = .ok (.iaload, 1) := by decide +kernel
theorem dX7_counts_16 : decode cX7_counts 16 = .ok (.iconst (-1), 1) := by decide +kernel
theorem dX7_counts_17 : decode cX7_counts 17 = .ok (.if_icmp .eq 13, 3) := by decide +kernel
theorem dX7_counts_20 : decode cX7_counts 20 = .ok (.aload_n 0, 1) := by decide +kernel
theorem dX7_counts_21 : decode cX7_counts 21 = .ok (.getfield 25, 3) := by decide +kernel
theorem dX7_counts_24 : decode cX7_counts 24 = .ok (.iload_n 1, 1) := by decide +kernel
theorem dX7_counts_25 : decode cX7_counts 25 = .ok (.iaload, 1) := by decide +kernel
theorem dX7_counts_26 : decode cX7_counts 26 = .ok (.iload_n 2, 1) := by decide +kernel
theorem dX7_counts_27 : decode cX7_counts 27 = .ok (.if_icmp .le 7, 3) := by decide +kernel
theorem dX7_counts_30 : decode cX7_counts 30 = .ok (.iconst 1, 1) := by decide +kernel
theorem dX7_counts_31 : decode cX7_counts 31 = .ok (.goto 4, 3) := by decide +kernel
theorem dX7_counts_34 : decode cX7_counts 34 = .ok (.iconst 0, 1) := by decide +kernel
theorem dX7_counts_35 : decode cX7_counts 35 = .ok (.ireturn, 1) := by decide +kernel
theorem dX7_agree_0 : decode cX7_agree 0 = .ok (.iconst 0, 1) := by decide +kernel
theorem dX7_agree_1 : decode cX7_agree 1 = .ok (.istore_n 3, 1) := by decide +kernel
theorem dX7_agree_2 : decode cX7_agree 2 = .ok (.iload_n 3, 1) := by decide +kernel
theorem dX7_agree_3 : decode cX7_agree 3 = .ok (.aload_n 0, 1) := by decide +kernel
theorem dX7_agree_4 : decode cX7_agree 4 = .ok (.getfield 28, 3) := by decide +kernel
theorem dX7_agree_7 : decode cX7_agree 7 = .ok (.if_icmp .ge 57, 3) := by decide +kernel
theorem dX7_agree_10 : decode cX7_agree 10 = .ok (.iload_n 1, 1) := by decide +kernel
theorem dX7_agree_11 : decode cX7_agree 11 = .ok (.aload_n 0, 1) := by decide +kernel
theorem dX7_agree_12 : decode cX7_agree 12 = .ok (.getfield 11, 3) := by decide +kernel
theorem dX7_agree_15 : decode cX7_agree 15 = .ok (.iload_n 3, 1) := by decide +kernel
theorem dX7_agree_16 : decode cX7_agree 16 = .ok (.iaload, 1) := by decide +kernel
theorem dX7_agree_17 : decode cX7_agree 17 = .ok (.invokestatic 36, 3) := by decide +kernel
theorem dX7_agree_20 : decode cX7_agree 20 = .ok (.aload_n 0, 1) := by decide +kernel
theorem dX7_agree_21 : decode cX7_agree 21 = .ok (.getfield 15, 3) := by decide +kernel
theorem dX7_agree_24 : decode cX7_agree 24 = .ok (.iload_n 3, 1) := by decide +kernel
theorem dX7_agree_25 : decode cX7_agree 25 = .ok (.iaload, 1) := by decide +kernel
theorem dX7_agree_26 : decode cX7_agree 26 = .ok (.if_icmp .ne 7, 3) := by decide +kernel
theorem dX7_agree_29 : decode cX7_agree 29 = .ok (.iconst 1, 1) := by decide +kernel
theorem dX7_agree_30 : decode cX7_agree 30 = .ok (.goto 4, 3) := by decide +kernel
theorem dX7_agree_33 : decode cX7_agree 33 = .ok (.iconst 0, 1) := by decide +kernel
theorem dX7_agree_34 : decode cX7_agree 34 = .ok (.istore 4, 2) := by decide +kernel
theorem dX7_agree_36 : decode cX7_agree 36 = .ok (.aload_n 0, 1) := by decide +kernel
theorem dX7_agree_37 : decode cX7_agree 37 = .ok (.iload_n 3, 1) := by decide +kernel
theorem dX7_agree_38 : decode cX7_agree 38 = .ok (.iload_n 2, 1) := by decide +kernel
theorem dX7_agree_39 : decode cX7_agree 39 = .ok (.invokevirtual 42, 3) := by decide +kernel
theorem dX7_agree_42 : decode cX7_agree 42 = .ok (.ifCond .eq 16, 3) := by decide +kernel
theorem dX7_agree_45 : decode cX7_agree 45 = .ok (.iload 4, 2) := by decide +kernel
theorem dX7_agree_47 : decode cX7_agree 47 = .ok (.aload_n 0, 1) := by decide +kernel
theorem dX7_agree_48 : decode cX7_agree 48 = .ok (.getfield 18, 3) := by decide +kernel
theorem dX7_agree_51 : decode cX7_agree 51 = .ok (.iload_n 3, 1) := by decide +kernel
theorem dX7_agree_52 : decode cX7_agree 52 = .ok (.baload, 1) := by decide +kernel
theorem dX7_agree_53 : decode cX7_agree 53 = .ok (.if_icmp .eq 5, 3) := by decide +kernel
theorem dX7_agree_56 : decode cX7_agree 56 = .ok (.iconst 0, 1) := by decide +kernel
theorem dX7_agree_57 : decode cX7_agree 57 = .ok (.ireturn, 1) := by decide +kernel
theorem dX7_agree_58 : decode cX7_agree 58 = .ok (.iinc 3 1, 3) := by decide +kernel
theorem dX7_agree_61 : decode cX7_agree 61 = .ok (.goto (-59), 3) := by decide +kernel
theorem dX7_agree_64 : decode cX7_agree 64 = .ok (.iconst 1, 1) := by decide +kernel
theorem dX7_agree_65 : decode cX7_agree 65 = .ok (.ireturn, 1) := by decide +kernel
theorem dX8_init_0 : decode cX8_init 0 = .ok (.aload_n 0, 1) := by decide +kernel
theorem dX8_init_1 : decode cX8_init 1 = .ok (.invokespecial 3, 3) := by decide +kernel
theorem dX8_init_4 : decode cX8_init 4 = .ok (.aload_n 0, 1) := by decide +kernel
theorem dX8_init_5 : decode cX8_init 5 = .ok (.sipush 1600, 3) := by decide +kernel
theorem dX8_init_8 : decode cX8_init 8 = .ok (.newarray .byte, 2) := by decide +kernel
theorem dX8_init_10 : decode cX8_init 10 = .ok (.putfield 11, 3) := by decide +kernel
theorem dX8_init_13 : decode cX8_init 13 = .ok (.aload_n 0, 1) := by decide +kernel
theorem dX8_init_14 : decode cX8_init 14 = .ok (.iconst 0, 1) := by decide +kernel
theorem dX8_init_15 : decode cX8_init 15 = .ok (.putfield 15, 3) := by decide +kernel
theorem dX8_init_18 : decode cX8_init 18 = .ok (.return_, 1) := by decide +kernel
theorem dX8_take_0 : decode cX8_take 0 = .ok (.aload_n 0, 1) := by decide +kernel
theorem dX8_take_1 : decode cX8_take 1 = .ok (.getfield 15, 3) := by decide +kernel
theorem dX8_take_4 : decode cX8_take 4 = .ok (.bipush 20, 2) := by decide +kernel
theorem dX8_take_6 : decode cX8_take 6 = .ok (.iadd, 1) := by decide +kernel
theorem dX8_take_7 : decode cX8_take 7 = .ok (.sipush 1600, 3) := by decide +kernel
theorem dX8_take_10 : decode cX8_take 10 = .ok (.if_icmp .le 5, 3) := by decide +kernel
theorem dX8_take_13 : decode cX8_take 13 = .ok (.iconst (-1), 1) := by decide +kernel
theorem dX8_take_14 : decode cX8_take 14 = .ok (.ireturn, 1) := by decide +kernel
theorem dX8_take_15 : decode cX8_take 15 = .ok (.aload_n 0, 1) := by decide +kernel
theorem dX8_take_16 : decode cX8_take 16 = .ok (.iload_n 1, 1) := by decide +kernel
theorem dX8_take_17 : decode cX8_take 17 = .ok (.invokevirtual 19, 3) := by decide +kernel
theorem dX8_take_20 : decode cX8_take 20 = .ok (.aload_n 0, 1) := by decide +kernel
theorem dX8_take_21 : decode cX8_take 21 = .ok (.iload_n 2, 1) := by decide +kernel
theorem dX8_take_22 : decode cX8_take 22 = .ok (.invokevirtual 19, 3) := by decide +kernel
theorem dX8_take_25 : decode cX8_take 25 = .ok (.aload_n 0, 1) := by decide +kernel
theorem dX8_take_26 : decode cX8_take 26 = .ok (.iload_n 3, 1) := by decide +kernel
theorem dX8_take_27 : decode cX8_take 27 = .ok (.invokevirtual 19, 3) := by decide +kernel
theorem dX8_take_30 : decode cX8_take 30 = .ok (.aload_n 0, 1) := by decide +kernel
theorem dX8_take_31 : decode cX8_take 31 = .ok (.iload 4, 2) := by decide +kernel
theorem dX8_take_33 : decode cX8_take 33 = .ok (.invokevirtual 19, 3) := by decide +kernel
theorem dX8_take_36 : decode cX8_take 36 = .ok (.aload_n 0, 1) := by decide +kernel
theorem dX8_take_37 : decode cX8_take 37 = .ok (.iload 5, 2) := by decide +kernel
theorem dX8_take_39 : decode cX8_take 39 = .ok (.invokevirtual 19, 3) := by decide +kernel
theorem dX8_take_42 : decode cX8_take 42 = .ok (.aload_n 0, 1) := by decide +kernel
theorem dX8_take_43 : decode cX8_take 43 = .ok (.getfield 15, 3) := by decide +kernel
theorem dX8_take_46 : decode cX8_take 46 = .ok (.ireturn, 1) := by decide +kernel
theorem dX8_put_0 : decode cX8_put 0 = .ok (.bipush 24, 2) := by decide +kernel
theorem dX8_put_2 : decode cX8_put 2 = .ok (.istore_n 2, 1) := by decide +kernel
theorem dX8_put_3 : decode cX8_put 3 = .ok (.iload_n 2, 1) := by decide +kernel
theorem dX8_put_4 : decode cX8_put 4 = .ok (.ifCond .lt 42, 3) := by decide +kernel
theorem dX8_put_7 : decode cX8_put 7 = .ok (.aload_n 0, 1) := by decide +kernel
theorem dX8_put_8 : decode cX8_put 8 = .ok (.getfield 15, 3) := by decide +kernel
theorem dX8_put_11 : decode cX8_put 11 = .ok (.sipush 1600, 3) := by decide +kernel
theorem dX8_put_14 : decode cX8_put 14 = .ok (.if_icmp .ge 32, 3) := by decide +kernel
theorem dX8_put_17 : decode cX8_put 17 = .ok (.aload_n 0, 1) := by decide +kernel
theorem dX8_put_18 : decode cX8_put 18 = .ok (.getfield 11, 3) := by decide +kernel
theorem dX8_put_21 : decode cX8_put 21 = .ok (.aload_n 0, 1) := by decide +kernel
theorem dX8_put_22 : decode cX8_put 22 = .ok (.getfield 15, 3) := by decide +kernel
theorem dX8_put_25 : decode cX8_put 25 = .ok (.iload_n 1, 1) := by decide +kernel
theorem dX8_put_26 : decode cX8_put 26 = .ok (.iload_n 2, 1) := by decide +kernel
theorem dX8_put_27 : decode cX8_put 27 = .ok (.ishr, 1) := by decide +kernel
theorem dX8_put_28 : decode cX8_put 28 = .ok (.i2b, 1) := by decide +kernel
theorem dX8_put_29 : decode cX8_put 29 = .ok (.bastore, 1) := by decide +kernel
theorem dX8_put_30 : decode cX8_put 30 = .ok (.aload_n 0, 1) := by decide +kernel
theorem dX8_put_31 : decode cX8_put 31 = .ok (.dup, 1) := by decide +kernel
theorem dX8_put_32 : decode cX8_put 32 = .ok (.getfield 15, 3) := by decide +kernel
theorem dX8_put_35 : decode cX8_put 35 = .ok (.iconst 1, 1) := by decide +kernel
theorem dX8_put_36 : decode cX8_put 36 = .ok (.iadd, 1) := by decide +kernel
theorem dX8_put_37 : decode cX8_put 37 = .ok (.putfield 15, 3) := by decide +kernel
theorem dX8_put_40 : decode cX8_put 40 = .ok (.iinc 2 (-8), 3) := by decide +kernel
theorem dX8_put_43 : decode cX8_put 43 = .ok (.goto (-40), 3) := by decide +kernel
theorem dX8_put_46 : decode cX8_put 46 = .ok (.return_, 1) := by decide +kernel
theorem dX8_at_0 : decode cX8_at 0 = .ok (.iload_n 1, 1) := by decide +kernel
theorem dX8_at_1 : decode cX8_at 1 = .ok (.ifCond .lt 24, 3) := by decide +kernel
theorem dX8_at_4 : decode cX8_at 4 = .ok (.iload_n 1, 1) := by decide +kernel
theorem dX8_at_5 : decode cX8_at 5 = .ok (.aload_n 0, 1) := by decide +kernel
theorem dX8_at_6 : decode cX8_at 6 = .ok (.getfield 15, 3) := by decide +kernel
theorem dX8_at_9 : decode cX8_at 9 = .ok (.if_icmp .ge 16, 3) := by decide +kernel
theorem dX8_at_12 : decode cX8_at 12 = .ok (.aload_n 0, 1) := by decide +kernel
theorem dX8_at_13 : decode cX8_at 13 = .ok (.getfield 11, 3) := by decide +kernel
theorem dX8_at_16 : decode cX8_at 16 = .ok (.iload_n 1, 1) := by decide +kernel
theorem dX8_at_17 : decode cX8_at 17 = .ok (.baload, 1) := by decide +kernel
theorem dX8_at_18 : decode cX8_at 18 = .ok (.sipush 255, 3) := by decide +kernel
theorem dX8_at_21 : decode cX8_at 21 = .ok (.iand, 1) := by decide +kernel
theorem dX8_at_22 : decode cX8_at 22 = .ok (.goto 4, 3) := by decide +kernel
theorem dX8_at_25 : decode cX8_at 25 = .ok (.iconst (-1), 1) := by decide +kernel
theorem dX8_at_26 : decode cX8_at 26 = .ok (.ireturn, 1) := by decide +kernel
theorem dX9_init_0 : decode cX9_init 0 = .ok (.aload_n 0, 1) := by decide +kernel
theorem dX9_init_1 : decode cX9_init 1 = .ok (.invokespecial 3, 3) := by decide +kernel
theorem dX9_init_4 : decode cX9_init 4 = .ok (.aload_n 0, 1) := by decide +kernel
theorem dX9_init_5 : decode cX9_init 5 = .ok (.bipush 17, 2) := by decide +kernel
theorem dX9_init_7 : decode cX9_init 7 = .ok (.newarray .long, 2) := by decide +kernel
theorem dX9_init_9 : decode cX9_init 9 = .ok (.putfield 11, 3) := by decide +kernel
theorem dX9_init_12 : decode cX9_init 12 = .ok (.aload_n 0, 1) := by decide +kernel
theorem dX9_init_13 : decode cX9_init 13 = .ok (.sipush 1601, 3) := by decide +kernel
theorem dX9_init_16 : decode cX9_init 16 = .ok (.newarray .int, 2) := by decide +kernel
theorem dX9_init_18 : decode cX9_init 18 = .ok (.putfield 19, 3) := by decide +kernel
theorem dX9_init_21 : decode cX9_init 21 = .ok (.aload_n 0, 1) := by decide +kernel
theorem dX9_init_22 : decode cX9_init 22 = .ok (.sipush 1601, 3) := by decide +kernel
theorem dX9_init_25 : decode cX9_init 25 = .ok (.newarray .int, 2) := by decide +kernel
theorem dX9_init_27 : decode cX9_init 27 = .ok (.putfield 23, 3) := by decide +kernel
theorem dX9_init_30 : decode cX9_init 30 = .ok (.aload_n 0, 1) := by decide +kernel
theorem dX9_init_31 : decode cX9_init 31 = .ok (.sipush 1601, 3) := by decide +kernel
theorem dX9_init_34 : decode cX9_init 34 = .ok (.newarray .long, 2) := by decide +kernel
theorem dX9_init_36 : decode cX9_init 36 = .ok (.putfield 26, 3) := by decide +kernel
theorem dX9_init_39 : decode cX9_init 39 = .ok (.aload_n 0, 1) := by decide +kernel
theorem dX9_init_40 : decode cX9_init 40 = .ok (.iconst 0, 1) := by decide +kernel
theorem dX9_init_41 : decode cX9_init 41 = .ok (.putfield 29, 3) := by decide +kernel
theorem dX9_init_44 : decode cX9_init 44 = .ok (.aload_n 0, 1) := by decide +kernel
theorem dX9_init_45 : decode cX9_init 45 = .ok (.iconst 0, 1) := by decide +kernel
theorem dX9_init_46 : decode cX9_init 46 = .ok (.putfield 33, 3) := by decide +kernel
theorem dX9_init_49 : decode cX9_init 49 = .ok (.aload_n 0, 1) := by decide +kernel
theorem dX9_init_50 : decode cX9_init 50 = .ok (.aload_n 1, 1) := by decide +kernel
theorem dX9_init_51 : decode cX9_init 51 = .ok (.putfield 36, 3) := by decide +kernel
theorem dX9_init_54 : decode cX9_init 54 = .ok (.iconst 0, 1) := by decide +kernel
theorem dX9_init_55 : decode cX9_init 55 = .ok (.istore_n 2, 1) := by decide +kernel
theorem dX9_init_56 : decode cX9_init 56 = .ok (.iload_n 2, 1) := by decide +kernel
theorem dX9_init_57 : decode cX9_init 57 = .ok (.bipush 17, 2) := by decide +kernel
theorem dX9_init_59 : decode cX9_init 59 = .ok (.if_icmp .ge 73, 3) := by decide +kernel
theorem dX9_init_62 : decode cX9_init 62 = .ok (.iload_n 2, 1) := by decide +kernel
theorem dX9_init_63 : decode cX9_init 63 = .ok (.bipush 8, 2) := by decide +kernel
theorem dX9_init_65 : decode cX9_init 65 = .ok (.imul, 1) := by decide +kernel
theorem dX9_init_66 : decode cX9_init 66 = .ok (.istore_n 3, 1) := by decide +kernel
theorem dX9_init_67 : decode cX9_init 67 = .ok (.iload_n 3, 1) := by decide +kernel
theorem dX9_init_68 : decode cX9_init 68 = .ok (.iload_n 2, 1) := by decide +kernel
theorem dX9_init_69 : decode cX9_init 69 = .ok (.iconst 1, 1) := by decide +kernel
theorem dX9_init_70 : decode cX9_init 70 = .ok (.iadd, 1) := by decide +kernel
theorem dX9_init_71 : decode cX9_init 71 = .ok (.bipush 8, 2) := by decide +kernel
theorem dX9_init_73 : decode cX9_init 73 = .ok (.imul, 1) := by decide +kernel
theorem dX9_init_74 : decode cX9_init 74 = .ok (.if_icmp .ge 52, 3) := by decide +kernel
theorem dX9_init_77 : decode cX9_init 77 = .ok (.iload_n 3, 1) := by decide +kernel
theorem dX9_init_78 : decode cX9_init 78 = .ok (.ldc 40, 2) := by decide +kernel
theorem dX9_init_80 : decode cX9_init 80 = .ok (.invokevirtual 42, 3) := by decide +kernel
theorem dX9_init_83 : decode cX9_init 83 = .ok (.if_icmp .ge 37, 3) := by decide +kernel
theorem dX9_init_86 : decode cX9_init 86 = .ok (.ldc 40, 2) := by decide +kernel
theorem dX9_init_88 : decode cX9_init 88 = .ok (.iload_n 3, 1) := by decide +kernel
theorem dX9_init_89 : decode cX9_init 89 = .ok (.invokevirtual 48, 3) := by decide +kernel
theorem dX9_init_92 : decode cX9_init 92 = .ok (.bipush 32, 2) := by decide +kernel
theorem dX9_init_94 : decode cX9_init 94 = .ok (.if_icmp .eq 26, 3) := by decide +kernel
theorem dX9_init_97 : decode cX9_init 97 = .ok (.aload_n 0, 1) := by decide +kernel
theorem dX9_init_98 : decode cX9_init 98 = .ok (.getfield 11, 3) := by decide +kernel
theorem dX9_init_101 : decode cX9_init 101 = .ok (.iload_n 2, 1) := by decide +kernel
theorem dX9_init_102 : decode cX9_init 102 = .ok (.aload_n 0, 1) := by decide +kernel
theorem dX9_init_103 : decode cX9_init 103 = .ok (.getfield 11, 3) := by decide +kernel
theorem dX9_init_106 : decode cX9_init 106 = .ok (.iload_n 2, 1) := by decide +kernel
theorem dX9_init_107 : decode cX9_init 107 = .ok (.laload, 1) := by decide +kernel
theorem dX9_init_108 : decode cX9_init 108 = .ok (.bipush 8, 2) := by decide +kernel
theorem dX9_init_110 : decode cX9_init 110 = .ok (.lshl, 1) := by decide +kernel
theorem dX9_init_111 : decode cX9_init 111 = .ok (.ldc 40, 2) := by decide +kernel
theorem dX9_init_113 : decode cX9_init 113 = .ok (.iload_n 3, 1) := by decide +kernel
theorem dX9_init_114 : decode cX9_init 114 = .ok (.invokevirtual 48, 3) := by decide +kernel
theorem dX9_init_117 : decode cX9_init 117 = .ok (.i2l, 1) := by decide +kernel
theorem dX9_init_118 : decode cX9_init 118 = .ok (.lor, 1) := by decide +kernel
theorem dX9_init_119 : decode cX9_init 119 = .ok (.lastore, 1) := by decide +kernel
theorem dX9_init_120 : decode cX9_init 120 = .ok (.iinc 3 1, 3) := by decide +kernel
theorem dX9_init_123 : decode cX9_init 123 = .ok (.goto (-56), 3) := by decide +kernel
theorem dX9_init_126 : decode cX9_init 126 = .ok (.iinc 2 1, 3) := by decide +kernel
theorem dX9_init_129 : decode cX9_init 129 = .ok (.goto (-73), 3) := by decide +kernel
theorem dX9_init_132 : decode cX9_init 132 = .ok (.return_, 1) := by decide +kernel
theorem dX9_scan_0 : decode cX9_scan 0 = .ok (.aload_n 0, 1) := by decide +kernel
theorem dX9_scan_1 : decode cX9_scan 1 = .ok (.iconst 0, 1) := by decide +kernel
theorem dX9_scan_2 : decode cX9_scan 2 = .ok (.putfield 29, 3) := by decide +kernel
theorem dX9_scan_5 : decode cX9_scan 5 = .ok (.aload_n 0, 1) := by decide +kernel
theorem dX9_scan_6 : decode cX9_scan 6 = .ok (.iconst 0, 1) := by decide +kernel
theorem dX9_scan_7 : decode cX9_scan 7 = .ok (.putfield 33, 3) := by decide +kernel
theorem dX9_scan_10 : decode cX9_scan 10 = .ok (.sipush 273, 3) := by decide +kernel
theorem dX9_scan_13 : decode cX9_scan 13 = .ok (.istore_n 1, 1) := by decide +kernel
theorem dX9_scan_14 : decode cX9_scan 14 = .ok (.aload_n 0, 1) := by decide +kernel
theorem dX9_scan_15 : decode cX9_scan 15 = .ok (.getfield 29, 3) := by decide +kernel
theorem dX9_scan_18 : decode cX9_scan 18 = .ok (.sipush 1600, 3) := by decide +kernel
theorem dX9_scan_21 : decode cX9_scan 21 = .ok (.if_icmp .gt 72, 3) := by decide +kernel
theorem dX9_scan_24 : decode cX9_scan 24 = .ok (.iload_n 1, 1) := by decide +kernel
theorem dX9_scan_25 : decode cX9_scan 25 = .ok (.sipush 275, 3) := by decide +kernel
theorem dX9_scan_28 : decode cX9_scan 28 = .ok (.if_icmp .eq 65, 3) := by decide +kernel
theorem dX9_scan_31 : decode cX9_scan 31 = .ok (.iload_n 1, 1) := by decide +kernel
theorem dX9_scan_32 : decode cX9_scan 32 = .ok (.sipush 276, 3) := by decide +kernel
theorem dX9_scan_35 : decode cX9_scan 35 = .ok (.if_icmp .eq 58, 3) := by decide +kernel
theorem dX9_scan_38 : decode cX9_scan 38 = .ok (.aload_n 0, 1) := by decide +kernel
theorem dX9_scan_39 : decode cX9_scan 39 = .ok (.invokevirtual 52, 3) := by decide +kernel
theorem dX9_scan_42 : decode cX9_scan 42 = .ok (.aload_n 0, 1) := by decide +kernel
theorem dX9_scan_43 : decode cX9_scan 43 = .ok (.getfield 23, 3) := by decide +kernel
theorem dX9_scan_46 : decode cX9_scan 46 = .ok (.aload_n 0, 1) := by decide +kernel
theorem dX9_scan_47 : decode cX9_scan 47 = .ok (.getfield 29, 3) := by decide +kernel
theorem dX9_scan_50 : decode cX9_scan 50 = .ok (.aload_n 0, 1) := by decide +kernel
theorem dX9_scan_51 : decode cX9_scan 51 = .ok (.getfield 33, 3) := by decide +kernel
theorem dX9_scan_54 : decode cX9_scan 54 = .ok (.iastore, 1) := by decide +kernel
theorem dX9_scan_55 : decode cX9_scan 55 = .ok (.aload_n 0, 1) := by decide +kernel
theorem dX9_scan_56 : decode cX9_scan 56 = .ok (.getfield 26, 3) := by decide +kernel
theorem dX9_scan_59 : decode cX9_scan 59 = .ok (.aload_n 0, 1) := by decide +kernel
theorem dX9_scan_60 : decode cX9_scan 60 = .ok (.getfield 29, 3) := by decide +kernel
theorem dX9_scan_63 : decode cX9_scan 63 = .ok (.lconst 0, 1) := by decide +kernel
theorem dX9_scan_64 : decode cX9_scan 64 = .ok (.lastore, 1) := by decide +kernel
theorem dX9_scan_65 : decode cX9_scan 65 = .ok (.aload_n 0, 1) := by decide +kernel
theorem dX9_scan_66 : decode cX9_scan 66 = .ok (.invokevirtual 55, 3) := by decide +kernel
theorem dX9_scan_69 : decode cX9_scan 69 = .ok (.istore_n 1, 1) := by decide +kernel
theorem dX9_scan_70 : decode cX9_scan 70 = .ok (.aload_n 0, 1) := by decide +kernel
theorem dX9_scan_71 : decode cX9_scan 71 = .ok (.getfield 19, 3) := by decide +kernel
theorem dX9_scan_74 : decode cX9_scan 74 = .ok (.aload_n 0, 1) := by decide +kernel
theorem dX9_scan_75 : decode cX9_scan 75 = .ok (.getfield 29, 3) := by decide +kernel
theorem dX9_scan_78 : decode cX9_scan 78 = .ok (.iload_n 1, 1) := by decide +kernel
theorem dX9_scan_79 : decode cX9_scan 79 = .ok (.iastore, 1) := by decide +kernel
theorem dX9_scan_80 : decode cX9_scan 80 = .ok (.aload_n 0, 1) := by decide +kernel
theorem dX9_scan_81 : decode cX9_scan 81 = .ok (.dup, 1) := by decide +kernel
theorem dX9_scan_82 : decode cX9_scan 82 = .ok (.getfield 29, 3) := by decide +kernel
theorem dX9_scan_85 : decode cX9_scan 85 = .ok (.iconst 1, 1) := by decide +kernel
theorem dX9_scan_86 : decode cX9_scan 86 = .ok (.iadd, 1) := by decide +kernel
theorem dX9_scan_87 : decode cX9_scan 87 = .ok (.putfield 29, 3) := by decide +kernel
theorem dX9_scan_90 : decode cX9_scan 90 = .ok (.goto (-76), 3) := by decide +kernel
theorem dX9_scan_93 : decode cX9_scan 93 = .ok (.return_, 1) := by decide +kernel
theorem dX9_kindOf_0 : decode cX9_kindOf 0 = .ok (.iload_n 1, 1) := by decide +kernel
theorem dX9_kindOf_1 : decode cX9_kindOf 1 = .ok (.ifCond .lt 20, 3) := by decide +kernel
theorem dX9_kindOf_4 : decode cX9_kindOf 4 = .ok (.iload_n 1, 1) := by decide +kernel
theorem dX9_kindOf_5 : decode cX9_kindOf 5 = .ok (.aload_n 0, 1) := by decide +kernel
theorem dX9_kindOf_6 : decode cX9_kindOf 6 = .ok (.getfield 29, 3) := by decide +kernel
theorem dX9_kindOf_9 : decode cX9_kindOf 9 = .ok (.if_icmp .ge 12, 3) := by decide +kernel
theorem dX9_kindOf_12 : decode cX9_kindOf 12 = .ok (.aload_n 0, 1) := by decide +kernel
theorem dX9_kindOf_13 : decode cX9_kindOf 13 = .ok (.getfield 19, 3) := by decide +kernel
theorem dX9_kindOf_16 : decode cX9_kindOf 16 = .ok (.iload_n 1, 1) := by decide +kernel
theorem dX9_kindOf_17 : decode cX9_kindOf 17 = .ok (.iaload, 1) := by decide +kernel
theorem dX9_kindOf_18 : decode cX9_kindOf 18 = .ok (.goto 6, 3) := by decide +kernel
theorem dX9_kindOf_21 : decode cX9_kindOf 21 = .ok (.sipush 275, 3) := by decide +kernel
theorem dX9_kindOf_24 : decode cX9_kindOf 24 = .ok (.ireturn, 1) := by decide +kernel
theorem dX9_placeOf_0 : decode cX9_placeOf 0 = .ok (.iload_n 1, 1) := by decide +kernel
theorem dX9_placeOf_1 : decode cX9_placeOf 1 = .ok (.ifCond .lt 20, 3) := by decide +kernel
theorem dX9_placeOf_4 : decode cX9_placeOf 4 = .ok (.iload_n 1, 1) := by decide +kernel
theorem dX9_placeOf_5 : decode cX9_placeOf 5 = .ok (.aload_n 0, 1) := by decide +kernel
theorem dX9_placeOf_6 : decode cX9_placeOf 6 = .ok (.getfield 29, 3) := by decide +kernel
theorem dX9_placeOf_9 : decode cX9_placeOf 9 = .ok (.if_icmp .ge 12, 3) := by decide +kernel
theorem dX9_placeOf_12 : decode cX9_placeOf 12 = .ok (.aload_n 0, 1) := by decide +kernel
theorem dX9_placeOf_13 : decode cX9_placeOf 13 = .ok (.getfield 23, 3) := by decide +kernel
theorem dX9_placeOf_16 : decode cX9_placeOf 16 = .ok (.iload_n 1, 1) := by decide +kernel
theorem dX9_placeOf_17 : decode cX9_placeOf 17 = .ok (.iaload, 1) := by decide +kernel
theorem dX9_placeOf_18 : decode cX9_placeOf 18 = .ok (.goto 10, 3) := by decide +kernel
theorem dX9_placeOf_21 : decode cX9_placeOf 21 = .ok (.aload_n 0, 1) := by decide +kernel
theorem dX9_placeOf_22 : decode cX9_placeOf 22 = .ok (.getfield 36, 3) := by decide +kernel
theorem dX9_placeOf_25 : decode cX9_placeOf 25 = .ok (.getfield 58, 3) := by decide +kernel
theorem dX9_placeOf_28 : decode cX9_placeOf 28 = .ok (.ireturn, 1) := by decide +kernel
theorem dX9_valueOf_0 : decode cX9_valueOf 0 = .ok (.iload_n 1, 1) := by decide +kernel
theorem dX9_valueOf_1 : decode cX9_valueOf 1 = .ok (.ifCond .lt 20, 3) := by decide +kernel
theorem dX9_valueOf_4 : decode cX9_valueOf 4 = .ok (.iload_n 1, 1) := by decide +kernel
theorem dX9_valueOf_5 : decode cX9_valueOf 5 = .ok (.aload_n 0, 1) := by decide +kernel
theorem dX9_valueOf_6 : decode cX9_valueOf 6 = .ok (.getfield 29, 3) := by decide +kernel
theorem dX9_valueOf_9 : decode cX9_valueOf 9 = .ok (.if_icmp .ge 12, 3) := by decide +kernel
theorem dX9_valueOf_12 : decode cX9_valueOf 12 = .ok (.aload_n 0, 1) := by decide +kernel
theorem dX9_valueOf_13 : decode cX9_valueOf 13 = .ok (.getfield 26, 3) := by decide +kernel
theorem dX9_valueOf_16 : decode cX9_valueOf 16 = .ok (.iload_n 1, 1) := by decide +kernel
theorem dX9_valueOf_17 : decode cX9_valueOf 17 = .ok (.laload, 1) := by decide +kernel
theorem dX9_valueOf_18 : decode cX9_valueOf 18 = .ok (.goto 4, 3) := by decide +kernel
theorem dX9_valueOf_21 : decode cX9_valueOf 21 = .ok (.lconst 0, 1) := by decide +kernel
theorem dX9_valueOf_22 : decode cX9_valueOf 22 = .ok (.lreturn, 1) := by decide +kernel
theorem dX9_skipBlanks_0 : decode cX9_skipBlanks 0 = .ok (.aload_n 0, 1) := by decide +kernel
theorem dX9_skipBlanks_1 : decode cX9_skipBlanks 1 = .ok (.getfield 33, 3) := by decide +kernel
theorem dX9_skipBlanks_4 : decode cX9_skipBlanks 4 = .ok (.aload_n 0, 1) := by decide +kernel
theorem dX9_skipBlanks_5 : decode cX9_skipBlanks 5 = .ok (.getfield 36, 3) := by decide +kernel
theorem dX9_skipBlanks_8 : decode cX9_skipBlanks 8 = .ok (.getfield 58, 3) := by decide +kernel
theorem dX9_skipBlanks_11 : decode cX9_skipBlanks 11 = .ok (.if_icmp .ge 48, 3) := by decide +kernel
theorem dX9_skipBlanks_14 : decode cX9_skipBlanks 14 = .ok (.aload_n 0, 1) := by decide +kernel
theorem dX9_skipBlanks_15 : decode cX9_skipBlanks 15 = .ok (.getfield 36, 3) := by decide +kernel
theorem dX9_skipBlanks_18 : decode cX9_skipBlanks 18 = .ok (.aload_n 0, 1) := by decide +kernel
theorem dX9_skipBlanks_19 : decode cX9_skipBlanks 19 = .ok (.getfield 33, 3) := by decide +kernel
theorem dX9_skipBlanks_22 : decode cX9_skipBlanks 22 = .ok (.invokevirtual 60, 3) := by decide +kernel
theorem dX9_skipBlanks_25 : decode cX9_skipBlanks 25 = .ok (.bipush 32, 2) := by decide +kernel
theorem dX9_skipBlanks_27 : decode cX9_skipBlanks 27 = .ok (.if_icmp .eq 19, 3) := by decide +kernel
theorem dX9_skipBlanks_30 : decode cX9_skipBlanks 30 = .ok (.aload_n 0, 1) := by decide +kernel
theorem dX9_skipBlanks_31 : decode cX9_skipBlanks 31 = .ok (.getfield 36, 3) := by decide +kernel
theorem dX9_skipBlanks_34 : decode cX9_skipBlanks 34 = .ok (.aload_n 0, 1) := by decide +kernel
theorem dX9_skipBlanks_35 : decode cX9_skipBlanks 35 = .ok (.getfield 33, 3) := by decide +kernel
theorem dX9_skipBlanks_38 : decode cX9_skipBlanks 38 = .ok (.invokevirtual 60, 3) := by decide +kernel
theorem dX9_skipBlanks_41 : decode cX9_skipBlanks 41 = .ok (.bipush 10, 2) := by decide +kernel
theorem dX9_skipBlanks_43 : decode cX9_skipBlanks 43 = .ok (.if_icmp .ne 16, 3) := by decide +kernel
theorem dX9_skipBlanks_46 : decode cX9_skipBlanks 46 = .ok (.aload_n 0, 1) := by decide +kernel
theorem dX9_skipBlanks_47 : decode cX9_skipBlanks 47 = .ok (.dup, 1) := by decide +kernel
theorem dX9_skipBlanks_48 : decode cX9_skipBlanks 48 = .ok (.getfield 33, 3) := by decide +kernel
theorem dX9_skipBlanks_51 : decode cX9_skipBlanks 51 = .ok (.iconst 1, 1) := by decide +kernel
theorem dX9_skipBlanks_52 : decode cX9_skipBlanks 52 = .ok (.iadd, 1) := by decide +kernel
theorem dX9_skipBlanks_53 : decode cX9_skipBlanks 53 = .ok (.putfield 33, 3) := by decide +kernel
theorem dX9_skipBlanks_56 : decode cX9_skipBlanks 56 = .ok (.goto (-56), 3) := by decide +kernel
theorem dX9_skipBlanks_59 : decode cX9_skipBlanks 59 = .ok (.return_, 1) := by decide +kernel
theorem dX9_take_0 : decode cX9_take 0 = .ok (.aload_n 0, 1) := by decide +kernel
theorem dX9_take_1 : decode cX9_take 1 = .ok (.getfield 36, 3) := by decide +kernel
theorem dX9_take_4 : decode cX9_take 4 = .ok (.aload_n 0, 1) := by decide +kernel
theorem dX9_take_5 : decode cX9_take 5 = .ok (.getfield 33, 3) := by decide +kernel
theorem dX9_take_8 : decode cX9_take 8 = .ok (.invokevirtual 60, 3) := by decide +kernel
theorem dX9_take_11 : decode cX9_take 11 = .ok (.istore_n 1, 1) := by decide +kernel
theorem dX9_take_12 : decode cX9_take 12 = .ok (.iload_n 1, 1) := by decide +kernel
theorem dX9_take_13 : decode cX9_take 13 = .ok (.iconst (-1), 1) := by decide +kernel
theorem dX9_take_14 : decode cX9_take 14 = .ok (.if_icmp .ne 7, 3) := by decide +kernel
theorem dX9_take_17 : decode cX9_take 17 = .ok (.sipush 275, 3) := by decide +kernel
theorem dX9_take_20 : decode cX9_take 20 = .ok (.ireturn, 1) := by decide +kernel
theorem dX9_take_21 : decode cX9_take 21 = .ok (.iload_n 1, 1) := by decide +kernel
theorem dX9_take_22 : decode cX9_take 22 = .ok (.invokestatic 63, 3) := by decide +kernel
theorem dX9_take_25 : decode cX9_take 25 = .ok (.ifCond .eq 8, 3) := by decide +kernel
theorem dX9_take_28 : decode cX9_take 28 = .ok (.aload_n 0, 1) := by decide +kernel
theorem dX9_take_29 : decode cX9_take 29 = .ok (.invokevirtual 67, 3) := by decide +kernel
theorem dX9_take_32 : decode cX9_take 32 = .ok (.ireturn, 1) := by decide +kernel
theorem dX9_take_33 : decode cX9_take 33 = .ok (.iload_n 1, 1) := by decide +kernel
theorem dX9_take_34 : decode cX9_take 34 = .ok (.invokestatic 70, 3) := by decide +kernel
theorem dX9_take_37 : decode cX9_take 37 = .ok (.ifCond .eq 8, 3) := by decide +kernel
theorem dX9_take_40 : decode cX9_take 40 = .ok (.aload_n 0, 1) := by decide +kernel
theorem dX9_take_41 : decode cX9_take 41 = .ok (.invokevirtual 73, 3) := by decide +kernel
theorem dX9_take_44 : decode cX9_take 44 = .ok (.ireturn, 1) := by decide +kernel
theorem dX9_take_45 : decode cX9_take 45 = .ok (.aload_n 0, 1) := by decide +kernel
theorem dX9_take_46 : decode cX9_take 46 = .ok (.dup, 1) := by decide +kernel
theorem dX9_take_47 : decode cX9_take 47 = .ok (.getfield 33, 3) := by decide +kernel
theorem dX9_take_50 : decode cX9_take 50 = .ok (.iconst 1, 1) := by decide +kernel
theorem dX9_take_51 : decode cX9_take 51 = .ok (.iadd, 1) := by decide +kernel
theorem dX9_take_52 : decode cX9_take 52 = .ok (.putfield 33, 3) := by decide +kernel
theorem dX9_take_55 : decode cX9_take 55 = .ok (.ldc 76, 2) := by decide +kernel
theorem dX9_take_57 : decode cX9_take 57 = .ok (.iload_n 1, 1) := by decide +kernel
theorem dX9_take_58 : decode cX9_take 58 = .ok (.i2c, 1) := by decide +kernel
theorem dX9_take_59 : decode cX9_take 59 = .ok (.invokevirtual 78, 3) := by decide +kernel
theorem dX9_take_62 : decode cX9_take 62 = .ok (.ifCond .lt 7, 3) := by decide +kernel
theorem dX9_take_65 : decode cX9_take 65 = .ok (.iload_n 1, 1) := by decide +kernel
theorem dX9_take_66 : decode cX9_take 66 = .ok (.goto 6, 3) := by decide +kernel
theorem dX9_take_69 : decode cX9_take 69 = .ok (.sipush 276, 3) := by decide +kernel
theorem dX9_take_72 : decode cX9_take 72 = .ok (.ireturn, 1) := by decide +kernel
theorem dX9_takeWord_0 : decode cX9_takeWord 0 = .ok (.aload_n 0, 1) := by decide +kernel
theorem dX9_takeWord_1 : decode cX9_takeWord 1 = .ok (.getfield 33, 3) := by decide +kernel
theorem dX9_takeWord_4 : decode cX9_takeWord 4 = .ok (.istore_n 1, 1) := by decide +kernel
theorem dX9_takeWord_5 : decode cX9_takeWord 5 = .ok (.lconst 0, 1) := by decide +kernel
theorem dX9_takeWord_6 : decode cX9_takeWord 6 = .ok (.lstore_n 2, 1) := by decide +kernel
theorem dX9_takeWord_7 : decode cX9_takeWord 7 = .ok (.aload_n 0, 1) := by decide +kernel
theorem dX9_takeWord_8 : decode cX9_takeWord 8 = .ok (.getfield 33, 3) := by decide +kernel
theorem dX9_takeWord_11 : decode cX9_takeWord 11 = .ok (.aload_n 0, 1) := by decide +kernel
theorem dX9_takeWord_12 : decode cX9_takeWord 12 = .ok (.getfield 36, 3) := by decide +kernel
theorem dX9_takeWord_15 : decode cX9_takeWord 15 = .ok (.getfield 58, 3) := by decide +kernel
theorem dX9_takeWord_18 : decode cX9_takeWord 18 = .ok (.if_icmp .ge 51, 3) := by decide +kernel
theorem dX9_takeWord_21 : decode cX9_takeWord 21 = .ok (.aload_n 0, 1) := by decide +kernel
theorem dX9_takeWord_22 : decode cX9_takeWord 22 = .ok (.getfield 36, 3) := by decide +kernel
theorem dX9_takeWord_25 : decode cX9_takeWord 25 = .ok (.aload_n 0, 1) := by decide +kernel
theorem dX9_takeWord_26 : decode cX9_takeWord 26 = .ok (.getfield 33, 3) := by decide +kernel
theorem dX9_takeWord_29 : decode cX9_takeWord 29 = .ok (.invokevirtual 60, 3) := by decide +kernel
theorem dX9_takeWord_32 : decode cX9_takeWord 32 = .ok (.invokestatic 63, 3) := by decide +kernel
theorem dX9_takeWord_35 : decode cX9_takeWord 35 = .ok (.ifCond .eq 34, 3) := by decide +kernel
theorem dX9_takeWord_38 : decode cX9_takeWord 38 = .ok (.lload_n 2, 1) := by decide +kernel
theorem dX9_takeWord_39 : decode cX9_takeWord 39 = .ok (.bipush 8, 2) := by decide +kernel
theorem dX9_takeWord_41 : decode cX9_takeWord 41 = .ok (.lshl, 1) := by decide +kernel
theorem dX9_takeWord_42 : decode cX9_takeWord 42 = .ok (.aload_n 0, 1) := by decide +kernel
theorem dX9_takeWord_43 : decode cX9_takeWord 43 = .ok (.getfield 36, 3) := by decide +kernel
theorem dX9_takeWord_46 : decode cX9_takeWord 46 = .ok (.aload_n 0, 1) := by decide +kernel
theorem dX9_takeWord_47 : decode cX9_takeWord 47 = .ok (.getfield 33, 3) := by decide +kernel
theorem dX9_takeWord_50 : decode cX9_takeWord 50 = .ok (.invokevirtual 60, 3) := by decide +kernel
theorem dX9_takeWord_53 : decode cX9_takeWord 53 = .ok (.i2l, 1) := by decide +kernel
theorem dX9_takeWord_54 : decode cX9_takeWord 54 = .ok (.lor, 1) := by decide +kernel
theorem dX9_takeWord_55 : decode cX9_takeWord 55 = .ok (.lstore_n 2, 1) := by decide +kernel
theorem dX9_takeWord_56 : decode cX9_takeWord 56 = .ok (.aload_n 0, 1) := by decide +kernel
theorem dX9_takeWord_57 : decode cX9_takeWord 57 = .ok (.dup, 1) := by decide +kernel
theorem dX9_takeWord_58 : decode cX9_takeWord 58 = .ok (.getfield 33, 3) := by decide +kernel
theorem dX9_takeWord_61 : decode cX9_takeWord 61 = .ok (.iconst 1, 1) := by decide +kernel
theorem dX9_takeWord_62 : decode cX9_takeWord 62 = .ok (.iadd, 1) := by decide +kernel
theorem dX9_takeWord_63 : decode cX9_takeWord 63 = .ok (.putfield 33, 3) := by decide +kernel
theorem dX9_takeWord_66 : decode cX9_takeWord 66 = .ok (.goto (-59), 3) := by decide +kernel
theorem dX9_takeWord_69 : decode cX9_takeWord 69 = .ok (.aload_n 0, 1) := by decide +kernel
theorem dX9_takeWord_70 : decode cX9_takeWord 70 = .ok (.getfield 33, 3) := by decide +kernel
theorem dX9_takeWord_73 : decode cX9_takeWord 73 = .ok (.iload_n 1, 1) := by decide +kernel
theorem dX9_takeWord_74 : decode cX9_takeWord 74 = .ok (.isub, 1) := by decide +kernel
theorem dX9_takeWord_75 : decode cX9_takeWord 75 = .ok (.bipush 8, 2) := by decide +kernel
theorem dX9_takeWord_77 : decode cX9_takeWord 77 = .ok (.if_icmp .le 7, 3) := by decide +kernel
theorem dX9_takeWord_80 : decode cX9_takeWord 80 = .ok (.sipush 276, 3) := by decide +kernel
theorem dX9_takeWord_83 : decode cX9_takeWord 83 = .ok (.ireturn, 1) := by decide +kernel
theorem dX9_takeWord_84 : decode cX9_takeWord 84 = .ok (.aload_n 0, 1) := by decide +kernel
theorem dX9_takeWord_85 : decode cX9_takeWord 85 = .ok (.getfield 26, 3) := by decide +kernel
theorem dX9_takeWord_88 : decode cX9_takeWord 88 = .ok (.aload_n 0, 1) := by decide +kernel
theorem dX9_takeWord_89 : decode cX9_takeWord 89 = .ok (.getfield 29, 3) := by decide +kernel
theorem dX9_takeWord_92 : decode cX9_takeWord 92 = .ok (.lload_n 2, 1) := by decide +kernel
theorem dX9_takeWord_93 : decode cX9_takeWord 93 = .ok (.lastore, 1) := by decide +kernel
theorem dX9_takeWord_94 : decode cX9_takeWord 94 = .ok (.iconst 0, 1) := by decide +kernel
theorem dX9_takeWord_95 : decode cX9_takeWord 95 = .ok (.istore 4, 2) := by decide +kernel
theorem dX9_takeWord_97 : decode cX9_takeWord 97 = .ok (.iload 4, 2) := by decide +kernel
theorem dX9_takeWord_99 : decode cX9_takeWord 99 = .ok (.bipush 17, 2) := by decide +kernel
theorem dX9_takeWord_101 : decode cX9_takeWord 101 = .ok (.if_icmp .ge 28, 3) := by decide +kernel
theorem dX9_takeWord_104 : decode cX9_takeWord 104 = .ok (.aload_n 0, 1) := by decide +kernel
theorem dX9_takeWord_105 : decode cX9_takeWord 105 = .ok (.getfield 11, 3) := by decide +kernel
theorem dX9_takeWord_108 : decode cX9_takeWord 108 = .ok (.iload 4, 2) := by decide +kernel
theorem dX9_takeWord_110 : decode cX9_takeWord 110 = .ok (.laload, 1) := by decide +kernel
theorem dX9_takeWord_111 : decode cX9_takeWord 111 = .ok (.lload_n 2, 1) := by decide +kernel
theorem dX9_takeWord_112 : decode cX9_takeWord 112 = .ok (.lcmp, 1) := by decide +kernel
theorem dX9_takeWord_113 : decode cX9_takeWord 113 = .ok (.ifCond .ne 10, 3) := by decide +kernel
theorem dX9_takeWord_116 : decode cX9_takeWord 116 = .ok (.sipush 256, 3) := by decide +kernel
theorem dX9_takeWord_119 : decode cX9_takeWord 119 = .ok (.iload 4, 2) := by decide +kernel
theorem dX9_takeWord_121 : decode cX9_takeWord 121 = .ok (.iadd, 1) := by decide +kernel
theorem dX9_takeWord_122 : decode cX9_takeWord 122 = .ok (.ireturn, 1) := by decide +kernel
theorem dX9_takeWord_123 : decode cX9_takeWord 123 = .ok (.iinc 4 1, 3) := by decide +kernel
theorem dX9_takeWord_126 : decode cX9_takeWord 126 = .ok (.goto (-29), 3) := by decide +kernel
theorem dX9_takeWord_129 : decode cX9_takeWord 129 = .ok (.sipush 273, 3) := by decide +kernel
theorem dX9_takeWord_132 : decode cX9_takeWord 132 = .ok (.ireturn, 1) := by decide +kernel
theorem dX9_takeNumber_0 : decode cX9_takeNumber 0 = .ok (.aload_n 0, 1) := by decide +kernel
theorem dX9_takeNumber_1 : decode cX9_takeNumber 1 = .ok (.getfield 33, 3) := by decide +kernel
theorem dX9_takeNumber_4 : decode cX9_takeNumber 4 = .ok (.istore_n 1, 1) := by decide +kernel
theorem dX9_takeNumber_5 : decode cX9_takeNumber 5 = .ok (.iconst 0, 1) := by decide +kernel
theorem dX9_takeNumber_6 : decode cX9_takeNumber 6 = .ok (.istore_n 2, 1) := by decide +kernel
theorem dX9_takeNumber_7 : decode cX9_takeNumber 7 = .ok (.aload_n 0, 1) := by decide +kernel
theorem dX9_takeNumber_8 : decode cX9_takeNumber 8 = .ok (.getfield 33, 3) := by decide +kernel
theorem dX9_takeNumber_11 : decode cX9_takeNumber 11 = .ok (.aload_n 0, 1) := by decide +kernel
theorem dX9_takeNumber_12 : decode cX9_takeNumber 12 = .ok (.getfield 36, 3) := by decide +kernel
theorem dX9_takeNumber_15 : decode cX9_takeNumber 15 = .ok (.getfield 58, 3) := by decide +kernel
theorem dX9_takeNumber_18 : decode cX9_takeNumber 18 = .ok (.if_icmp .ge 53, 3) := by decide +kernel
theorem dX9_takeNumber_21 : decode cX9_takeNumber 21 = .ok (.aload_n 0, 1) := by decide +kernel
theorem dX9_takeNumber_22 : decode cX9_takeNumber 22 = .ok (.getfield 36, 3) := by decide +kernel
theorem dX9_takeNumber_25 : decode cX9_takeNumber 25 = .ok (.aload_n 0, 1) := by decide +kernel
theorem dX9_takeNumber_26 : decode cX9_takeNumber 26 = .ok (.getfield 33, 3) := by decide +kernel
theorem dX9_takeNumber_29 : decode cX9_takeNumber 29 = .ok (.invokevirtual 60, 3) := by decide +kernel
theorem dX9_takeNumber_32 : decode cX9_takeNumber 32 = .ok (.invokestatic 70, 3) := by decide +kernel
theorem dX9_takeNumber_35 : decode cX9_takeNumber 35 = .ok (.ifCond .eq 36, 3) := by decide +kernel
theorem dX9_takeNumber_38 : decode cX9_takeNumber 38 = .ok (.iload_n 2, 1) := by decide +kernel
theorem dX9_takeNumber_39 : decode cX9_takeNumber 39 = .ok (.bipush 10, 2) := by decide +kernel
theorem dX9_takeNumber_41 : decode cX9_takeNumber 41 = .ok (.imul, 1) := by decide +kernel
theorem dX9_takeNumber_42 : decode cX9_takeNumber 42 = .ok (.aload_n 0, 1) := by decide +kernel
theorem dX9_takeNumber_43 : decode cX9_takeNumber 43 = .ok (.getfield 36, 3) := by decide +kernel
theorem dX9_takeNumber_46 : decode cX9_takeNumber 46 = .ok (.aload_n 0, 1) := by decide +kernel
theorem dX9_takeNumber_47 : decode cX9_takeNumber 47 = .ok (.getfield 33, 3) := by decide +kernel
theorem dX9_takeNumber_50 : decode cX9_takeNumber 50 = .ok (.invokevirtual 60, 3) := by decide +kernel
theorem dX9_takeNumber_53 : decode cX9_takeNumber 53 = .ok (.iadd, 1) := by decide +kernel
theorem dX9_takeNumber_54 : decode cX9_takeNumber 54 = .ok (.bipush 48, 2) := by decide +kernel
theorem dX9_takeNumber_56 : decode cX9_takeNumber 56 = .ok (.isub, 1) := by decide +kernel
theorem dX9_takeNumber_57 : decode cX9_takeNumber 57 = .ok (.istore_n 2, 1) := by decide +kernel
theorem dX9_takeNumber_58 : decode cX9_takeNumber 58 = .ok (.aload_n 0, 1) := by decide +kernel
theorem dX9_takeNumber_59 : decode cX9_takeNumber 59 = .ok (.dup, 1) := by decide +kernel
theorem dX9_takeNumber_60 : decode cX9_takeNumber 60 = .ok (.getfield 33, 3) := by decide +kernel
theorem dX9_takeNumber_63 : decode cX9_takeNumber 63 = .ok (.iconst 1, 1) := by decide +kernel
theorem dX9_takeNumber_64 : decode cX9_takeNumber 64 = .ok (.iadd, 1) := by decide +kernel
theorem dX9_takeNumber_65 : decode cX9_takeNumber 65 = .ok (.putfield 33, 3) := by decide +kernel
theorem dX9_takeNumber_68 : decode cX9_takeNumber 68 = .ok (.goto (-61), 3) := by decide +kernel
theorem dX9_takeNumber_71 : decode cX9_takeNumber 71 = .ok (.aload_n 0, 1) := by decide +kernel
theorem dX9_takeNumber_72 : decode cX9_takeNumber 72 = .ok (.getfield 26, 3) := by decide +kernel
theorem dX9_takeNumber_75 : decode cX9_takeNumber 75 = .ok (.aload_n 0, 1) := by decide +kernel
theorem dX9_takeNumber_76 : decode cX9_takeNumber 76 = .ok (.getfield 29, 3) := by decide +kernel
theorem dX9_takeNumber_79 : decode cX9_takeNumber 79 = .ok (.iload_n 2, 1) := by decide +kernel
theorem dX9_takeNumber_80 : decode cX9_takeNumber 80 = .ok (.i2l, 1) := by decide +kernel
theorem dX9_takeNumber_81 : decode cX9_takeNumber 81 = .ok (.lastore, 1) := by decide +kernel
theorem dX9_takeNumber_82 : decode cX9_takeNumber 82 = .ok (.aload_n 0, 1) := by decide +kernel
theorem dX9_takeNumber_83 : decode cX9_takeNumber 83 = .ok (.getfield 33, 3) := by decide +kernel
theorem dX9_takeNumber_86 : decode cX9_takeNumber 86 = .ok (.iload_n 1, 1) := by decide +kernel
theorem dX9_takeNumber_87 : decode cX9_takeNumber 87 = .ok (.isub, 1) := by decide +kernel
theorem dX9_takeNumber_88 : decode cX9_takeNumber 88 = .ok (.iconst 4, 1) := by decide +kernel
theorem dX9_takeNumber_89 : decode cX9_takeNumber 89 = .ok (.if_icmp .gt 20, 3) := by decide +kernel
theorem dX9_takeNumber_92 : decode cX9_takeNumber 92 = .ok (.aload_n 0, 1) := by decide +kernel
theorem dX9_takeNumber_93 : decode cX9_takeNumber 93 = .ok (.getfield 36, 3) := by decide +kernel
theorem dX9_takeNumber_96 : decode cX9_takeNumber 96 = .ok (.aload_n 0, 1) := by decide +kernel
theorem dX9_takeNumber_97 : decode cX9_takeNumber 97 = .ok (.getfield 33, 3) := by decide +kernel
theorem dX9_takeNumber_100 : decode cX9_takeNumber 100 = .ok (.invokevirtual 60, 3) := by decide +kernel
theorem dX9_takeNumber_103 : decode cX9_takeNumber 103 = .ok (.invokestatic 63, 3) := by decide +kernel
theorem dX9_takeNumber_106 : decode cX9_takeNumber 106 = .ok (.ifCond .eq 7, 3) := by decide +kernel
theorem dX9_takeNumber_109 : decode cX9_takeNumber 109 = .ok (.iconst 1, 1) := by decide +kernel
theorem dX9_takeNumber_110 : decode cX9_takeNumber 110 = .ok (.goto 4, 3) := by decide +kernel
theorem dX9_takeNumber_113 : decode cX9_takeNumber 113 = .ok (.iconst 0, 1) := by decide +kernel
theorem dX9_takeNumber_114 : decode cX9_takeNumber 114 = .ok (.istore_n 3, 1) := by decide +kernel
theorem dX9_takeNumber_115 : decode cX9_takeNumber 115 = .ok (.iload_n 3, 1) := by decide +kernel
theorem dX9_takeNumber_116 : decode cX9_takeNumber 116 = .ok (.ifCond .eq 9, 3) := by decide +kernel
theorem dX9_takeNumber_119 : decode cX9_takeNumber 119 = .ok (.sipush 276, 3) := by decide +kernel
theorem dX9_takeNumber_122 : decode cX9_takeNumber 122 = .ok (.goto 6, 3) := by decide +kernel
theorem dX9_takeNumber_125 : decode cX9_takeNumber 125 = .ok (.sipush 274, 3) := by decide +kernel
theorem dX9_takeNumber_128 : decode cX9_takeNumber 128 = .ok (.ireturn, 1) := by decide +kernel
theorem dX9_isLetter_0 : decode cX9_isLetter 0 = .ok (.iload_n 0, 1) := by decide +kernel
theorem dX9_isLetter_1 : decode cX9_isLetter 1 = .ok (.bipush 97, 2) := by decide +kernel
theorem dX9_isLetter_3 : decode cX9_isLetter 3 = .ok (.if_icmp .lt 13, 3) := by decide +kernel
theorem dX9_isLetter_6 : decode cX9_isLetter 6 = .ok (.iload_n 0, 1) := by decide +kernel
theorem dX9_isLetter_7 : decode cX9_isLetter 7 = .ok (.bipush 122, 2) := by decide +kernel
theorem dX9_isLetter_9 : decode cX9_isLetter 9 = .ok (.if_icmp .gt 7, 3) := by decide +kernel
theorem dX9_isLetter_12 : decode cX9_isLetter 12 = .ok (.iconst 1, 1) := by decide +kernel
theorem dX9_isLetter_13 : decode cX9_isLetter 13 = .ok (.goto 4, 3) := by decide +kernel
theorem dX9_isLetter_16 : decode cX9_isLetter 16 = .ok (.iconst 0, 1) := by decide +kernel
theorem dX9_isLetter_17 : decode cX9_isLetter 17 = .ok (.ireturn, 1) := by decide +kernel
theorem dX9_isDigit_0 : decode cX9_isDigit 0 = .ok (.iload_n 0, 1) := by decide +kernel
theorem dX9_isDigit_1 : decode cX9_isDigit 1 = .ok (.bipush 48, 2) := by decide +kernel
theorem dX9_isDigit_3 : decode cX9_isDigit 3 = .ok (.if_icmp .lt 13, 3) := by decide +kernel
theorem dX9_isDigit_6 : decode cX9_isDigit 6 = .ok (.iload_n 0, 1) := by decide +kernel
theorem dX9_isDigit_7 : decode cX9_isDigit 7 = .ok (.bipush 57, 2) := by decide +kernel
theorem dX9_isDigit_9 : decode cX9_isDigit 9 = .ok (.if_icmp .gt 7, 3) := by decide +kernel
theorem dX9_isDigit_12 : decode cX9_isDigit 12 = .ok (.iconst 1, 1) := by decide +kernel
theorem dX9_isDigit_13 : decode cX9_isDigit 13 = .ok (.goto 4, 3) := by decide +kernel
theorem dX9_isDigit_16 : decode cX9_isDigit 16 = .ok (.iconst 0, 1) := by decide +kernel
theorem dX9_isDigit_17 : decode cX9_isDigit 17 = .ok (.ireturn, 1) := by decide +kernel
theorem dX10_init_0 : decode cX10_init 0 = .ok (.aload_n 0, 1) := by decide +kernel
theorem dX10_init_1 : decode cX10_init 1 = .ok (.invokespecial 3, 3) := by decide +kernel
theorem dX10_init_4 : decode cX10_init 4 = .ok (.aload_n 0, 1) := by decide +kernel
theorem dX10_init_5 : decode cX10_init 5 = .ok (.bipush 8, 2) := by decide +kernel
theorem dX10_init_7 : decode cX10_init 7 = .ok (.sipush 256, 3) := by decide +kernel
theorem dX10_init_10 : decode cX10_init 10 = .ok (.multianewarray 11 2, 4) := by decide +kernel
theorem dX10_init_14 : decode cX10_init 14 = .ok (.putfield 13, 3) := by decide +kernel
theorem dX10_init_17 : decode cX10_init 17 = .ok (.aload_n 0, 1) := by decide +kernel
theorem dX10_init_18 : decode cX10_init 18 = .ok (.sipush 512, 3) := by decide +kernel
theorem dX10_init_21 : decode cX10_init 21 = .ok (.newarray .int, 2) := by decide +kernel
theorem dX10_init_23 : decode cX10_init 23 = .ok (.putfield 18, 3) := by decide +kernel
theorem dX10_init_26 : decode cX10_init 26 = .ok (.return_, 1) := by decide +kernel
theorem dX10_open_0 : decode cX10_open 0 = .ok (.iconst 0, 1) := by decide +kernel
theorem dX10_open_1 : decode cX10_open 1 = .ok (.istore_n 2, 1) := by decide +kernel
theorem dX10_open_2 : decode cX10_open 2 = .ok (.iload_n 2, 1) := by decide +kernel
theorem dX10_open_3 : decode cX10_open 3 = .ok (.aload_n 1, 1) := by decide +kernel
theorem dX10_open_4 : decode cX10_open 4 = .ok (.getfield 22, 3) := by decide +kernel
theorem dX10_open_7 : decode cX10_open 7 = .ok (.if_icmp .ge 41, 3) := by decide +kernel
theorem dX10_open_10 : decode cX10_open 10 = .ok (.iconst 0, 1) := by decide +kernel
theorem dX10_open_11 : decode cX10_open 11 = .ok (.istore_n 3, 1) := by decide +kernel
theorem dX10_open_12 : decode cX10_open 12 = .ok (.iload_n 3, 1) := by decide +kernel
theorem dX10_open_13 : decode cX10_open 13 = .ok (.aload_n 1, 1) := by decide +kernel
theorem dX10_open_14 : decode cX10_open 14 = .ok (.invokevirtual 26, 3) := by decide +kernel
theorem dX10_open_17 : decode cX10_open 17 = .ok (.if_icmp .ge 25, 3) := by decide +kernel
theorem dX10_open_20 : decode cX10_open 20 = .ok (.aload_n 0, 1) := by decide +kernel
theorem dX10_open_21 : decode cX10_open 21 = .ok (.getfield 13, 3) := by decide +kernel
theorem dX10_open_24 : decode cX10_open 24 = .ok (.iload_n 2, 1) := by decide +kernel
theorem dX10_open_25 : decode cX10_open 25 = .ok (.aaload, 1) := by decide +kernel
theorem dX10_open_26 : decode cX10_open 26 = .ok (.iload_n 3, 1) := by decide +kernel
theorem dX10_open_27 : decode cX10_open 27 = .ok (.iload_n 3, 1) := by decide +kernel
theorem dX10_open_28 : decode cX10_open 28 = .ok (.aload_n 1, 1) := by decide +kernel
theorem dX10_open_29 : decode cX10_open 29 = .ok (.getfield 30, 3) := by decide +kernel
theorem dX10_open_32 : decode cX10_open 32 = .ok (.iload_n 2, 1) := by decide +kernel
theorem dX10_open_33 : decode cX10_open 33 = .ok (.iaload, 1) := by decide +kernel
theorem dX10_open_34 : decode cX10_open 34 = .ok (.iand, 1) := by decide +kernel
theorem dX10_open_35 : decode cX10_open 35 = .ok (.iastore, 1) := by decide +kernel
theorem dX10_open_36 : decode cX10_open 36 = .ok (.iinc 3 1, 3) := by decide +kernel
theorem dX10_open_39 : decode cX10_open 39 = .ok (.goto (-27), 3) := by decide +kernel
theorem dX10_open_42 : decode cX10_open 42 = .ok (.iinc 2 1, 3) := by decide +kernel
theorem dX10_open_45 : decode cX10_open 45 = .ok (.goto (-43), 3) := by decide +kernel
theorem dX10_open_48 : decode cX10_open 48 = .ok (.return_, 1) := by decide +kernel
theorem dX10_of_0 : decode cX10_of 0 = .ok (.aload_n 0, 1) := by decide +kernel
theorem dX10_of_1 : decode cX10_of 1 = .ok (.getfield 13, 3) := by decide +kernel
theorem dX10_of_4 : decode cX10_of 4 = .ok (.iload_n 1, 1) := by decide +kernel
theorem dX10_of_5 : decode cX10_of 5 = .ok (.ifCond .lt 13, 3) := by decide +kernel
theorem dX10_of_8 : decode cX10_of 8 = .ok (.iload_n 1, 1) := by decide +kernel
theorem dX10_of_9 : decode cX10_of 9 = .ok (.bipush 8, 2) := by decide +kernel
theorem dX10_of_11 : decode cX10_of 11 = .ok (.if_icmp .ge 7, 3) := by decide +kernel
theorem dX10_of_14 : decode cX10_of 14 = .ok (.iload_n 1, 1) := by decide +kernel
theorem dX10_of_15 : decode cX10_of 15 = .ok (.goto 4, 3) := by decide +kernel
theorem dX10_of_18 : decode cX10_of 18 = .ok (.iconst 0, 1) := by decide +kernel
theorem dX10_of_19 : decode cX10_of 19 = .ok (.aaload, 1) := by decide +kernel
theorem dX10_of_20 : decode cX10_of 20 = .ok (.areturn, 1) := by decide +kernel
theorem dX10_areAlike_0 : decode cX10_areAlike 0 = .ok (.aload_n 0, 1) := by decide +kernel
theorem dX10_areAlike_1 : decode cX10_areAlike 1 = .ok (.iload_n 1, 1) := by decide +kernel
theorem dX10_areAlike_2 : decode cX10_areAlike 2 = .ok (.invokevirtual 33, 3) := by decide +kernel
theorem dX10_areAlike_5 : decode cX10_areAlike 5 = .ok (.iload_n 2, 1) := by decide +kernel
theorem dX10_areAlike_6 : decode cX10_areAlike 6 = .ok (.iaload, 1) := by decide +kernel
theorem dX10_areAlike_7 : decode cX10_areAlike 7 = .ok (.aload_n 0, 1) := by decide +kernel
theorem dX10_areAlike_8 : decode cX10_areAlike 8 = .ok (.iload_n 1, 1) := by decide +kernel
theorem dX10_areAlike_9 : decode cX10_areAlike 9 = .ok (.invokevirtual 33, 3) := by decide +kernel
theorem dX10_areAlike_12 : decode cX10_areAlike 12 = .ok (.iload_n 3, 1) := by decide +kernel
theorem dX10_areAlike_13 : decode cX10_areAlike 13 = .ok (.iaload, 1) := by decide +kernel
theorem dX10_areAlike_14 : decode cX10_areAlike 14 = .ok (.if_icmp .ne 7, 3) := by decide +kernel
theorem dX10_areAlike_17 : decode cX10_areAlike 17 = .ok (.iconst 1, 1) := by decide +kernel
theorem dX10_areAlike_18 : decode cX10_areAlike 18 = .ok (.goto 4, 3) := by decide +kernel
theorem dX10_areAlike_21 : decode cX10_areAlike 21 = .ok (.iconst 0, 1) := by decide +kernel
theorem dX10_areAlike_22 : decode cX10_areAlike 22 = .ok (.ireturn, 1) := by decide +kernel
theorem dX10_split_0 : decode cX10_split 0 = .ok (.aload_n 0, 1) := by decide +kernel
theorem dX10_split_1 : decode cX10_split 1 = .ok (.iload_n 1, 1) := by decide +kernel
theorem dX10_split_2 : decode cX10_split 2 = .ok (.invokevirtual 33, 3) := by decide +kernel
theorem dX10_split_5 : decode cX10_split 5 = .ok (.astore 4, 2) := by decide +kernel
theorem dX10_split_7 : decode cX10_split 7 = .ok (.aload_n 0, 1) := by decide +kernel
theorem dX10_split_8 : decode cX10_split 8 = .ok (.getfield 18, 3) := by decide +kernel
theorem dX10_split_11 : decode cX10_split 11 = .ok (.iconst (-1), 1) := by decide +kernel
theorem dX10_split_12 : decode cX10_split 12 = .ok (.invokestatic 37, 3) := by decide +kernel
theorem dX10_split_15 : decode cX10_split 15 = .ok (.iconst 0, 1) := by decide +kernel
theorem dX10_split_16 : decode cX10_split 16 = .ok (.istore 5, 2) := by decide +kernel
theorem dX10_split_18 : decode cX10_split 18 = .ok (.iload 5, 2) := by decide +kernel
theorem dX10_split_20 : decode cX10_split 20 = .ok (.aload_n 3, 1) := by decide +kernel
theorem dX10_split_21 : decode cX10_split 21 = .ok (.getfield 43, 3) := by decide +kernel
theorem dX10_split_24 : decode cX10_split 24 = .ok (.if_icmp .ge 72, 3) := by decide +kernel
theorem dX10_split_27 : decode cX10_split 27 = .ok (.aload_n 3, 1) := by decide +kernel
theorem dX10_split_28 : decode cX10_split 28 = .ok (.getfield 48, 3) := by decide +kernel
theorem dX10_split_31 : decode cX10_split 31 = .ok (.iload 5, 2) := by decide +kernel
theorem dX10_split_33 : decode cX10_split 33 = .ok (.iaload, 1) := by decide +kernel
theorem dX10_split_34 : decode cX10_split 34 = .ok (.istore 6, 2) := by decide +kernel
theorem dX10_split_36 : decode cX10_split 36 = .ok (.iconst 2, 1) := by decide +kernel
theorem dX10_split_37 : decode cX10_split 37 = .ok (.aload 4, 2) := by decide +kernel
theorem dX10_split_39 : decode cX10_split 39 = .ok (.iload 6, 2) := by decide +kernel
theorem dX10_split_41 : decode cX10_split 41 = .ok (.iaload, 1) := by decide +kernel
theorem dX10_split_42 : decode cX10_split 42 = .ok (.imul, 1) := by decide +kernel
theorem dX10_split_43 : decode cX10_split 43 = .ok (.aload_n 2, 1) := by decide +kernel
theorem dX10_split_44 : decode cX10_split 44 = .ok (.iload 6, 2) := by decide +kernel
theorem dX10_split_46 : decode cX10_split 46 = .ok (.iaload, 1) := by decide +kernel
theorem dX10_split_47 : decode cX10_split 47 = .ok (.ifCond .eq 7, 3) := by decide +kernel
theorem dX10_split_50 : decode cX10_split 50 = .ok (.iconst 1, 1) := by decide +kernel
theorem dX10_split_51 : decode cX10_split 51 = .ok (.goto 4, 3) := by decide +kernel
theorem dX10_split_54 : decode cX10_split 54 = .ok (.iconst 0, 1) := by decide +kernel
theorem dX10_split_55 : decode cX10_split 55 = .ok (.iadd, 1) := by decide +kernel
theorem dX10_split_56 : decode cX10_split 56 = .ok (.istore 7, 2) := by decide +kernel
theorem dX10_split_58 : decode cX10_split 58 = .ok (.aload_n 0, 1) := by decide +kernel
theorem dX10_split_59 : decode cX10_split 59 = .ok (.getfield 18, 3) := by decide +kernel
theorem dX10_split_62 : decode cX10_split 62 = .ok (.iload 7, 2) := by decide +kernel
theorem dX10_split_64 : decode cX10_split 64 = .ok (.iaload, 1) := by decide +kernel
theorem dX10_split_65 : decode cX10_split 65 = .ok (.iconst (-1), 1) := by decide +kernel
theorem dX10_split_66 : decode cX10_split 66 = .ok (.if_icmp .ne 12, 3) := by decide +kernel
theorem dX10_split_69 : decode cX10_split 69 = .ok (.aload_n 0, 1) := by decide +kernel
theorem dX10_split_70 : decode cX10_split 70 = .ok (.getfield 18, 3) := by decide +kernel
theorem dX10_split_73 : decode cX10_split 73 = .ok (.iload 7, 2) := by decide +kernel
theorem dX10_split_75 : decode cX10_split 75 = .ok (.iload 6, 2) := by decide +kernel
theorem dX10_split_77 : decode cX10_split 77 = .ok (.iastore, 1) := by decide +kernel
theorem dX10_split_78 : decode cX10_split 78 = .ok (.aload 4, 2) := by decide +kernel
theorem dX10_split_80 : decode cX10_split 80 = .ok (.iload 6, 2) := by decide +kernel
theorem dX10_split_82 : decode cX10_split 82 = .ok (.aload_n 0, 1) := by decide +kernel
theorem dX10_split_83 : decode cX10_split 83 = .ok (.getfield 18, 3) := by decide +kernel
theorem dX10_split_86 : decode cX10_split 86 = .ok (.iload 7, 2) := by decide +kernel
theorem dX10_split_88 : decode cX10_split 88 = .ok (.iaload, 1) := by decide +kernel
theorem dX10_split_89 : decode cX10_split 89 = .ok (.iastore, 1) := by decide +kernel
theorem dX10_split_90 : decode cX10_split 90 = .ok (.iinc 5 1, 3) := by decide +kernel
theorem dX10_split_93 : decode cX10_split 93 = .ok (.goto (-75), 3) := by decide +kernel
theorem dX10_split_96 : decode cX10_split 96 = .ok (.return_, 1) := by decide +kernel
theorem dX10_copy_0 : decode cX10_copy 0 = .ok (.iconst 0, 1) := by decide +kernel
theorem dX10_copy_1 : decode cX10_copy 1 = .ok (.istore_n 2, 1) := by decide +kernel
theorem dX10_copy_2 : decode cX10_copy 2 = .ok (.iload_n 2, 1) := by decide +kernel
theorem dX10_copy_3 : decode cX10_copy 3 = .ok (.bipush 8, 2) := by decide +kernel
theorem dX10_copy_5 : decode cX10_copy 5 = .ok (.if_icmp .ge 29, 3) := by decide +kernel
theorem dX10_copy_8 : decode cX10_copy 8 = .ok (.aload_n 1, 1) := by decide +kernel
theorem dX10_copy_9 : decode cX10_copy 9 = .ok (.getfield 13, 3) := by decide +kernel
theorem dX10_copy_12 : decode cX10_copy 12 = .ok (.iload_n 2, 1) := by decide +kernel
theorem dX10_copy_13 : decode cX10_copy 13 = .ok (.aaload, 1) := by decide +kernel
theorem dX10_copy_14 : decode cX10_copy 14 = .ok (.iconst 0, 1) := by decide +kernel
theorem dX10_copy_15 : decode cX10_copy 15 = .ok (.aload_n 0, 1) := by decide +kernel
theorem dX10_copy_16 : decode cX10_copy 16 = .ok (.getfield 13, 3) := by decide +kernel
theorem dX10_copy_19 : decode cX10_copy 19 = .ok (.iload_n 2, 1) := by decide +kernel
theorem dX10_copy_20 : decode cX10_copy 20 = .ok (.aaload, 1) := by decide +kernel
theorem dX10_copy_21 : decode cX10_copy 21 = .ok (.iconst 0, 1) := by decide +kernel
theorem dX10_copy_22 : decode cX10_copy 22 = .ok (.sipush 256, 3) := by decide +kernel
theorem dX10_copy_25 : decode cX10_copy 25 = .ok (.invokestatic 51, 3) := by decide +kernel
theorem dX10_copy_28 : decode cX10_copy 28 = .ok (.iinc 2 1, 3) := by decide +kernel
theorem dX10_copy_31 : decode cX10_copy 31 = .ok (.goto (-29), 3) := by decide +kernel
theorem dX10_copy_34 : decode cX10_copy 34 = .ok (.return_, 1) := by decide +kernel
theorem dX11_init_0 : decode cX11_init 0 = .ok (.aload_n 0, 1) := by decide +kernel
theorem dX11_init_1 : decode cX11_init 1 = .ok (.invokespecial 1, 3) := by decide +kernel
theorem dX11_init_4 : decode cX11_init 4 = .ok (.aload_n 0, 1) := by decide +kernel
theorem dX11_init_5 : decode cX11_init 5 = .ok (.new 7, 3) := by decide +kernel
theorem dX11_init_8 : decode cX11_init 8 = .ok (.dup, 1) := by decide +kernel
theorem dX11_init_9 : decode cX11_init 9 = .ok (.invokespecial 9, 3) := by decide +kernel
theorem dX11_init_12 : decode cX11_init 12 = .ok (.putfield 10, 3) := by decide +kernel
theorem dX11_init_15 : decode cX11_init 15 = .ok (.aload_n 0, 1) := by decide +kernel
theorem dX11_init_16 : decode cX11_init 16 = .ok (.new 16, 3) := by decide +kernel
theorem dX11_init_19 : decode cX11_init 19 = .ok (.dup, 1) := by decide +kernel
theorem dX11_init_20 : decode cX11_init 20 = .ok (.invokespecial 18, 3) := by decide +kernel
theorem dX11_init_23 : decode cX11_init 23 = .ok (.putfield 19, 3) := by decide +kernel
theorem dX11_init_26 : decode cX11_init 26 = .ok (.aload_n 0, 1) := by decide +kernel
theorem dX11_init_27 : decode cX11_init 27 = .ok (.new 23, 3) := by decide +kernel
theorem dX11_init_30 : decode cX11_init 30 = .ok (.dup, 1) := by decide +kernel
theorem dX11_init_31 : decode cX11_init 31 = .ok (.invokespecial 25, 3) := by decide +kernel
theorem dX11_init_34 : decode cX11_init 34 = .ok (.putfield 26, 3) := by decide +kernel
theorem dX11_init_37 : decode cX11_init 37 = .ok (.aload_n 0, 1) := by decide +kernel
theorem dX11_init_38 : decode cX11_init 38 = .ok (.new 23, 3) := by decide +kernel
theorem dX11_init_41 : decode cX11_init 41 = .ok (.dup, 1) := by decide +kernel
theorem dX11_init_42 : decode cX11_init 42 = .ok (.invokespecial 25, 3) := by decide +kernel
theorem dX11_init_45 : decode cX11_init 45 = .ok (.putfield 30, 3) := by decide +kernel
theorem dX11_init_48 : decode cX11_init 48 = .ok (.aload_n 0, 1) := by decide +kernel
theorem dX11_init_49 : decode cX11_init 49 = .ok (.new 33, 3) := by decide +kernel
theorem dX11_init_52 : decode cX11_init 52 = .ok (.dup, 1) := by decide +kernel
theorem dX11_init_53 : decode cX11_init 53 = .ok (.aload_n 0, 1) := by decide +kernel
theorem dX11_init_54 : decode cX11_init 54 = .ok (.getfield 10, 3) := by decide +kernel
theorem dX11_init_57 : decode cX11_init 57 = .ok (.aload_n 0, 1) := by decide +kernel
theorem dX11_init_58 : decode cX11_init 58 = .ok (.getfield 26, 3) := by decide +kernel
theorem dX11_init_61 : decode cX11_init 61 = .ok (.aload_n 0, 1) := by decide +kernel
theorem dX11_init_62 : decode cX11_init 62 = .ok (.getfield 19, 3) := by decide +kernel
theorem dX11_init_65 : decode cX11_init 65 = .ok (.invokespecial 35, 3) := by decide +kernel
theorem dX11_init_68 : decode cX11_init 68 = .ok (.putfield 38, 3) := by decide +kernel
theorem dX11_init_71 : decode cX11_init 71 = .ok (.aload_n 0, 1) := by decide +kernel
theorem dX11_init_72 : decode cX11_init 72 = .ok (.new 42, 3) := by decide +kernel
theorem dX11_init_75 : decode cX11_init 75 = .ok (.dup, 1) := by decide +kernel
theorem dX11_init_76 : decode cX11_init 76 = .ok (.invokespecial 44, 3) := by decide +kernel
theorem dX11_init_79 : decode cX11_init 79 = .ok (.putfield 45, 3) := by decide +kernel
theorem dX11_init_82 : decode cX11_init 82 = .ok (.aload_n 0, 1) := by decide +kernel
theorem dX11_init_83 : decode cX11_init 83 = .ok (.new 49, 3) := by decide +kernel
theorem dX11_init_86 : decode cX11_init 86 = .ok (.dup, 1) := by decide +kernel
theorem dX11_init_87 : decode cX11_init 87 = .ok (.aload_n 0, 1) := by decide +kernel
theorem dX11_init_88 : decode cX11_init 88 = .ok (.getfield 26, 3) := by decide +kernel
theorem dX11_init_91 : decode cX11_init 91 = .ok (.new 51, 3) := by decide +kernel
theorem dX11_init_94 : decode cX11_init 94 = .ok (.dup, 1) := by decide +kernel
theorem dX11_init_95 : decode cX11_init 95 = .ok (.invokespecial 53, 3) := by decide +kernel
theorem dX11_init_98 : decode cX11_init 98 = .ok (.invokespecial 54, 3) := by decide +kernel
theorem dX11_init_101 : decode cX11_init 101 = .ok (.putfield 57, 3) := by decide +kernel
theorem dX11_init_104 : decode cX11_init 104 = .ok (.aload_n 0, 1) := by decide +kernel
theorem dX11_init_105 : decode cX11_init 105 = .ok (.new 49, 3) := by decide +kernel
theorem dX11_init_108 : decode cX11_init 108 = .ok (.dup, 1) := by decide +kernel
theorem dX11_init_109 : decode cX11_init 109 = .ok (.aload_n 0, 1) := by decide +kernel
theorem dX11_init_110 : decode cX11_init 110 = .ok (.getfield 26, 3) := by decide +kernel
theorem dX11_init_113 : decode cX11_init 113 = .ok (.aload_n 0, 1) := by decide +kernel
theorem dX11_init_114 : decode cX11_init 114 = .ok (.getfield 57, 3) := by decide +kernel
theorem dX11_init_117 : decode cX11_init 117 = .ok (.getfield 61, 3) := by decide +kernel
theorem dX11_init_120 : decode cX11_init 120 = .ok (.invokespecial 54, 3) := by decide +kernel
theorem dX11_init_123 : decode cX11_init 123 = .ok (.putfield 65, 3) := by decide +kernel
theorem dX11_init_126 : decode cX11_init 126 = .ok (.aload_n 0, 1) := by decide +kernel
theorem dX11_init_127 : decode cX11_init 127 = .ok (.iconst 3, 1) := by decide +kernel
theorem dX11_init_128 : decode cX11_init 128 = .ok (.anewarray 49, 3) := by decide +kernel
theorem dX11_init_131 : decode cX11_init 131 = .ok (.putfield 68, 3) := by decide +kernel
theorem dX11_init_134 : decode cX11_init 134 = .ok (.aload_n 0, 1) := by decide +kernel
theorem dX11_init_135 : decode cX11_init 135 = .ok (.iconst 3, 1) := by decide +kernel
theorem dX11_init_136 : decode cX11_init 136 = .ok (.newarray .boolean, 2) := by decide +kernel
theorem dX11_init_138 : decode cX11_init 138 = .ok (.putfield 72, 3) := by decide +kernel
theorem dX11_init_141 : decode cX11_init 141 = .ok (.aload_n 0, 1) := by decide +kernel
theorem dX11_init_142 : decode cX11_init 142 = .ok (.new 76, 3) := by decide +kernel
theorem dX11_init_145 : decode cX11_init 145 = .ok (.dup, 1) := by decide +kernel
theorem dX11_init_146 : decode cX11_init 146 = .ok (.invokespecial 78, 3) := by decide +kernel
theorem dX11_init_149 : decode cX11_init 149 = .ok (.putfield 79, 3) := by decide +kernel
theorem dX11_init_152 : decode cX11_init 152 = .ok (.aload_n 0, 1) := by decide +kernel
theorem dX11_init_153 : decode cX11_init 153 = .ok (.new 83, 3) := by decide +kernel
theorem dX11_init_156 : decode cX11_init 156 = .ok (.dup, 1) := by decide +kernel
theorem dX11_init_157 : decode cX11_init 157 = .ok (.aload_n 0, 1) := by decide +kernel
theorem dX11_init_158 : decode cX11_init 158 = .ok (.getfield 26, 3) := by decide +kernel
theorem dX11_init_161 : decode cX11_init 161 = .ok (.invokespecial 85, 3) := by decide +kernel
theorem dX11_init_164 : decode cX11_init 164 = .ok (.putfield 88, 3) := by decide +kernel
theorem dX11_init_167 : decode cX11_init 167 = .ok (.aload_n 0, 1) := by decide +kernel
theorem dX11_init_168 : decode cX11_init 168 = .ok (.sipush 256, 3) := by decide +kernel
theorem dX11_init_171 : decode cX11_init 171 = .ok (.newarray .long, 2) := by decide +kernel
theorem dX11_init_173 : decode cX11_init 173 = .ok (.putfield 92, 3) := by decide +kernel
theorem dX11_init_176 : decode cX11_init 176 = .ok (.iconst 0, 1) := by decide +kernel
theorem dX11_init_177 : decode cX11_init 177 = .ok (.istore_n 1, 1) := by decide +kernel
theorem dX11_init_178 : decode cX11_init 178 = .ok (.iload_n 1, 1) := by decide +kernel
theorem dX11_init_179 : decode cX11_init 179 = .ok (.iconst 3, 1) := by decide +kernel
theorem dX11_init_180 : decode cX11_init 180 = .ok (.if_icmp .ge 33, 3) := by decide +kernel
theorem dX11_init_183 : decode cX11_init 183 = .ok (.aload_n 0, 1) := by decide +kernel
theorem dX11_init_184 : decode cX11_init 184 = .ok (.getfield 68, 3) := by decide +kernel
theorem dX11_init_187 : decode cX11_init 187 = .ok (.iload_n 1, 1) := by decide +kernel
theorem dX11_init_188 : decode cX11_init 188 = .ok (.new 49, 3) := by decide +kernel
theorem dX11_init_191 : decode cX11_init 191 = .ok (.dup, 1) := by decide +kernel
theorem dX11_init_192 : decode cX11_init 192 = .ok (.aload_n 0, 1) := by decide +kernel
theorem dX11_init_193 : decode cX11_init 193 = .ok (.getfield 26, 3) := by decide +kernel
theorem dX11_init_196 : decode cX11_init 196 = .ok (.new 51, 3) := by decide +kernel
theorem dX11_init_199 : decode cX11_init 199 = .ok (.dup, 1) := by decide +kernel
theorem dX11_init_200 : decode cX11_init 200 = .ok (.invokespecial 53, 3) := by decide +kernel
theorem dX11_init_203 : decode cX11_init 203 = .ok (.invokespecial 54, 3) := by decide +kernel
theorem dX11_init_206 : decode cX11_init 206 = .ok (.aastore, 1) := by decide +kernel
theorem dX11_init_207 : decode cX11_init 207 = .ok (.iinc 1 1, 3) := by decide +kernel
theorem dX11_init_210 : decode cX11_init 210 = .ok (.goto (-32), 3) := by decide +kernel
theorem dX11_init_213 : decode cX11_init 213 = .ok (.aload_n 0, 1) := by decide +kernel
theorem dX11_init_214 : decode cX11_init 214 = .ok (.getfield 57, 3) := by decide +kernel
theorem dX11_init_217 : decode cX11_init 217 = .ok (.aload_n 0, 1) := by decide +kernel
theorem dX11_init_218 : decode cX11_init 218 = .ok (.getfield 26, 3) := by decide +kernel
theorem dX11_init_221 : decode cX11_init 221 = .ok (.invokevirtual 96, 3) := by decide +kernel
theorem dX11_init_224 : decode cX11_init 224 = .ok (.return_, 1) := by decide +kernel
theorem dX11_feed_0 : decode cX11_feed 0 = .ok (.aload_n 0, 1) := by decide +kernel
theorem dX11_feed_1 : decode cX11_feed 1 = .ok (.getfield 10, 3) := by decide +kernel
theorem dX11_feed_4 : decode cX11_feed 4 = .ok (.iload_n 1, 1) := by decide +kernel
theorem dX11_feed_5 : decode cX11_feed 5 = .ok (.iload_n 2, 1) := by decide +kernel
theorem dX11_feed_6 : decode cX11_feed 6 = .ok (.iload_n 3, 1) := by decide +kernel
theorem dX11_feed_7 : decode cX11_feed 7 = .ok (.iload 4, 2) := by decide +kernel
theorem dX11_feed_9 : decode cX11_feed 9 = .ok (.iload 5, 2) := by decide +kernel
theorem dX11_feed_11 : decode cX11_feed 11 = .ok (.invokevirtual 99, 3) := by decide +kernel
theorem dX11_feed_14 : decode cX11_feed 14 = .ok (.ireturn, 1) := by decide +kernel
theorem dX11_end_0 : decode cX11_end 0 = .ok (.iload_n 1, 1) := by decide +kernel
theorem dX11_end_1 : decode cX11_end 1 = .ok (.ifCond .lt 14, 3) := by decide +kernel
theorem dX11_end_4 : decode cX11_end 4 = .ok (.iload_n 1, 1) := by decide +kernel
theorem dX11_end_5 : decode cX11_end 5 = .ok (.aload_n 0, 1) := by decide +kernel
theorem dX11_end_6 : decode cX11_end 6 = .ok (.getfield 10, 3) := by decide +kernel
theorem dX11_end_9 : decode cX11_end 9 = .ok (.getfield 103, 3) := by decide +kernel
theorem dX11_end_12 : decode cX11_end 12 = .ok (.if_icmp .le 5, 3) := by decide +kernel
theorem dX11_end_15 : decode cX11_end 15 = .ok (.iconst (-1), 1) := by decide +kernel
theorem dX11_end_16 : decode cX11_end 16 = .ok (.ireturn, 1) := by decide +kernel
theorem dX11_end_17 : decode cX11_end 17 = .ok (.aload_n 0, 1) := by decide +kernel
theorem dX11_end_18 : decode cX11_end 18 = .ok (.getfield 10, 3) := by decide +kernel
theorem dX11_end_21 : decode cX11_end 21 = .ok (.iload_n 1, 1) := by decide +kernel
theorem dX11_end_22 : decode cX11_end 22 = .ok (.putfield 103, 3) := by decide +kernel
theorem dX11_end_25 : decode cX11_end 25 = .ok (.iload_n 1, 1) := by decide +kernel
theorem dX11_end_26 : decode cX11_end 26 = .ok (.ireturn, 1) := by decide +kernel
theorem dX11_island_0 : decode cX11_island 0 = .ok (.aload_n 0, 1) := by decide +kernel
theorem dX11_island_1 : decode cX11_island 1 = .ok (.getfield 38, 3) := by decide +kernel
theorem dX11_island_4 : decode cX11_island 4 = .ok (.aload_n 0, 1) := by decide +kernel
theorem dX11_island_5 : decode cX11_island 5 = .ok (.getfield 30, 3) := by decide +kernel
theorem dX11_island_8 : decode cX11_island 8 = .ok (.invokevirtual 107, 3) := by decide +kernel
theorem dX11_island_11 : decode cX11_island 11 = .ok (.istore_n 1, 1) := by decide +kernel
theorem dX11_island_12 : decode cX11_island 12 = .ok (.aload_n 0, 1) := by decide +kernel
theorem dX11_island_13 : decode cX11_island 13 = .ok (.getfield 10, 3) := by decide +kernel
theorem dX11_island_16 : decode cX11_island 16 = .ok (.iconst 0, 1) := by decide +kernel
theorem dX11_island_17 : decode cX11_island 17 = .ok (.putfield 103, 3) := by decide +kernel
theorem dX11_island_20 : decode cX11_island 20 = .ok (.iload_n 1, 1) := by decide +kernel
theorem dX11_island_21 : decode cX11_island 21 = .ok (.ifCond .ne 5, 3) := by decide +kernel
theorem dX11_island_24 : decode cX11_island 24 = .ok (.iconst (-1), 1) := by decide +kernel
theorem dX11_island_25 : decode cX11_island 25 = .ok (.ireturn, 1) := by decide +kernel
theorem dX11_island_26 : decode cX11_island 26 = .ok (.aload_n 0, 1) := by decide +kernel
theorem dX11_island_27 : decode cX11_island 27 = .ok (.getfield 26, 3) := by decide +kernel
theorem dX11_island_30 : decode cX11_island 30 = .ok (.astore_n 2, 1) := by decide +kernel
theorem dX11_island_31 : decode cX11_island 31 = .ok (.aload_n 0, 1) := by decide +kernel
theorem dX11_island_32 : decode cX11_island 32 = .ok (.aload_n 0, 1) := by decide +kernel
theorem dX11_island_33 : decode cX11_island 33 = .ok (.getfield 30, 3) := by decide +kernel
theorem dX11_island_36 : decode cX11_island 36 = .ok (.putfield 26, 3) := by decide +kernel
theorem dX11_island_39 : decode cX11_island 39 = .ok (.aload_n 0, 1) := by decide +kernel
theorem dX11_island_40 : decode cX11_island 40 = .ok (.aload_n 2, 1) := by decide +kernel
theorem dX11_island_41 : decode cX11_island 41 = .ok (.putfield 30, 3) := by decide +kernel
theorem dX11_island_44 : decode cX11_island 44 = .ok (.aload_n 0, 1) := by decide +kernel
theorem dX11_island_45 : decode cX11_island 45 = .ok (.getfield 57, 3) := by decide +kernel
theorem dX11_island_48 : decode cX11_island 48 = .ok (.aload_n 0, 1) := by decide +kernel
theorem dX11_island_49 : decode cX11_island 49 = .ok (.getfield 26, 3) := by decide +kernel
theorem dX11_island_52 : decode cX11_island 52 = .ok (.invokevirtual 96, 3) := by decide +kernel
theorem dX11_island_55 : decode cX11_island 55 = .ok (.iconst 0, 1) := by decide +kernel
theorem dX11_island_56 : decode cX11_island 56 = .ok (.istore_n 3, 1) := by decide +kernel
theorem dX11_island_57 : decode cX11_island 57 = .ok (.iload_n 3, 1) := by decide +kernel
theorem dX11_island_58 : decode cX11_island 58 = .ok (.iconst 3, 1) := by decide +kernel
theorem dX11_island_59 : decode cX11_island 59 = .ok (.if_icmp .ge 16, 3) := by decide +kernel
theorem dX11_island_62 : decode cX11_island 62 = .ok (.aload_n 0, 1) := by decide +kernel
theorem dX11_island_63 : decode cX11_island 63 = .ok (.getfield 72, 3) := by decide +kernel
theorem dX11_island_66 : decode cX11_island 66 = .ok (.iload_n 3, 1) := by decide +kernel
theorem dX11_island_67 : decode cX11_island 67 = .ok (.iconst 0, 1) := by decide +kernel
theorem dX11_island_68 : decode cX11_island 68 = .ok (.bastore, 1) := by decide +kernel
theorem dX11_island_69 : decode cX11_island 69 = .ok (.iinc 3 1, 3) := by decide +kernel
theorem dX11_island_72 : decode cX11_island 72 = .ok (.goto (-15), 3) := by decide +kernel
theorem dX11_island_75 : decode cX11_island 75 = .ok (.aload_n 0, 1) := by decide +kernel
theorem dX11_island_76 : decode cX11_island 76 = .ok (.getfield 79, 3) := by decide +kernel
theorem dX11_island_79 : decode cX11_island 79 = .ok (.iconst 0, 1) := by decide +kernel
theorem dX11_island_80 : decode cX11_island 80 = .ok (.putfield 111, 3) := by decide +kernel
theorem dX11_island_83 : decode cX11_island 83 = .ok (.aload_n 0, 1) := by decide +kernel
theorem dX11_island_84 : decode cX11_island 84 = .ok (.getfield 88, 3) := by decide +kernel
theorem dX11_island_87 : decode cX11_island 87 = .ok (.iconst 0, 1) := by decide +kernel
theorem dX11_island_88 : decode cX11_island 88 = .ok (.putfield 114, 3) := by decide +kernel
theorem dX11_island_91 : decode cX11_island 91 = .ok (.aload_n 0, 1) := by decide +kernel
theorem dX11_island_92 : decode cX11_island 92 = .ok (.getfield 26, 3) := by decide +kernel
theorem dX11_island_95 : decode cX11_island 95 = .ok (.getfield 118, 3) := by decide +kernel
theorem dX11_island_98 : decode cX11_island 98 = .ok (.ireturn, 1) := by decide +kernel
theorem dX11_fault_0 : decode cX11_fault 0 = .ok (.iload_n 1, 1) := by decide +kernel
theorem dX11_fault_1 : decode cX11_fault 1 = .ok (.ifCond .ne 11, 3) := by decide +kernel
theorem dX11_fault_4 : decode cX11_fault 4 = .ok (.aload_n 0, 1) := by decide +kernel
theorem dX11_fault_5 : decode cX11_fault 5 = .ok (.getfield 38, 3) := by decide +kernel
theorem dX11_fault_8 : decode cX11_fault 8 = .ok (.getfield 121, 3) := by decide +kernel
theorem dX11_fault_11 : decode cX11_fault 11 = .ok (.ireturn, 1) := by decide +kernel
theorem dX11_fault_12 : decode cX11_fault 12 = .ok (.iload_n 1, 1) := by decide +kernel
theorem dX11_fault_13 : decode cX11_fault 13 = .ok (.iconst 1, 1) := by decide +kernel
theorem dX11_fault_14 : decode cX11_fault 14 = .ok (.if_icmp .ne 13, 3) := by decide +kernel
theorem dX11_fault_17 : decode cX11_fault 17 = .ok (.aload_n 0, 1) := by decide +kernel
theorem dX11_fault_18 : decode cX11_fault 18 = .ok (.getfield 38, 3) := by decide +kernel
theorem dX11_fault_21 : decode cX11_fault 21 = .ok (.getfield 124, 3) := by decide +kernel
theorem dX11_fault_24 : decode cX11_fault 24 = .ok (.goto 4, 3) := by decide +kernel
theorem dX11_fault_27 : decode cX11_fault 27 = .ok (.iconst (-1), 1) := by decide +kernel
theorem dX11_fault_28 : decode cX11_fault 28 = .ok (.ireturn, 1) := by decide +kernel
theorem dX11_sees_0 : decode cX11_sees 0 = .ok (.aload_n 0, 1) := by decide +kernel
theorem dX11_sees_1 : decode cX11_sees 1 = .ok (.getfield 26, 3) := by decide +kernel
theorem dX11_sees_4 : decode cX11_sees 4 = .ok (.iload_n 1, 1) := by decide +kernel
theorem dX11_sees_5 : decode cX11_sees 5 = .ok (.invokevirtual 127, 3) := by decide +kernel
theorem dX11_sees_8 : decode cX11_sees 8 = .ok (.ifCond .eq 15, 3) := by decide +kernel
theorem dX11_sees_11 : decode cX11_sees 11 = .ok (.aload_n 0, 1) := by decide +kernel
theorem dX11_sees_12 : decode cX11_sees 12 = .ok (.getfield 26, 3) := by decide +kernel
theorem dX11_sees_15 : decode cX11_sees 15 = .ok (.getfield 131, 3) := by decide +kernel
theorem dX11_sees_18 : decode cX11_sees 18 = .ok (.iload_n 1, 1) := by decide +kernel
theorem dX11_sees_19 : decode cX11_sees 19 = .ok (.iaload, 1) := by decide +kernel
theorem dX11_sees_20 : decode cX11_sees 20 = .ok (.goto 4, 3) := by decide +kernel
theorem dX11_sees_23 : decode cX11_sees 23 = .ok (.iconst (-1), 1) := by decide +kernel
theorem dX11_sees_24 : decode cX11_sees 24 = .ok (.ireturn, 1) := by decide +kernel
theorem dX11_worlds_0 : decode cX11_worlds 0 = .ok (.aload_n 0, 1) := by decide +kernel
theorem dX11_worlds_1 : decode cX11_worlds 1 = .ok (.getfield 57, 3) := by decide +kernel
theorem dX11_worlds_4 : decode cX11_worlds 4 = .ok (.getfield 135, 3) := by decide +kernel
theorem dX11_worlds_7 : decode cX11_worlds 7 = .ok (.ireturn, 1) := by decide +kernel
theorem dX11_possible_0 : decode cX11_possible 0 = .ok (.aload_n 0, 1) := by decide +kernel
theorem dX11_possible_1 : decode cX11_possible 1 = .ok (.getfield 26, 3) := by decide +kernel
theorem dX11_possible_4 : decode cX11_possible 4 = .ok (.iload_n 1, 1) := by decide +kernel
theorem dX11_possible_5 : decode cX11_possible 5 = .ok (.invokevirtual 136, 3) := by decide +kernel
theorem dX11_possible_8 : decode cX11_possible 8 = .ok (.ifCond .ne 5, 3) := by decide +kernel
theorem dX11_possible_11 : decode cX11_possible 11 = .ok (.iconst (-1), 1) := by decide +kernel
theorem dX11_possible_12 : decode cX11_possible 12 = .ok (.ireturn, 1) := by decide +kernel
theorem dX11_possible_13 : decode cX11_possible 13 = .ok (.aload_n 0, 1) := by decide +kernel
theorem dX11_possible_14 : decode cX11_possible 14 = .ok (.getfield 57, 3) := by decide +kernel
theorem dX11_possible_17 : decode cX11_possible 17 = .ok (.iload_n 1, 1) := by decide +kernel
theorem dX11_possible_18 : decode cX11_possible 18 = .ok (.invokevirtual 139, 3) := by decide +kernel
theorem dX11_possible_21 : decode cX11_possible 21 = .ok (.ifCond .eq 7, 3) := by decide +kernel
theorem dX11_possible_24 : decode cX11_possible 24 = .ok (.iconst 1, 1) := by decide +kernel
theorem dX11_possible_25 : decode cX11_possible 25 = .ok (.goto 4, 3) := by decide +kernel
theorem dX11_possible_28 : decode cX11_possible 28 = .ok (.iconst 0, 1) := by decide +kernel
theorem dX11_possible_29 : decode cX11_possible 29 = .ok (.ireturn, 1) := by decide +kernel
theorem dX11_like_0 : decode cX11_like 0 = .ok (.aload_n 0, 1) := by decide +kernel
theorem dX11_like_1 : decode cX11_like 1 = .ok (.getfield 26, 3) := by decide +kernel
theorem dX11_like_4 : decode cX11_like 4 = .ok (.iload_n 1, 1) := by decide +kernel
theorem dX11_like_5 : decode cX11_like 5 = .ok (.invokevirtual 127, 3) := by decide +kernel
theorem dX11_like_8 : decode cX11_like 8 = .ok (.ifCond .eq 25, 3) := by decide +kernel
theorem dX11_like_11 : decode cX11_like 11 = .ok (.aload_n 0, 1) := by decide +kernel
theorem dX11_like_12 : decode cX11_like 12 = .ok (.getfield 57, 3) := by decide +kernel
theorem dX11_like_15 : decode cX11_like 15 = .ok (.iload_n 2, 1) := by decide +kernel
theorem dX11_like_16 : decode cX11_like 16 = .ok (.invokevirtual 139, 3) := by decide +kernel
theorem dX11_like_19 : decode cX11_like 19 = .ok (.ifCond .eq 14, 3) := by decide +kernel
theorem dX11_like_22 : decode cX11_like 22 = .ok (.aload_n 0, 1) := by decide +kernel
theorem dX11_like_23 : decode cX11_like 23 = .ok (.getfield 57, 3) := by decide +kernel
theorem dX11_like_26 : decode cX11_like 26 = .ok (.iload_n 3, 1) := by decide +kernel
theorem dX11_like_27 : decode cX11_like 27 = .ok (.invokevirtual 139, 3) := by decide +kernel
theorem dX11_like_30 : decode cX11_like 30 = .ok (.ifCond .ne 5, 3) := by decide +kernel
theorem dX11_like_33 : decode cX11_like 33 = .ok (.iconst (-1), 1) := by decide +kernel
theorem dX11_like_34 : decode cX11_like 34 = .ok (.ireturn, 1) := by decide +kernel
theorem dX11_like_35 : decode cX11_like 35 = .ok (.aload_n 0, 1) := by decide +kernel
theorem dX11_like_36 : decode cX11_like 36 = .ok (.getfield 57, 3) := by decide +kernel
theorem dX11_like_39 : decode cX11_like 39 = .ok (.getfield 61, 3) := by decide +kernel
theorem dX11_like_42 : decode cX11_like 42 = .ok (.iload_n 1, 1) := by decide +kernel
theorem dX11_like_43 : decode cX11_like 43 = .ok (.iload_n 2, 1) := by decide +kernel
theorem dX11_like_44 : decode cX11_like 44 = .ok (.iload_n 3, 1) := by decide +kernel
theorem dX11_like_45 : decode cX11_like 45 = .ok (.invokevirtual 142, 3) := by decide +kernel
theorem dX11_like_48 : decode cX11_like 48 = .ok (.ifCond .eq 7, 3) := by decide +kernel
theorem dX11_like_51 : decode cX11_like 51 = .ok (.iconst 1, 1) := by decide +kernel
theorem dX11_like_52 : decode cX11_like 52 = .ok (.goto 4, 3) := by decide +kernel
theorem dX11_like_55 : decode cX11_like 55 = .ok (.iconst 0, 1) := by decide +kernel
theorem dX11_like_56 : decode cX11_like 56 = .ok (.ireturn, 1) := by decide +kernel
theorem dX11_own_0 : decode cX11_own 0 = .ok (.aload_n 0, 1) := by decide +kernel
theorem dX11_own_1 : decode cX11_own 1 = .ok (.getfield 26, 3) := by decide +kernel
theorem dX11_own_4 : decode cX11_own 4 = .ok (.iload_n 1, 1) := by decide +kernel
theorem dX11_own_5 : decode cX11_own 5 = .ok (.invokevirtual 127, 3) := by decide +kernel
theorem dX11_own_8 : decode cX11_own 8 = .ok (.ifCond .eq 18, 3) := by decide +kernel
theorem dX11_own_11 : decode cX11_own 11 = .ok (.aload_n 0, 1) := by decide +kernel
theorem dX11_own_12 : decode cX11_own 12 = .ok (.getfield 45, 3) := by decide +kernel
theorem dX11_own_15 : decode cX11_own 15 = .ok (.aload_n 0, 1) := by decide +kernel
theorem dX11_own_16 : decode cX11_own 16 = .ok (.getfield 57, 3) := by decide +kernel
theorem dX11_own_19 : decode cX11_own 19 = .ok (.iload_n 1, 1) := by decide +kernel
theorem dX11_own_20 : decode cX11_own 20 = .ok (.invokevirtual 146, 3) := by decide +kernel
theorem dX11_own_23 : decode cX11_own 23 = .ok (.goto 4, 3) := by decide +kernel
theorem dX11_own_26 : decode cX11_own 26 = .ok (.iconst (-1), 1) := by decide +kernel
theorem dX11_own_27 : decode cX11_own 27 = .ok (.ireturn, 1) := by decide +kernel
theorem dX11_ask_0 : decode cX11_ask 0 = .ok (.aload_n 0, 1) := by decide +kernel
theorem dX11_ask_1 : decode cX11_ask 1 = .ok (.invokevirtual 150, 3) := by decide +kernel
theorem dX11_ask_4 : decode cX11_ask 4 = .ok (.ifCond .eq 21, 3) := by decide +kernel
theorem dX11_ask_7 : decode cX11_ask 7 = .ok (.aload_n 0, 1) := by decide +kernel
theorem dX11_ask_8 : decode cX11_ask 8 = .ok (.getfield 45, 3) := by decide +kernel
theorem dX11_ask_11 : decode cX11_ask 11 = .ok (.invokevirtual 154, 3) := by decide +kernel
theorem dX11_ask_14 : decode cX11_ask 14 = .ok (.aload_n 0, 1) := by decide +kernel
theorem dX11_ask_15 : decode cX11_ask 15 = .ok (.getfield 26, 3) := by decide +kernel
theorem dX11_ask_18 : decode cX11_ask 18 = .ok (.getfield 158, 3) := by decide +kernel
theorem dX11_ask_21 : decode cX11_ask 21 = .ok (.iaload, 1) := by decide +kernel
theorem dX11_ask_22 : decode cX11_ask 22 = .ok (.goto 5, 3) := by decide +kernel
theorem dX11_ask_25 : decode cX11_ask 25 = .ok (.ldc 161, 2) := by decide +kernel
theorem dX11_ask_27 : decode cX11_ask 27 = .ok (.ireturn, 1) := by decide +kernel
theorem dX11_holds_0 : decode cX11_holds 0 = .ok (.aload_n 0, 1) := by decide +kernel
theorem dX11_holds_1 : decode cX11_holds 1 = .ok (.invokevirtual 150, 3) := by decide +kernel
theorem dX11_holds_4 : decode cX11_holds 4 = .ok (.ifCond .eq 20, 3) := by decide +kernel
theorem dX11_holds_7 : decode cX11_holds 7 = .ok (.aload_n 0, 1) := by decide +kernel
theorem dX11_holds_8 : decode cX11_holds 8 = .ok (.getfield 57, 3) := by decide +kernel
theorem dX11_holds_11 : decode cX11_holds 11 = .ok (.aload_n 0, 1) := by decide +kernel
theorem dX11_holds_12 : decode cX11_holds 12 = .ok (.getfield 45, 3) := by decide +kernel
theorem dX11_holds_15 : decode cX11_holds 15 = .ok (.invokevirtual 154, 3) := by decide +kernel
theorem dX11_holds_18 : decode cX11_holds 18 = .ok (.invokevirtual 162, 3) := by decide +kernel
theorem dX11_holds_21 : decode cX11_holds 21 = .ok (.goto 4, 3) := by decide +kernel
theorem dX11_holds_24 : decode cX11_holds 24 = .ok (.iconst (-1), 1) := by decide +kernel
theorem dX11_holds_25 : decode cX11_holds 25 = .ok (.ireturn, 1) := by decide +kernel
theorem dX11_deep_0 : decode cX11_deep 0 = .ok (.aload_n 0, 1) := by decide +kernel
theorem dX11_deep_1 : decode cX11_deep 1 = .ok (.invokevirtual 150, 3) := by decide +kernel
theorem dX11_deep_4 : decode cX11_deep 4 = .ok (.ifCond .eq 17, 3) := by decide +kernel
theorem dX11_deep_7 : decode cX11_deep 7 = .ok (.aload_n 0, 1) := by decide +kernel
theorem dX11_deep_8 : decode cX11_deep 8 = .ok (.getfield 45, 3) := by decide +kernel
theorem dX11_deep_11 : decode cX11_deep 11 = .ok (.aload_n 0, 1) := by decide +kernel
theorem dX11_deep_12 : decode cX11_deep 12 = .ok (.getfield 57, 3) := by decide +kernel
theorem dX11_deep_15 : decode cX11_deep 15 = .ok (.invokevirtual 166, 3) := by decide +kernel
theorem dX11_deep_18 : decode cX11_deep 18 = .ok (.goto 5, 3) := by decide +kernel
theorem dX11_deep_21 : decode cX11_deep 21 = .ok (.ldc 161, 2) := by decide +kernel
theorem dX11_deep_23 : decode cX11_deep 23 = .ok (.ireturn, 1) := by decide +kernel
theorem dX11_say_0 : decode cX11_say 0 = .ok (.aload_n 0, 1) := by decide +kernel
theorem dX11_say_1 : decode cX11_say 1 = .ok (.invokevirtual 150, 3) := by decide +kernel
theorem dX11_say_4 : decode cX11_say 4 = .ok (.ifCond .eq 20, 3) := by decide +kernel
theorem dX11_say_7 : decode cX11_say 7 = .ok (.aload_n 0, 1) := by decide +kernel
theorem dX11_say_8 : decode cX11_say 8 = .ok (.getfield 57, 3) := by decide +kernel
theorem dX11_say_11 : decode cX11_say 11 = .ok (.aload_n 0, 1) := by decide +kernel
theorem dX11_say_12 : decode cX11_say 12 = .ok (.getfield 45, 3) := by decide +kernel
theorem dX11_say_15 : decode cX11_say 15 = .ok (.invokevirtual 154, 3) := by decide +kernel
theorem dX11_say_18 : decode cX11_say 18 = .ok (.invokevirtual 170, 3) := by decide +kernel
theorem dX11_say_21 : decode cX11_say 21 = .ok (.goto 4, 3) := by decide +kernel
theorem dX11_say_24 : decode cX11_say 24 = .ok (.iconst (-1), 1) := by decide +kernel
theorem dX11_say_25 : decode cX11_say 25 = .ok (.ireturn, 1) := by decide +kernel
theorem dX11_saying_0 : decode cX11_saying 0 = .ok (.iload_n 1, 1) := by decide +kernel
theorem dX11_saying_1 : decode cX11_saying 1 = .ok (.ifCond .lt 14, 3) := by decide +kernel
theorem dX11_saying_4 : decode cX11_saying 4 = .ok (.iload_n 1, 1) := by decide +kernel
theorem dX11_saying_5 : decode cX11_saying 5 = .ok (.aload_n 0, 1) := by decide +kernel
theorem dX11_saying_6 : decode cX11_saying 6 = .ok (.getfield 26, 3) := by decide +kernel
theorem dX11_saying_9 : decode cX11_saying 9 = .ok (.getfield 173, 3) := by decide +kernel
theorem dX11_saying_12 : decode cX11_saying 12 = .ok (.if_icmp .lt 5, 3) := by decide +kernel
theorem dX11_saying_15 : decode cX11_saying 15 = .ok (.iconst (-1), 1) := by decide +kernel
theorem dX11_saying_16 : decode cX11_saying 16 = .ok (.ireturn, 1) := by decide +kernel
theorem dX11_saying_17 : decode cX11_saying 17 = .ok (.aload_n 0, 1) := by decide +kernel
theorem dX11_saying_18 : decode cX11_saying 18 = .ok (.getfield 45, 3) := by decide +kernel
theorem dX11_saying_21 : decode cX11_saying 21 = .ok (.aload_n 0, 1) := by decide +kernel
theorem dX11_saying_22 : decode cX11_saying 22 = .ok (.getfield 57, 3) := by decide +kernel
theorem dX11_saying_25 : decode cX11_saying 25 = .ok (.iload_n 1, 1) := by decide +kernel
theorem dX11_saying_26 : decode cX11_saying 26 = .ok (.invokevirtual 176, 3) := by decide +kernel
theorem dX11_saying_29 : decode cX11_saying 29 = .ok (.aload_n 0, 1) := by decide +kernel
theorem dX11_saying_30 : decode cX11_saying 30 = .ok (.getfield 57, 3) := by decide +kernel
theorem dX11_saying_33 : decode cX11_saying 33 = .ok (.aload_n 0, 1) := by decide +kernel
theorem dX11_saying_34 : decode cX11_saying 34 = .ok (.getfield 45, 3) := by decide +kernel
theorem dX11_saying_37 : decode cX11_saying 37 = .ok (.invokevirtual 154, 3) := by decide +kernel
theorem dX11_saying_40 : decode cX11_saying 40 = .ok (.invokevirtual 170, 3) := by decide +kernel
theorem dX11_saying_43 : decode cX11_saying 43 = .ok (.ireturn, 1) := by decide +kernel
theorem dX11_whisper_0 : decode cX11_whisper 0 = .ok (.aload_n 0, 1) := by decide +kernel
theorem dX11_whisper_1 : decode cX11_whisper 1 = .ok (.invokevirtual 150, 3) := by decide +kernel
theorem dX11_whisper_4 : decode cX11_whisper 4 = .ok (.ifCond .eq 26, 3) := by decide +kernel
theorem dX11_whisper_7 : decode cX11_whisper 7 = .ok (.aload_n 0, 1) := by decide +kernel
theorem dX11_whisper_8 : decode cX11_whisper 8 = .ok (.getfield 26, 3) := by decide +kernel
theorem dX11_whisper_11 : decode cX11_whisper 11 = .ok (.iload_n 1, 1) := by decide +kernel
theorem dX11_whisper_12 : decode cX11_whisper 12 = .ok (.invokevirtual 180, 3) := by decide +kernel
theorem dX11_whisper_15 : decode cX11_whisper 15 = .ok (.ifCond .eq 15, 3) := by decide +kernel
theorem dX11_whisper_18 : decode cX11_whisper 18 = .ok (.aload_n 0, 1) := by decide +kernel
theorem dX11_whisper_19 : decode cX11_whisper 19 = .ok (.getfield 57, 3) := by decide +kernel
theorem dX11_whisper_22 : decode cX11_whisper 22 = .ok (.getfield 183, 3) := by decide +kernel
theorem dX11_whisper_25 : decode cX11_whisper 25 = .ok (.bipush 8, 2) := by decide +kernel
theorem dX11_whisper_27 : decode cX11_whisper 27 = .ok (.if_icmp .lt 5, 3) := by decide +kernel
theorem dX11_whisper_30 : decode cX11_whisper 30 = .ok (.iconst (-1), 1) := by decide +kernel
theorem dX11_whisper_31 : decode cX11_whisper 31 = .ok (.ireturn, 1) := by decide +kernel
theorem dX11_whisper_32 : decode cX11_whisper 32 = .ok (.aload_n 0, 1) := by decide +kernel
theorem dX11_whisper_33 : decode cX11_whisper 33 = .ok (.getfield 45, 3) := by decide +kernel
theorem dX11_whisper_36 : decode cX11_whisper 36 = .ok (.invokevirtual 154, 3) := by decide +kernel
theorem dX11_whisper_39 : decode cX11_whisper 39 = .ok (.astore_n 2, 1) := by decide +kernel
theorem dX11_whisper_40 : decode cX11_whisper 40 = .ok (.iconst 0, 1) := by decide +kernel
theorem dX11_whisper_41 : decode cX11_whisper 41 = .ok (.istore_n 3, 1) := by decide +kernel
theorem dX11_whisper_42 : decode cX11_whisper 42 = .ok (.iload_n 3, 1) := by decide +kernel
theorem dX11_whisper_43 : decode cX11_whisper 43 = .ok (.aload_n 0, 1) := by decide +kernel
theorem dX11_whisper_44 : decode cX11_whisper 44 = .ok (.getfield 26, 3) := by decide +kernel
theorem dX11_whisper_47 : decode cX11_whisper 47 = .ok (.getfield 118, 3) := by decide +kernel
theorem dX11_whisper_50 : decode cX11_whisper 50 = .ok (.if_icmp .ge 34, 3) := by decide +kernel
theorem dX11_whisper_53 : decode cX11_whisper 53 = .ok (.iload_n 1, 1) := by decide +kernel
theorem dX11_whisper_54 : decode cX11_whisper 54 = .ok (.iload_n 3, 1) := by decide +kernel
theorem dX11_whisper_55 : decode cX11_whisper 55 = .ok (.ishr, 1) := by decide +kernel
theorem dX11_whisper_56 : decode cX11_whisper 56 = .ok (.iconst 1, 1) := by decide +kernel
theorem dX11_whisper_57 : decode cX11_whisper 57 = .ok (.iand, 1) := by decide +kernel
theorem dX11_whisper_58 : decode cX11_whisper 58 = .ok (.iconst 1, 1) := by decide +kernel
theorem dX11_whisper_59 : decode cX11_whisper 59 = .ok (.if_icmp .ne 19, 3) := by decide +kernel
theorem dX11_whisper_62 : decode cX11_whisper 62 = .ok (.aload_n 0, 1) := by decide +kernel
theorem dX11_whisper_63 : decode cX11_whisper 63 = .ok (.getfield 57, 3) := by decide +kernel
theorem dX11_whisper_66 : decode cX11_whisper 66 = .ok (.getfield 61, 3) := by decide +kernel
theorem dX11_whisper_69 : decode cX11_whisper 69 = .ok (.iload_n 3, 1) := by decide +kernel
theorem dX11_whisper_70 : decode cX11_whisper 70 = .ok (.aload_n 2, 1) := by decide +kernel
theorem dX11_whisper_71 : decode cX11_whisper 71 = .ok (.aload_n 0, 1) := by decide +kernel
theorem dX11_whisper_72 : decode cX11_whisper 72 = .ok (.getfield 57, 3) := by decide +kernel
theorem dX11_whisper_75 : decode cX11_whisper 75 = .ok (.invokevirtual 186, 3) := by decide +kernel
theorem dX11_whisper_78 : decode cX11_whisper 78 = .ok (.iinc 3 1, 3) := by decide +kernel
theorem dX11_whisper_81 : decode cX11_whisper 81 = .ok (.goto (-39), 3) := by decide +kernel
theorem dX11_whisper_84 : decode cX11_whisper 84 = .ok (.aload_n 0, 1) := by decide +kernel
theorem dX11_whisper_85 : decode cX11_whisper 85 = .ok (.getfield 57, 3) := by decide +kernel
theorem dX11_whisper_88 : decode cX11_whisper 88 = .ok (.dup, 1) := by decide +kernel
theorem dX11_whisper_89 : decode cX11_whisper 89 = .ok (.getfield 183, 3) := by decide +kernel
theorem dX11_whisper_92 : decode cX11_whisper 92 = .ok (.iconst 1, 1) := by decide +kernel
theorem dX11_whisper_93 : decode cX11_whisper 93 = .ok (.iadd, 1) := by decide +kernel
theorem dX11_whisper_94 : decode cX11_whisper 94 = .ok (.putfield 183, 3) := by decide +kernel
theorem dX11_whisper_97 : decode cX11_whisper 97 = .ok (.aload_n 2, 1) := by decide +kernel
theorem dX11_whisper_98 : decode cX11_whisper 98 = .ok (.aload_n 0, 1) := by decide +kernel
theorem dX11_whisper_99 : decode cX11_whisper 99 = .ok (.getfield 26, 3) := by decide +kernel
theorem dX11_whisper_102 : decode cX11_whisper 102 = .ok (.getfield 158, 3) := by decide +kernel
theorem dX11_whisper_105 : decode cX11_whisper 105 = .ok (.iaload, 1) := by decide +kernel
theorem dX11_whisper_106 : decode cX11_whisper 106 = .ok (.ifCond .eq 7, 3) := by decide +kernel
theorem dX11_whisper_109 : decode cX11_whisper 109 = .ok (.iconst 1, 1) := by decide +kernel
theorem dX11_whisper_110 : decode cX11_whisper 110 = .ok (.goto 4, 3) := by decide +kernel
theorem dX11_whisper_113 : decode cX11_whisper 113 = .ok (.iconst 0, 1) := by decide +kernel
theorem dX11_whisper_114 : decode cX11_whisper 114 = .ok (.ireturn, 1) := by decide +kernel
theorem dX11_night_0 : decode cX11_night 0 = .ok (.aload_n 0, 1) := by decide +kernel
theorem dX11_night_1 : decode cX11_night 1 = .ok (.getfield 57, 3) := by decide +kernel
theorem dX11_night_4 : decode cX11_night 4 = .ok (.getfield 190, 3) := by decide +kernel
theorem dX11_night_7 : decode cX11_night 7 = .ok (.sipush 300, 3) := by decide +kernel
theorem dX11_night_10 : decode cX11_night 10 = .ok (.if_icmp .ge 17, 3) := by decide +kernel
theorem dX11_night_13 : decode cX11_night 13 = .ok (.aload_n 0, 1) := by decide +kernel
theorem dX11_night_14 : decode cX11_night 14 = .ok (.getfield 45, 3) := by decide +kernel
theorem dX11_night_17 : decode cX11_night 17 = .ok (.aload_n 0, 1) := by decide +kernel
theorem dX11_night_18 : decode cX11_night 18 = .ok (.getfield 57, 3) := by decide +kernel
theorem dX11_night_21 : decode cX11_night 21 = .ok (.invokevirtual 193, 3) := by decide +kernel
theorem dX11_night_24 : decode cX11_night 24 = .ok (.goto 4, 3) := by decide +kernel
theorem dX11_night_27 : decode cX11_night 27 = .ok (.iconst (-1), 1) := by decide +kernel
theorem dX11_night_28 : decode cX11_night 28 = .ok (.ireturn, 1) := by decide +kernel
theorem dX11_gone_0 : decode cX11_gone 0 = .ok (.aload_n 0, 1) := by decide +kernel
theorem dX11_gone_1 : decode cX11_gone 1 = .ok (.getfield 57, 3) := by decide +kernel
theorem dX11_gone_4 : decode cX11_gone 4 = .ok (.getfield 196, 3) := by decide +kernel
theorem dX11_gone_7 : decode cX11_gone 7 = .ok (.ireturn, 1) := by decide +kernel
theorem dX11_when_0 : decode cX11_when 0 = .ok (.aload_n 0, 1) := by decide +kernel
theorem dX11_when_1 : decode cX11_when 1 = .ok (.getfield 26, 3) := by decide +kernel
theorem dX11_when_4 : decode cX11_when 4 = .ok (.iload_n 1, 1) := by decide +kernel
theorem dX11_when_5 : decode cX11_when 5 = .ok (.invokevirtual 127, 3) := by decide +kernel
theorem dX11_when_8 : decode cX11_when 8 = .ok (.ifCond .eq 18, 3) := by decide +kernel
theorem dX11_when_11 : decode cX11_when 11 = .ok (.aload_n 0, 1) := by decide +kernel
theorem dX11_when_12 : decode cX11_when 12 = .ok (.getfield 57, 3) := by decide +kernel
theorem dX11_when_15 : decode cX11_when 15 = .ok (.getfield 196, 3) := by decide +kernel
theorem dX11_when_18 : decode cX11_when 18 = .ok (.iload_n 1, 1) := by decide +kernel
theorem dX11_when_19 : decode cX11_when 19 = .ok (.ishr, 1) := by decide +kernel
theorem dX11_when_20 : decode cX11_when 20 = .ok (.iconst 1, 1) := by decide +kernel
theorem dX11_when_21 : decode cX11_when 21 = .ok (.iand, 1) := by decide +kernel
theorem dX11_when_22 : decode cX11_when 22 = .ok (.iconst 1, 1) := by decide +kernel
theorem dX11_when_23 : decode cX11_when 23 = .ok (.if_icmp .ne 5, 3) := by decide +kernel
theorem dX11_when_26 : decode cX11_when 26 = .ok (.iconst (-1), 1) := by decide +kernel
theorem dX11_when_27 : decode cX11_when 27 = .ok (.ireturn, 1) := by decide +kernel
theorem dX11_when_28 : decode cX11_when 28 = .ok (.aload_n 0, 1) := by decide +kernel
theorem dX11_when_29 : decode cX11_when 29 = .ok (.getfield 65, 3) := by decide +kernel
theorem dX11_when_32 : decode cX11_when 32 = .ok (.aload_n 0, 1) := by decide +kernel
theorem dX11_when_33 : decode cX11_when 33 = .ok (.getfield 57, 3) := by decide +kernel
theorem dX11_when_36 : decode cX11_when 36 = .ok (.invokevirtual 199, 3) := by decide +kernel
theorem dX11_when_39 : decode cX11_when 39 = .ok (.iconst 1, 1) := by decide +kernel
theorem dX11_when_40 : decode cX11_when 40 = .ok (.istore_n 2, 1) := by decide +kernel
theorem dX11_when_41 : decode cX11_when 41 = .ok (.iload_n 2, 1) := by decide +kernel
theorem dX11_when_42 : decode cX11_when 42 = .ok (.sipush 300, 3) := by decide +kernel
theorem dX11_when_45 : decode cX11_when 45 = .ok (.if_icmp .gt 60, 3) := by decide +kernel
theorem dX11_when_48 : decode cX11_when 48 = .ok (.aload_n 0, 1) := by decide +kernel
theorem dX11_when_49 : decode cX11_when 49 = .ok (.getfield 65, 3) := by decide +kernel
theorem dX11_when_52 : decode cX11_when 52 = .ok (.getfield 135, 3) := by decide +kernel
theorem dX11_when_55 : decode cX11_when 55 = .ok (.istore_n 3, 1) := by decide +kernel
theorem dX11_when_56 : decode cX11_when 56 = .ok (.aload_n 0, 1) := by decide +kernel
theorem dX11_when_57 : decode cX11_when 57 = .ok (.getfield 45, 3) := by decide +kernel
theorem dX11_when_60 : decode cX11_when 60 = .ok (.aload_n 0, 1) := by decide +kernel
theorem dX11_when_61 : decode cX11_when 61 = .ok (.getfield 65, 3) := by decide +kernel
theorem dX11_when_64 : decode cX11_when 64 = .ok (.invokevirtual 193, 3) := by decide +kernel
theorem dX11_when_67 : decode cX11_when 67 = .ok (.istore 4, 2) := by decide +kernel
theorem dX11_when_69 : decode cX11_when 69 = .ok (.iload 4, 2) := by decide +kernel
theorem dX11_when_71 : decode cX11_when 71 = .ok (.iload_n 1, 1) := by decide +kernel
theorem dX11_when_72 : decode cX11_when 72 = .ok (.ishr, 1) := by decide +kernel
theorem dX11_when_73 : decode cX11_when 73 = .ok (.iconst 1, 1) := by decide +kernel
theorem dX11_when_74 : decode cX11_when 74 = .ok (.iand, 1) := by decide +kernel
theorem dX11_when_75 : decode cX11_when 75 = .ok (.iconst 1, 1) := by decide +kernel
theorem dX11_when_76 : decode cX11_when 76 = .ok (.if_icmp .ne 5, 3) := by decide +kernel
theorem dX11_when_79 : decode cX11_when 79 = .ok (.iload_n 2, 1) := by decide +kernel
theorem dX11_when_80 : decode cX11_when 80 = .ok (.ireturn, 1) := by decide +kernel
theorem dX11_when_81 : decode cX11_when 81 = .ok (.iload 4, 2) := by decide +kernel
theorem dX11_when_83 : decode cX11_when 83 = .ok (.ifCond .ne 16, 3) := by decide +kernel
theorem dX11_when_86 : decode cX11_when 86 = .ok (.aload_n 0, 1) := by decide +kernel
theorem dX11_when_87 : decode cX11_when 87 = .ok (.getfield 65, 3) := by decide +kernel
theorem dX11_when_90 : decode cX11_when 90 = .ok (.getfield 135, 3) := by decide +kernel
theorem dX11_when_93 : decode cX11_when 93 = .ok (.iload_n 3, 1) := by decide +kernel
theorem dX11_when_94 : decode cX11_when 94 = .ok (.if_icmp .ne 5, 3) := by decide +kernel
theorem dX11_when_97 : decode cX11_when 97 = .ok (.iconst (-1), 1) := by decide +kernel
theorem dX11_when_98 : decode cX11_when 98 = .ok (.ireturn, 1) := by decide +kernel
theorem dX11_when_99 : decode cX11_when 99 = .ok (.iinc 2 1, 3) := by decide +kernel
theorem dX11_when_102 : decode cX11_when 102 = .ok (.goto (-61), 3) := by decide +kernel
theorem dX11_when_105 : decode cX11_when 105 = .ok (.iconst (-1), 1) := by decide +kernel
theorem dX11_when_106 : decode cX11_when 106 = .ok (.ireturn, 1) := by decide +kernel
theorem dX11_fewest_0 : decode cX11_fewest 0 = .ok (.aload_n 0, 1) := by decide +kernel
theorem dX11_fewest_1 : decode cX11_fewest 1 = .ok (.getfield 26, 3) := by decide +kernel
theorem dX11_fewest_4 : decode cX11_fewest 4 = .ok (.iload_n 1, 1) := by decide +kernel
theorem dX11_fewest_5 : decode cX11_fewest 5 = .ok (.invokevirtual 180, 3) := by decide +kernel
theorem dX11_fewest_8 : decode cX11_fewest 8 = .ok (.ifCond .eq 14, 3) := by decide +kernel
theorem dX11_fewest_11 : decode cX11_fewest 11 = .ok (.iload_n 2, 1) := by decide +kernel
theorem dX11_fewest_12 : decode cX11_fewest 12 = .ok (.iconst 1, 1) := by decide +kernel
theorem dX11_fewest_13 : decode cX11_fewest 13 = .ok (.if_icmp .lt 9, 3) := by decide +kernel
theorem dX11_fewest_16 : decode cX11_fewest 16 = .ok (.iload_n 2, 1) := by decide +kernel
theorem dX11_fewest_17 : decode cX11_fewest 17 = .ok (.bipush 12, 2) := by decide +kernel
theorem dX11_fewest_19 : decode cX11_fewest 19 = .ok (.if_icmp .le 5, 3) := by decide +kernel
theorem dX11_fewest_22 : decode cX11_fewest 22 = .ok (.iconst (-1), 1) := by decide +kernel
theorem dX11_fewest_23 : decode cX11_fewest 23 = .ok (.ireturn, 1) := by decide +kernel
theorem dX11_fewest_24 : decode cX11_fewest 24 = .ok (.aload_n 0, 1) := by decide +kernel
theorem dX11_fewest_25 : decode cX11_fewest 25 = .ok (.invokevirtual 203, 3) := by decide +kernel
theorem dX11_fewest_28 : decode cX11_fewest 28 = .ok (.lstore_n 3, 1) := by decide +kernel
theorem dX11_fewest_29 : decode cX11_fewest 29 = .ok (.iconst 0, 1) := by decide +kernel
theorem dX11_fewest_30 : decode cX11_fewest 30 = .ok (.istore 5, 2) := by decide +kernel
theorem dX11_fewest_32 : decode cX11_fewest 32 = .ok (.iload 5, 2) := by decide +kernel
theorem dX11_fewest_34 : decode cX11_fewest 34 = .ok (.aload_n 0, 1) := by decide +kernel
theorem dX11_fewest_35 : decode cX11_fewest 35 = .ok (.getfield 26, 3) := by decide +kernel
theorem dX11_fewest_38 : decode cX11_fewest 38 = .ok (.getfield 173, 3) := by decide +kernel
theorem dX11_fewest_41 : decode cX11_fewest 41 = .ok (.if_icmp .gt 79, 3) := by decide +kernel
theorem dX11_fewest_44 : decode cX11_fewest 44 = .ok (.iconst 0, 1) := by decide +kernel
theorem dX11_fewest_45 : decode cX11_fewest 45 = .ok (.istore 6, 2) := by decide +kernel
theorem dX11_fewest_47 : decode cX11_fewest 47 = .ok (.iload 6, 2) := by decide +kernel
theorem dX11_fewest_49 : decode cX11_fewest 49 = .ok (.iconst 1, 1) := by decide +kernel
theorem dX11_fewest_50 : decode cX11_fewest 50 = .ok (.aload_n 0, 1) := by decide +kernel
theorem dX11_fewest_51 : decode cX11_fewest 51 = .ok (.getfield 26, 3) := by decide +kernel
theorem dX11_fewest_54 : decode cX11_fewest 54 = .ok (.getfield 173, 3) := by decide +kernel
theorem dX11_fewest_57 : decode cX11_fewest 57 = .ok (.ishl, 1) := by decide +kernel
theorem dX11_fewest_58 : decode cX11_fewest 58 = .ok (.if_icmp .ge 56, 3) := by decide +kernel
theorem dX11_fewest_61 : decode cX11_fewest 61 = .ok (.iload 6, 2) := by decide +kernel
theorem dX11_fewest_63 : decode cX11_fewest 63 = .ok (.invokestatic 207, 3) := by decide +kernel
theorem dX11_fewest_66 : decode cX11_fewest 66 = .ok (.iload 5, 2) := by decide +kernel
theorem dX11_fewest_68 : decode cX11_fewest 68 = .ok (.if_icmp .ne 18, 3) := by decide +kernel
theorem dX11_fewest_71 : decode cX11_fewest 71 = .ok (.lload_n 3, 1) := by decide +kernel
theorem dX11_fewest_72 : decode cX11_fewest 72 = .ok (.iload 6, 2) := by decide +kernel
theorem dX11_fewest_74 : decode cX11_fewest 74 = .ok (.lshr, 1) := by decide +kernel
theorem dX11_fewest_75 : decode cX11_fewest 75 = .ok (.lconst 1, 1) := by decide +kernel
theorem dX11_fewest_76 : decode cX11_fewest 76 = .ok (.land, 1) := by decide +kernel
theorem dX11_fewest_77 : decode cX11_fewest 77 = .ok (.lconst 1, 1) := by decide +kernel
theorem dX11_fewest_78 : decode cX11_fewest 78 = .ok (.lcmp, 1) := by decide +kernel
theorem dX11_fewest_79 : decode cX11_fewest 79 = .ok (.ifCond .ne 7, 3) := by decide +kernel
theorem dX11_fewest_82 : decode cX11_fewest 82 = .ok (.iconst 1, 1) := by decide +kernel
theorem dX11_fewest_83 : decode cX11_fewest 83 = .ok (.goto 4, 3) := by decide +kernel
theorem dX11_fewest_86 : decode cX11_fewest 86 = .ok (.iconst 0, 1) := by decide +kernel
theorem dX11_fewest_87 : decode cX11_fewest 87 = .ok (.istore 7, 2) := by decide +kernel
theorem dX11_fewest_89 : decode cX11_fewest 89 = .ok (.iload 7, 2) := by decide +kernel
theorem dX11_fewest_91 : decode cX11_fewest 91 = .ok (.ifCond .eq 17, 3) := by decide +kernel
theorem dX11_fewest_94 : decode cX11_fewest 94 = .ok (.aload_n 0, 1) := by decide +kernel
theorem dX11_fewest_95 : decode cX11_fewest 95 = .ok (.iload_n 1, 1) := by decide +kernel
theorem dX11_fewest_96 : decode cX11_fewest 96 = .ok (.iload 6, 2) := by decide +kernel
theorem dX11_fewest_98 : decode cX11_fewest 98 = .ok (.iload_n 2, 1) := by decide +kernel
theorem dX11_fewest_99 : decode cX11_fewest 99 = .ok (.invokevirtual 213, 3) := by decide +kernel
theorem dX11_fewest_102 : decode cX11_fewest 102 = .ok (.ifCond .eq 6, 3) := by decide +kernel
theorem dX11_fewest_105 : decode cX11_fewest 105 = .ok (.iload 6, 2) := by decide +kernel
theorem dX11_fewest_107 : decode cX11_fewest 107 = .ok (.ireturn, 1) := by decide +kernel
theorem dX11_fewest_108 : decode cX11_fewest 108 = .ok (.iinc 6 1, 3) := by decide +kernel
theorem dX11_fewest_111 : decode cX11_fewest 111 = .ok (.goto (-64), 3) := by decide +kernel
theorem dX11_fewest_114 : decode cX11_fewest 114 = .ok (.iinc 5 1, 3) := by decide +kernel
theorem dX11_fewest_117 : decode cX11_fewest 117 = .ok (.goto (-85), 3) := by decide +kernel
theorem dX11_fewest_120 : decode cX11_fewest 120 = .ok (.iconst (-1), 1) := by decide +kernel
theorem dX11_fewest_121 : decode cX11_fewest 121 = .ok (.ireturn, 1) := by decide +kernel
theorem dX11_sight_0 : decode cX11_sight 0 = .ok (.aload_n 0, 1) := by decide +kernel
theorem dX11_sight_1 : decode cX11_sight 1 = .ok (.getfield 26, 3) := by decide +kernel
theorem dX11_sight_4 : decode cX11_sight 4 = .ok (.iload_n 1, 1) := by decide +kernel
theorem dX11_sight_5 : decode cX11_sight 5 = .ok (.invokevirtual 127, 3) := by decide +kernel
theorem dX11_sight_8 : decode cX11_sight 8 = .ok (.ifCond .eq 16, 3) := by decide +kernel
theorem dX11_sight_11 : decode cX11_sight 11 = .ok (.aload_n 0, 1) := by decide +kernel
theorem dX11_sight_12 : decode cX11_sight 12 = .ok (.getfield 79, 3) := by decide +kernel
theorem dX11_sight_15 : decode cX11_sight 15 = .ok (.iload_n 1, 1) := by decide +kernel
theorem dX11_sight_16 : decode cX11_sight 16 = .ok (.iload_n 2, 1) := by decide +kernel
theorem dX11_sight_17 : decode cX11_sight 17 = .ok (.iload_n 3, 1) := by decide +kernel
theorem dX11_sight_18 : decode cX11_sight 18 = .ok (.invokevirtual 216, 3) := by decide +kernel
theorem dX11_sight_21 : decode cX11_sight 21 = .ok (.goto 4, 3) := by decide +kernel
theorem dX11_sight_24 : decode cX11_sight 24 = .ok (.iconst (-1), 1) := by decide +kernel
theorem dX11_sight_25 : decode cX11_sight 25 = .ok (.ireturn, 1) := by decide +kernel
theorem dX11_untell_0 : decode cX11_untell 0 = .ok (.aload_n 0, 1) := by decide +kernel
theorem dX11_untell_1 : decode cX11_untell 1 = .ok (.getfield 79, 3) := by decide +kernel
theorem dX11_untell_4 : decode cX11_untell 4 = .ok (.iload_n 1, 1) := by decide +kernel
theorem dX11_untell_5 : decode cX11_untell 5 = .ok (.invokevirtual 220, 3) := by decide +kernel
theorem dX11_untell_8 : decode cX11_untell 8 = .ok (.ireturn, 1) := by decide +kernel
theorem dX11_later_0 : decode cX11_later 0 = .ok (.aload_n 0, 1) := by decide +kernel
theorem dX11_later_1 : decode cX11_later 1 = .ok (.getfield 79, 3) := by decide +kernel
theorem dX11_later_4 : decode cX11_later 4 = .ok (.iload_n 1, 1) := by decide +kernel
theorem dX11_later_5 : decode cX11_later 5 = .ok (.invokevirtual 223, 3) := by decide +kernel
theorem dX11_later_8 : decode cX11_later 8 = .ok (.ireturn, 1) := by decide +kernel
theorem dX11_fits_0 : decode cX11_fits 0 = .ok (.aload_n 0, 1) := by decide +kernel
theorem dX11_fits_1 : decode cX11_fits 1 = .ok (.getfield 26, 3) := by decide +kernel
theorem dX11_fits_4 : decode cX11_fits 4 = .ok (.getfield 118, 3) := by decide +kernel
theorem dX11_fits_7 : decode cX11_fits 7 = .ok (.bipush 6, 2) := by decide +kernel
theorem dX11_fits_9 : decode cX11_fits 9 = .ok (.if_icmp .le 6, 3) := by decide +kernel
theorem dX11_fits_12 : decode cX11_fits 12 = .ok (.bipush (-2), 2) := by decide +kernel
theorem dX11_fits_14 : decode cX11_fits 14 = .ok (.ireturn, 1) := by decide +kernel
theorem dX11_fits_15 : decode cX11_fits 15 = .ok (.aload_n 0, 1) := by decide +kernel
theorem dX11_fits_16 : decode cX11_fits 16 = .ok (.iload_n 1, 1) := by decide +kernel
theorem dX11_fits_17 : decode cX11_fits 17 = .ok (.invokevirtual 226, 3) := by decide +kernel
theorem dX11_fits_20 : decode cX11_fits 20 = .ok (.ireturn, 1) := by decide +kernel
theorem dX11_sure_0 : decode cX11_sure 0 = .ok (.aload_n 0, 1) := by decide +kernel
theorem dX11_sure_1 : decode cX11_sure 1 = .ok (.getfield 26, 3) := by decide +kernel
theorem dX11_sure_4 : decode cX11_sure 4 = .ok (.iload_n 1, 1) := by decide +kernel
theorem dX11_sure_5 : decode cX11_sure 5 = .ok (.invokevirtual 127, 3) := by decide +kernel
theorem dX11_sure_8 : decode cX11_sure 8 = .ok (.ifCond .ne 5, 3) := by decide +kernel
theorem dX11_sure_11 : decode cX11_sure 11 = .ok (.iconst (-1), 1) := by decide +kernel
theorem dX11_sure_12 : decode cX11_sure 12 = .ok (.ireturn, 1) := by decide +kernel
theorem dX11_sure_13 : decode cX11_sure 13 = .ok (.aload_n 0, 1) := by decide +kernel
theorem dX11_sure_14 : decode cX11_sure 14 = .ok (.getfield 26, 3) := by decide +kernel
theorem dX11_sure_17 : decode cX11_sure 17 = .ok (.getfield 118, 3) := by decide +kernel
theorem dX11_sure_20 : decode cX11_sure 20 = .ok (.bipush 6, 2) := by decide +kernel
theorem dX11_sure_22 : decode cX11_sure 22 = .ok (.if_icmp .le 6, 3) := by decide +kernel
theorem dX11_sure_25 : decode cX11_sure 25 = .ok (.bipush (-3), 2) := by decide +kernel
theorem dX11_sure_27 : decode cX11_sure 27 = .ok (.ireturn, 1) := by decide +kernel
theorem dX11_sure_28 : decode cX11_sure 28 = .ok (.aload_n 0, 1) := by decide +kernel
theorem dX11_sure_29 : decode cX11_sure 29 = .ok (.iload_n 2, 1) := by decide +kernel
theorem dX11_sure_30 : decode cX11_sure 30 = .ok (.invokevirtual 226, 3) := by decide +kernel
theorem dX11_sure_33 : decode cX11_sure 33 = .ok (.ifCond .ne 5, 3) := by decide +kernel
theorem dX11_sure_36 : decode cX11_sure 36 = .ok (.iconst (-1), 1) := by decide +kernel
theorem dX11_sure_37 : decode cX11_sure 37 = .ok (.ireturn, 1) := by decide +kernel
theorem dX11_sure_38 : decode cX11_sure 38 = .ok (.aload_n 0, 1) := by decide +kernel
theorem dX11_sure_39 : decode cX11_sure 39 = .ok (.getfield 88, 3) := by decide +kernel
theorem dX11_sure_42 : decode cX11_sure 42 = .ok (.getfield 229, 3) := by decide +kernel
theorem dX11_sure_45 : decode cX11_sure 45 = .ok (.iload_n 1, 1) := by decide +kernel
theorem dX11_sure_46 : decode cX11_sure 46 = .ok (.ishr, 1) := by decide +kernel
theorem dX11_sure_47 : decode cX11_sure 47 = .ok (.iconst 1, 1) := by decide +kernel
theorem dX11_sure_48 : decode cX11_sure 48 = .ok (.iand, 1) := by decide +kernel
theorem dX11_sure_49 : decode cX11_sure 49 = .ok (.iconst 1, 1) := by decide +kernel
theorem dX11_sure_50 : decode cX11_sure 50 = .ok (.if_icmp .ne 7, 3) := by decide +kernel
theorem dX11_sure_53 : decode cX11_sure 53 = .ok (.iconst 1, 1) := by decide +kernel
theorem dX11_sure_54 : decode cX11_sure 54 = .ok (.goto 4, 3) := by decide +kernel
theorem dX11_sure_57 : decode cX11_sure 57 = .ok (.iconst 0, 1) := by decide +kernel
theorem dX11_sure_58 : decode cX11_sure 58 = .ok (.istore_n 3, 1) := by decide +kernel
theorem dX11_sure_59 : decode cX11_sure 59 = .ok (.aload_n 0, 1) := by decide +kernel
theorem dX11_sure_60 : decode cX11_sure 60 = .ok (.getfield 88, 3) := by decide +kernel
theorem dX11_sure_63 : decode cX11_sure 63 = .ok (.getfield 232, 3) := by decide +kernel
theorem dX11_sure_66 : decode cX11_sure 66 = .ok (.iload_n 1, 1) := by decide +kernel
theorem dX11_sure_67 : decode cX11_sure 67 = .ok (.ishr, 1) := by decide +kernel
theorem dX11_sure_68 : decode cX11_sure 68 = .ok (.iconst 1, 1) := by decide +kernel
theorem dX11_sure_69 : decode cX11_sure 69 = .ok (.iand, 1) := by decide +kernel
theorem dX11_sure_70 : decode cX11_sure 70 = .ok (.iconst 1, 1) := by decide +kernel
theorem dX11_sure_71 : decode cX11_sure 71 = .ok (.if_icmp .ne 7, 3) := by decide +kernel
theorem dX11_sure_74 : decode cX11_sure 74 = .ok (.iconst 1, 1) := by decide +kernel
theorem dX11_sure_75 : decode cX11_sure 75 = .ok (.goto 4, 3) := by decide +kernel
theorem dX11_sure_78 : decode cX11_sure 78 = .ok (.iconst 0, 1) := by decide +kernel
theorem dX11_sure_79 : decode cX11_sure 79 = .ok (.istore 4, 2) := by decide +kernel
theorem dX11_sure_81 : decode cX11_sure 81 = .ok (.iload_n 3, 1) := by decide +kernel
theorem dX11_sure_82 : decode cX11_sure 82 = .ok (.ifCond .eq 11, 3) := by decide +kernel
theorem dX11_sure_85 : decode cX11_sure 85 = .ok (.iload 4, 2) := by decide +kernel
theorem dX11_sure_87 : decode cX11_sure 87 = .ok (.ifCond .eq 6, 3) := by decide +kernel
theorem dX11_sure_90 : decode cX11_sure 90 = .ok (.bipush (-2), 2) := by decide +kernel
theorem dX11_sure_92 : decode cX11_sure 92 = .ok (.ireturn, 1) := by decide +kernel
theorem dX11_sure_93 : decode cX11_sure 93 = .ok (.iload_n 3, 1) := by decide +kernel
theorem dX11_sure_94 : decode cX11_sure 94 = .ok (.ifCond .eq 7, 3) := by decide +kernel
theorem dX11_sure_97 : decode cX11_sure 97 = .ok (.iconst 1, 1) := by decide +kernel
theorem dX11_sure_98 : decode cX11_sure 98 = .ok (.goto 4, 3) := by decide +kernel
theorem dX11_sure_101 : decode cX11_sure 101 = .ok (.iconst 0, 1) := by decide +kernel
theorem dX11_sure_102 : decode cX11_sure 102 = .ok (.ireturn, 1) := by decide +kernel
theorem dX11_image_0 : decode cX11_image 0 = .ok (.iload_n 1, 1) := by decide +kernel
theorem dX11_image_1 : decode cX11_image 1 = .ok (.ifCond .lt 8, 3) := by decide +kernel
theorem dX11_image_4 : decode cX11_image 4 = .ok (.iload_n 1, 1) := by decide +kernel
theorem dX11_image_5 : decode cX11_image 5 = .ok (.iconst 3, 1) := by decide +kernel
theorem dX11_image_6 : decode cX11_image 6 = .ok (.if_icmp .lt 5, 3) := by decide +kernel
theorem dX11_image_9 : decode cX11_image 9 = .ok (.iconst (-1), 1) := by decide +kernel
theorem dX11_image_10 : decode cX11_image 10 = .ok (.ireturn, 1) := by decide +kernel
theorem dX11_image_11 : decode cX11_image 11 = .ok (.aload_n 0, 1) := by decide +kernel
theorem dX11_image_12 : decode cX11_image 12 = .ok (.getfield 68, 3) := by decide +kernel
theorem dX11_image_15 : decode cX11_image 15 = .ok (.iload_n 1, 1) := by decide +kernel
theorem dX11_image_16 : decode cX11_image 16 = .ok (.aaload, 1) := by decide +kernel
theorem dX11_image_17 : decode cX11_image 17 = .ok (.aload_n 0, 1) := by decide +kernel
theorem dX11_image_18 : decode cX11_image 18 = .ok (.getfield 57, 3) := by decide +kernel
theorem dX11_image_21 : decode cX11_image 21 = .ok (.invokevirtual 235, 3) := by decide +kernel
theorem dX11_image_24 : decode cX11_image 24 = .ok (.aload_n 0, 1) := by decide +kernel
theorem dX11_image_25 : decode cX11_image 25 = .ok (.getfield 72, 3) := by decide +kernel
theorem dX11_image_28 : decode cX11_image 28 = .ok (.iload_n 1, 1) := by decide +kernel
theorem dX11_image_29 : decode cX11_image 29 = .ok (.iconst 1, 1) := by decide +kernel
theorem dX11_image_30 : decode cX11_image 30 = .ok (.bastore, 1) := by decide +kernel
theorem dX11_image_31 : decode cX11_image 31 = .ok (.aload_n 0, 1) := by decide +kernel
theorem dX11_image_32 : decode cX11_image 32 = .ok (.getfield 57, 3) := by decide +kernel
theorem dX11_image_35 : decode cX11_image 35 = .ok (.getfield 190, 3) := by decide +kernel
theorem dX11_image_38 : decode cX11_image 38 = .ok (.ireturn, 1) := by decide +kernel
theorem dX11_back_0 : decode cX11_back 0 = .ok (.iload_n 1, 1) := by decide +kernel
theorem dX11_back_1 : decode cX11_back 1 = .ok (.ifCond .lt 17, 3) := by decide +kernel
theorem dX11_back_4 : decode cX11_back 4 = .ok (.iload_n 1, 1) := by decide +kernel
theorem dX11_back_5 : decode cX11_back 5 = .ok (.iconst 3, 1) := by decide +kernel
theorem dX11_back_6 : decode cX11_back 6 = .ok (.if_icmp .ge 12, 3) := by decide +kernel
theorem dX11_back_9 : decode cX11_back 9 = .ok (.aload_n 0, 1) := by decide +kernel
theorem dX11_back_10 : decode cX11_back 10 = .ok (.getfield 72, 3) := by decide +kernel
theorem dX11_back_13 : decode cX11_back 13 = .ok (.iload_n 1, 1) := by decide +kernel
theorem dX11_back_14 : decode cX11_back 14 = .ok (.baload, 1) := by decide +kernel
theorem dX11_back_15 : decode cX11_back 15 = .ok (.ifCond .ne 5, 3) := by decide +kernel
theorem dX11_back_18 : decode cX11_back 18 = .ok (.iconst (-1), 1) := by decide +kernel
theorem dX11_back_19 : decode cX11_back 19 = .ok (.ireturn, 1) := by decide +kernel
theorem dX11_back_20 : decode cX11_back 20 = .ok (.aload_n 0, 1) := by decide +kernel
theorem dX11_back_21 : decode cX11_back 21 = .ok (.getfield 57, 3) := by decide +kernel
theorem dX11_back_24 : decode cX11_back 24 = .ok (.aload_n 0, 1) := by decide +kernel
theorem dX11_back_25 : decode cX11_back 25 = .ok (.getfield 68, 3) := by decide +kernel
theorem dX11_back_28 : decode cX11_back 28 = .ok (.iload_n 1, 1) := by decide +kernel
theorem dX11_back_29 : decode cX11_back 29 = .ok (.aaload, 1) := by decide +kernel
theorem dX11_back_30 : decode cX11_back 30 = .ok (.invokevirtual 235, 3) := by decide +kernel
theorem dX11_back_33 : decode cX11_back 33 = .ok (.aload_n 0, 1) := by decide +kernel
theorem dX11_back_34 : decode cX11_back 34 = .ok (.getfield 57, 3) := by decide +kernel
theorem dX11_back_37 : decode cX11_back 37 = .ok (.getfield 190, 3) := by decide +kernel
theorem dX11_back_40 : decode cX11_back 40 = .ok (.ireturn, 1) := by decide +kernel
theorem dX11_about_0 : decode cX11_about 0 = .ok (.iload_n 1, 1) := by decide +kernel
theorem dX11_about_1 : decode cX11_about 1 = .ok (.tableswitch 123 0 8 #[51, 59, 67, 75, 83, 91, 99, 107, 115], 51) := by decide +kernel
theorem dX11_about_52 : decode cX11_about 52 = .ok (.aload_n 0, 1) := by decide +kernel
theorem dX11_about_53 : decode cX11_about 53 = .ok (.getfield 26, 3) := by decide +kernel
theorem dX11_about_56 : decode cX11_about 56 = .ok (.getfield 118, 3) := by decide +kernel
theorem dX11_about_59 : decode cX11_about 59 = .ok (.ireturn, 1) := by decide +kernel
theorem dX11_about_60 : decode cX11_about 60 = .ok (.aload_n 0, 1) := by decide +kernel
theorem dX11_about_61 : decode cX11_about 61 = .ok (.getfield 26, 3) := by decide +kernel
theorem dX11_about_64 : decode cX11_about 64 = .ok (.getfield 173, 3) := by decide +kernel
theorem dX11_about_67 : decode cX11_about 67 = .ok (.ireturn, 1) := by decide +kernel
theorem dX11_about_68 : decode cX11_about 68 = .ok (.aload_n 0, 1) := by decide +kernel
theorem dX11_about_69 : decode cX11_about 69 = .ok (.getfield 26, 3) := by decide +kernel
theorem dX11_about_72 : decode cX11_about 72 = .ok (.getfield 158, 3) := by decide +kernel
theorem dX11_about_75 : decode cX11_about 75 = .ok (.ireturn, 1) := by decide +kernel
theorem dX11_about_76 : decode cX11_about 76 = .ok (.aload_n 0, 1) := by decide +kernel
theorem dX11_about_77 : decode cX11_about 77 = .ok (.getfield 57, 3) := by decide +kernel
theorem dX11_about_80 : decode cX11_about 80 = .ok (.getfield 190, 3) := by decide +kernel
theorem dX11_about_83 : decode cX11_about 83 = .ok (.ireturn, 1) := by decide +kernel
theorem dX11_about_84 : decode cX11_about 84 = .ok (.aload_n 0, 1) := by decide +kernel
theorem dX11_about_85 : decode cX11_about 85 = .ok (.getfield 57, 3) := by decide +kernel
theorem dX11_about_88 : decode cX11_about 88 = .ok (.getfield 183, 3) := by decide +kernel
theorem dX11_about_91 : decode cX11_about 91 = .ok (.ireturn, 1) := by decide +kernel
theorem dX11_about_92 : decode cX11_about 92 = .ok (.aload_n 0, 1) := by decide +kernel
theorem dX11_about_93 : decode cX11_about 93 = .ok (.getfield 79, 3) := by decide +kernel
theorem dX11_about_96 : decode cX11_about 96 = .ok (.getfield 111, 3) := by decide +kernel
theorem dX11_about_99 : decode cX11_about 99 = .ok (.ireturn, 1) := by decide +kernel
theorem dX11_about_100 : decode cX11_about 100 = .ok (.aload_n 0, 1) := by decide +kernel
theorem dX11_about_101 : decode cX11_about 101 = .ok (.getfield 79, 3) := by decide +kernel
theorem dX11_about_104 : decode cX11_about 104 = .ok (.getfield 238, 3) := by decide +kernel
theorem dX11_about_107 : decode cX11_about 107 = .ok (.ireturn, 1) := by decide +kernel
theorem dX11_about_108 : decode cX11_about 108 = .ok (.aload_n 0, 1) := by decide +kernel
theorem dX11_about_109 : decode cX11_about 109 = .ok (.getfield 10, 3) := by decide +kernel
theorem dX11_about_112 : decode cX11_about 112 = .ok (.getfield 103, 3) := by decide +kernel
theorem dX11_about_115 : decode cX11_about 115 = .ok (.ireturn, 1) := by decide +kernel
theorem dX11_about_116 : decode cX11_about 116 = .ok (.aload_n 0, 1) := by decide +kernel
theorem dX11_about_117 : decode cX11_about 117 = .ok (.getfield 26, 3) := by decide +kernel
theorem dX11_about_120 : decode cX11_about 120 = .ok (.getfield 241, 3) := by decide +kernel
theorem dX11_about_123 : decode cX11_about 123 = .ok (.ireturn, 1) := by decide +kernel
theorem dX11_about_124 : decode cX11_about 124 = .ok (.iconst (-1), 1) := by decide +kernel
theorem dX11_about_125 : decode cX11_about 125 = .ok (.ireturn, 1) := by decide +kernel
theorem dX11_weighTape_0 : decode cX11_weighTape 0 = .ok (.aload_n 0, 1) := by decide +kernel
theorem dX11_weighTape_1 : decode cX11_weighTape 1 = .ok (.getfield 38, 3) := by decide +kernel
theorem dX11_weighTape_4 : decode cX11_weighTape 4 = .ok (.aload_n 0, 1) := by decide +kernel
theorem dX11_weighTape_5 : decode cX11_weighTape 5 = .ok (.getfield 26, 3) := by decide +kernel
theorem dX11_weighTape_8 : decode cX11_weighTape 8 = .ok (.aload_n 0, 1) := by decide +kernel
theorem dX11_weighTape_9 : decode cX11_weighTape 9 = .ok (.getfield 19, 3) := by decide +kernel
theorem dX11_weighTape_12 : decode cX11_weighTape 12 = .ok (.invokevirtual 244, 3) := by decide +kernel
theorem dX11_weighTape_15 : decode cX11_weighTape 15 = .ok (.istore_n 1, 1) := by decide +kernel
theorem dX11_weighTape_16 : decode cX11_weighTape 16 = .ok (.aload_n 0, 1) := by decide +kernel
theorem dX11_weighTape_17 : decode cX11_weighTape 17 = .ok (.getfield 10, 3) := by decide +kernel
theorem dX11_weighTape_20 : decode cX11_weighTape 20 = .ok (.iconst 0, 1) := by decide +kernel
theorem dX11_weighTape_21 : decode cX11_weighTape 21 = .ok (.putfield 103, 3) := by decide +kernel
theorem dX11_weighTape_24 : decode cX11_weighTape 24 = .ok (.iload_n 1, 1) := by decide +kernel
theorem dX11_weighTape_25 : decode cX11_weighTape 25 = .ok (.ifCond .eq 26, 3) := by decide +kernel
theorem dX11_weighTape_28 : decode cX11_weighTape 28 = .ok (.aload_n 0, 1) := by decide +kernel
theorem dX11_weighTape_29 : decode cX11_weighTape 29 = .ok (.getfield 45, 3) := by decide +kernel
theorem dX11_weighTape_32 : decode cX11_weighTape 32 = .ok (.aload_n 0, 1) := by decide +kernel
theorem dX11_weighTape_33 : decode cX11_weighTape 33 = .ok (.getfield 57, 3) := by decide +kernel
theorem dX11_weighTape_36 : decode cX11_weighTape 36 = .ok (.aload_n 0, 1) := by decide +kernel
theorem dX11_weighTape_37 : decode cX11_weighTape 37 = .ok (.getfield 19, 3) := by decide +kernel
theorem dX11_weighTape_40 : decode cX11_weighTape 40 = .ok (.iconst 0, 1) := by decide +kernel
theorem dX11_weighTape_41 : decode cX11_weighTape 41 = .ok (.aload_n 0, 1) := by decide +kernel
theorem dX11_weighTape_42 : decode cX11_weighTape 42 = .ok (.getfield 19, 3) := by decide +kernel
theorem dX11_weighTape_45 : decode cX11_weighTape 45 = .ok (.getfield 248, 3) := by decide +kernel
theorem dX11_weighTape_48 : decode cX11_weighTape 48 = .ok (.invokevirtual 251, 3) := by decide +kernel
theorem dX11_weighTape_51 : decode cX11_weighTape 51 = .ok (.iload_n 1, 1) := by decide +kernel
theorem dX11_weighTape_52 : decode cX11_weighTape 52 = .ok (.ireturn, 1) := by decide +kernel
theorem dX11_trySayings_0 : decode cX11_trySayings 0 = .ok (.aload_n 0, 1) := by decide +kernel
theorem dX11_trySayings_1 : decode cX11_trySayings 1 = .ok (.getfield 92, 3) := by decide +kernel
theorem dX11_trySayings_4 : decode cX11_trySayings 4 = .ok (.lconst 0, 1) := by decide +kernel
theorem dX11_trySayings_5 : decode cX11_trySayings 5 = .ok (.invokestatic 255, 3) := by decide +kernel
theorem dX11_trySayings_8 : decode cX11_trySayings 8 = .ok (.aload_n 0, 1) := by decide +kernel
theorem dX11_trySayings_9 : decode cX11_trySayings 9 = .ok (.getfield 57, 3) := by decide +kernel
theorem dX11_trySayings_12 : decode cX11_trySayings 12 = .ok (.aload_n 0, 1) := by decide +kernel
theorem dX11_trySayings_13 : decode cX11_trySayings 13 = .ok (.getfield 92, 3) := by decide +kernel
theorem dX11_trySayings_16 : decode cX11_trySayings 16 = .ok (.iconst 0, 1) := by decide +kernel
theorem dX11_trySayings_17 : decode cX11_trySayings 17 = .ok (.invokevirtual 261, 3) := by decide +kernel
theorem dX11_trySayings_20 : decode cX11_trySayings 20 = .ok (.lconst 1, 1) := by decide +kernel
theorem dX11_trySayings_21 : decode cX11_trySayings 21 = .ok (.lstore_n 1, 1) := by decide +kernel
theorem dX11_trySayings_22 : decode cX11_trySayings 22 = .ok (.iconst 0, 1) := by decide +kernel
theorem dX11_trySayings_23 : decode cX11_trySayings 23 = .ok (.istore_n 3, 1) := by decide +kernel
theorem dX11_trySayings_24 : decode cX11_trySayings 24 = .ok (.iload_n 3, 1) := by decide +kernel
theorem dX11_trySayings_25 : decode cX11_trySayings 25 = .ok (.aload_n 0, 1) := by decide +kernel
theorem dX11_trySayings_26 : decode cX11_trySayings 26 = .ok (.getfield 26, 3) := by decide +kernel
theorem dX11_trySayings_29 : decode cX11_trySayings 29 = .ok (.getfield 173, 3) := by decide +kernel
theorem dX11_trySayings_32 : decode cX11_trySayings 32 = .ok (.if_icmp .ge 103, 3) := by decide +kernel
theorem dX11_trySayings_35 : decode cX11_trySayings 35 = .ok (.iconst 0, 1) := by decide +kernel
theorem dX11_trySayings_36 : decode cX11_trySayings 36 = .ok (.istore 4, 2) := by decide +kernel
theorem dX11_trySayings_38 : decode cX11_trySayings 38 = .ok (.iload 4, 2) := by decide +kernel
theorem dX11_trySayings_40 : decode cX11_trySayings 40 = .ok (.iconst 1, 1) := by decide +kernel
theorem dX11_trySayings_41 : decode cX11_trySayings 41 = .ok (.iload_n 3, 1) := by decide +kernel
theorem dX11_trySayings_42 : decode cX11_trySayings 42 = .ok (.ishl, 1) := by decide +kernel
theorem dX11_trySayings_43 : decode cX11_trySayings 43 = .ok (.if_icmp .ge 86, 3) := by decide +kernel
theorem dX11_trySayings_46 : decode cX11_trySayings 46 = .ok (.lload_n 1, 1) := by decide +kernel
theorem dX11_trySayings_47 : decode cX11_trySayings 47 = .ok (.iload 4, 2) := by decide +kernel
theorem dX11_trySayings_49 : decode cX11_trySayings 49 = .ok (.lshr, 1) := by decide +kernel
theorem dX11_trySayings_50 : decode cX11_trySayings 50 = .ok (.lconst 1, 1) := by decide +kernel
theorem dX11_trySayings_51 : decode cX11_trySayings 51 = .ok (.land, 1) := by decide +kernel
theorem dX11_trySayings_52 : decode cX11_trySayings 52 = .ok (.lconst 0, 1) := by decide +kernel
theorem dX11_trySayings_53 : decode cX11_trySayings 53 = .ok (.lcmp, 1) := by decide +kernel
theorem dX11_trySayings_54 : decode cX11_trySayings 54 = .ok (.ifCond .ne 6, 3) := by decide +kernel
theorem dX11_trySayings_57 : decode cX11_trySayings 57 = .ok (.goto 66, 3) := by decide +kernel
theorem dX11_trySayings_60 : decode cX11_trySayings 60 = .ok (.aload_n 0, 1) := by decide +kernel
theorem dX11_trySayings_61 : decode cX11_trySayings 61 = .ok (.iload 4, 2) := by decide +kernel
theorem dX11_trySayings_63 : decode cX11_trySayings 63 = .ok (.invokevirtual 265, 3) := by decide +kernel
theorem dX11_trySayings_66 : decode cX11_trySayings 66 = .ok (.aload_n 0, 1) := by decide +kernel
theorem dX11_trySayings_67 : decode cX11_trySayings 67 = .ok (.getfield 45, 3) := by decide +kernel
theorem dX11_trySayings_70 : decode cX11_trySayings 70 = .ok (.aload_n 0, 1) := by decide +kernel
theorem dX11_trySayings_71 : decode cX11_trySayings 71 = .ok (.getfield 65, 3) := by decide +kernel
theorem dX11_trySayings_74 : decode cX11_trySayings 74 = .ok (.iload_n 3, 1) := by decide +kernel
theorem dX11_trySayings_75 : decode cX11_trySayings 75 = .ok (.invokevirtual 176, 3) := by decide +kernel
theorem dX11_trySayings_78 : decode cX11_trySayings 78 = .ok (.aload_n 0, 1) := by decide +kernel
theorem dX11_trySayings_79 : decode cX11_trySayings 79 = .ok (.getfield 65, 3) := by decide +kernel
theorem dX11_trySayings_82 : decode cX11_trySayings 82 = .ok (.aload_n 0, 1) := by decide +kernel
theorem dX11_trySayings_83 : decode cX11_trySayings 83 = .ok (.getfield 45, 3) := by decide +kernel
theorem dX11_trySayings_86 : decode cX11_trySayings 86 = .ok (.invokevirtual 154, 3) := by decide +kernel
theorem dX11_trySayings_89 : decode cX11_trySayings 89 = .ok (.invokevirtual 170, 3) := by decide +kernel
theorem dX11_trySayings_92 : decode cX11_trySayings 92 = .ok (.ifCond .le 31, 3) := by decide +kernel
theorem dX11_trySayings_95 : decode cX11_trySayings 95 = .ok (.iload 4, 2) := by decide +kernel
theorem dX11_trySayings_97 : decode cX11_trySayings 97 = .ok (.iconst 1, 1) := by decide +kernel
theorem dX11_trySayings_98 : decode cX11_trySayings 98 = .ok (.iload_n 3, 1) := by decide +kernel
theorem dX11_trySayings_99 : decode cX11_trySayings 99 = .ok (.ishl, 1) := by decide +kernel
theorem dX11_trySayings_100 : decode cX11_trySayings 100 = .ok (.ior, 1) := by decide +kernel
theorem dX11_trySayings_101 : decode cX11_trySayings 101 = .ok (.istore 5, 2) := by decide +kernel
theorem dX11_trySayings_103 : decode cX11_trySayings 103 = .ok (.aload_n 0, 1) := by decide +kernel
theorem dX11_trySayings_104 : decode cX11_trySayings 104 = .ok (.getfield 65, 3) := by decide +kernel
theorem dX11_trySayings_107 : decode cX11_trySayings 107 = .ok (.aload_n 0, 1) := by decide +kernel
theorem dX11_trySayings_108 : decode cX11_trySayings 108 = .ok (.getfield 92, 3) := by decide +kernel
theorem dX11_trySayings_111 : decode cX11_trySayings 111 = .ok (.iload 5, 2) := by decide +kernel
theorem dX11_trySayings_113 : decode cX11_trySayings 113 = .ok (.invokevirtual 261, 3) := by decide +kernel
theorem dX11_trySayings_116 : decode cX11_trySayings 116 = .ok (.lload_n 1, 1) := by decide +kernel
theorem dX11_trySayings_117 : decode cX11_trySayings 117 = .ok (.lconst 1, 1) := by decide +kernel
theorem dX11_trySayings_118 : decode cX11_trySayings 118 = .ok (.iload 5, 2) := by decide +kernel
theorem dX11_trySayings_120 : decode cX11_trySayings 120 = .ok (.lshl, 1) := by decide +kernel
theorem dX11_trySayings_121 : decode cX11_trySayings 121 = .ok (.lor, 1) := by decide +kernel
theorem dX11_trySayings_122 : decode cX11_trySayings 122 = .ok (.lstore_n 1, 1) := by decide +kernel
theorem dX11_trySayings_123 : decode cX11_trySayings 123 = .ok (.iinc 4 1, 3) := by decide +kernel
theorem dX11_trySayings_126 : decode cX11_trySayings 126 = .ok (.goto (-88), 3) := by decide +kernel
theorem dX11_trySayings_129 : decode cX11_trySayings 129 = .ok (.iinc 3 1, 3) := by decide +kernel
theorem dX11_trySayings_132 : decode cX11_trySayings 132 = .ok (.goto (-108), 3) := by decide +kernel
theorem dX11_trySayings_135 : decode cX11_trySayings 135 = .ok (.lload_n 1, 1) := by decide +kernel
theorem dX11_trySayings_136 : decode cX11_trySayings 136 = .ok (.lreturn, 1) := by decide +kernel
theorem dX11_takeLeft_0 : decode cX11_takeLeft 0 = .ok (.aload_n 0, 1) := by decide +kernel
theorem dX11_takeLeft_1 : decode cX11_takeLeft 1 = .ok (.getfield 65, 3) := by decide +kernel
theorem dX11_takeLeft_4 : decode cX11_takeLeft 4 = .ok (.aload_n 0, 1) := by decide +kernel
theorem dX11_takeLeft_5 : decode cX11_takeLeft 5 = .ok (.getfield 57, 3) := by decide +kernel
theorem dX11_takeLeft_8 : decode cX11_takeLeft 8 = .ok (.invokevirtual 199, 3) := by decide +kernel
theorem dX11_takeLeft_11 : decode cX11_takeLeft 11 = .ok (.aload_n 0, 1) := by decide +kernel
theorem dX11_takeLeft_12 : decode cX11_takeLeft 12 = .ok (.getfield 65, 3) := by decide +kernel
theorem dX11_takeLeft_15 : decode cX11_takeLeft 15 = .ok (.aload_n 0, 1) := by decide +kernel
theorem dX11_takeLeft_16 : decode cX11_takeLeft 16 = .ok (.getfield 92, 3) := by decide +kernel
theorem dX11_takeLeft_19 : decode cX11_takeLeft 19 = .ok (.iload_n 1, 1) := by decide +kernel
theorem dX11_takeLeft_20 : decode cX11_takeLeft 20 = .ok (.invokevirtual 269, 3) := by decide +kernel
theorem dX11_takeLeft_23 : decode cX11_takeLeft 23 = .ok (.return_, 1) := by decide +kernel
theorem dX11_goJust_0 : decode cX11_goJust 0 = .ok (.aload_n 0, 1) := by decide +kernel
theorem dX11_goJust_1 : decode cX11_goJust 1 = .ok (.iload_n 2, 1) := by decide +kernel
theorem dX11_goJust_2 : decode cX11_goJust 2 = .ok (.invokevirtual 265, 3) := by decide +kernel
theorem dX11_goJust_5 : decode cX11_goJust 5 = .ok (.iconst 0, 1) := by decide +kernel
theorem dX11_goJust_6 : decode cX11_goJust 6 = .ok (.istore 4, 2) := by decide +kernel
theorem dX11_goJust_8 : decode cX11_goJust 8 = .ok (.iconst 0, 1) := by decide +kernel
theorem dX11_goJust_9 : decode cX11_goJust 9 = .ok (.istore 5, 2) := by decide +kernel
theorem dX11_goJust_11 : decode cX11_goJust 11 = .ok (.iload 5, 2) := by decide +kernel
theorem dX11_goJust_13 : decode cX11_goJust 13 = .ok (.iload_n 3, 1) := by decide +kernel
theorem dX11_goJust_14 : decode cX11_goJust 14 = .ok (.if_icmp .ge 67, 3) := by decide +kernel
theorem dX11_goJust_17 : decode cX11_goJust 17 = .ok (.iload 4, 2) := by decide +kernel
theorem dX11_goJust_19 : decode cX11_goJust 19 = .ok (.iload_n 1, 1) := by decide +kernel
theorem dX11_goJust_20 : decode cX11_goJust 20 = .ok (.iconst (-1), 1) := by decide +kernel
theorem dX11_goJust_21 : decode cX11_goJust 21 = .ok (.ixor, 1) := by decide +kernel
theorem dX11_goJust_22 : decode cX11_goJust 22 = .ok (.iand, 1) := by decide +kernel
theorem dX11_goJust_23 : decode cX11_goJust 23 = .ok (.ifCond .ne 58, 3) := by decide +kernel
theorem dX11_goJust_26 : decode cX11_goJust 26 = .ok (.aload_n 0, 1) := by decide +kernel
theorem dX11_goJust_27 : decode cX11_goJust 27 = .ok (.getfield 65, 3) := by decide +kernel
theorem dX11_goJust_30 : decode cX11_goJust 30 = .ok (.getfield 135, 3) := by decide +kernel
theorem dX11_goJust_33 : decode cX11_goJust 33 = .ok (.istore 6, 2) := by decide +kernel
theorem dX11_goJust_35 : decode cX11_goJust 35 = .ok (.aload_n 0, 1) := by decide +kernel
theorem dX11_goJust_36 : decode cX11_goJust 36 = .ok (.getfield 45, 3) := by decide +kernel
theorem dX11_goJust_39 : decode cX11_goJust 39 = .ok (.aload_n 0, 1) := by decide +kernel
theorem dX11_goJust_40 : decode cX11_goJust 40 = .ok (.getfield 65, 3) := by decide +kernel
theorem dX11_goJust_43 : decode cX11_goJust 43 = .ok (.invokevirtual 193, 3) := by decide +kernel
theorem dX11_goJust_46 : decode cX11_goJust 46 = .ok (.istore 7, 2) := by decide +kernel
theorem dX11_goJust_48 : decode cX11_goJust 48 = .ok (.iload 7, 2) := by decide +kernel
theorem dX11_goJust_50 : decode cX11_goJust 50 = .ok (.ifCond .ne 18, 3) := by decide +kernel
theorem dX11_goJust_53 : decode cX11_goJust 53 = .ok (.aload_n 0, 1) := by decide +kernel
theorem dX11_goJust_54 : decode cX11_goJust 54 = .ok (.getfield 65, 3) := by decide +kernel
theorem dX11_goJust_57 : decode cX11_goJust 57 = .ok (.getfield 135, 3) := by decide +kernel
theorem dX11_goJust_60 : decode cX11_goJust 60 = .ok (.iload 6, 2) := by decide +kernel
theorem dX11_goJust_62 : decode cX11_goJust 62 = .ok (.if_icmp .ne 6, 3) := by decide +kernel
theorem dX11_goJust_65 : decode cX11_goJust 65 = .ok (.goto 16, 3) := by decide +kernel
theorem dX11_goJust_68 : decode cX11_goJust 68 = .ok (.iload 4, 2) := by decide +kernel
theorem dX11_goJust_70 : decode cX11_goJust 70 = .ok (.iload 7, 2) := by decide +kernel
theorem dX11_goJust_72 : decode cX11_goJust 72 = .ok (.ior, 1) := by decide +kernel
theorem dX11_goJust_73 : decode cX11_goJust 73 = .ok (.istore 4, 2) := by decide +kernel
theorem dX11_goJust_75 : decode cX11_goJust 75 = .ok (.iinc 5 1, 3) := by decide +kernel
theorem dX11_goJust_78 : decode cX11_goJust 78 = .ok (.goto (-67), 3) := by decide +kernel
theorem dX11_goJust_81 : decode cX11_goJust 81 = .ok (.iload 4, 2) := by decide +kernel
theorem dX11_goJust_83 : decode cX11_goJust 83 = .ok (.iload_n 1, 1) := by decide +kernel
theorem dX11_goJust_84 : decode cX11_goJust 84 = .ok (.if_icmp .ne 7, 3) := by decide +kernel
theorem dX11_goJust_87 : decode cX11_goJust 87 = .ok (.iconst 1, 1) := by decide +kernel
theorem dX11_goJust_88 : decode cX11_goJust 88 = .ok (.goto 4, 3) := by decide +kernel
theorem dX11_goJust_91 : decode cX11_goJust 91 = .ok (.iconst 0, 1) := by decide +kernel
theorem dX11_goJust_92 : decode cX11_goJust 92 = .ok (.ireturn, 1) := by decide +kernel
theorem dX11_countFits_0 : decode cX11_countFits 0 = .ok (.aload_n 0, 1) := by decide +kernel
theorem dX11_countFits_1 : decode cX11_countFits 1 = .ok (.getfield 88, 3) := by decide +kernel
theorem dX11_countFits_4 : decode cX11_countFits 4 = .ok (.getfield 114, 3) := by decide +kernel
theorem dX11_countFits_7 : decode cX11_countFits 7 = .ok (.ifCond .ne 46, 3) := by decide +kernel
theorem dX11_countFits_10 : decode cX11_countFits 10 = .ok (.iconst 0, 1) := by decide +kernel
theorem dX11_countFits_11 : decode cX11_countFits 11 = .ok (.istore_n 2, 1) := by decide +kernel
theorem dX11_countFits_12 : decode cX11_countFits 12 = .ok (.iload_n 2, 1) := by decide +kernel
theorem dX11_countFits_13 : decode cX11_countFits 13 = .ok (.aload_n 0, 1) := by decide +kernel
theorem dX11_countFits_14 : decode cX11_countFits 14 = .ok (.getfield 26, 3) := by decide +kernel
theorem dX11_countFits_17 : decode cX11_countFits 17 = .ok (.getfield 173, 3) := by decide +kernel
theorem dX11_countFits_20 : decode cX11_countFits 20 = .ok (.if_icmp .gt 25, 3) := by decide +kernel
theorem dX11_countFits_23 : decode cX11_countFits 23 = .ok (.aload_n 0, 1) := by decide +kernel
theorem dX11_countFits_24 : decode cX11_countFits 24 = .ok (.getfield 88, 3) := by decide +kernel
theorem dX11_countFits_27 : decode cX11_countFits 27 = .ok (.aload_n 0, 1) := by decide +kernel
theorem dX11_countFits_28 : decode cX11_countFits 28 = .ok (.getfield 26, 3) := by decide +kernel
theorem dX11_countFits_31 : decode cX11_countFits 31 = .ok (.iload_n 2, 1) := by decide +kernel
theorem dX11_countFits_32 : decode cX11_countFits 32 = .ok (.aload_n 0, 1) := by decide +kernel
theorem dX11_countFits_33 : decode cX11_countFits 33 = .ok (.getfield 45, 3) := by decide +kernel
theorem dX11_countFits_36 : decode cX11_countFits 36 = .ok (.invokevirtual 272, 3) := by decide +kernel
theorem dX11_countFits_39 : decode cX11_countFits 39 = .ok (.iinc 2 1, 3) := by decide +kernel
theorem dX11_countFits_42 : decode cX11_countFits 42 = .ok (.goto (-30), 3) := by decide +kernel
theorem dX11_countFits_45 : decode cX11_countFits 45 = .ok (.aload_n 0, 1) := by decide +kernel
theorem dX11_countFits_46 : decode cX11_countFits 46 = .ok (.getfield 88, 3) := by decide +kernel
theorem dX11_countFits_49 : decode cX11_countFits 49 = .ok (.iconst 1, 1) := by decide +kernel
theorem dX11_countFits_50 : decode cX11_countFits 50 = .ok (.putfield 114, 3) := by decide +kernel
theorem dX11_countFits_53 : decode cX11_countFits 53 = .ok (.aload_n 0, 1) := by decide +kernel
theorem dX11_countFits_54 : decode cX11_countFits 54 = .ok (.getfield 88, 3) := by decide +kernel
theorem dX11_countFits_57 : decode cX11_countFits 57 = .ok (.aload_n 0, 1) := by decide +kernel
theorem dX11_countFits_58 : decode cX11_countFits 58 = .ok (.getfield 26, 3) := by decide +kernel
theorem dX11_countFits_61 : decode cX11_countFits 61 = .ok (.aload_n 0, 1) := by decide +kernel
theorem dX11_countFits_62 : decode cX11_countFits 62 = .ok (.getfield 79, 3) := by decide +kernel
theorem dX11_countFits_65 : decode cX11_countFits 65 = .ok (.iload_n 1, 1) := by decide +kernel
theorem dX11_countFits_66 : decode cX11_countFits 66 = .ok (.invokevirtual 276, 3) := by decide +kernel
theorem dX11_countFits_69 : decode cX11_countFits 69 = .ok (.ireturn, 1) := by decide +kernel
theorem dJ0_length_8abf5_0 : decode cJ0_length_8abf5 0 = .ok (.aload_n 0, 1) := by decide +kernel
theorem dJ0_length_8abf5_1 : decode cJ0_length_8abf5 1 = .ok (.getfield 9, 3) := by decide +kernel
theorem dJ0_length_8abf5_4 : decode cJ0_length_8abf5 4 = .ok (.arraylength, 1) := by decide +kernel
theorem dJ0_length_8abf5_5 : decode cJ0_length_8abf5 5 = .ok (.aload_n 0, 1) := by decide +kernel
theorem dJ0_length_8abf5_6 : decode cJ0_length_8abf5 6 = .ok (.invokevirtual 335, 3) := by decide +kernel
theorem dJ0_length_8abf5_9 : decode cJ0_length_8abf5 9 = .ok (.ishr, 1) := by decide +kernel
theorem dJ0_length_8abf5_10 : decode cJ0_length_8abf5 10 = .ok (.ireturn, 1) := by decide +kernel
theorem dJ0_charAt_5068e_0 : decode cJ0_charAt_5068e 0 = .ok (.aload_n 0, 1) := by decide +kernel
theorem dJ0_charAt_5068e_1 : decode cJ0_charAt_5068e 1 = .ok (.invokevirtual 492, 3) := by decide +kernel
theorem dJ0_charAt_5068e_4 : decode cJ0_charAt_5068e 4 = .ok (.ifCond .eq 12, 3) := by decide +kernel
theorem dJ0_charAt_5068e_7 : decode cJ0_charAt_5068e 7 = .ok (.aload_n 0, 1) := by decide +kernel
theorem dJ0_charAt_5068e_8 : decode cJ0_charAt_5068e 8 = .ok (.getfield 9, 3) := by decide +kernel
theorem dJ0_charAt_5068e_11 : decode cJ0_charAt_5068e 11 = .ok (.iload_n 1, 1) := by decide +kernel
theorem dJ0_charAt_5068e_12 : decode cJ0_charAt_5068e 12 = .ok (.invokestatic 495, 3) := by decide +kernel
theorem dJ0_charAt_5068e_15 : decode cJ0_charAt_5068e 15 = .ok (.ireturn, 1) := by decide +kernel
theorem dJ0_charAt_5068e_16 : decode cJ0_charAt_5068e 16 = .ok (.aload_n 0, 1) := by decide +kernel
theorem dJ0_charAt_5068e_17 : decode cJ0_charAt_5068e 17 = .ok (.getfield 9, 3) := by decide +kernel
theorem dJ0_charAt_5068e_20 : decode cJ0_charAt_5068e 20 = .ok (.iload_n 1, 1) := by decide +kernel
theorem dJ0_charAt_5068e_21 : decode cJ0_charAt_5068e 21 = .ok (.invokestatic 498, 3) := by decide +kernel
theorem dJ0_charAt_5068e_24 : decode cJ0_charAt_5068e 24 = .ok (.ireturn, 1) := by decide +kernel
theorem dJ0_indexOf_0f7a4_0 : decode cJ0_indexOf_0f7a4 0 = .ok (.aload_n 0, 1) := by decide +kernel
theorem dJ0_indexOf_0f7a4_1 : decode cJ0_indexOf_0f7a4 1 = .ok (.iload_n 1, 1) := by decide +kernel
theorem dJ0_indexOf_0f7a4_2 : decode cJ0_indexOf_0f7a4 2 = .ok (.iconst 0, 1) := by decide +kernel
theorem dJ0_indexOf_0f7a4_3 : decode cJ0_indexOf_0f7a4 3 = .ok (.invokevirtual 633, 3) := by decide +kernel
theorem dJ0_indexOf_0f7a4_6 : decode cJ0_indexOf_0f7a4 6 = .ok (.ireturn, 1) := by decide +kernel
theorem dJ0_indexOf_7cf53_0 : decode cJ0_indexOf_7cf53 0 = .ok (.aload_n 0, 1) := by decide +kernel
theorem dJ0_indexOf_7cf53_1 : decode cJ0_indexOf_7cf53 1 = .ok (.invokevirtual 492, 3) := by decide +kernel
theorem dJ0_indexOf_7cf53_4 : decode cJ0_indexOf_7cf53 4 = .ok (.ifCond .eq 19, 3) := by decide +kernel
theorem dJ0_indexOf_7cf53_7 : decode cJ0_indexOf_7cf53 7 = .ok (.aload_n 0, 1) := by decide +kernel
theorem dJ0_indexOf_7cf53_8 : decode cJ0_indexOf_7cf53 8 = .ok (.getfield 9, 3) := by decide +kernel
theorem dJ0_indexOf_7cf53_11 : decode cJ0_indexOf_7cf53 11 = .ok (.iload_n 1, 1) := by decide +kernel
theorem dJ0_indexOf_7cf53_12 : decode cJ0_indexOf_7cf53 12 = .ok (.iload_n 2, 1) := by decide +kernel
theorem dJ0_indexOf_7cf53_13 : decode cJ0_indexOf_7cf53 13 = .ok (.aload_n 0, 1) := by decide +kernel
theorem dJ0_indexOf_7cf53_14 : decode cJ0_indexOf_7cf53 14 = .ok (.invokevirtual 505, 3) := by decide +kernel
theorem dJ0_indexOf_7cf53_17 : decode cJ0_indexOf_7cf53 17 = .ok (.invokestatic 637, 3) := by decide +kernel
theorem dJ0_indexOf_7cf53_20 : decode cJ0_indexOf_7cf53 20 = .ok (.goto 16, 3) := by decide +kernel
theorem dJ0_indexOf_7cf53_23 : decode cJ0_indexOf_7cf53 23 = .ok (.aload_n 0, 1) := by decide +kernel
theorem dJ0_indexOf_7cf53_24 : decode cJ0_indexOf_7cf53 24 = .ok (.getfield 9, 3) := by decide +kernel
theorem dJ0_indexOf_7cf53_27 : decode cJ0_indexOf_7cf53 27 = .ok (.iload_n 1, 1) := by decide +kernel
theorem dJ0_indexOf_7cf53_28 : decode cJ0_indexOf_7cf53 28 = .ok (.iload_n 2, 1) := by decide +kernel
theorem dJ0_indexOf_7cf53_29 : decode cJ0_indexOf_7cf53 29 = .ok (.aload_n 0, 1) := by decide +kernel
theorem dJ0_indexOf_7cf53_30 : decode cJ0_indexOf_7cf53 30 = .ok (.invokevirtual 505, 3) := by decide +kernel
theorem dJ0_indexOf_7cf53_33 : decode cJ0_indexOf_7cf53 33 = .ok (.invokestatic 640, 3) := by decide +kernel
theorem dJ0_indexOf_7cf53_36 : decode cJ0_indexOf_7cf53 36 = .ok (.ireturn, 1) := by decide +kernel
theorem dJ0_coder_7d493_0 : decode cJ0_coder_7d493 0 = .ok (.getstatic 38, 3) := by decide +kernel
theorem dJ0_coder_7d493_3 : decode cJ0_coder_7d493 3 = .ok (.ifCond .eq 10, 3) := by decide +kernel
theorem dJ0_coder_7d493_6 : decode cJ0_coder_7d493 6 = .ok (.aload_n 0, 1) := by decide +kernel
theorem dJ0_coder_7d493_7 : decode cJ0_coder_7d493 7 = .ok (.getfield 15, 3) := by decide +kernel
theorem dJ0_coder_7d493_10 : decode cJ0_coder_7d493 10 = .ok (.goto 4, 3) := by decide +kernel
theorem dJ0_coder_7d493_13 : decode cJ0_coder_7d493 13 = .ok (.iconst 1, 1) := by decide +kernel
theorem dJ0_coder_7d493_14 : decode cJ0_coder_7d493 14 = .ok (.ireturn, 1) := by decide +kernel
theorem dJ0_isLatin1_aae02_0 : decode cJ0_isLatin1_aae02 0 = .ok (.getstatic 38, 3) := by decide +kernel
theorem dJ0_isLatin1_aae02_3 : decode cJ0_isLatin1_aae02 3 = .ok (.ifCond .eq 14, 3) := by decide +kernel
theorem dJ0_isLatin1_aae02_6 : decode cJ0_isLatin1_aae02 6 = .ok (.aload_n 0, 1) := by decide +kernel
theorem dJ0_isLatin1_aae02_7 : decode cJ0_isLatin1_aae02 7 = .ok (.getfield 15, 3) := by decide +kernel
theorem dJ0_isLatin1_aae02_10 : decode cJ0_isLatin1_aae02 10 = .ok (.ifCond .ne 7, 3) := by decide +kernel
theorem dJ0_isLatin1_aae02_13 : decode cJ0_isLatin1_aae02 13 = .ok (.iconst 1, 1) := by decide +kernel
theorem dJ0_isLatin1_aae02_14 : decode cJ0_isLatin1_aae02 14 = .ok (.goto 4, 3) := by decide +kernel
theorem dJ0_isLatin1_aae02_17 : decode cJ0_isLatin1_aae02 17 = .ok (.iconst 0, 1) := by decide +kernel
theorem dJ0_isLatin1_aae02_18 : decode cJ0_isLatin1_aae02 18 = .ok (.ireturn, 1) := by decide +kernel
theorem dJ0_checkIndex_df160_0 : decode cJ0_checkIndex_df160 0 = .ok (.iload_n 0, 1) := by decide +kernel
theorem dJ0_checkIndex_df160_1 : decode cJ0_checkIndex_df160 1 = .ok (.iload_n 1, 1) := by decide +kernel
theorem dJ0_checkIndex_df160_2 : decode cJ0_checkIndex_df160 2 = .ok (.getstatic 1053, 3) := by decide +kernel
theorem dJ0_checkIndex_df160_5 : decode cJ0_checkIndex_df160 5 = .ok (.invokestatic 1059, 3) := by decide +kernel
theorem dJ0_checkIndex_df160_8 : decode cJ0_checkIndex_df160 8 = .ok (.pop, 1) := by decide +kernel
theorem dJ0_checkIndex_df160_9 : decode cJ0_checkIndex_df160 9 = .ok (.return_, 1) := by decide +kernel
theorem dJ0_checkBoundsBeginEnd_23922_0 : decode cJ0_checkBoundsBeginEnd_23922 0 = .ok (.iload_n 0, 1) := by decide +kernel
theorem dJ0_checkBoundsBeginEnd_23922_1 : decode cJ0_checkBoundsBeginEnd_23922 1 = .ok (.iload_n 1, 1) := by decide +kernel
theorem dJ0_checkBoundsBeginEnd_23922_2 : decode cJ0_checkBoundsBeginEnd_23922 2 = .ok (.iload_n 2, 1) := by decide +kernel
theorem dJ0_checkBoundsBeginEnd_23922_3 : decode cJ0_checkBoundsBeginEnd_23922 3 = .ok (.getstatic 1053, 3) := by decide +kernel
theorem dJ0_checkBoundsBeginEnd_23922_6 : decode cJ0_checkBoundsBeginEnd_23922 6 = .ok (.invokestatic 1062, 3) := by decide +kernel
theorem dJ0_checkBoundsBeginEnd_23922_9 : decode cJ0_checkBoundsBeginEnd_23922 9 = .ok (.pop, 1) := by decide +kernel
theorem dJ0_checkBoundsBeginEnd_23922_10 : decode cJ0_checkBoundsBeginEnd_23922 10 = .ok (.return_, 1) := by decide +kernel
theorem dJ1_charAt_3b067_0 : decode cJ1_charAt_3b067 0 = .ok (.iload_n 1, 1) := by decide +kernel
theorem dJ1_charAt_3b067_1 : decode cJ1_charAt_3b067 1 = .ok (.aload_n 0, 1) := by decide +kernel
theorem dJ1_charAt_3b067_2 : decode cJ1_charAt_3b067 2 = .ok (.arraylength, 1) := by decide +kernel
theorem dJ1_charAt_3b067_3 : decode cJ1_charAt_3b067 3 = .ok (.invokestatic 9, 3) := by decide +kernel
theorem dJ1_charAt_3b067_6 : decode cJ1_charAt_3b067 6 = .ok (.aload_n 0, 1) := by decide +kernel
theorem dJ1_charAt_3b067_7 : decode cJ1_charAt_3b067 7 = .ok (.iload_n 1, 1) := by decide +kernel
theorem dJ1_charAt_3b067_8 : decode cJ1_charAt_3b067 8 = .ok (.baload, 1) := by decide +kernel
theorem dJ1_charAt_3b067_9 : decode cJ1_charAt_3b067 9 = .ok (.sipush 255, 3) := by decide +kernel
theorem dJ1_charAt_3b067_12 : decode cJ1_charAt_3b067 12 = .ok (.iand, 1) := by decide +kernel
theorem dJ1_charAt_3b067_13 : decode cJ1_charAt_3b067 13 = .ok (.i2c, 1) := by decide +kernel
theorem dJ1_charAt_3b067_14 : decode cJ1_charAt_3b067 14 = .ok (.ireturn, 1) := by decide +kernel
theorem dJ1_canEncode_9a6ad_0 : decode cJ1_canEncode_9a6ad 0 = .ok (.iload_n 0, 1) := by decide +kernel
theorem dJ1_canEncode_9a6ad_1 : decode cJ1_canEncode_9a6ad 1 = .ok (.ifCond .lt 14, 3) := by decide +kernel
theorem dJ1_canEncode_9a6ad_4 : decode cJ1_canEncode_9a6ad 4 = .ok (.iload_n 0, 1) := by decide +kernel
theorem dJ1_canEncode_9a6ad_5 : decode cJ1_canEncode_9a6ad 5 = .ok (.sipush 255, 3) := by decide +kernel
theorem dJ1_canEncode_9a6ad_8 : decode cJ1_canEncode_9a6ad 8 = .ok (.if_icmp .gt 7, 3) := by decide +kernel
theorem dJ1_canEncode_9a6ad_11 : decode cJ1_canEncode_9a6ad 11 = .ok (.iconst 1, 1) := by decide +kernel
theorem dJ1_canEncode_9a6ad_12 : decode cJ1_canEncode_9a6ad 12 = .ok (.goto 4, 3) := by decide +kernel
theorem dJ1_canEncode_9a6ad_15 : decode cJ1_canEncode_9a6ad 15 = .ok (.iconst 0, 1) := by decide +kernel
theorem dJ1_canEncode_9a6ad_16 : decode cJ1_canEncode_9a6ad 16 = .ok (.ireturn, 1) := by decide +kernel
theorem dJ1_indexOf_4cfef_0 : decode cJ1_indexOf_4cfef 0 = .ok (.iload_n 1, 1) := by decide +kernel
theorem dJ1_indexOf_4cfef_1 : decode cJ1_indexOf_4cfef 1 = .ok (.invokestatic 88, 3) := by decide +kernel
theorem dJ1_indexOf_4cfef_4 : decode cJ1_indexOf_4cfef 4 = .ok (.ifCond .ne 5, 3) := by decide +kernel
theorem dJ1_indexOf_4cfef_7 : decode cJ1_indexOf_4cfef 7 = .ok (.iconst (-1), 1) := by decide +kernel
theorem dJ1_indexOf_4cfef_8 : decode cJ1_indexOf_4cfef 8 = .ok (.ireturn, 1) := by decide +kernel
theorem dJ1_indexOf_4cfef_9 : decode cJ1_indexOf_4cfef 9 = .ok (.iload_n 2, 1) := by decide +kernel
theorem dJ1_indexOf_4cfef_10 : decode cJ1_indexOf_4cfef 10 = .ok (.iconst 0, 1) := by decide +kernel
theorem dJ1_indexOf_4cfef_11 : decode cJ1_indexOf_4cfef 11 = .ok (.invokestatic 92, 3) := by decide +kernel
theorem dJ1_indexOf_4cfef_14 : decode cJ1_indexOf_4cfef 14 = .ok (.istore_n 2, 1) := by decide +kernel
theorem dJ1_indexOf_4cfef_15 : decode cJ1_indexOf_4cfef 15 = .ok (.iload_n 3, 1) := by decide +kernel
theorem dJ1_indexOf_4cfef_16 : decode cJ1_indexOf_4cfef 16 = .ok (.aload_n 0, 1) := by decide +kernel
theorem dJ1_indexOf_4cfef_17 : decode cJ1_indexOf_4cfef 17 = .ok (.arraylength, 1) := by decide +kernel
theorem dJ1_indexOf_4cfef_18 : decode cJ1_indexOf_4cfef 18 = .ok (.invokestatic 38, 3) := by decide +kernel
theorem dJ1_indexOf_4cfef_21 : decode cJ1_indexOf_4cfef 21 = .ok (.istore_n 3, 1) := by decide +kernel
theorem dJ1_indexOf_4cfef_22 : decode cJ1_indexOf_4cfef 22 = .ok (.iload_n 2, 1) := by decide +kernel
theorem dJ1_indexOf_4cfef_23 : decode cJ1_indexOf_4cfef 23 = .ok (.iload_n 3, 1) := by decide +kernel
theorem dJ1_indexOf_4cfef_24 : decode cJ1_indexOf_4cfef 24 = .ok (.if_icmp .lt 5, 3) := by decide +kernel
theorem dJ1_indexOf_4cfef_27 : decode cJ1_indexOf_4cfef 27 = .ok (.iconst (-1), 1) := by decide +kernel
theorem dJ1_indexOf_4cfef_28 : decode cJ1_indexOf_4cfef 28 = .ok (.ireturn, 1) := by decide +kernel
theorem dJ1_indexOf_4cfef_29 : decode cJ1_indexOf_4cfef 29 = .ok (.aload_n 0, 1) := by decide +kernel
theorem dJ1_indexOf_4cfef_30 : decode cJ1_indexOf_4cfef 30 = .ok (.iload_n 1, 1) := by decide +kernel
theorem dJ1_indexOf_4cfef_31 : decode cJ1_indexOf_4cfef 31 = .ok (.iload_n 2, 1) := by decide +kernel
theorem dJ1_indexOf_4cfef_32 : decode cJ1_indexOf_4cfef 32 = .ok (.iload_n 3, 1) := by decide +kernel
theorem dJ1_indexOf_4cfef_33 : decode cJ1_indexOf_4cfef 33 = .ok (.invokestatic 95, 3) := by decide +kernel
theorem dJ1_indexOf_4cfef_36 : decode cJ1_indexOf_4cfef 36 = .ok (.ireturn, 1) := by decide +kernel
theorem dJ1_indexOfChar_4cfef_0 : decode cJ1_indexOfChar_4cfef 0 = .ok (.iload_n 1, 1) := by decide +kernel
theorem dJ1_indexOfChar_4cfef_1 : decode cJ1_indexOfChar_4cfef 1 = .ok (.i2b, 1) := by decide +kernel
theorem dJ1_indexOfChar_4cfef_2 : decode cJ1_indexOfChar_4cfef 2 = .ok (.istore 4, 2) := by decide +kernel
theorem dJ1_indexOfChar_4cfef_4 : decode cJ1_indexOfChar_4cfef 4 = .ok (.iload_n 2, 1) := by decide +kernel
theorem dJ1_indexOfChar_4cfef_5 : decode cJ1_indexOfChar_4cfef 5 = .ok (.istore 5, 2) := by decide +kernel
theorem dJ1_indexOfChar_4cfef_7 : decode cJ1_indexOfChar_4cfef 7 = .ok (.iload 5, 2) := by decide +kernel
theorem dJ1_indexOfChar_4cfef_9 : decode cJ1_indexOfChar_4cfef 9 = .ok (.iload_n 3, 1) := by decide +kernel
theorem dJ1_indexOfChar_4cfef_10 : decode cJ1_indexOfChar_4cfef 10 = .ok (.if_icmp .ge 21, 3) := by decide +kernel
theorem dJ1_indexOfChar_4cfef_13 : decode cJ1_indexOfChar_4cfef 13 = .ok (.aload_n 0, 1) := by decide +kernel
theorem dJ1_indexOfChar_4cfef_14 : decode cJ1_indexOfChar_4cfef 14 = .ok (.iload 5, 2) := by decide +kernel
theorem dJ1_indexOfChar_4cfef_16 : decode cJ1_indexOfChar_4cfef 16 = .ok (.baload, 1) := by decide +kernel
theorem dJ1_indexOfChar_4cfef_17 : decode cJ1_indexOfChar_4cfef 17 = .ok (.iload 4, 2) := by decide +kernel
theorem dJ1_indexOfChar_4cfef_19 : decode cJ1_indexOfChar_4cfef 19 = .ok (.if_icmp .ne 6, 3) := by decide +kernel
theorem dJ1_indexOfChar_4cfef_22 : decode cJ1_indexOfChar_4cfef 22 = .ok (.iload 5, 2) := by decide +kernel
theorem dJ1_indexOfChar_4cfef_24 : decode cJ1_indexOfChar_4cfef 24 = .ok (.ireturn, 1) := by decide +kernel
theorem dJ1_indexOfChar_4cfef_25 : decode cJ1_indexOfChar_4cfef 25 = .ok (.iinc 5 1, 3) := by decide +kernel
theorem dJ1_indexOfChar_4cfef_28 : decode cJ1_indexOfChar_4cfef 28 = .ok (.goto (-21), 3) := by decide +kernel
theorem dJ1_indexOfChar_4cfef_31 : decode cJ1_indexOfChar_4cfef 31 = .ok (.iconst (-1), 1) := by decide +kernel
theorem dJ1_indexOfChar_4cfef_32 : decode cJ1_indexOfChar_4cfef 32 = .ok (.ireturn, 1) := by decide +kernel
theorem dJ3_checkIndex_8e157_0 : decode cJ3_checkIndex_8e157 0 = .ok (.iload_n 0, 1) := by decide +kernel
theorem dJ3_checkIndex_8e157_1 : decode cJ3_checkIndex_8e157 1 = .ok (.ifCond .lt 8, 3) := by decide +kernel
theorem dJ3_checkIndex_8e157_4 : decode cJ3_checkIndex_8e157 4 = .ok (.iload_n 0, 1) := by decide +kernel
theorem dJ3_checkIndex_8e157_5 : decode cJ3_checkIndex_8e157 5 = .ok (.iload_n 1, 1) := by decide +kernel
theorem dJ3_checkIndex_8e157_6 : decode cJ3_checkIndex_8e157 6 = .ok (.if_icmp .lt 10, 3) := by decide +kernel
theorem dJ3_checkIndex_8e157_9 : decode cJ3_checkIndex_8e157 9 = .ok (.aload_n 2, 1) := by decide +kernel
theorem dJ3_checkIndex_8e157_10 : decode cJ3_checkIndex_8e157 10 = .ok (.iload_n 0, 1) := by decide +kernel
theorem dJ3_checkIndex_8e157_11 : decode cJ3_checkIndex_8e157 11 = .ok (.iload_n 1, 1) := by decide +kernel
theorem dJ3_checkIndex_8e157_12 : decode cJ3_checkIndex_8e157 12 = .ok (.invokestatic 95, 3) := by decide +kernel
theorem dJ3_checkIndex_8e157_15 : decode cJ3_checkIndex_8e157 15 = .ok (.athrow, 1) := by decide +kernel
theorem dJ3_checkIndex_8e157_16 : decode cJ3_checkIndex_8e157 16 = .ok (.iload_n 0, 1) := by decide +kernel
theorem dJ3_checkIndex_8e157_17 : decode cJ3_checkIndex_8e157 17 = .ok (.ireturn, 1) := by decide +kernel
theorem dJ3_checkFromToIndex_8c36e_0 : decode cJ3_checkFromToIndex_8c36e 0 = .ok (.iload_n 0, 1) := by decide +kernel
theorem dJ3_checkFromToIndex_8c36e_1 : decode cJ3_checkFromToIndex_8c36e 1 = .ok (.ifCond .lt 13, 3) := by decide +kernel
theorem dJ3_checkFromToIndex_8c36e_4 : decode cJ3_checkFromToIndex_8c36e 4 = .ok (.iload_n 0, 1) := by decide +kernel
theorem dJ3_checkFromToIndex_8c36e_5 : decode cJ3_checkFromToIndex_8c36e 5 = .ok (.iload_n 1, 1) := by decide +kernel
theorem dJ3_checkFromToIndex_8c36e_6 : decode cJ3_checkFromToIndex_8c36e 6 = .ok (.if_icmp .gt 8, 3) := by decide +kernel
theorem dJ3_checkFromToIndex_8c36e_9 : decode cJ3_checkFromToIndex_8c36e 9 = .ok (.iload_n 1, 1) := by decide +kernel
theorem dJ3_checkFromToIndex_8c36e_10 : decode cJ3_checkFromToIndex_8c36e 10 = .ok (.iload_n 2, 1) := by decide +kernel
theorem dJ3_checkFromToIndex_8c36e_11 : decode cJ3_checkFromToIndex_8c36e 11 = .ok (.if_icmp .le 11, 3) := by decide +kernel
theorem dJ3_checkFromToIndex_8c36e_14 : decode cJ3_checkFromToIndex_8c36e 14 = .ok (.aload_n 3, 1) := by decide +kernel
theorem dJ3_checkFromToIndex_8c36e_15 : decode cJ3_checkFromToIndex_8c36e 15 = .ok (.iload_n 0, 1) := by decide +kernel
theorem dJ3_checkFromToIndex_8c36e_16 : decode cJ3_checkFromToIndex_8c36e 16 = .ok (.iload_n 1, 1) := by decide +kernel
theorem dJ3_checkFromToIndex_8c36e_17 : decode cJ3_checkFromToIndex_8c36e 17 = .ok (.iload_n 2, 1) := by decide +kernel
theorem dJ3_checkFromToIndex_8c36e_18 : decode cJ3_checkFromToIndex_8c36e 18 = .ok (.invokestatic 99, 3) := by decide +kernel
theorem dJ3_checkFromToIndex_8c36e_21 : decode cJ3_checkFromToIndex_8c36e 21 = .ok (.athrow, 1) := by decide +kernel
theorem dJ3_checkFromToIndex_8c36e_22 : decode cJ3_checkFromToIndex_8c36e 22 = .ok (.iload_n 0, 1) := by decide +kernel
theorem dJ3_checkFromToIndex_8c36e_23 : decode cJ3_checkFromToIndex_8c36e 23 = .ok (.ireturn, 1) := by decide +kernel
theorem dJ6_bitCount_0f7a4_0 : decode cJ6_bitCount_0f7a4 0 = .ok (.iload_n 0, 1) := by decide +kernel
theorem dJ6_bitCount_0f7a4_1 : decode cJ6_bitCount_0f7a4 1 = .ok (.iload_n 0, 1) := by decide +kernel
theorem dJ6_bitCount_0f7a4_2 : decode cJ6_bitCount_0f7a4 2 = .ok (.iconst 1, 1) := by decide +kernel
theorem dJ6_bitCount_0f7a4_3 : decode cJ6_bitCount_0f7a4 3 = .ok (.iushr, 1) := by decide +kernel
theorem dJ6_bitCount_0f7a4_4 : decode cJ6_bitCount_0f7a4 4 = .ok (.ldc_w 265, 3) := by decide +kernel
theorem dJ6_bitCount_0f7a4_7 : decode cJ6_bitCount_0f7a4 7 = .ok (.iand, 1) := by decide +kernel
theorem dJ6_bitCount_0f7a4_8 : decode cJ6_bitCount_0f7a4 8 = .ok (.isub, 1) := by decide +kernel
theorem dJ6_bitCount_0f7a4_9 : decode cJ6_bitCount_0f7a4 9 = .ok (.istore_n 0, 1) := by decide +kernel
theorem dJ6_bitCount_0f7a4_10 : decode cJ6_bitCount_0f7a4 10 = .ok (.iload_n 0, 1) := by decide +kernel
theorem dJ6_bitCount_0f7a4_11 : decode cJ6_bitCount_0f7a4 11 = .ok (.ldc_w 266, 3) := by decide +kernel
theorem dJ6_bitCount_0f7a4_14 : decode cJ6_bitCount_0f7a4 14 = .ok (.iand, 1) := by decide +kernel
theorem dJ6_bitCount_0f7a4_15 : decode cJ6_bitCount_0f7a4 15 = .ok (.iload_n 0, 1) := by decide +kernel
theorem dJ6_bitCount_0f7a4_16 : decode cJ6_bitCount_0f7a4 16 = .ok (.iconst 2, 1) := by decide +kernel
theorem dJ6_bitCount_0f7a4_17 : decode cJ6_bitCount_0f7a4 17 = .ok (.iushr, 1) := by decide +kernel
theorem dJ6_bitCount_0f7a4_18 : decode cJ6_bitCount_0f7a4 18 = .ok (.ldc_w 266, 3) := by decide +kernel
theorem dJ6_bitCount_0f7a4_21 : decode cJ6_bitCount_0f7a4 21 = .ok (.iand, 1) := by decide +kernel
theorem dJ6_bitCount_0f7a4_22 : decode cJ6_bitCount_0f7a4 22 = .ok (.iadd, 1) := by decide +kernel
theorem dJ6_bitCount_0f7a4_23 : decode cJ6_bitCount_0f7a4 23 = .ok (.istore_n 0, 1) := by decide +kernel
theorem dJ6_bitCount_0f7a4_24 : decode cJ6_bitCount_0f7a4 24 = .ok (.iload_n 0, 1) := by decide +kernel
theorem dJ6_bitCount_0f7a4_25 : decode cJ6_bitCount_0f7a4 25 = .ok (.iload_n 0, 1) := by decide +kernel
theorem dJ6_bitCount_0f7a4_26 : decode cJ6_bitCount_0f7a4 26 = .ok (.iconst 4, 1) := by decide +kernel
theorem dJ6_bitCount_0f7a4_27 : decode cJ6_bitCount_0f7a4 27 = .ok (.iushr, 1) := by decide +kernel
theorem dJ6_bitCount_0f7a4_28 : decode cJ6_bitCount_0f7a4 28 = .ok (.iadd, 1) := by decide +kernel
theorem dJ6_bitCount_0f7a4_29 : decode cJ6_bitCount_0f7a4 29 = .ok (.ldc_w 267, 3) := by decide +kernel
theorem dJ6_bitCount_0f7a4_32 : decode cJ6_bitCount_0f7a4 32 = .ok (.iand, 1) := by decide +kernel
theorem dJ6_bitCount_0f7a4_33 : decode cJ6_bitCount_0f7a4 33 = .ok (.istore_n 0, 1) := by decide +kernel
theorem dJ6_bitCount_0f7a4_34 : decode cJ6_bitCount_0f7a4 34 = .ok (.iload_n 0, 1) := by decide +kernel
theorem dJ6_bitCount_0f7a4_35 : decode cJ6_bitCount_0f7a4 35 = .ok (.iload_n 0, 1) := by decide +kernel
theorem dJ6_bitCount_0f7a4_36 : decode cJ6_bitCount_0f7a4 36 = .ok (.bipush 8, 2) := by decide +kernel
theorem dJ6_bitCount_0f7a4_38 : decode cJ6_bitCount_0f7a4 38 = .ok (.iushr, 1) := by decide +kernel
theorem dJ6_bitCount_0f7a4_39 : decode cJ6_bitCount_0f7a4 39 = .ok (.iadd, 1) := by decide +kernel
theorem dJ6_bitCount_0f7a4_40 : decode cJ6_bitCount_0f7a4 40 = .ok (.istore_n 0, 1) := by decide +kernel
theorem dJ6_bitCount_0f7a4_41 : decode cJ6_bitCount_0f7a4 41 = .ok (.iload_n 0, 1) := by decide +kernel
theorem dJ6_bitCount_0f7a4_42 : decode cJ6_bitCount_0f7a4 42 = .ok (.iload_n 0, 1) := by decide +kernel
theorem dJ6_bitCount_0f7a4_43 : decode cJ6_bitCount_0f7a4 43 = .ok (.bipush 16, 2) := by decide +kernel
theorem dJ6_bitCount_0f7a4_45 : decode cJ6_bitCount_0f7a4 45 = .ok (.iushr, 1) := by decide +kernel
theorem dJ6_bitCount_0f7a4_46 : decode cJ6_bitCount_0f7a4 46 = .ok (.iadd, 1) := by decide +kernel
theorem dJ6_bitCount_0f7a4_47 : decode cJ6_bitCount_0f7a4 47 = .ok (.istore_n 0, 1) := by decide +kernel
theorem dJ6_bitCount_0f7a4_48 : decode cJ6_bitCount_0f7a4 48 = .ok (.iload_n 0, 1) := by decide +kernel
theorem dJ6_bitCount_0f7a4_49 : decode cJ6_bitCount_0f7a4 49 = .ok (.bipush 63, 2) := by decide +kernel
theorem dJ6_bitCount_0f7a4_51 : decode cJ6_bitCount_0f7a4 51 = .ok (.iand, 1) := by decide +kernel
theorem dJ6_bitCount_0f7a4_52 : decode cJ6_bitCount_0f7a4 52 = .ok (.ireturn, 1) := by decide +kernel
theorem dJ7_fill_d0a16_0 : decode cJ7_fill_d0a16 0 = .ok (.iconst 0, 1) := by decide +kernel
theorem dJ7_fill_d0a16_1 : decode cJ7_fill_d0a16 1 = .ok (.istore_n 3, 1) := by decide +kernel
theorem dJ7_fill_d0a16_2 : decode cJ7_fill_d0a16 2 = .ok (.aload_n 0, 1) := by decide +kernel
theorem dJ7_fill_d0a16_3 : decode cJ7_fill_d0a16 3 = .ok (.arraylength, 1) := by decide +kernel
theorem dJ7_fill_d0a16_4 : decode cJ7_fill_d0a16 4 = .ok (.istore 4, 2) := by decide +kernel
theorem dJ7_fill_d0a16_6 : decode cJ7_fill_d0a16 6 = .ok (.iload_n 3, 1) := by decide +kernel
theorem dJ7_fill_d0a16_7 : decode cJ7_fill_d0a16 7 = .ok (.iload 4, 2) := by decide +kernel
theorem dJ7_fill_d0a16_9 : decode cJ7_fill_d0a16 9 = .ok (.if_icmp .ge 13, 3) := by decide +kernel
theorem dJ7_fill_d0a16_12 : decode cJ7_fill_d0a16 12 = .ok (.aload_n 0, 1) := by decide +kernel
theorem dJ7_fill_d0a16_13 : decode cJ7_fill_d0a16 13 = .ok (.iload_n 3, 1) := by decide +kernel
theorem dJ7_fill_d0a16_14 : decode cJ7_fill_d0a16 14 = .ok (.lload_n 1, 1) := by decide +kernel
theorem dJ7_fill_d0a16_15 : decode cJ7_fill_d0a16 15 = .ok (.lastore, 1) := by decide +kernel
theorem dJ7_fill_d0a16_16 : decode cJ7_fill_d0a16 16 = .ok (.iinc 3 1, 3) := by decide +kernel
theorem dJ7_fill_d0a16_19 : decode cJ7_fill_d0a16 19 = .ok (.goto (-13), 3) := by decide +kernel
theorem dJ7_fill_d0a16_22 : decode cJ7_fill_d0a16 22 = .ok (.return_, 1) := by decide +kernel
theorem dJ7_fill_53178_0 : decode cJ7_fill_53178 0 = .ok (.iconst 0, 1) := by decide +kernel
theorem dJ7_fill_53178_1 : decode cJ7_fill_53178 1 = .ok (.istore_n 2, 1) := by decide +kernel
theorem dJ7_fill_53178_2 : decode cJ7_fill_53178 2 = .ok (.aload_n 0, 1) := by decide +kernel
theorem dJ7_fill_53178_3 : decode cJ7_fill_53178 3 = .ok (.arraylength, 1) := by decide +kernel
theorem dJ7_fill_53178_4 : decode cJ7_fill_53178 4 = .ok (.istore_n 3, 1) := by decide +kernel
theorem dJ7_fill_53178_5 : decode cJ7_fill_53178 5 = .ok (.iload_n 2, 1) := by decide +kernel
theorem dJ7_fill_53178_6 : decode cJ7_fill_53178 6 = .ok (.iload_n 3, 1) := by decide +kernel
theorem dJ7_fill_53178_7 : decode cJ7_fill_53178 7 = .ok (.if_icmp .ge 13, 3) := by decide +kernel
theorem dJ7_fill_53178_10 : decode cJ7_fill_53178 10 = .ok (.aload_n 0, 1) := by decide +kernel
theorem dJ7_fill_53178_11 : decode cJ7_fill_53178 11 = .ok (.iload_n 2, 1) := by decide +kernel
theorem dJ7_fill_53178_12 : decode cJ7_fill_53178 12 = .ok (.iload_n 1, 1) := by decide +kernel
theorem dJ7_fill_53178_13 : decode cJ7_fill_53178 13 = .ok (.iastore, 1) := by decide +kernel
theorem dJ7_fill_53178_14 : decode cJ7_fill_53178 14 = .ok (.iinc 2 1, 3) := by decide +kernel
theorem dJ7_fill_53178_17 : decode cJ7_fill_53178 17 = .ok (.goto (-12), 3) := by decide +kernel
theorem dJ7_fill_53178_20 : decode cJ7_fill_53178 20 = .ok (.return_, 1) := by decide +kernel
