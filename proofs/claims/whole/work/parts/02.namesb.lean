theorem dJ_floorDiv_0 : decode cJ_floorDiv 0 = .ok (.lload_n 0, 1) := by decide +kernel
theorem dJ_floorDiv_1 : decode cJ_floorDiv 1 = .ok (.lload_n 2, 1) := by decide +kernel
theorem dJ_floorDiv_2 : decode cJ_floorDiv 2 = .ok (.ldiv, 1) := by decide +kernel
theorem dJ_floorDiv_3 : decode cJ_floorDiv 3 = .ok (.lstore 4, 2) := by decide +kernel
theorem dJ_floorDiv_5 : decode cJ_floorDiv 5 = .ok (.lload_n 0, 1) := by decide +kernel
theorem dJ_floorDiv_6 : decode cJ_floorDiv 6 = .ok (.lload_n 2, 1) := by decide +kernel
theorem dJ_floorDiv_7 : decode cJ_floorDiv 7 = .ok (.lxor, 1) := by decide +kernel
theorem dJ_floorDiv_8 : decode cJ_floorDiv 8 = .ok (.lconst 0, 1) := by decide +kernel
theorem dJ_floorDiv_9 : decode cJ_floorDiv 9 = .ok (.lcmp, 1) := by decide +kernel
theorem dJ_floorDiv_10 : decode cJ_floorDiv 10 = .ok (.ifCond .ge 17, 3) := by decide +kernel
theorem dJ_floorDiv_13 : decode cJ_floorDiv 13 = .ok (.lload 4, 2) := by decide +kernel
theorem dJ_floorDiv_15 : decode cJ_floorDiv 15 = .ok (.lload_n 2, 1) := by decide +kernel
theorem dJ_floorDiv_16 : decode cJ_floorDiv 16 = .ok (.lmul, 1) := by decide +kernel
theorem dJ_floorDiv_17 : decode cJ_floorDiv 17 = .ok (.lload_n 0, 1) := by decide +kernel
theorem dJ_floorDiv_18 : decode cJ_floorDiv 18 = .ok (.lcmp, 1) := by decide +kernel
theorem dJ_floorDiv_19 : decode cJ_floorDiv 19 = .ok (.ifCond .eq 8, 3) := by decide +kernel
theorem dJ_floorDiv_22 : decode cJ_floorDiv 22 = .ok (.lload 4, 2) := by decide +kernel
theorem dJ_floorDiv_24 : decode cJ_floorDiv 24 = .ok (.lconst 1, 1) := by decide +kernel
theorem dJ_floorDiv_25 : decode cJ_floorDiv 25 = .ok (.lsub, 1) := by decide +kernel
theorem dJ_floorDiv_26 : decode cJ_floorDiv 26 = .ok (.lreturn, 1) := by decide +kernel
theorem dJ_floorDiv_27 : decode cJ_floorDiv 27 = .ok (.lload 4, 2) := by decide +kernel
theorem dJ_floorDiv_29 : decode cJ_floorDiv 29 = .ok (.lreturn, 1) := by decide +kernel
theorem dJ_floorMod_0 : decode cJ_floorMod 0 = .ok (.iload_n 0, 1) := by decide +kernel
theorem dJ_floorMod_1 : decode cJ_floorMod 1 = .ok (.iload_n 1, 1) := by decide +kernel
theorem dJ_floorMod_2 : decode cJ_floorMod 2 = .ok (.irem, 1) := by decide +kernel
theorem dJ_floorMod_3 : decode cJ_floorMod 3 = .ok (.istore_n 2, 1) := by decide +kernel
theorem dJ_floorMod_4 : decode cJ_floorMod 4 = .ok (.iload_n 0, 1) := by decide +kernel
theorem dJ_floorMod_5 : decode cJ_floorMod 5 = .ok (.iload_n 1, 1) := by decide +kernel
theorem dJ_floorMod_6 : decode cJ_floorMod 6 = .ok (.ixor, 1) := by decide +kernel
theorem dJ_floorMod_7 : decode cJ_floorMod 7 = .ok (.ifCond .ge 11, 3) := by decide +kernel
theorem dJ_floorMod_10 : decode cJ_floorMod 10 = .ok (.iload_n 2, 1) := by decide +kernel
theorem dJ_floorMod_11 : decode cJ_floorMod 11 = .ok (.ifCond .eq 7, 3) := by decide +kernel
theorem dJ_floorMod_14 : decode cJ_floorMod 14 = .ok (.iload_n 2, 1) := by decide +kernel
theorem dJ_floorMod_15 : decode cJ_floorMod 15 = .ok (.iload_n 1, 1) := by decide +kernel
theorem dJ_floorMod_16 : decode cJ_floorMod 16 = .ok (.iadd, 1) := by decide +kernel
theorem dJ_floorMod_17 : decode cJ_floorMod 17 = .ok (.ireturn, 1) := by decide +kernel
theorem dJ_floorMod_18 : decode cJ_floorMod 18 = .ok (.iload_n 2, 1) := by decide +kernel
theorem dJ_floorMod_19 : decode cJ_floorMod 19 = .ok (.ireturn, 1) := by decide +kernel
theorem dS_init_0 : decode cS_init 0 = .ok (.aload_n 0, 1) := by decide +kernel
theorem dS_init_1 : decode cS_init 1 = .ok (.invokespecial 1, 3) := by decide +kernel
theorem dS_init_4 : decode cS_init 4 = .ok (.aload_n 0, 1) := by decide +kernel
theorem dS_init_5 : decode cS_init 5 = .ok (.iconst 0, 1) := by decide +kernel
theorem dS_init_6 : decode cS_init 6 = .ok (.putfield 7, 3) := by decide +kernel
theorem dS_init_9 : decode cS_init 9 = .ok (.aload_n 0, 1) := by decide +kernel
theorem dS_init_10 : decode cS_init 10 = .ok (.bipush 48, 2) := by decide +kernel
theorem dS_init_12 : decode cS_init 12 = .ok (.newarray .int, 2) := by decide +kernel
theorem dS_init_14 : decode cS_init 14 = .ok (.putfield 13, 3) := by decide +kernel
theorem dS_init_17 : decode cS_init 17 = .ok (.aload_n 0, 1) := by decide +kernel
theorem dS_init_18 : decode cS_init 18 = .ok (.bipush 48, 2) := by decide +kernel
theorem dS_init_20 : decode cS_init 20 = .ok (.newarray .int, 2) := by decide +kernel
theorem dS_init_22 : decode cS_init 22 = .ok (.putfield 17, 3) := by decide +kernel
theorem dS_init_25 : decode cS_init 25 = .ok (.aload_n 0, 1) := by decide +kernel
theorem dS_init_26 : decode cS_init 26 = .ok (.bipush 48, 2) := by decide +kernel
theorem dS_init_28 : decode cS_init 28 = .ok (.newarray .boolean, 2) := by decide +kernel
theorem dS_init_30 : decode cS_init 30 = .ok (.putfield 20, 3) := by decide +kernel
theorem dS_init_33 : decode cS_init 33 = .ok (.aload_n 0, 1) := by decide +kernel
theorem dS_init_34 : decode cS_init 34 = .ok (.bipush 48, 2) := by decide +kernel
theorem dS_init_36 : decode cS_init 36 = .ok (.bipush 9, 2) := by decide +kernel
theorem dS_init_38 : decode cS_init 38 = .ok (.multianewarray 24 2, 4) := by decide +kernel
theorem dS_init_42 : decode cS_init 42 = .ok (.putfield 26, 3) := by decide +kernel
theorem dS_init_45 : decode cS_init 45 = .ok (.aload_n 0, 1) := by decide +kernel
theorem dS_init_46 : decode cS_init 46 = .ok (.bipush 48, 2) := by decide +kernel
theorem dS_init_48 : decode cS_init 48 = .ok (.bipush 12, 2) := by decide +kernel
theorem dS_init_50 : decode cS_init 50 = .ok (.multianewarray 24 2, 4) := by decide +kernel
theorem dS_init_54 : decode cS_init 54 = .ok (.putfield 29, 3) := by decide +kernel
theorem dS_init_57 : decode cS_init 57 = .ok (.aload_n 0, 1) := by decide +kernel
theorem dS_init_58 : decode cS_init 58 = .ok (.bipush 48, 2) := by decide +kernel
theorem dS_init_60 : decode cS_init 60 = .ok (.bipush 12, 2) := by decide +kernel
theorem dS_init_62 : decode cS_init 62 = .ok (.multianewarray 24 2, 4) := by decide +kernel
theorem dS_init_66 : decode cS_init 66 = .ok (.putfield 32, 3) := by decide +kernel
theorem dS_init_69 : decode cS_init 69 = .ok (.aload_n 0, 1) := by decide +kernel
theorem dS_init_70 : decode cS_init 70 = .ok (.iconst 0, 1) := by decide +kernel
theorem dS_init_71 : decode cS_init 71 = .ok (.putfield 35, 3) := by decide +kernel
theorem dS_init_74 : decode cS_init 74 = .ok (.aload_n 0, 1) := by decide +kernel
theorem dS_init_75 : decode cS_init 75 = .ok (.bipush 9, 2) := by decide +kernel
theorem dS_init_77 : decode cS_init 77 = .ok (.newarray .int, 2) := by decide +kernel
theorem dS_init_79 : decode cS_init 79 = .ok (.putfield 38, 3) := by decide +kernel
theorem dS_init_82 : decode cS_init 82 = .ok (.aload_n 0, 1) := by decide +kernel
theorem dS_init_83 : decode cS_init 83 = .ok (.bipush 12, 2) := by decide +kernel
theorem dS_init_85 : decode cS_init 85 = .ok (.newarray .int, 2) := by decide +kernel
theorem dS_init_87 : decode cS_init 87 = .ok (.putfield 41, 3) := by decide +kernel
theorem dS_init_90 : decode cS_init 90 = .ok (.aload_n 0, 1) := by decide +kernel
theorem dS_init_91 : decode cS_init 91 = .ok (.bipush 48, 2) := by decide +kernel
theorem dS_init_93 : decode cS_init 93 = .ok (.newarray .boolean, 2) := by decide +kernel
theorem dS_init_95 : decode cS_init 95 = .ok (.putfield 44, 3) := by decide +kernel
theorem dS_init_98 : decode cS_init 98 = .ok (.aload_n 0, 1) := by decide +kernel
theorem dS_init_99 : decode cS_init 99 = .ok (.bipush 48, 2) := by decide +kernel
theorem dS_init_101 : decode cS_init 101 = .ok (.newarray .int, 2) := by decide +kernel
theorem dS_init_103 : decode cS_init 103 = .ok (.putfield 47, 3) := by decide +kernel
theorem dS_init_106 : decode cS_init 106 = .ok (.aload_n 0, 1) := by decide +kernel
theorem dS_init_107 : decode cS_init 107 = .ok (.bipush 48, 2) := by decide +kernel
theorem dS_init_109 : decode cS_init 109 = .ok (.newarray .int, 2) := by decide +kernel
theorem dS_init_111 : decode cS_init 111 = .ok (.putfield 50, 3) := by decide +kernel
theorem dS_init_114 : decode cS_init 114 = .ok (.aload_n 0, 1) := by decide +kernel
theorem dS_init_115 : decode cS_init 115 = .ok (.new 53, 3) := by decide +kernel
theorem dS_init_118 : decode cS_init 118 = .ok (.dup, 1) := by decide +kernel
theorem dS_init_119 : decode cS_init 119 = .ok (.invokespecial 55, 3) := by decide +kernel
theorem dS_init_122 : decode cS_init 122 = .ok (.putfield 56, 3) := by decide +kernel
theorem dS_init_125 : decode cS_init 125 = .ok (.aload_n 0, 1) := by decide +kernel
theorem dS_init_126 : decode cS_init 126 = .ok (.invokevirtual 60, 3) := by decide +kernel
theorem dS_init_129 : decode cS_init 129 = .ok (.return_, 1) := by decide +kernel
theorem dT_init_0 : decode cT_init 0 = .ok (.aload_n 0, 1) := by decide +kernel
theorem dT_init_1 : decode cT_init 1 = .ok (.invokespecial 3, 3) := by decide +kernel
theorem dT_init_4 : decode cT_init 4 = .ok (.aload_n 0, 1) := by decide +kernel
theorem dT_init_5 : decode cT_init 5 = .ok (.bipush 12, 2) := by decide +kernel
theorem dT_init_7 : decode cT_init 7 = .ok (.newarray .int, 2) := by decide +kernel
theorem dT_init_9 : decode cT_init 9 = .ok (.putfield 9, 3) := by decide +kernel
theorem dT_init_12 : decode cT_init 12 = .ok (.aload_n 0, 1) := by decide +kernel
theorem dT_init_13 : decode cT_init 13 = .ok (.bipush 12, 2) := by decide +kernel
theorem dT_init_15 : decode cT_init 15 = .ok (.newarray .int, 2) := by decide +kernel
theorem dT_init_17 : decode cT_init 17 = .ok (.putfield 15, 3) := by decide +kernel
theorem dT_init_20 : decode cT_init 20 = .ok (.aload_n 0, 1) := by decide +kernel
theorem dT_init_21 : decode cT_init 21 = .ok (.bipush 12, 2) := by decide +kernel
theorem dT_init_23 : decode cT_init 23 = .ok (.newarray .int, 2) := by decide +kernel
theorem dT_init_25 : decode cT_init 25 = .ok (.putfield 18, 3) := by decide +kernel
theorem dT_init_28 : decode cT_init 28 = .ok (.aload_n 0, 1) := by decide +kernel
theorem dT_init_29 : decode cT_init 29 = .ok (.bipush 12, 2) := by decide +kernel
theorem dT_init_31 : decode cT_init 31 = .ok (.newarray .int, 2) := by decide +kernel
theorem dT_init_33 : decode cT_init 33 = .ok (.putfield 21, 3) := by decide +kernel
theorem dT_init_36 : decode cT_init 36 = .ok (.aload_n 0, 1) := by decide +kernel
theorem dT_init_37 : decode cT_init 37 = .ok (.bipush 12, 2) := by decide +kernel
theorem dT_init_39 : decode cT_init 39 = .ok (.newarray .int, 2) := by decide +kernel
theorem dT_init_41 : decode cT_init 41 = .ok (.putfield 24, 3) := by decide +kernel
theorem dT_init_44 : decode cT_init 44 = .ok (.return_, 1) := by decide +kernel
theorem dS_refreshView_0 : decode cS_refreshView 0 = .ok (.aload_n 0, 1) := by decide +kernel
theorem dS_refreshView_1 : decode cS_refreshView 1 = .ok (.getfield 56, 3) := by decide +kernel
theorem dS_refreshView_4 : decode cS_refreshView 4 = .ok (.aload_n 0, 1) := by decide +kernel
theorem dS_refreshView_5 : decode cS_refreshView 5 = .ok (.getfield 38, 3) := by decide +kernel
theorem dS_refreshView_8 : decode cS_refreshView 8 = .ok (.invokevirtual 118, 3) := by decide +kernel
theorem dS_refreshView_11 : decode cS_refreshView 11 = .ok (.astore_n 1, 1) := by decide +kernel
theorem dS_refreshView_12 : decode cS_refreshView 12 = .ok (.iconst 0, 1) := by decide +kernel
theorem dS_refreshView_13 : decode cS_refreshView 13 = .ok (.istore_n 2, 1) := by decide +kernel
theorem dS_refreshView_14 : decode cS_refreshView 14 = .ok (.iload_n 2, 1) := by decide +kernel
theorem dS_refreshView_15 : decode cS_refreshView 15 = .ok (.iconst 3, 1) := by decide +kernel
theorem dS_refreshView_16 : decode cS_refreshView 16 = .ok (.if_icmp .ge 88, 3) := by decide +kernel
theorem dS_refreshView_19 : decode cS_refreshView 19 = .ok (.lconst 0, 1) := by decide +kernel
theorem dS_refreshView_20 : decode cS_refreshView 20 = .ok (.lstore_n 3, 1) := by decide +kernel
theorem dS_refreshView_21 : decode cS_refreshView 21 = .ok (.iconst 0, 1) := by decide +kernel
theorem dS_refreshView_22 : decode cS_refreshView 22 = .ok (.istore 5, 2) := by decide +kernel
theorem dS_refreshView_24 : decode cS_refreshView 24 = .ok (.iload 5, 2) := by decide +kernel
theorem dS_refreshView_26 : decode cS_refreshView 26 = .ok (.iconst 3, 1) := by decide +kernel
theorem dS_refreshView_27 : decode cS_refreshView 27 = .ok (.if_icmp .ge 56, 3) := by decide +kernel
theorem dS_refreshView_30 : decode cS_refreshView 30 = .ok (.iconst 4, 1) := by decide +kernel
theorem dS_refreshView_31 : decode cS_refreshView 31 = .ok (.iload_n 2, 1) := by decide +kernel
theorem dS_refreshView_32 : decode cS_refreshView 32 = .ok (.imul, 1) := by decide +kernel
theorem dS_refreshView_33 : decode cS_refreshView 33 = .ok (.iload 5, 2) := by decide +kernel
theorem dS_refreshView_35 : decode cS_refreshView 35 = .ok (.iadd, 1) := by decide +kernel
theorem dS_refreshView_36 : decode cS_refreshView 36 = .ok (.istore 6, 2) := by decide +kernel
theorem dS_refreshView_38 : decode cS_refreshView 38 = .ok (.aload_n 0, 1) := by decide +kernel
theorem dS_refreshView_39 : decode cS_refreshView 39 = .ok (.getfield 41, 3) := by decide +kernel
theorem dS_refreshView_42 : decode cS_refreshView 42 = .ok (.iload 6, 2) := by decide +kernel
theorem dS_refreshView_44 : decode cS_refreshView 44 = .ok (.aload_n 1, 1) := by decide +kernel
theorem dS_refreshView_45 : decode cS_refreshView 45 = .ok (.iconst 4, 1) := by decide +kernel
theorem dS_refreshView_46 : decode cS_refreshView 46 = .ok (.iload 5, 2) := by decide +kernel
theorem dS_refreshView_48 : decode cS_refreshView 48 = .ok (.imul, 1) := by decide +kernel
theorem dS_refreshView_49 : decode cS_refreshView 49 = .ok (.iload_n 2, 1) := by decide +kernel
theorem dS_refreshView_50 : decode cS_refreshView 50 = .ok (.iadd, 1) := by decide +kernel
theorem dS_refreshView_51 : decode cS_refreshView 51 = .ok (.iaload, 1) := by decide +kernel
theorem dS_refreshView_52 : decode cS_refreshView 52 = .ok (.iastore, 1) := by decide +kernel
theorem dS_refreshView_53 : decode cS_refreshView 53 = .ok (.lload_n 3, 1) := by decide +kernel
theorem dS_refreshView_54 : decode cS_refreshView 54 = .ok (.aload_n 0, 1) := by decide +kernel
theorem dS_refreshView_55 : decode cS_refreshView 55 = .ok (.getfield 41, 3) := by decide +kernel
theorem dS_refreshView_58 : decode cS_refreshView 58 = .ok (.iload 6, 2) := by decide +kernel
theorem dS_refreshView_60 : decode cS_refreshView 60 = .ok (.iaload, 1) := by decide +kernel
theorem dS_refreshView_61 : decode cS_refreshView 61 = .ok (.i2l, 1) := by decide +kernel
theorem dS_refreshView_62 : decode cS_refreshView 62 = .ok (.aload_n 0, 1) := by decide +kernel
theorem dS_refreshView_63 : decode cS_refreshView 63 = .ok (.getfield 38, 3) := by decide +kernel
theorem dS_refreshView_66 : decode cS_refreshView 66 = .ok (.iconst 0, 1) := by decide +kernel
theorem dS_refreshView_67 : decode cS_refreshView 67 = .ok (.iload 5, 2) := by decide +kernel
theorem dS_refreshView_69 : decode cS_refreshView 69 = .ok (.iadd, 1) := by decide +kernel
theorem dS_refreshView_70 : decode cS_refreshView 70 = .ok (.iaload, 1) := by decide +kernel
theorem dS_refreshView_71 : decode cS_refreshView 71 = .ok (.i2l, 1) := by decide +kernel
theorem dS_refreshView_72 : decode cS_refreshView 72 = .ok (.invokestatic 122, 3) := by decide +kernel
theorem dS_refreshView_75 : decode cS_refreshView 75 = .ok (.ladd, 1) := by decide +kernel
theorem dS_refreshView_76 : decode cS_refreshView 76 = .ok (.lstore_n 3, 1) := by decide +kernel
theorem dS_refreshView_77 : decode cS_refreshView 77 = .ok (.iinc 5 1, 3) := by decide +kernel
theorem dS_refreshView_80 : decode cS_refreshView 80 = .ok (.goto (-56), 3) := by decide +kernel
theorem dS_refreshView_83 : decode cS_refreshView 83 = .ok (.aload_n 0, 1) := by decide +kernel
theorem dS_refreshView_84 : decode cS_refreshView 84 = .ok (.getfield 41, 3) := by decide +kernel
theorem dS_refreshView_87 : decode cS_refreshView 87 = .ok (.iconst 4, 1) := by decide +kernel
theorem dS_refreshView_88 : decode cS_refreshView 88 = .ok (.iload_n 2, 1) := by decide +kernel
theorem dS_refreshView_89 : decode cS_refreshView 89 = .ok (.imul, 1) := by decide +kernel
theorem dS_refreshView_90 : decode cS_refreshView 90 = .ok (.iconst 3, 1) := by decide +kernel
theorem dS_refreshView_91 : decode cS_refreshView 91 = .ok (.iadd, 1) := by decide +kernel
theorem dS_refreshView_92 : decode cS_refreshView 92 = .ok (.lload_n 3, 1) := by decide +kernel
theorem dS_refreshView_93 : decode cS_refreshView 93 = .ok (.lneg, 1) := by decide +kernel
theorem dS_refreshView_94 : decode cS_refreshView 94 = .ok (.invokestatic 126, 3) := by decide +kernel
theorem dS_refreshView_97 : decode cS_refreshView 97 = .ok (.iastore, 1) := by decide +kernel
theorem dS_refreshView_98 : decode cS_refreshView 98 = .ok (.iinc 2 1, 3) := by decide +kernel
theorem dS_refreshView_101 : decode cS_refreshView 101 = .ok (.goto (-87), 3) := by decide +kernel
theorem dS_refreshView_104 : decode cS_refreshView 104 = .ok (.return_, 1) := by decide +kernel
theorem dT_turnOf_0 : decode cT_turnOf 0 = .ok (.aload_n 0, 1) := by decide +kernel
theorem dT_turnOf_1 : decode cT_turnOf 1 = .ok (.getfield 9, 3) := by decide +kernel
theorem dT_turnOf_4 : decode cT_turnOf 4 = .ok (.iconst 1, 1) := by decide +kernel
theorem dT_turnOf_5 : decode cT_turnOf 5 = .ok (.iconst 2, 1) := by decide +kernel
theorem dT_turnOf_6 : decode cT_turnOf 6 = .ok (.aload_n 1, 1) := by decide +kernel
theorem dT_turnOf_7 : decode cT_turnOf 7 = .ok (.iconst 3, 1) := by decide +kernel
theorem dT_turnOf_8 : decode cT_turnOf 8 = .ok (.iaload, 1) := by decide +kernel
theorem dT_turnOf_9 : decode cT_turnOf 9 = .ok (.invokestatic 27, 3) := by decide +kernel
theorem dT_turnOf_12 : decode cT_turnOf 12 = .ok (.aload_n 0, 1) := by decide +kernel
theorem dT_turnOf_13 : decode cT_turnOf 13 = .ok (.getfield 15, 3) := by decide +kernel
theorem dT_turnOf_16 : decode cT_turnOf 16 = .ok (.iconst 2, 1) := by decide +kernel
theorem dT_turnOf_17 : decode cT_turnOf 17 = .ok (.iconst 0, 1) := by decide +kernel
theorem dT_turnOf_18 : decode cT_turnOf 18 = .ok (.aload_n 1, 1) := by decide +kernel
theorem dT_turnOf_19 : decode cT_turnOf 19 = .ok (.iconst 4, 1) := by decide +kernel
theorem dT_turnOf_20 : decode cT_turnOf 20 = .ok (.iaload, 1) := by decide +kernel
theorem dT_turnOf_21 : decode cT_turnOf 21 = .ok (.invokestatic 27, 3) := by decide +kernel
theorem dT_turnOf_24 : decode cT_turnOf 24 = .ok (.aload_n 0, 1) := by decide +kernel
theorem dT_turnOf_25 : decode cT_turnOf 25 = .ok (.getfield 18, 3) := by decide +kernel
theorem dT_turnOf_28 : decode cT_turnOf 28 = .ok (.iconst 0, 1) := by decide +kernel
theorem dT_turnOf_29 : decode cT_turnOf 29 = .ok (.iconst 1, 1) := by decide +kernel
theorem dT_turnOf_30 : decode cT_turnOf 30 = .ok (.aload_n 1, 1) := by decide +kernel
theorem dT_turnOf_31 : decode cT_turnOf 31 = .ok (.iconst 5, 1) := by decide +kernel
theorem dT_turnOf_32 : decode cT_turnOf 32 = .ok (.iaload, 1) := by decide +kernel
theorem dT_turnOf_33 : decode cT_turnOf 33 = .ok (.invokestatic 27, 3) := by decide +kernel
theorem dT_turnOf_36 : decode cT_turnOf 36 = .ok (.aload_n 0, 1) := by decide +kernel
theorem dT_turnOf_37 : decode cT_turnOf 37 = .ok (.getfield 15, 3) := by decide +kernel
theorem dT_turnOf_40 : decode cT_turnOf 40 = .ok (.aload_n 0, 1) := by decide +kernel
theorem dT_turnOf_41 : decode cT_turnOf 41 = .ok (.getfield 9, 3) := by decide +kernel
theorem dT_turnOf_44 : decode cT_turnOf 44 = .ok (.aload_n 0, 1) := by decide +kernel
theorem dT_turnOf_45 : decode cT_turnOf 45 = .ok (.getfield 21, 3) := by decide +kernel
theorem dT_turnOf_48 : decode cT_turnOf 48 = .ok (.invokestatic 31, 3) := by decide +kernel
theorem dT_turnOf_51 : decode cT_turnOf 51 = .ok (.aload_n 0, 1) := by decide +kernel
theorem dT_turnOf_52 : decode cT_turnOf 52 = .ok (.getfield 21, 3) := by decide +kernel
theorem dT_turnOf_55 : decode cT_turnOf 55 = .ok (.aload_n 0, 1) := by decide +kernel
theorem dT_turnOf_56 : decode cT_turnOf 56 = .ok (.getfield 18, 3) := by decide +kernel
theorem dT_turnOf_59 : decode cT_turnOf 59 = .ok (.aload_n 0, 1) := by decide +kernel
theorem dT_turnOf_60 : decode cT_turnOf 60 = .ok (.getfield 24, 3) := by decide +kernel
theorem dT_turnOf_63 : decode cT_turnOf 63 = .ok (.invokestatic 31, 3) := by decide +kernel
theorem dT_turnOf_66 : decode cT_turnOf 66 = .ok (.aload_n 0, 1) := by decide +kernel
theorem dT_turnOf_67 : decode cT_turnOf 67 = .ok (.getfield 24, 3) := by decide +kernel
theorem dT_turnOf_70 : decode cT_turnOf 70 = .ok (.areturn, 1) := by decide +kernel
theorem dT_spin_0 : decode cT_spin 0 = .ok (.iconst 3, 1) := by decide +kernel
theorem dT_spin_1 : decode cT_spin 1 = .ok (.iload_n 1, 1) := by decide +kernel
theorem dT_spin_2 : decode cT_spin 2 = .ok (.isub, 1) := by decide +kernel
theorem dT_spin_3 : decode cT_spin 3 = .ok (.iload_n 2, 1) := by decide +kernel
theorem dT_spin_4 : decode cT_spin 4 = .ok (.isub, 1) := by decide +kernel
theorem dT_spin_5 : decode cT_spin 5 = .ok (.istore 4, 2) := by decide +kernel
theorem dT_spin_7 : decode cT_spin 7 = .ok (.iload_n 3, 1) := by decide +kernel
theorem dT_spin_8 : decode cT_spin 8 = .ok (.invokestatic 35, 3) := by decide +kernel
theorem dT_spin_11 : decode cT_spin 11 = .ok (.istore 5, 2) := by decide +kernel
theorem dT_spin_13 : decode cT_spin 13 = .ok (.iload_n 3, 1) := by decide +kernel
theorem dT_spin_14 : decode cT_spin 14 = .ok (.sipush 1024, 3) := by decide +kernel
theorem dT_spin_17 : decode cT_spin 17 = .ok (.iadd, 1) := by decide +kernel
theorem dT_spin_18 : decode cT_spin 18 = .ok (.invokestatic 35, 3) := by decide +kernel
theorem dT_spin_21 : decode cT_spin 21 = .ok (.istore 6, 2) := by decide +kernel
theorem dT_spin_23 : decode cT_spin 23 = .ok (.aload_n 0, 1) := by decide +kernel
theorem dT_spin_24 : decode cT_spin 24 = .ok (.iconst 4, 1) := by decide +kernel
theorem dT_spin_25 : decode cT_spin 25 = .ok (.iload 4, 2) := by decide +kernel
theorem dT_spin_27 : decode cT_spin 27 = .ok (.imul, 1) := by decide +kernel
theorem dT_spin_28 : decode cT_spin 28 = .ok (.iload 4, 2) := by decide +kernel
theorem dT_spin_30 : decode cT_spin 30 = .ok (.iadd, 1) := by decide +kernel
theorem dT_spin_31 : decode cT_spin 31 = .ok (.ldc 39, 2) := by decide +kernel
theorem dT_spin_33 : decode cT_spin 33 = .ok (.iastore, 1) := by decide +kernel
theorem dT_spin_34 : decode cT_spin 34 = .ok (.aload_n 0, 1) := by decide +kernel
theorem dT_spin_35 : decode cT_spin 35 = .ok (.iconst 4, 1) := by decide +kernel
theorem dT_spin_36 : decode cT_spin 36 = .ok (.iload_n 1, 1) := by decide +kernel
theorem dT_spin_37 : decode cT_spin 37 = .ok (.imul, 1) := by decide +kernel
theorem dT_spin_38 : decode cT_spin 38 = .ok (.iload_n 1, 1) := by decide +kernel
theorem dT_spin_39 : decode cT_spin 39 = .ok (.iadd, 1) := by decide +kernel
theorem dT_spin_40 : decode cT_spin 40 = .ok (.iload 6, 2) := by decide +kernel
theorem dT_spin_42 : decode cT_spin 42 = .ok (.iastore, 1) := by decide +kernel
theorem dT_spin_43 : decode cT_spin 43 = .ok (.aload_n 0, 1) := by decide +kernel
theorem dT_spin_44 : decode cT_spin 44 = .ok (.iconst 4, 1) := by decide +kernel
theorem dT_spin_45 : decode cT_spin 45 = .ok (.iload_n 1, 1) := by decide +kernel
theorem dT_spin_46 : decode cT_spin 46 = .ok (.imul, 1) := by decide +kernel
theorem dT_spin_47 : decode cT_spin 47 = .ok (.iload_n 2, 1) := by decide +kernel
theorem dT_spin_48 : decode cT_spin 48 = .ok (.iadd, 1) := by decide +kernel
theorem dT_spin_49 : decode cT_spin 49 = .ok (.iload 5, 2) := by decide +kernel
theorem dT_spin_51 : decode cT_spin 51 = .ok (.ineg, 1) := by decide +kernel
theorem dT_spin_52 : decode cT_spin 52 = .ok (.iastore, 1) := by decide +kernel
theorem dT_spin_53 : decode cT_spin 53 = .ok (.aload_n 0, 1) := by decide +kernel
theorem dT_spin_54 : decode cT_spin 54 = .ok (.iconst 4, 1) := by decide +kernel
theorem dT_spin_55 : decode cT_spin 55 = .ok (.iload_n 2, 1) := by decide +kernel
theorem dT_spin_56 : decode cT_spin 56 = .ok (.imul, 1) := by decide +kernel
theorem dT_spin_57 : decode cT_spin 57 = .ok (.iload_n 1, 1) := by decide +kernel
theorem dT_spin_58 : decode cT_spin 58 = .ok (.iadd, 1) := by decide +kernel
theorem dT_spin_59 : decode cT_spin 59 = .ok (.iload 5, 2) := by decide +kernel
theorem dT_spin_61 : decode cT_spin 61 = .ok (.iastore, 1) := by decide +kernel
theorem dT_spin_62 : decode cT_spin 62 = .ok (.aload_n 0, 1) := by decide +kernel
theorem dT_spin_63 : decode cT_spin 63 = .ok (.iconst 4, 1) := by decide +kernel
theorem dT_spin_64 : decode cT_spin 64 = .ok (.iload_n 2, 1) := by decide +kernel
theorem dT_spin_65 : decode cT_spin 65 = .ok (.imul, 1) := by decide +kernel
theorem dT_spin_66 : decode cT_spin 66 = .ok (.iload_n 2, 1) := by decide +kernel
theorem dT_spin_67 : decode cT_spin 67 = .ok (.iadd, 1) := by decide +kernel
theorem dT_spin_68 : decode cT_spin 68 = .ok (.iload 6, 2) := by decide +kernel
theorem dT_spin_70 : decode cT_spin 70 = .ok (.iastore, 1) := by decide +kernel
theorem dT_spin_71 : decode cT_spin 71 = .ok (.return_, 1) := by decide +kernel
theorem dS_sine_0 : decode cS_sine 0 = .ok (.iload_n 0, 1) := by decide +kernel
theorem dS_sine_1 : decode cS_sine 1 = .ok (.sipush 4096, 3) := by decide +kernel
theorem dS_sine_4 : decode cS_sine 4 = .ok (.invokestatic 158, 3) := by decide +kernel
theorem dS_sine_7 : decode cS_sine 7 = .ok (.istore_n 1, 1) := by decide +kernel
theorem dS_sine_8 : decode cS_sine 8 = .ok (.iload_n 1, 1) := by decide +kernel
theorem dS_sine_9 : decode cS_sine 9 = .ok (.sipush 2048, 3) := by decide +kernel
theorem dS_sine_12 : decode cS_sine 12 = .ok (.if_icmp .ge 7, 3) := by decide +kernel
theorem dS_sine_15 : decode cS_sine 15 = .ok (.iload_n 1, 1) := by decide +kernel
theorem dS_sine_16 : decode cS_sine 16 = .ok (.goto 8, 3) := by decide +kernel
theorem dS_sine_19 : decode cS_sine 19 = .ok (.iload_n 1, 1) := by decide +kernel
theorem dS_sine_20 : decode cS_sine 20 = .ok (.sipush 2048, 3) := by decide +kernel
theorem dS_sine_23 : decode cS_sine 23 = .ok (.isub, 1) := by decide +kernel
theorem dS_sine_24 : decode cS_sine 24 = .ok (.istore_n 2, 1) := by decide +kernel
theorem dS_sine_25 : decode cS_sine 25 = .ok (.iload_n 2, 1) := by decide +kernel
theorem dS_sine_26 : decode cS_sine 26 = .ok (.i2l, 1) := by decide +kernel
theorem dS_sine_27 : decode cS_sine 27 = .ok (.sipush 2048, 3) := by decide +kernel
theorem dS_sine_30 : decode cS_sine 30 = .ok (.iload_n 2, 1) := by decide +kernel
theorem dS_sine_31 : decode cS_sine 31 = .ok (.isub, 1) := by decide +kernel
theorem dS_sine_32 : decode cS_sine 32 = .ok (.i2l, 1) := by decide +kernel
theorem dS_sine_33 : decode cS_sine 33 = .ok (.lmul, 1) := by decide +kernel
theorem dS_sine_34 : decode cS_sine 34 = .ok (.lstore_n 3, 1) := by decide +kernel
theorem dS_sine_35 : decode cS_sine 35 = .ok (.ldc2_w 161, 3) := by decide +kernel
theorem dS_sine_38 : decode cS_sine 38 = .ok (.ldc2_w 163, 3) := by decide +kernel
theorem dS_sine_41 : decode cS_sine 41 = .ok (.lload_n 3, 1) := by decide +kernel
theorem dS_sine_42 : decode cS_sine 42 = .ok (.lmul, 1) := by decide +kernel
theorem dS_sine_43 : decode cS_sine 43 = .ok (.lsub, 1) := by decide +kernel
theorem dS_sine_44 : decode cS_sine 44 = .ok (.lstore 5, 2) := by decide +kernel
theorem dS_sine_46 : decode cS_sine 46 = .ok (.lload 5, 2) := by decide +kernel
theorem dS_sine_48 : decode cS_sine 48 = .ok (.lconst 0, 1) := by decide +kernel
theorem dS_sine_49 : decode cS_sine 49 = .ok (.lcmp, 1) := by decide +kernel
theorem dS_sine_50 : decode cS_sine 50 = .ok (.ifCond .le 16, 3) := by decide +kernel
theorem dS_sine_53 : decode cS_sine 53 = .ok (.ldc2_w 165, 3) := by decide +kernel
theorem dS_sine_56 : decode cS_sine 56 = .ok (.lload_n 3, 1) := by decide +kernel
theorem dS_sine_57 : decode cS_sine 57 = .ok (.lmul, 1) := by decide +kernel
theorem dS_sine_58 : decode cS_sine 58 = .ok (.lload 5, 2) := by decide +kernel
theorem dS_sine_60 : decode cS_sine 60 = .ok (.invokestatic 167, 3) := by decide +kernel
theorem dS_sine_63 : decode cS_sine 63 = .ok (.goto 4, 3) := by decide +kernel
theorem dS_sine_66 : decode cS_sine 66 = .ok (.lconst 0, 1) := by decide +kernel
theorem dS_sine_67 : decode cS_sine 67 = .ok (.lstore 7, 2) := by decide +kernel
theorem dS_sine_69 : decode cS_sine 69 = .ok (.iload_n 1, 1) := by decide +kernel
theorem dS_sine_70 : decode cS_sine 70 = .ok (.sipush 2048, 3) := by decide +kernel
theorem dS_sine_73 : decode cS_sine 73 = .ok (.if_icmp .ge 8, 3) := by decide +kernel
theorem dS_sine_76 : decode cS_sine 76 = .ok (.lload 7, 2) := by decide +kernel
theorem dS_sine_78 : decode cS_sine 78 = .ok (.goto 6, 3) := by decide +kernel
theorem dS_sine_81 : decode cS_sine 81 = .ok (.lload 7, 2) := by decide +kernel
theorem dS_sine_83 : decode cS_sine 83 = .ok (.lneg, 1) := by decide +kernel
theorem dS_sine_84 : decode cS_sine 84 = .ok (.l2i, 1) := by decide +kernel
theorem dS_sine_85 : decode cS_sine 85 = .ok (.ireturn, 1) := by decide +kernel
theorem dS_multiply_0 : decode cS_multiply 0 = .ok (.iconst 0, 1) := by decide +kernel
theorem dS_multiply_1 : decode cS_multiply 1 = .ok (.istore_n 3, 1) := by decide +kernel
theorem dS_multiply_2 : decode cS_multiply 2 = .ok (.iload_n 3, 1) := by decide +kernel
theorem dS_multiply_3 : decode cS_multiply 3 = .ok (.iconst 3, 1) := by decide +kernel
theorem dS_multiply_4 : decode cS_multiply 4 = .ok (.if_icmp .ge 40, 3) := by decide +kernel
theorem dS_multiply_7 : decode cS_multiply 7 = .ok (.iconst 0, 1) := by decide +kernel
theorem dS_multiply_8 : decode cS_multiply 8 = .ok (.istore 4, 2) := by decide +kernel
theorem dS_multiply_10 : decode cS_multiply 10 = .ok (.iload 4, 2) := by decide +kernel
theorem dS_multiply_12 : decode cS_multiply 12 = .ok (.iconst 4, 1) := by decide +kernel
theorem dS_multiply_13 : decode cS_multiply 13 = .ok (.if_icmp .ge 25, 3) := by decide +kernel
theorem dS_multiply_16 : decode cS_multiply 16 = .ok (.aload_n 2, 1) := by decide +kernel
theorem dS_multiply_17 : decode cS_multiply 17 = .ok (.iconst 4, 1) := by decide +kernel
theorem dS_multiply_18 : decode cS_multiply 18 = .ok (.iload_n 3, 1) := by decide +kernel
theorem dS_multiply_19 : decode cS_multiply 19 = .ok (.imul, 1) := by decide +kernel
theorem dS_multiply_20 : decode cS_multiply 20 = .ok (.iload 4, 2) := by decide +kernel
theorem dS_multiply_22 : decode cS_multiply 22 = .ok (.iadd, 1) := by decide +kernel
theorem dS_multiply_23 : decode cS_multiply 23 = .ok (.aload_n 0, 1) := by decide +kernel
theorem dS_multiply_24 : decode cS_multiply 24 = .ok (.aload_n 1, 1) := by decide +kernel
theorem dS_multiply_25 : decode cS_multiply 25 = .ok (.iload_n 3, 1) := by decide +kernel
theorem dS_multiply_26 : decode cS_multiply 26 = .ok (.iload 4, 2) := by decide +kernel
theorem dS_multiply_28 : decode cS_multiply 28 = .ok (.invokestatic 99, 3) := by decide +kernel
theorem dS_multiply_31 : decode cS_multiply 31 = .ok (.iastore, 1) := by decide +kernel
theorem dS_multiply_32 : decode cS_multiply 32 = .ok (.iinc 4 1, 3) := by decide +kernel
theorem dS_multiply_35 : decode cS_multiply 35 = .ok (.goto (-25), 3) := by decide +kernel
theorem dS_multiply_38 : decode cS_multiply 38 = .ok (.iinc 3 1, 3) := by decide +kernel
theorem dS_multiply_41 : decode cS_multiply 41 = .ok (.goto (-39), 3) := by decide +kernel
theorem dS_multiply_44 : decode cS_multiply 44 = .ok (.return_, 1) := by decide +kernel
theorem dS_productAt_0 : decode cS_productAt 0 = .ok (.iconst 4, 1) := by decide +kernel
theorem dS_productAt_1 : decode cS_productAt 1 = .ok (.iload_n 2, 1) := by decide +kernel
theorem dS_productAt_2 : decode cS_productAt 2 = .ok (.imul, 1) := by decide +kernel
theorem dS_productAt_3 : decode cS_productAt 3 = .ok (.istore 4, 2) := by decide +kernel
theorem dS_productAt_5 : decode cS_productAt 5 = .ok (.aload_n 0, 1) := by decide +kernel
theorem dS_productAt_6 : decode cS_productAt 6 = .ok (.iload 4, 2) := by decide +kernel
theorem dS_productAt_8 : decode cS_productAt 8 = .ok (.iaload, 1) := by decide +kernel
theorem dS_productAt_9 : decode cS_productAt 9 = .ok (.i2l, 1) := by decide +kernel
theorem dS_productAt_10 : decode cS_productAt 10 = .ok (.aload_n 1, 1) := by decide +kernel
theorem dS_productAt_11 : decode cS_productAt 11 = .ok (.iload_n 3, 1) := by decide +kernel
theorem dS_productAt_12 : decode cS_productAt 12 = .ok (.iaload, 1) := by decide +kernel
theorem dS_productAt_13 : decode cS_productAt 13 = .ok (.i2l, 1) := by decide +kernel
theorem dS_productAt_14 : decode cS_productAt 14 = .ok (.invokestatic 122, 3) := by decide +kernel
theorem dS_productAt_17 : decode cS_productAt 17 = .ok (.aload_n 0, 1) := by decide +kernel
theorem dS_productAt_18 : decode cS_productAt 18 = .ok (.iload 4, 2) := by decide +kernel
theorem dS_productAt_20 : decode cS_productAt 20 = .ok (.iconst 1, 1) := by decide +kernel
theorem dS_productAt_21 : decode cS_productAt 21 = .ok (.iadd, 1) := by decide +kernel
theorem dS_productAt_22 : decode cS_productAt 22 = .ok (.iaload, 1) := by decide +kernel
theorem dS_productAt_23 : decode cS_productAt 23 = .ok (.i2l, 1) := by decide +kernel
theorem dS_productAt_24 : decode cS_productAt 24 = .ok (.aload_n 1, 1) := by decide +kernel
theorem dS_productAt_25 : decode cS_productAt 25 = .ok (.iconst 4, 1) := by decide +kernel
theorem dS_productAt_26 : decode cS_productAt 26 = .ok (.iload_n 3, 1) := by decide +kernel
theorem dS_productAt_27 : decode cS_productAt 27 = .ok (.iadd, 1) := by decide +kernel
theorem dS_productAt_28 : decode cS_productAt 28 = .ok (.iaload, 1) := by decide +kernel
theorem dS_productAt_29 : decode cS_productAt 29 = .ok (.i2l, 1) := by decide +kernel
theorem dS_productAt_30 : decode cS_productAt 30 = .ok (.invokestatic 122, 3) := by decide +kernel
theorem dS_productAt_33 : decode cS_productAt 33 = .ok (.ladd, 1) := by decide +kernel
theorem dS_productAt_34 : decode cS_productAt 34 = .ok (.aload_n 0, 1) := by decide +kernel
theorem dS_productAt_35 : decode cS_productAt 35 = .ok (.iload 4, 2) := by decide +kernel
theorem dS_productAt_37 : decode cS_productAt 37 = .ok (.iconst 2, 1) := by decide +kernel
theorem dS_productAt_38 : decode cS_productAt 38 = .ok (.iadd, 1) := by decide +kernel
theorem dS_productAt_39 : decode cS_productAt 39 = .ok (.iaload, 1) := by decide +kernel
theorem dS_productAt_40 : decode cS_productAt 40 = .ok (.i2l, 1) := by decide +kernel
theorem dS_productAt_41 : decode cS_productAt 41 = .ok (.aload_n 1, 1) := by decide +kernel
theorem dS_productAt_42 : decode cS_productAt 42 = .ok (.bipush 8, 2) := by decide +kernel
theorem dS_productAt_44 : decode cS_productAt 44 = .ok (.iload_n 3, 1) := by decide +kernel
theorem dS_productAt_45 : decode cS_productAt 45 = .ok (.iadd, 1) := by decide +kernel
theorem dS_productAt_46 : decode cS_productAt 46 = .ok (.iaload, 1) := by decide +kernel
theorem dS_productAt_47 : decode cS_productAt 47 = .ok (.i2l, 1) := by decide +kernel
theorem dS_productAt_48 : decode cS_productAt 48 = .ok (.invokestatic 122, 3) := by decide +kernel
theorem dS_productAt_51 : decode cS_productAt 51 = .ok (.ladd, 1) := by decide +kernel
theorem dS_productAt_52 : decode cS_productAt 52 = .ok (.lstore 5, 2) := by decide +kernel
theorem dS_productAt_54 : decode cS_productAt 54 = .ok (.iload_n 3, 1) := by decide +kernel
theorem dS_productAt_55 : decode cS_productAt 55 = .ok (.iconst 3, 1) := by decide +kernel
theorem dS_productAt_56 : decode cS_productAt 56 = .ok (.if_icmp .ne 16, 3) := by decide +kernel
theorem dS_productAt_59 : decode cS_productAt 59 = .ok (.lload 5, 2) := by decide +kernel
theorem dS_productAt_61 : decode cS_productAt 61 = .ok (.aload_n 0, 1) := by decide +kernel
theorem dS_productAt_62 : decode cS_productAt 62 = .ok (.iload 4, 2) := by decide +kernel
theorem dS_productAt_64 : decode cS_productAt 64 = .ok (.iconst 3, 1) := by decide +kernel
theorem dS_productAt_65 : decode cS_productAt 65 = .ok (.iadd, 1) := by decide +kernel
theorem dS_productAt_66 : decode cS_productAt 66 = .ok (.iaload, 1) := by decide +kernel
theorem dS_productAt_67 : decode cS_productAt 67 = .ok (.i2l, 1) := by decide +kernel
theorem dS_productAt_68 : decode cS_productAt 68 = .ok (.ladd, 1) := by decide +kernel
theorem dS_productAt_69 : decode cS_productAt 69 = .ok (.goto 5, 3) := by decide +kernel
theorem dS_productAt_72 : decode cS_productAt 72 = .ok (.lload 5, 2) := by decide +kernel
theorem dS_productAt_74 : decode cS_productAt 74 = .ok (.invokestatic 126, 3) := by decide +kernel
theorem dS_productAt_77 : decode cS_productAt 77 = .ok (.ireturn, 1) := by decide +kernel
theorem dS_mul_0 : decode cS_mul 0 = .ok (.lload_n 0, 1) := by decide +kernel
theorem dS_mul_1 : decode cS_mul 1 = .ok (.lload_n 2, 1) := by decide +kernel
theorem dS_mul_2 : decode cS_mul 2 = .ok (.lmul, 1) := by decide +kernel
theorem dS_mul_3 : decode cS_mul 3 = .ok (.bipush 16, 2) := by decide +kernel
theorem dS_mul_5 : decode cS_mul 5 = .ok (.lshr, 1) := by decide +kernel
theorem dS_mul_6 : decode cS_mul 6 = .ok (.lreturn, 1) := by decide +kernel
theorem dS_bound_0 : decode cS_bound 0 = .ok (.ldc2_w 150, 3) := by decide +kernel
theorem dS_bound_3 : decode cS_bound 3 = .ok (.ldc2_w 152, 3) := by decide +kernel
theorem dS_bound_6 : decode cS_bound 6 = .ok (.lload_n 0, 1) := by decide +kernel
theorem dS_bound_7 : decode cS_bound 7 = .ok (.invokestatic 154, 3) := by decide +kernel
theorem dS_bound_10 : decode cS_bound 10 = .ok (.invokestatic 156, 3) := by decide +kernel
theorem dS_bound_13 : decode cS_bound 13 = .ok (.l2i, 1) := by decide +kernel
theorem dS_bound_14 : decode cS_bound 14 = .ok (.ireturn, 1) := by decide +kernel
theorem dS_add_0 : decode cS_add 0 = .ok (.aload_n 0, 1) := by decide +kernel
theorem dS_add_1 : decode cS_add 1 = .ok (.getfield 7, 3) := by decide +kernel
theorem dS_add_4 : decode cS_add 4 = .ok (.bipush 48, 2) := by decide +kernel
theorem dS_add_6 : decode cS_add 6 = .ok (.if_icmp .ge 23, 3) := by decide +kernel
theorem dS_add_9 : decode cS_add 9 = .ok (.aload_n 0, 1) := by decide +kernel
theorem dS_add_10 : decode cS_add 10 = .ok (.getfield 7, 3) := by decide +kernel
theorem dS_add_13 : decode cS_add 13 = .ok (.iload_n 1, 1) := by decide +kernel
theorem dS_add_14 : decode cS_add 14 = .ok (.invokestatic 63, 3) := by decide +kernel
theorem dS_add_17 : decode cS_add 17 = .ok (.ifCond .eq 12, 3) := by decide +kernel
theorem dS_add_20 : decode cS_add 20 = .ok (.iload_n 2, 1) := by decide +kernel
theorem dS_add_21 : decode cS_add 21 = .ok (.ifCond .lt 8, 3) := by decide +kernel
theorem dS_add_24 : decode cS_add 24 = .ok (.iload_n 2, 1) := by decide +kernel
theorem dS_add_25 : decode cS_add 25 = .ok (.iconst 2, 1) := by decide +kernel
theorem dS_add_26 : decode cS_add 26 = .ok (.if_icmp .le 5, 3) := by decide +kernel
theorem dS_add_29 : decode cS_add 29 = .ok (.iconst (-1), 1) := by decide +kernel
theorem dS_add_30 : decode cS_add 30 = .ok (.ireturn, 1) := by decide +kernel
theorem dS_add_31 : decode cS_add 31 = .ok (.aload_n 0, 1) := by decide +kernel
theorem dS_add_32 : decode cS_add 32 = .ok (.getfield 7, 3) := by decide +kernel
theorem dS_add_35 : decode cS_add 35 = .ok (.istore_n 3, 1) := by decide +kernel
theorem dS_add_36 : decode cS_add 36 = .ok (.aload_n 0, 1) := by decide +kernel
theorem dS_add_37 : decode cS_add 37 = .ok (.dup, 1) := by decide +kernel
theorem dS_add_38 : decode cS_add 38 = .ok (.getfield 7, 3) := by decide +kernel
theorem dS_add_41 : decode cS_add 41 = .ok (.iconst 1, 1) := by decide +kernel
theorem dS_add_42 : decode cS_add 42 = .ok (.iadd, 1) := by decide +kernel
theorem dS_add_43 : decode cS_add 43 = .ok (.putfield 7, 3) := by decide +kernel
theorem dS_add_46 : decode cS_add 46 = .ok (.aload_n 0, 1) := by decide +kernel
theorem dS_add_47 : decode cS_add 47 = .ok (.getfield 13, 3) := by decide +kernel
theorem dS_add_50 : decode cS_add 50 = .ok (.iload_n 3, 1) := by decide +kernel
theorem dS_add_51 : decode cS_add 51 = .ok (.iload_n 1, 1) := by decide +kernel
theorem dS_add_52 : decode cS_add 52 = .ok (.iastore, 1) := by decide +kernel
theorem dS_add_53 : decode cS_add 53 = .ok (.aload_n 0, 1) := by decide +kernel
theorem dS_add_54 : decode cS_add 54 = .ok (.getfield 17, 3) := by decide +kernel
theorem dS_add_57 : decode cS_add 57 = .ok (.iload_n 3, 1) := by decide +kernel
theorem dS_add_58 : decode cS_add 58 = .ok (.iload_n 2, 1) := by decide +kernel
theorem dS_add_59 : decode cS_add 59 = .ok (.iastore, 1) := by decide +kernel
theorem dS_add_60 : decode cS_add 60 = .ok (.aload_n 0, 1) := by decide +kernel
theorem dS_add_61 : decode cS_add 61 = .ok (.getfield 20, 3) := by decide +kernel
theorem dS_add_64 : decode cS_add 64 = .ok (.iload_n 3, 1) := by decide +kernel
theorem dS_add_65 : decode cS_add 65 = .ok (.iconst 0, 1) := by decide +kernel
theorem dS_add_66 : decode cS_add 66 = .ok (.bastore, 1) := by decide +kernel
theorem dS_add_67 : decode cS_add 67 = .ok (.aload_n 0, 1) := by decide +kernel
theorem dS_add_68 : decode cS_add 68 = .ok (.getfield 26, 3) := by decide +kernel
theorem dS_add_71 : decode cS_add 71 = .ok (.iload_n 3, 1) := by decide +kernel
theorem dS_add_72 : decode cS_add 72 = .ok (.aaload, 1) := by decide +kernel
theorem dS_add_73 : decode cS_add 73 = .ok (.iconst 0, 1) := by decide +kernel
theorem dS_add_74 : decode cS_add 74 = .ok (.iconst 0, 1) := by decide +kernel
theorem dS_add_75 : decode cS_add 75 = .ok (.iconst 0, 1) := by decide +kernel
theorem dS_add_76 : decode cS_add 76 = .ok (.iconst 0, 1) := by decide +kernel
theorem dS_add_77 : decode cS_add 77 = .ok (.invokestatic 67, 3) := by decide +kernel
theorem dS_add_80 : decode cS_add 80 = .ok (.aload_n 0, 1) := by decide +kernel
theorem dS_add_81 : decode cS_add 81 = .ok (.getfield 26, 3) := by decide +kernel
theorem dS_add_84 : decode cS_add 84 = .ok (.iload_n 3, 1) := by decide +kernel
theorem dS_add_85 : decode cS_add 85 = .ok (.aaload, 1) := by decide +kernel
theorem dS_add_86 : decode cS_add 86 = .ok (.iconst 1, 1) := by decide +kernel
theorem dS_add_87 : decode cS_add 87 = .ok (.iconst 0, 1) := by decide +kernel
theorem dS_add_88 : decode cS_add 88 = .ok (.iconst 0, 1) := by decide +kernel
theorem dS_add_89 : decode cS_add 89 = .ok (.iconst 0, 1) := by decide +kernel
theorem dS_add_90 : decode cS_add 90 = .ok (.invokestatic 67, 3) := by decide +kernel
theorem dS_add_93 : decode cS_add 93 = .ok (.aload_n 0, 1) := by decide +kernel
theorem dS_add_94 : decode cS_add 94 = .ok (.getfield 26, 3) := by decide +kernel
theorem dS_add_97 : decode cS_add 97 = .ok (.iload_n 3, 1) := by decide +kernel
theorem dS_add_98 : decode cS_add 98 = .ok (.aaload, 1) := by decide +kernel
theorem dS_add_99 : decode cS_add 99 = .ok (.iconst 2, 1) := by decide +kernel
theorem dS_add_100 : decode cS_add 100 = .ok (.ldc 71, 2) := by decide +kernel
theorem dS_add_102 : decode cS_add 102 = .ok (.ldc 71, 2) := by decide +kernel
theorem dS_add_104 : decode cS_add 104 = .ok (.ldc 71, 2) := by decide +kernel
theorem dS_add_106 : decode cS_add 106 = .ok (.invokestatic 67, 3) := by decide +kernel
theorem dS_add_109 : decode cS_add 109 = .ok (.aload_n 0, 1) := by decide +kernel
theorem dS_add_110 : decode cS_add 110 = .ok (.iload_n 3, 1) := by decide +kernel
theorem dS_add_111 : decode cS_add 111 = .ok (.invokevirtual 72, 3) := by decide +kernel
theorem dS_add_114 : decode cS_add 114 = .ok (.iload_n 3, 1) := by decide +kernel
theorem dS_add_115 : decode cS_add 115 = .ok (.ireturn, 1) := by decide +kernel
theorem dS_isParentBefore_0 : decode cS_isParentBefore 0 = .ok (.iload_n 1, 1) := by decide +kernel
theorem dS_isParentBefore_1 : decode cS_isParentBefore 1 = .ok (.iconst (-1), 1) := by decide +kernel
theorem dS_isParentBefore_2 : decode cS_isParentBefore 2 = .ok (.if_icmp .lt 12, 3) := by decide +kernel
theorem dS_isParentBefore_5 : decode cS_isParentBefore 5 = .ok (.iload_n 1, 1) := by decide +kernel
theorem dS_isParentBefore_6 : decode cS_isParentBefore 6 = .ok (.iload_n 0, 1) := by decide +kernel
theorem dS_isParentBefore_7 : decode cS_isParentBefore 7 = .ok (.if_icmp .ge 7, 3) := by decide +kernel
theorem dS_isParentBefore_10 : decode cS_isParentBefore 10 = .ok (.iconst 1, 1) := by decide +kernel
theorem dS_isParentBefore_11 : decode cS_isParentBefore 11 = .ok (.goto 4, 3) := by decide +kernel
theorem dS_isParentBefore_14 : decode cS_isParentBefore 14 = .ok (.iconst 0, 1) := by decide +kernel
theorem dS_isParentBefore_15 : decode cS_isParentBefore 15 = .ok (.ireturn, 1) := by decide +kernel
theorem dS_put_0 : decode cS_put 0 = .ok (.aload_n 0, 1) := by decide +kernel
theorem dS_put_1 : decode cS_put 1 = .ok (.iconst 3, 1) := by decide +kernel
theorem dS_put_2 : decode cS_put 2 = .ok (.iload_n 1, 1) := by decide +kernel
theorem dS_put_3 : decode cS_put 3 = .ok (.imul, 1) := by decide +kernel
theorem dS_put_4 : decode cS_put 4 = .ok (.iload_n 2, 1) := by decide +kernel
theorem dS_put_5 : decode cS_put 5 = .ok (.iastore, 1) := by decide +kernel
theorem dS_put_6 : decode cS_put 6 = .ok (.aload_n 0, 1) := by decide +kernel
theorem dS_put_7 : decode cS_put 7 = .ok (.iconst 3, 1) := by decide +kernel
theorem dS_put_8 : decode cS_put 8 = .ok (.iload_n 1, 1) := by decide +kernel
theorem dS_put_9 : decode cS_put 9 = .ok (.imul, 1) := by decide +kernel
theorem dS_put_10 : decode cS_put 10 = .ok (.iconst 1, 1) := by decide +kernel
theorem dS_put_11 : decode cS_put 11 = .ok (.iadd, 1) := by decide +kernel
theorem dS_put_12 : decode cS_put 12 = .ok (.iload_n 3, 1) := by decide +kernel
theorem dS_put_13 : decode cS_put 13 = .ok (.iastore, 1) := by decide +kernel
theorem dS_put_14 : decode cS_put 14 = .ok (.aload_n 0, 1) := by decide +kernel
theorem dS_put_15 : decode cS_put 15 = .ok (.iconst 3, 1) := by decide +kernel
theorem dS_put_16 : decode cS_put 16 = .ok (.iload_n 1, 1) := by decide +kernel
theorem dS_put_17 : decode cS_put 17 = .ok (.imul, 1) := by decide +kernel
theorem dS_put_18 : decode cS_put 18 = .ok (.iconst 2, 1) := by decide +kernel
theorem dS_put_19 : decode cS_put 19 = .ok (.iadd, 1) := by decide +kernel
theorem dS_put_20 : decode cS_put 20 = .ok (.iload 4, 2) := by decide +kernel
theorem dS_put_22 : decode cS_put 22 = .ok (.iastore, 1) := by decide +kernel
theorem dS_put_23 : decode cS_put 23 = .ok (.return_, 1) := by decide +kernel
theorem dS_refreshLocal_0 : decode cS_refreshLocal 0 = .ok (.aload_n 0, 1) := by decide +kernel
theorem dS_refreshLocal_1 : decode cS_refreshLocal 1 = .ok (.getfield 26, 3) := by decide +kernel
theorem dS_refreshLocal_4 : decode cS_refreshLocal 4 = .ok (.iload_n 1, 1) := by decide +kernel
theorem dS_refreshLocal_5 : decode cS_refreshLocal 5 = .ok (.aaload, 1) := by decide +kernel
theorem dS_refreshLocal_6 : decode cS_refreshLocal 6 = .ok (.astore_n 2, 1) := by decide +kernel
theorem dS_refreshLocal_7 : decode cS_refreshLocal 7 = .ok (.aload_n 0, 1) := by decide +kernel
theorem dS_refreshLocal_8 : decode cS_refreshLocal 8 = .ok (.getfield 29, 3) := by decide +kernel
theorem dS_refreshLocal_11 : decode cS_refreshLocal 11 = .ok (.iload_n 1, 1) := by decide +kernel
theorem dS_refreshLocal_12 : decode cS_refreshLocal 12 = .ok (.aaload, 1) := by decide +kernel
theorem dS_refreshLocal_13 : decode cS_refreshLocal 13 = .ok (.astore_n 3, 1) := by decide +kernel
theorem dS_refreshLocal_14 : decode cS_refreshLocal 14 = .ok (.aload_n 0, 1) := by decide +kernel
theorem dS_refreshLocal_15 : decode cS_refreshLocal 15 = .ok (.getfield 56, 3) := by decide +kernel
theorem dS_refreshLocal_18 : decode cS_refreshLocal 18 = .ok (.aload_n 2, 1) := by decide +kernel
theorem dS_refreshLocal_19 : decode cS_refreshLocal 19 = .ok (.invokevirtual 118, 3) := by decide +kernel
theorem dS_refreshLocal_22 : decode cS_refreshLocal 22 = .ok (.astore 4, 2) := by decide +kernel
theorem dS_refreshLocal_24 : decode cS_refreshLocal 24 = .ok (.iconst 0, 1) := by decide +kernel
theorem dS_refreshLocal_25 : decode cS_refreshLocal 25 = .ok (.istore 5, 2) := by decide +kernel
theorem dS_refreshLocal_27 : decode cS_refreshLocal 27 = .ok (.iload 5, 2) := by decide +kernel
theorem dS_refreshLocal_29 : decode cS_refreshLocal 29 = .ok (.iconst 3, 1) := by decide +kernel
theorem dS_refreshLocal_30 : decode cS_refreshLocal 30 = .ok (.if_icmp .ge 71, 3) := by decide +kernel
theorem dS_refreshLocal_33 : decode cS_refreshLocal 33 = .ok (.iconst 0, 1) := by decide +kernel
theorem dS_refreshLocal_34 : decode cS_refreshLocal 34 = .ok (.istore 6, 2) := by decide +kernel
theorem dS_refreshLocal_36 : decode cS_refreshLocal 36 = .ok (.iload 6, 2) := by decide +kernel
theorem dS_refreshLocal_38 : decode cS_refreshLocal 38 = .ok (.iconst 3, 1) := by decide +kernel
theorem dS_refreshLocal_39 : decode cS_refreshLocal 39 = .ok (.if_icmp .ge 42, 3) := by decide +kernel
theorem dS_refreshLocal_42 : decode cS_refreshLocal 42 = .ok (.iconst 4, 1) := by decide +kernel
theorem dS_refreshLocal_43 : decode cS_refreshLocal 43 = .ok (.iload 5, 2) := by decide +kernel
theorem dS_refreshLocal_45 : decode cS_refreshLocal 45 = .ok (.imul, 1) := by decide +kernel
theorem dS_refreshLocal_46 : decode cS_refreshLocal 46 = .ok (.iload 6, 2) := by decide +kernel
theorem dS_refreshLocal_48 : decode cS_refreshLocal 48 = .ok (.iadd, 1) := by decide +kernel
theorem dS_refreshLocal_49 : decode cS_refreshLocal 49 = .ok (.istore 7, 2) := by decide +kernel
theorem dS_refreshLocal_51 : decode cS_refreshLocal 51 = .ok (.aload_n 3, 1) := by decide +kernel
theorem dS_refreshLocal_52 : decode cS_refreshLocal 52 = .ok (.iload 7, 2) := by decide +kernel
theorem dS_refreshLocal_54 : decode cS_refreshLocal 54 = .ok (.aload 4, 2) := by decide +kernel
theorem dS_refreshLocal_56 : decode cS_refreshLocal 56 = .ok (.iload 7, 2) := by decide +kernel
theorem dS_refreshLocal_58 : decode cS_refreshLocal 58 = .ok (.iaload, 1) := by decide +kernel
theorem dS_refreshLocal_59 : decode cS_refreshLocal 59 = .ok (.i2l, 1) := by decide +kernel
theorem dS_refreshLocal_60 : decode cS_refreshLocal 60 = .ok (.aload_n 2, 1) := by decide +kernel
theorem dS_refreshLocal_61 : decode cS_refreshLocal 61 = .ok (.bipush 6, 2) := by decide +kernel
theorem dS_refreshLocal_63 : decode cS_refreshLocal 63 = .ok (.iload 6, 2) := by decide +kernel
theorem dS_refreshLocal_65 : decode cS_refreshLocal 65 = .ok (.iadd, 1) := by decide +kernel
theorem dS_refreshLocal_66 : decode cS_refreshLocal 66 = .ok (.iaload, 1) := by decide +kernel
theorem dS_refreshLocal_67 : decode cS_refreshLocal 67 = .ok (.i2l, 1) := by decide +kernel
theorem dS_refreshLocal_68 : decode cS_refreshLocal 68 = .ok (.invokestatic 122, 3) := by decide +kernel
theorem dS_refreshLocal_71 : decode cS_refreshLocal 71 = .ok (.invokestatic 126, 3) := by decide +kernel
theorem dS_refreshLocal_74 : decode cS_refreshLocal 74 = .ok (.iastore, 1) := by decide +kernel
theorem dS_refreshLocal_75 : decode cS_refreshLocal 75 = .ok (.iinc 6 1, 3) := by decide +kernel
theorem dS_refreshLocal_78 : decode cS_refreshLocal 78 = .ok (.goto (-42), 3) := by decide +kernel
theorem dS_refreshLocal_81 : decode cS_refreshLocal 81 = .ok (.aload_n 3, 1) := by decide +kernel
theorem dS_refreshLocal_82 : decode cS_refreshLocal 82 = .ok (.iconst 4, 1) := by decide +kernel
theorem dS_refreshLocal_83 : decode cS_refreshLocal 83 = .ok (.iload 5, 2) := by decide +kernel
theorem dS_refreshLocal_85 : decode cS_refreshLocal 85 = .ok (.imul, 1) := by decide +kernel
theorem dS_refreshLocal_86 : decode cS_refreshLocal 86 = .ok (.iconst 3, 1) := by decide +kernel
theorem dS_refreshLocal_87 : decode cS_refreshLocal 87 = .ok (.iadd, 1) := by decide +kernel
theorem dS_refreshLocal_88 : decode cS_refreshLocal 88 = .ok (.aload_n 2, 1) := by decide +kernel
theorem dS_refreshLocal_89 : decode cS_refreshLocal 89 = .ok (.iconst 0, 1) := by decide +kernel
theorem dS_refreshLocal_90 : decode cS_refreshLocal 90 = .ok (.iload 5, 2) := by decide +kernel
theorem dS_refreshLocal_92 : decode cS_refreshLocal 92 = .ok (.iadd, 1) := by decide +kernel
theorem dS_refreshLocal_93 : decode cS_refreshLocal 93 = .ok (.iaload, 1) := by decide +kernel
theorem dS_refreshLocal_94 : decode cS_refreshLocal 94 = .ok (.iastore, 1) := by decide +kernel
theorem dS_refreshLocal_95 : decode cS_refreshLocal 95 = .ok (.iinc 5 1, 3) := by decide +kernel
theorem dS_refreshLocal_98 : decode cS_refreshLocal 98 = .ok (.goto (-71), 3) := by decide +kernel
theorem dS_refreshLocal_101 : decode cS_refreshLocal 101 = .ok (.return_, 1) := by decide +kernel
theorem dS_clear_0 : decode cS_clear 0 = .ok (.aload_n 0, 1) := by decide +kernel
theorem dS_clear_1 : decode cS_clear 1 = .ok (.iconst 0, 1) := by decide +kernel
theorem dS_clear_2 : decode cS_clear 2 = .ok (.putfield 7, 3) := by decide +kernel
theorem dS_clear_5 : decode cS_clear 5 = .ok (.aload_n 0, 1) := by decide +kernel
theorem dS_clear_6 : decode cS_clear 6 = .ok (.iconst 0, 1) := by decide +kernel
theorem dS_clear_7 : decode cS_clear 7 = .ok (.putfield 35, 3) := by decide +kernel
theorem dS_clear_10 : decode cS_clear 10 = .ok (.return_, 1) := by decide +kernel
theorem dS_set_0 : decode cS_set 0 = .ok (.aload_n 0, 1) := by decide +kernel
theorem dS_set_1 : decode cS_set 1 = .ok (.iload_n 1, 1) := by decide +kernel
theorem dS_set_2 : decode cS_set 2 = .ok (.invokevirtual 76, 3) := by decide +kernel
theorem dS_set_5 : decode cS_set 5 = .ok (.ifCond .eq 24, 3) := by decide +kernel
theorem dS_set_8 : decode cS_set 8 = .ok (.iload_n 2, 1) := by decide +kernel
theorem dS_set_9 : decode cS_set 9 = .ok (.ifCond .lt 20, 3) := by decide +kernel
theorem dS_set_12 : decode cS_set 12 = .ok (.iload_n 2, 1) := by decide +kernel
theorem dS_set_13 : decode cS_set 13 = .ok (.iconst 2, 1) := by decide +kernel
theorem dS_set_14 : decode cS_set 14 = .ok (.if_icmp .gt 15, 3) := by decide +kernel
theorem dS_set_17 : decode cS_set 17 = .ok (.iload_n 2, 1) := by decide +kernel
theorem dS_set_18 : decode cS_set 18 = .ok (.iload_n 3, 1) := by decide +kernel
theorem dS_set_19 : decode cS_set 19 = .ok (.iload 4, 2) := by decide +kernel
theorem dS_set_21 : decode cS_set 21 = .ok (.iload 5, 2) := by decide +kernel
theorem dS_set_23 : decode cS_set 23 = .ok (.invokestatic 80, 3) := by decide +kernel
theorem dS_set_26 : decode cS_set 26 = .ok (.ifCond .ne 5, 3) := by decide +kernel
theorem dS_set_29 : decode cS_set 29 = .ok (.iconst 0, 1) := by decide +kernel
theorem dS_set_30 : decode cS_set 30 = .ok (.ireturn, 1) := by decide +kernel
theorem dS_set_31 : decode cS_set 31 = .ok (.aload_n 0, 1) := by decide +kernel
theorem dS_set_32 : decode cS_set 32 = .ok (.getfield 26, 3) := by decide +kernel
theorem dS_set_35 : decode cS_set 35 = .ok (.iload_n 1, 1) := by decide +kernel
theorem dS_set_36 : decode cS_set 36 = .ok (.aaload, 1) := by decide +kernel
theorem dS_set_37 : decode cS_set 37 = .ok (.iload_n 2, 1) := by decide +kernel
theorem dS_set_38 : decode cS_set 38 = .ok (.iload_n 3, 1) := by decide +kernel
theorem dS_set_39 : decode cS_set 39 = .ok (.iload 4, 2) := by decide +kernel
theorem dS_set_41 : decode cS_set 41 = .ok (.iload 5, 2) := by decide +kernel
theorem dS_set_43 : decode cS_set 43 = .ok (.invokestatic 67, 3) := by decide +kernel
theorem dS_set_46 : decode cS_set 46 = .ok (.aload_n 0, 1) := by decide +kernel
theorem dS_set_47 : decode cS_set 47 = .ok (.iload_n 1, 1) := by decide +kernel
theorem dS_set_48 : decode cS_set 48 = .ok (.invokevirtual 72, 3) := by decide +kernel
theorem dS_set_51 : decode cS_set 51 = .ok (.aload_n 0, 1) := by decide +kernel
theorem dS_set_52 : decode cS_set 52 = .ok (.aload_n 0, 1) := by decide +kernel
theorem dS_set_53 : decode cS_set 53 = .ok (.getfield 35, 3) := by decide +kernel
theorem dS_set_56 : decode cS_set 56 = .ok (.iload_n 1, 1) := by decide +kernel
theorem dS_set_57 : decode cS_set 57 = .ok (.invokestatic 84, 3) := by decide +kernel
theorem dS_set_60 : decode cS_set 60 = .ok (.putfield 35, 3) := by decide +kernel
theorem dS_set_63 : decode cS_set 63 = .ok (.iconst 1, 1) := by decide +kernel
theorem dS_set_64 : decode cS_set 64 = .ok (.ireturn, 1) := by decide +kernel
theorem dS_isNode_0 : decode cS_isNode 0 = .ok (.iload_n 1, 1) := by decide +kernel
theorem dS_isNode_1 : decode cS_isNode 1 = .ok (.ifCond .lt 15, 3) := by decide +kernel
theorem dS_isNode_4 : decode cS_isNode 4 = .ok (.iload_n 1, 1) := by decide +kernel
theorem dS_isNode_5 : decode cS_isNode 5 = .ok (.aload_n 0, 1) := by decide +kernel
theorem dS_isNode_6 : decode cS_isNode 6 = .ok (.getfield 7, 3) := by decide +kernel
theorem dS_isNode_9 : decode cS_isNode 9 = .ok (.if_icmp .ge 7, 3) := by decide +kernel
theorem dS_isNode_12 : decode cS_isNode 12 = .ok (.iconst 1, 1) := by decide +kernel
theorem dS_isNode_13 : decode cS_isNode 13 = .ok (.goto 4, 3) := by decide +kernel
theorem dS_isNode_16 : decode cS_isNode 16 = .ok (.iconst 0, 1) := by decide +kernel
theorem dS_isNode_17 : decode cS_isNode 17 = .ok (.ireturn, 1) := by decide +kernel
theorem dS_canBe_0 : decode cS_canBe 0 = .ok (.iload_n 0, 1) := by decide +kernel
theorem dS_canBe_1 : decode cS_canBe 1 = .ok (.ifCond .ne 8, 3) := by decide +kernel
theorem dS_canBe_4 : decode cS_canBe 4 = .ok (.ldc 113, 2) := by decide +kernel
theorem dS_canBe_6 : decode cS_canBe 6 = .ok (.goto 15, 3) := by decide +kernel
theorem dS_canBe_9 : decode cS_canBe 9 = .ok (.iload_n 0, 1) := by decide +kernel
theorem dS_canBe_10 : decode cS_canBe 10 = .ok (.iconst 1, 1) := by decide +kernel
theorem dS_canBe_11 : decode cS_canBe 11 = .ok (.if_icmp .ne 8, 3) := by decide +kernel
theorem dS_canBe_14 : decode cS_canBe 14 = .ok (.ldc 114, 2) := by decide +kernel
theorem dS_canBe_16 : decode cS_canBe 16 = .ok (.goto 5, 3) := by decide +kernel
theorem dS_canBe_19 : decode cS_canBe 19 = .ok (.ldc 114, 2) := by decide +kernel
theorem dS_canBe_21 : decode cS_canBe 21 = .ok (.istore 4, 2) := by decide +kernel
theorem dS_canBe_23 : decode cS_canBe 23 = .ok (.iload_n 1, 1) := by decide +kernel
theorem dS_canBe_24 : decode cS_canBe 24 = .ok (.iload 4, 2) := by decide +kernel
theorem dS_canBe_26 : decode cS_canBe 26 = .ok (.invokestatic 115, 3) := by decide +kernel
theorem dS_canBe_29 : decode cS_canBe 29 = .ok (.ifCond .eq 25, 3) := by decide +kernel
theorem dS_canBe_32 : decode cS_canBe 32 = .ok (.iload_n 2, 1) := by decide +kernel
theorem dS_canBe_33 : decode cS_canBe 33 = .ok (.iload 4, 2) := by decide +kernel
theorem dS_canBe_35 : decode cS_canBe 35 = .ok (.invokestatic 115, 3) := by decide +kernel
theorem dS_canBe_38 : decode cS_canBe 38 = .ok (.ifCond .eq 16, 3) := by decide +kernel
theorem dS_canBe_41 : decode cS_canBe 41 = .ok (.iload_n 3, 1) := by decide +kernel
theorem dS_canBe_42 : decode cS_canBe 42 = .ok (.iload 4, 2) := by decide +kernel
theorem dS_canBe_44 : decode cS_canBe 44 = .ok (.invokestatic 115, 3) := by decide +kernel
theorem dS_canBe_47 : decode cS_canBe 47 = .ok (.ifCond .eq 7, 3) := by decide +kernel
theorem dS_canBe_50 : decode cS_canBe 50 = .ok (.iconst 1, 1) := by decide +kernel
theorem dS_canBe_51 : decode cS_canBe 51 = .ok (.goto 4, 3) := by decide +kernel
theorem dS_canBe_54 : decode cS_canBe 54 = .ok (.iconst 0, 1) := by decide +kernel
theorem dS_canBe_55 : decode cS_canBe 55 = .ok (.ireturn, 1) := by decide +kernel
theorem dS_isWithin_0 : decode cS_isWithin 0 = .ok (.iload_n 0, 1) := by decide +kernel
theorem dS_isWithin_1 : decode cS_isWithin 1 = .ok (.iload_n 1, 1) := by decide +kernel
theorem dS_isWithin_2 : decode cS_isWithin 2 = .ok (.ineg, 1) := by decide +kernel
theorem dS_isWithin_3 : decode cS_isWithin 3 = .ok (.if_icmp .lt 12, 3) := by decide +kernel
theorem dS_isWithin_6 : decode cS_isWithin 6 = .ok (.iload_n 0, 1) := by decide +kernel
theorem dS_isWithin_7 : decode cS_isWithin 7 = .ok (.iload_n 1, 1) := by decide +kernel
theorem dS_isWithin_8 : decode cS_isWithin 8 = .ok (.if_icmp .gt 7, 3) := by decide +kernel
theorem dS_isWithin_11 : decode cS_isWithin 11 = .ok (.iconst 1, 1) := by decide +kernel
theorem dS_isWithin_12 : decode cS_isWithin 12 = .ok (.goto 4, 3) := by decide +kernel
theorem dS_isWithin_15 : decode cS_isWithin 15 = .ok (.iconst 0, 1) := by decide +kernel
theorem dS_isWithin_16 : decode cS_isWithin 16 = .ok (.ireturn, 1) := by decide +kernel
theorem dS_hang_0 : decode cS_hang 0 = .ok (.aload_n 0, 1) := by decide +kernel
theorem dS_hang_1 : decode cS_hang 1 = .ok (.iload_n 1, 1) := by decide +kernel
theorem dS_hang_2 : decode cS_hang 2 = .ok (.invokevirtual 76, 3) := by decide +kernel
theorem dS_hang_5 : decode cS_hang 5 = .ok (.ifCond .eq 11, 3) := by decide +kernel
theorem dS_hang_8 : decode cS_hang 8 = .ok (.iload_n 1, 1) := by decide +kernel
theorem dS_hang_9 : decode cS_hang 9 = .ok (.iload_n 2, 1) := by decide +kernel
theorem dS_hang_10 : decode cS_hang 10 = .ok (.invokestatic 63, 3) := by decide +kernel
