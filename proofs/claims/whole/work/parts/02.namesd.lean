theorem dM_hang_7 : decode cM_hang 7 = .ok (.invokevirtual 62, 3) := by decide +kernel
theorem dM_hang_10 : decode cM_hang 10 = .ok (.ifCond .eq 13, 3) := by decide +kernel
theorem dM_hang_13 : decode cM_hang 13 = .ok (.iload_n 2, 1) := by decide +kernel
theorem dM_hang_14 : decode cM_hang 14 = .ok (.iconst (-1), 1) := by decide +kernel
theorem dM_hang_15 : decode cM_hang 15 = .ok (.if_icmp .lt 8, 3) := by decide +kernel
theorem dM_hang_18 : decode cM_hang 18 = .ok (.iload_n 2, 1) := by decide +kernel
theorem dM_hang_19 : decode cM_hang 19 = .ok (.iload_n 1, 1) := by decide +kernel
theorem dM_hang_20 : decode cM_hang 20 = .ok (.if_icmp .lt 5, 3) := by decide +kernel
theorem dM_hang_23 : decode cM_hang 23 = .ok (.iconst 0, 1) := by decide +kernel
theorem dM_hang_24 : decode cM_hang 24 = .ok (.ireturn, 1) := by decide +kernel
theorem dM_hang_25 : decode cM_hang 25 = .ok (.aload_n 0, 1) := by decide +kernel
theorem dM_hang_26 : decode cM_hang 26 = .ok (.getfield 7, 3) := by decide +kernel
theorem dM_hang_29 : decode cM_hang 29 = .ok (.iload_n 1, 1) := by decide +kernel
theorem dM_hang_30 : decode cM_hang 30 = .ok (.iload_n 2, 1) := by decide +kernel
theorem dM_hang_31 : decode cM_hang 31 = .ok (.iastore, 1) := by decide +kernel
theorem dM_hang_32 : decode cM_hang 32 = .ok (.iconst 1, 1) := by decide +kernel
theorem dM_hang_33 : decode cM_hang 33 = .ok (.ireturn, 1) := by decide +kernel
theorem dM_hide_0 : decode cM_hide 0 = .ok (.aload_n 0, 1) := by decide +kernel
theorem dM_hide_1 : decode cM_hide 1 = .ok (.iconst 0, 1) := by decide +kernel
theorem dM_hide_2 : decode cM_hide 2 = .ok (.putfield 48, 3) := by decide +kernel
theorem dM_hide_5 : decode cM_hide 5 = .ok (.aload_n 0, 1) := by decide +kernel
theorem dM_hide_6 : decode cM_hide 6 = .ok (.iload_n 1, 1) := by decide +kernel
theorem dM_hide_7 : decode cM_hide 7 = .ok (.invokevirtual 62, 3) := by decide +kernel
theorem dM_hide_10 : decode cM_hide 10 = .ok (.ifCond .ne 5, 3) := by decide +kernel
theorem dM_hide_13 : decode cM_hide 13 = .ok (.iconst 0, 1) := by decide +kernel
theorem dM_hide_14 : decode cM_hide 14 = .ok (.ireturn, 1) := by decide +kernel
theorem dM_hide_15 : decode cM_hide 15 = .ok (.aload_n 0, 1) := by decide +kernel
theorem dM_hide_16 : decode cM_hide 16 = .ok (.getfield 16, 3) := by decide +kernel
theorem dM_hide_19 : decode cM_hide 19 = .ok (.iload_n 1, 1) := by decide +kernel
theorem dM_hide_20 : decode cM_hide 20 = .ok (.iload_n 2, 1) := by decide +kernel
theorem dM_hide_21 : decode cM_hide 21 = .ok (.bastore, 1) := by decide +kernel
theorem dM_hide_22 : decode cM_hide 22 = .ok (.iconst 1, 1) := by decide +kernel
theorem dM_hide_23 : decode cM_hide 23 = .ok (.ireturn, 1) := by decide +kernel
theorem dM_camera_0 : decode cM_camera 0 = .ok (.aload_n 0, 1) := by decide +kernel
theorem dM_camera_1 : decode cM_camera 1 = .ok (.iconst 0, 1) := by decide +kernel
theorem dM_camera_2 : decode cM_camera 2 = .ok (.putfield 48, 3) := by decide +kernel
theorem dM_camera_5 : decode cM_camera 5 = .ok (.iload_n 1, 1) := by decide +kernel
theorem dM_camera_6 : decode cM_camera 6 = .ok (.ifCond .eq 8, 3) := by decide +kernel
theorem dM_camera_9 : decode cM_camera 9 = .ok (.iload_n 1, 1) := by decide +kernel
theorem dM_camera_10 : decode cM_camera 10 = .ok (.iconst 1, 1) := by decide +kernel
theorem dM_camera_11 : decode cM_camera 11 = .ok (.if_icmp .ne 26, 3) := by decide +kernel
theorem dM_camera_14 : decode cM_camera 14 = .ok (.aload_n 0, 1) := by decide +kernel
theorem dM_camera_15 : decode cM_camera 15 = .ok (.sipush 432, 3) := by decide +kernel
theorem dM_camera_18 : decode cM_camera 18 = .ok (.iconst 3, 1) := by decide +kernel
theorem dM_camera_19 : decode cM_camera 19 = .ok (.iload_n 1, 1) := by decide +kernel
theorem dM_camera_20 : decode cM_camera 20 = .ok (.imul, 1) := by decide +kernel
theorem dM_camera_21 : decode cM_camera 21 = .ok (.iadd, 1) := by decide +kernel
theorem dM_camera_22 : decode cM_camera 22 = .ok (.iload_n 1, 1) := by decide +kernel
theorem dM_camera_23 : decode cM_camera 23 = .ok (.iload_n 2, 1) := by decide +kernel
theorem dM_camera_24 : decode cM_camera 24 = .ok (.iload_n 3, 1) := by decide +kernel
theorem dM_camera_25 : decode cM_camera 25 = .ok (.iload 4, 2) := by decide +kernel
theorem dM_camera_27 : decode cM_camera 27 = .ok (.invokevirtual 66, 3) := by decide +kernel
theorem dM_camera_30 : decode cM_camera 30 = .ok (.ifCond .eq 7, 3) := by decide +kernel
theorem dM_camera_33 : decode cM_camera 33 = .ok (.iconst 1, 1) := by decide +kernel
theorem dM_camera_34 : decode cM_camera 34 = .ok (.goto 4, 3) := by decide +kernel
theorem dM_camera_37 : decode cM_camera 37 = .ok (.iconst 0, 1) := by decide +kernel
theorem dM_camera_38 : decode cM_camera 38 = .ok (.ireturn, 1) := by decide +kernel
theorem dM_world_0 : decode cM_world 0 = .ok (.aload_n 0, 1) := by decide +kernel
theorem dM_world_1 : decode cM_world 1 = .ok (.aload_n 0, 1) := by decide +kernel
theorem dM_world_2 : decode cM_world 2 = .ok (.iload_n 1, 1) := by decide +kernel
theorem dM_world_3 : decode cM_world 3 = .ok (.iload_n 2, 1) := by decide +kernel
theorem dM_world_4 : decode cM_world 4 = .ok (.iload_n 3, 1) := by decide +kernel
theorem dM_world_5 : decode cM_world 5 = .ok (.invokevirtual 118, 3) := by decide +kernel
theorem dM_world_8 : decode cM_world 8 = .ok (.ifCond .eq 7, 3) := by decide +kernel
theorem dM_world_11 : decode cM_world 11 = .ok (.iconst 0, 1) := by decide +kernel
theorem dM_world_12 : decode cM_world 12 = .ok (.goto 4, 3) := by decide +kernel
theorem dM_world_15 : decode cM_world 15 = .ok (.iconst 1, 1) := by decide +kernel
theorem dM_world_16 : decode cM_world 16 = .ok (.putfield 48, 3) := by decide +kernel
theorem dM_world_19 : decode cM_world 19 = .ok (.aload_n 0, 1) := by decide +kernel
theorem dM_world_20 : decode cM_world 20 = .ok (.getfield 48, 3) := by decide +kernel
theorem dM_world_23 : decode cM_world 23 = .ok (.iconst 1, 1) := by decide +kernel
theorem dM_world_24 : decode cM_world 24 = .ok (.if_icmp .ne 5, 3) := by decide +kernel
theorem dM_world_27 : decode cM_world 27 = .ok (.iconst 0, 1) := by decide +kernel
theorem dM_world_28 : decode cM_world 28 = .ok (.ireturn, 1) := by decide +kernel
theorem dM_world_29 : decode cM_world 29 = .ok (.aload_n 0, 1) := by decide +kernel
theorem dM_world_30 : decode cM_world 30 = .ok (.iload_n 1, 1) := by decide +kernel
theorem dM_world_31 : decode cM_world 31 = .ok (.invokevirtual 115, 3) := by decide +kernel
theorem dM_world_34 : decode cM_world 34 = .ok (.aload_n 0, 1) := by decide +kernel
theorem dM_world_35 : decode cM_world 35 = .ok (.getfield 30, 3) := by decide +kernel
theorem dM_world_38 : decode cM_world 38 = .ok (.iconst 4, 1) := by decide +kernel
theorem dM_world_39 : decode cM_world 39 = .ok (.iload_n 2, 1) := by decide +kernel
theorem dM_world_40 : decode cM_world 40 = .ok (.imul, 1) := by decide +kernel
theorem dM_world_41 : decode cM_world 41 = .ok (.iload_n 3, 1) := by decide +kernel
theorem dM_world_42 : decode cM_world 42 = .ok (.iadd, 1) := by decide +kernel
theorem dM_world_43 : decode cM_world 43 = .ok (.laload, 1) := by decide +kernel
theorem dM_world_44 : decode cM_world 44 = .ok (.l2i, 1) := by decide +kernel
theorem dM_world_45 : decode cM_world 45 = .ok (.ireturn, 1) := by decide +kernel
theorem dM_isPlace_0 : decode cM_isPlace 0 = .ok (.aload_n 0, 1) := by decide +kernel
theorem dM_isPlace_1 : decode cM_isPlace 1 = .ok (.iload_n 1, 1) := by decide +kernel
theorem dM_isPlace_2 : decode cM_isPlace 2 = .ok (.invokevirtual 62, 3) := by decide +kernel
theorem dM_isPlace_5 : decode cM_isPlace 5 = .ok (.ifCond .eq 25, 3) := by decide +kernel
theorem dM_isPlace_8 : decode cM_isPlace 8 = .ok (.iload_n 2, 1) := by decide +kernel
theorem dM_isPlace_9 : decode cM_isPlace 9 = .ok (.ifCond .lt 21, 3) := by decide +kernel
theorem dM_isPlace_12 : decode cM_isPlace 12 = .ok (.iload_n 2, 1) := by decide +kernel
theorem dM_isPlace_13 : decode cM_isPlace 13 = .ok (.iconst 3, 1) := by decide +kernel
theorem dM_isPlace_14 : decode cM_isPlace 14 = .ok (.if_icmp .ge 16, 3) := by decide +kernel
theorem dM_isPlace_17 : decode cM_isPlace 17 = .ok (.iload_n 3, 1) := by decide +kernel
theorem dM_isPlace_18 : decode cM_isPlace 18 = .ok (.ifCond .lt 12, 3) := by decide +kernel
theorem dM_isPlace_21 : decode cM_isPlace 21 = .ok (.iload_n 3, 1) := by decide +kernel
theorem dM_isPlace_22 : decode cM_isPlace 22 = .ok (.iconst 4, 1) := by decide +kernel
theorem dM_isPlace_23 : decode cM_isPlace 23 = .ok (.if_icmp .ge 7, 3) := by decide +kernel
theorem dM_isPlace_26 : decode cM_isPlace 26 = .ok (.iconst 1, 1) := by decide +kernel
theorem dM_isPlace_27 : decode cM_isPlace 27 = .ok (.goto 4, 3) := by decide +kernel
theorem dM_isPlace_30 : decode cM_isPlace 30 = .ok (.iconst 0, 1) := by decide +kernel
theorem dM_isPlace_31 : decode cM_isPlace 31 = .ok (.ireturn, 1) := by decide +kernel
theorem dM_makesWorld_0 : decode cM_makesWorld 0 = .ok (.iconst 0, 1) := by decide +kernel
theorem dM_makesWorld_1 : decode cM_makesWorld 1 = .ok (.istore_n 2, 1) := by decide +kernel
theorem dM_makesWorld_2 : decode cM_makesWorld 2 = .ok (.iload_n 1, 1) := by decide +kernel
theorem dM_makesWorld_3 : decode cM_makesWorld 3 = .ok (.istore_n 3, 1) := by decide +kernel
theorem dM_makesWorld_4 : decode cM_makesWorld 4 = .ok (.iload_n 3, 1) := by decide +kernel
theorem dM_makesWorld_5 : decode cM_makesWorld 5 = .ok (.ifCond .lt 23, 3) := by decide +kernel
theorem dM_makesWorld_8 : decode cM_makesWorld 8 = .ok (.aload_n 0, 1) := by decide +kernel
theorem dM_makesWorld_9 : decode cM_makesWorld 9 = .ok (.getfield 23, 3) := by decide +kernel
theorem dM_makesWorld_12 : decode cM_makesWorld 12 = .ok (.iload_n 2, 1) := by decide +kernel
theorem dM_makesWorld_13 : decode cM_makesWorld 13 = .ok (.iload_n 3, 1) := by decide +kernel
theorem dM_makesWorld_14 : decode cM_makesWorld 14 = .ok (.iastore, 1) := by decide +kernel
theorem dM_makesWorld_15 : decode cM_makesWorld 15 = .ok (.iinc 2 1, 3) := by decide +kernel
theorem dM_makesWorld_18 : decode cM_makesWorld 18 = .ok (.aload_n 0, 1) := by decide +kernel
theorem dM_makesWorld_19 : decode cM_makesWorld 19 = .ok (.getfield 7, 3) := by decide +kernel
theorem dM_makesWorld_22 : decode cM_makesWorld 22 = .ok (.iload_n 3, 1) := by decide +kernel
theorem dM_makesWorld_23 : decode cM_makesWorld 23 = .ok (.iaload, 1) := by decide +kernel
theorem dM_makesWorld_24 : decode cM_makesWorld 24 = .ok (.istore_n 3, 1) := by decide +kernel
theorem dM_makesWorld_25 : decode cM_makesWorld 25 = .ok (.goto (-21), 3) := by decide +kernel
theorem dM_makesWorld_28 : decode cM_makesWorld 28 = .ok (.aload_n 0, 1) := by decide +kernel
theorem dM_makesWorld_29 : decode cM_makesWorld 29 = .ok (.aload_n 0, 1) := by decide +kernel
theorem dM_makesWorld_30 : decode cM_makesWorld 30 = .ok (.getfield 23, 3) := by decide +kernel
theorem dM_makesWorld_33 : decode cM_makesWorld 33 = .ok (.iload_n 2, 1) := by decide +kernel
theorem dM_makesWorld_34 : decode cM_makesWorld 34 = .ok (.iconst 1, 1) := by decide +kernel
theorem dM_makesWorld_35 : decode cM_makesWorld 35 = .ok (.isub, 1) := by decide +kernel
theorem dM_makesWorld_36 : decode cM_makesWorld 36 = .ok (.iaload, 1) := by decide +kernel
theorem dM_makesWorld_37 : decode cM_makesWorld 37 = .ok (.invokevirtual 112, 3) := by decide +kernel
theorem dM_makesWorld_40 : decode cM_makesWorld 40 = .ok (.aload_n 0, 1) := by decide +kernel
theorem dM_makesWorld_41 : decode cM_makesWorld 41 = .ok (.getfield 42, 3) := by decide +kernel
theorem dM_makesWorld_44 : decode cM_makesWorld 44 = .ok (.aload_n 0, 1) := by decide +kernel
theorem dM_makesWorld_45 : decode cM_makesWorld 45 = .ok (.getfield 30, 3) := by decide +kernel
theorem dM_makesWorld_48 : decode cM_makesWorld 48 = .ok (.invokestatic 104, 3) := by decide +kernel
theorem dM_makesWorld_51 : decode cM_makesWorld 51 = .ok (.iload_n 2, 1) := by decide +kernel
theorem dM_makesWorld_52 : decode cM_makesWorld 52 = .ok (.iconst 2, 1) := by decide +kernel
theorem dM_makesWorld_53 : decode cM_makesWorld 53 = .ok (.isub, 1) := by decide +kernel
theorem dM_makesWorld_54 : decode cM_makesWorld 54 = .ok (.istore_n 3, 1) := by decide +kernel
theorem dM_makesWorld_55 : decode cM_makesWorld 55 = .ok (.iload_n 3, 1) := by decide +kernel
theorem dM_makesWorld_56 : decode cM_makesWorld 56 = .ok (.ifCond .lt 56, 3) := by decide +kernel
theorem dM_makesWorld_59 : decode cM_makesWorld 59 = .ok (.aload_n 0, 1) := by decide +kernel
theorem dM_makesWorld_60 : decode cM_makesWorld 60 = .ok (.getfield 30, 3) := by decide +kernel
theorem dM_makesWorld_63 : decode cM_makesWorld 63 = .ok (.aload_n 0, 1) := by decide +kernel
theorem dM_makesWorld_64 : decode cM_makesWorld 64 = .ok (.getfield 45, 3) := by decide +kernel
theorem dM_makesWorld_67 : decode cM_makesWorld 67 = .ok (.invokestatic 104, 3) := by decide +kernel
theorem dM_makesWorld_70 : decode cM_makesWorld 70 = .ok (.aload_n 0, 1) := by decide +kernel
theorem dM_makesWorld_71 : decode cM_makesWorld 71 = .ok (.aload_n 0, 1) := by decide +kernel
theorem dM_makesWorld_72 : decode cM_makesWorld 72 = .ok (.getfield 23, 3) := by decide +kernel
theorem dM_makesWorld_75 : decode cM_makesWorld 75 = .ok (.iload_n 3, 1) := by decide +kernel
theorem dM_makesWorld_76 : decode cM_makesWorld 76 = .ok (.iaload, 1) := by decide +kernel
theorem dM_makesWorld_77 : decode cM_makesWorld 77 = .ok (.invokevirtual 112, 3) := by decide +kernel
theorem dM_makesWorld_80 : decode cM_makesWorld 80 = .ok (.aload_n 0, 1) := by decide +kernel
theorem dM_makesWorld_81 : decode cM_makesWorld 81 = .ok (.getfield 45, 3) := by decide +kernel
theorem dM_makesWorld_84 : decode cM_makesWorld 84 = .ok (.aload_n 0, 1) := by decide +kernel
theorem dM_makesWorld_85 : decode cM_makesWorld 85 = .ok (.getfield 33, 3) := by decide +kernel
theorem dM_makesWorld_88 : decode cM_makesWorld 88 = .ok (.invokestatic 104, 3) := by decide +kernel
theorem dM_makesWorld_91 : decode cM_makesWorld 91 = .ok (.aload_n 0, 1) := by decide +kernel
theorem dM_makesWorld_92 : decode cM_makesWorld 92 = .ok (.getfield 42, 3) := by decide +kernel
theorem dM_makesWorld_95 : decode cM_makesWorld 95 = .ok (.aload_n 0, 1) := by decide +kernel
theorem dM_makesWorld_96 : decode cM_makesWorld 96 = .ok (.getfield 36, 3) := by decide +kernel
theorem dM_makesWorld_99 : decode cM_makesWorld 99 = .ok (.invokestatic 104, 3) := by decide +kernel
theorem dM_makesWorld_102 : decode cM_makesWorld 102 = .ok (.aload_n 0, 1) := by decide +kernel
theorem dM_makesWorld_103 : decode cM_makesWorld 103 = .ok (.invokevirtual 101, 3) := by decide +kernel
theorem dM_makesWorld_106 : decode cM_makesWorld 106 = .ok (.iinc 3 (-1), 3) := by decide +kernel
theorem dM_makesWorld_109 : decode cM_makesWorld 109 = .ok (.goto (-54), 3) := by decide +kernel
theorem dM_makesWorld_112 : decode cM_makesWorld 112 = .ok (.return_, 1) := by decide +kernel
theorem dM_makesLocal_0 : decode cM_makesLocal 0 = .ok (.aload_n 0, 1) := by decide +kernel
theorem dM_makesLocal_1 : decode cM_makesLocal 1 = .ok (.bipush 9, 2) := by decide +kernel
theorem dM_makesLocal_3 : decode cM_makesLocal 3 = .ok (.iload_n 1, 1) := by decide +kernel
theorem dM_makesLocal_4 : decode cM_makesLocal 4 = .ok (.imul, 1) := by decide +kernel
theorem dM_makesLocal_5 : decode cM_makesLocal 5 = .ok (.iconst 3, 1) := by decide +kernel
theorem dM_makesLocal_6 : decode cM_makesLocal 6 = .ok (.iadd, 1) := by decide +kernel
theorem dM_makesLocal_7 : decode cM_makesLocal 7 = .ok (.invokevirtual 108, 3) := by decide +kernel
theorem dM_makesLocal_10 : decode cM_makesLocal 10 = .ok (.iconst 0, 1) := by decide +kernel
theorem dM_makesLocal_11 : decode cM_makesLocal 11 = .ok (.istore_n 2, 1) := by decide +kernel
theorem dM_makesLocal_12 : decode cM_makesLocal 12 = .ok (.iload_n 2, 1) := by decide +kernel
theorem dM_makesLocal_13 : decode cM_makesLocal 13 = .ok (.iconst 3, 1) := by decide +kernel
theorem dM_makesLocal_14 : decode cM_makesLocal 14 = .ok (.if_icmp .ge 85, 3) := by decide +kernel
theorem dM_makesLocal_17 : decode cM_makesLocal 17 = .ok (.iconst 0, 1) := by decide +kernel
theorem dM_makesLocal_18 : decode cM_makesLocal 18 = .ok (.istore_n 3, 1) := by decide +kernel
theorem dM_makesLocal_19 : decode cM_makesLocal 19 = .ok (.iload_n 3, 1) := by decide +kernel
theorem dM_makesLocal_20 : decode cM_makesLocal 20 = .ok (.iconst 3, 1) := by decide +kernel
theorem dM_makesLocal_21 : decode cM_makesLocal 21 = .ok (.if_icmp .ge 50, 3) := by decide +kernel
theorem dM_makesLocal_24 : decode cM_makesLocal 24 = .ok (.aload_n 0, 1) := by decide +kernel
theorem dM_makesLocal_25 : decode cM_makesLocal 25 = .ok (.getfield 42, 3) := by decide +kernel
theorem dM_makesLocal_28 : decode cM_makesLocal 28 = .ok (.iconst 4, 1) := by decide +kernel
theorem dM_makesLocal_29 : decode cM_makesLocal 29 = .ok (.iload_n 2, 1) := by decide +kernel
theorem dM_makesLocal_30 : decode cM_makesLocal 30 = .ok (.imul, 1) := by decide +kernel
theorem dM_makesLocal_31 : decode cM_makesLocal 31 = .ok (.iload_n 3, 1) := by decide +kernel
theorem dM_makesLocal_32 : decode cM_makesLocal 32 = .ok (.iadd, 1) := by decide +kernel
theorem dM_makesLocal_33 : decode cM_makesLocal 33 = .ok (.aload_n 0, 1) := by decide +kernel
theorem dM_makesLocal_34 : decode cM_makesLocal 34 = .ok (.getfield 39, 3) := by decide +kernel
theorem dM_makesLocal_37 : decode cM_makesLocal 37 = .ok (.iconst 4, 1) := by decide +kernel
theorem dM_makesLocal_38 : decode cM_makesLocal 38 = .ok (.iload_n 2, 1) := by decide +kernel
theorem dM_makesLocal_39 : decode cM_makesLocal 39 = .ok (.imul, 1) := by decide +kernel
theorem dM_makesLocal_40 : decode cM_makesLocal 40 = .ok (.iload_n 3, 1) := by decide +kernel
theorem dM_makesLocal_41 : decode cM_makesLocal 41 = .ok (.iadd, 1) := by decide +kernel
theorem dM_makesLocal_42 : decode cM_makesLocal 42 = .ok (.laload, 1) := by decide +kernel
theorem dM_makesLocal_43 : decode cM_makesLocal 43 = .ok (.aload_n 0, 1) := by decide +kernel
theorem dM_makesLocal_44 : decode cM_makesLocal 44 = .ok (.getfield 20, 3) := by decide +kernel
theorem dM_makesLocal_47 : decode cM_makesLocal 47 = .ok (.bipush 9, 2) := by decide +kernel
theorem dM_makesLocal_49 : decode cM_makesLocal 49 = .ok (.iload_n 1, 1) := by decide +kernel
theorem dM_makesLocal_50 : decode cM_makesLocal 50 = .ok (.imul, 1) := by decide +kernel
theorem dM_makesLocal_51 : decode cM_makesLocal 51 = .ok (.bipush 6, 2) := by decide +kernel
theorem dM_makesLocal_53 : decode cM_makesLocal 53 = .ok (.iadd, 1) := by decide +kernel
theorem dM_makesLocal_54 : decode cM_makesLocal 54 = .ok (.iload_n 3, 1) := by decide +kernel
theorem dM_makesLocal_55 : decode cM_makesLocal 55 = .ok (.iadd, 1) := by decide +kernel
theorem dM_makesLocal_56 : decode cM_makesLocal 56 = .ok (.iaload, 1) := by decide +kernel
theorem dM_makesLocal_57 : decode cM_makesLocal 57 = .ok (.i2l, 1) := by decide +kernel
theorem dM_makesLocal_58 : decode cM_makesLocal 58 = .ok (.invokestatic 84, 3) := by decide +kernel
theorem dM_makesLocal_61 : decode cM_makesLocal 61 = .ok (.invokestatic 88, 3) := by decide +kernel
theorem dM_makesLocal_64 : decode cM_makesLocal 64 = .ok (.lastore, 1) := by decide +kernel
theorem dM_makesLocal_65 : decode cM_makesLocal 65 = .ok (.iinc 3 1, 3) := by decide +kernel
theorem dM_makesLocal_68 : decode cM_makesLocal 68 = .ok (.goto (-49), 3) := by decide +kernel
theorem dM_makesLocal_71 : decode cM_makesLocal 71 = .ok (.aload_n 0, 1) := by decide +kernel
theorem dM_makesLocal_72 : decode cM_makesLocal 72 = .ok (.getfield 42, 3) := by decide +kernel
theorem dM_makesLocal_75 : decode cM_makesLocal 75 = .ok (.iconst 4, 1) := by decide +kernel
theorem dM_makesLocal_76 : decode cM_makesLocal 76 = .ok (.iload_n 2, 1) := by decide +kernel
theorem dM_makesLocal_77 : decode cM_makesLocal 77 = .ok (.imul, 1) := by decide +kernel
theorem dM_makesLocal_78 : decode cM_makesLocal 78 = .ok (.iconst 3, 1) := by decide +kernel
theorem dM_makesLocal_79 : decode cM_makesLocal 79 = .ok (.iadd, 1) := by decide +kernel
theorem dM_makesLocal_80 : decode cM_makesLocal 80 = .ok (.aload_n 0, 1) := by decide +kernel
theorem dM_makesLocal_81 : decode cM_makesLocal 81 = .ok (.getfield 20, 3) := by decide +kernel
theorem dM_makesLocal_84 : decode cM_makesLocal 84 = .ok (.bipush 9, 2) := by decide +kernel
theorem dM_makesLocal_86 : decode cM_makesLocal 86 = .ok (.iload_n 1, 1) := by decide +kernel
theorem dM_makesLocal_87 : decode cM_makesLocal 87 = .ok (.imul, 1) := by decide +kernel
theorem dM_makesLocal_88 : decode cM_makesLocal 88 = .ok (.iload_n 2, 1) := by decide +kernel
theorem dM_makesLocal_89 : decode cM_makesLocal 89 = .ok (.iadd, 1) := by decide +kernel
theorem dM_makesLocal_90 : decode cM_makesLocal 90 = .ok (.iaload, 1) := by decide +kernel
theorem dM_makesLocal_91 : decode cM_makesLocal 91 = .ok (.i2l, 1) := by decide +kernel
theorem dM_makesLocal_92 : decode cM_makesLocal 92 = .ok (.lastore, 1) := by decide +kernel
theorem dM_makesLocal_93 : decode cM_makesLocal 93 = .ok (.iinc 2 1, 3) := by decide +kernel
theorem dM_makesLocal_96 : decode cM_makesLocal 96 = .ok (.goto (-84), 3) := by decide +kernel
theorem dM_makesLocal_99 : decode cM_makesLocal 99 = .ok (.return_, 1) := by decide +kernel
theorem dM_turn_0 : decode cM_turn 0 = .ok (.aload_n 0, 1) := by decide +kernel
theorem dM_turn_1 : decode cM_turn 1 = .ok (.getfield 33, 3) := by decide +kernel
theorem dM_turn_4 : decode cM_turn 4 = .ok (.iconst 1, 1) := by decide +kernel
theorem dM_turn_5 : decode cM_turn 5 = .ok (.aload_n 0, 1) := by decide +kernel
theorem dM_turn_6 : decode cM_turn 6 = .ok (.getfield 20, 3) := by decide +kernel
theorem dM_turn_9 : decode cM_turn 9 = .ok (.iload_n 1, 1) := by decide +kernel
theorem dM_turn_10 : decode cM_turn 10 = .ok (.iconst 1, 1) := by decide +kernel
theorem dM_turn_11 : decode cM_turn 11 = .ok (.iadd, 1) := by decide +kernel
theorem dM_turn_12 : decode cM_turn 12 = .ok (.iaload, 1) := by decide +kernel
theorem dM_turn_13 : decode cM_turn 13 = .ok (.invokestatic 97, 3) := by decide +kernel
theorem dM_turn_16 : decode cM_turn 16 = .ok (.aload_n 0, 1) := by decide +kernel
theorem dM_turn_17 : decode cM_turn 17 = .ok (.getfield 36, 3) := by decide +kernel
theorem dM_turn_20 : decode cM_turn 20 = .ok (.iconst 0, 1) := by decide +kernel
theorem dM_turn_21 : decode cM_turn 21 = .ok (.aload_n 0, 1) := by decide +kernel
theorem dM_turn_22 : decode cM_turn 22 = .ok (.getfield 20, 3) := by decide +kernel
theorem dM_turn_25 : decode cM_turn 25 = .ok (.iload_n 1, 1) := by decide +kernel
theorem dM_turn_26 : decode cM_turn 26 = .ok (.iaload, 1) := by decide +kernel
theorem dM_turn_27 : decode cM_turn 27 = .ok (.invokestatic 97, 3) := by decide +kernel
theorem dM_turn_30 : decode cM_turn 30 = .ok (.aload_n 0, 1) := by decide +kernel
theorem dM_turn_31 : decode cM_turn 31 = .ok (.invokevirtual 101, 3) := by decide +kernel
theorem dM_turn_34 : decode cM_turn 34 = .ok (.aload_n 0, 1) := by decide +kernel
theorem dM_turn_35 : decode cM_turn 35 = .ok (.getfield 30, 3) := by decide +kernel
theorem dM_turn_38 : decode cM_turn 38 = .ok (.aload_n 0, 1) := by decide +kernel
theorem dM_turn_39 : decode cM_turn 39 = .ok (.getfield 33, 3) := by decide +kernel
theorem dM_turn_42 : decode cM_turn 42 = .ok (.invokestatic 104, 3) := by decide +kernel
theorem dM_turn_45 : decode cM_turn 45 = .ok (.aload_n 0, 1) := by decide +kernel
theorem dM_turn_46 : decode cM_turn 46 = .ok (.getfield 36, 3) := by decide +kernel
theorem dM_turn_49 : decode cM_turn 49 = .ok (.iconst 2, 1) := by decide +kernel
theorem dM_turn_50 : decode cM_turn 50 = .ok (.aload_n 0, 1) := by decide +kernel
theorem dM_turn_51 : decode cM_turn 51 = .ok (.getfield 20, 3) := by decide +kernel
theorem dM_turn_54 : decode cM_turn 54 = .ok (.iload_n 1, 1) := by decide +kernel
theorem dM_turn_55 : decode cM_turn 55 = .ok (.iconst 2, 1) := by decide +kernel
theorem dM_turn_56 : decode cM_turn 56 = .ok (.iadd, 1) := by decide +kernel
theorem dM_turn_57 : decode cM_turn 57 = .ok (.iaload, 1) := by decide +kernel
theorem dM_turn_58 : decode cM_turn 58 = .ok (.invokestatic 97, 3) := by decide +kernel
theorem dM_turn_61 : decode cM_turn 61 = .ok (.aload_n 0, 1) := by decide +kernel
theorem dM_turn_62 : decode cM_turn 62 = .ok (.invokevirtual 101, 3) := by decide +kernel
theorem dM_turn_65 : decode cM_turn 65 = .ok (.aload_n 0, 1) := by decide +kernel
theorem dM_turn_66 : decode cM_turn 66 = .ok (.getfield 30, 3) := by decide +kernel
theorem dM_turn_69 : decode cM_turn 69 = .ok (.aload_n 0, 1) := by decide +kernel
theorem dM_turn_70 : decode cM_turn 70 = .ok (.getfield 39, 3) := by decide +kernel
theorem dM_turn_73 : decode cM_turn 73 = .ok (.invokestatic 104, 3) := by decide +kernel
theorem dM_turn_76 : decode cM_turn 76 = .ok (.return_, 1) := by decide +kernel
theorem dM_axis_0 : decode cM_axis 0 = .ok (.iconst 0, 1) := by decide +kernel
theorem dM_axis_1 : decode cM_axis 1 = .ok (.istore_n 3, 1) := by decide +kernel
theorem dM_axis_2 : decode cM_axis 2 = .ok (.iload_n 3, 1) := by decide +kernel
theorem dM_axis_3 : decode cM_axis 3 = .ok (.bipush 12, 2) := by decide +kernel
theorem dM_axis_5 : decode cM_axis 5 = .ok (.if_icmp .ge 25, 3) := by decide +kernel
theorem dM_axis_8 : decode cM_axis 8 = .ok (.aload_n 0, 1) := by decide +kernel
theorem dM_axis_9 : decode cM_axis 9 = .ok (.iload_n 3, 1) := by decide +kernel
theorem dM_axis_10 : decode cM_axis 10 = .ok (.iload_n 3, 1) := by decide +kernel
theorem dM_axis_11 : decode cM_axis 11 = .ok (.iconst 5, 1) := by decide +kernel
theorem dM_axis_12 : decode cM_axis 12 = .ok (.irem, 1) := by decide +kernel
theorem dM_axis_13 : decode cM_axis 13 = .ok (.ifCond .ne 9, 3) := by decide +kernel
theorem dM_axis_16 : decode cM_axis 16 = .ok (.ldc2_w 92, 3) := by decide +kernel
theorem dM_axis_19 : decode cM_axis 19 = .ok (.goto 4, 3) := by decide +kernel
theorem dM_axis_22 : decode cM_axis 22 = .ok (.lconst 0, 1) := by decide +kernel
theorem dM_axis_23 : decode cM_axis 23 = .ok (.lastore, 1) := by decide +kernel
theorem dM_axis_24 : decode cM_axis 24 = .ok (.iinc 3 1, 3) := by decide +kernel
theorem dM_axis_27 : decode cM_axis 27 = .ok (.goto (-25), 3) := by decide +kernel
theorem dM_axis_30 : decode cM_axis 30 = .ok (.iload_n 1, 1) := by decide +kernel
theorem dM_axis_31 : decode cM_axis 31 = .ok (.ifCond .ne 7, 3) := by decide +kernel
theorem dM_axis_34 : decode cM_axis 34 = .ok (.iconst 1, 1) := by decide +kernel
theorem dM_axis_35 : decode cM_axis 35 = .ok (.goto 13, 3) := by decide +kernel
theorem dM_axis_38 : decode cM_axis 38 = .ok (.iload_n 1, 1) := by decide +kernel
theorem dM_axis_39 : decode cM_axis 39 = .ok (.iconst 1, 1) := by decide +kernel
theorem dM_axis_40 : decode cM_axis 40 = .ok (.if_icmp .ne 7, 3) := by decide +kernel
theorem dM_axis_43 : decode cM_axis 43 = .ok (.iconst 2, 1) := by decide +kernel
theorem dM_axis_44 : decode cM_axis 44 = .ok (.goto 4, 3) := by decide +kernel
theorem dM_axis_47 : decode cM_axis 47 = .ok (.iconst 0, 1) := by decide +kernel
theorem dM_axis_48 : decode cM_axis 48 = .ok (.istore_n 3, 1) := by decide +kernel
theorem dM_axis_49 : decode cM_axis 49 = .ok (.iload_n 1, 1) := by decide +kernel
theorem dM_axis_50 : decode cM_axis 50 = .ok (.ifCond .ne 7, 3) := by decide +kernel
theorem dM_axis_53 : decode cM_axis 53 = .ok (.iconst 2, 1) := by decide +kernel
theorem dM_axis_54 : decode cM_axis 54 = .ok (.goto 13, 3) := by decide +kernel
theorem dM_axis_57 : decode cM_axis 57 = .ok (.iload_n 1, 1) := by decide +kernel
theorem dM_axis_58 : decode cM_axis 58 = .ok (.iconst 1, 1) := by decide +kernel
theorem dM_axis_59 : decode cM_axis 59 = .ok (.if_icmp .ne 7, 3) := by decide +kernel
theorem dM_axis_62 : decode cM_axis 62 = .ok (.iconst 0, 1) := by decide +kernel
theorem dM_axis_63 : decode cM_axis 63 = .ok (.goto 4, 3) := by decide +kernel
theorem dM_axis_66 : decode cM_axis 66 = .ok (.iconst 1, 1) := by decide +kernel
theorem dM_axis_67 : decode cM_axis 67 = .ok (.istore 4, 2) := by decide +kernel
theorem dM_axis_69 : decode cM_axis 69 = .ok (.aload_n 0, 1) := by decide +kernel
theorem dM_axis_70 : decode cM_axis 70 = .ok (.iconst 4, 1) := by decide +kernel
theorem dM_axis_71 : decode cM_axis 71 = .ok (.iload_n 3, 1) := by decide +kernel
theorem dM_axis_72 : decode cM_axis 72 = .ok (.imul, 1) := by decide +kernel
theorem dM_axis_73 : decode cM_axis 73 = .ok (.iload_n 3, 1) := by decide +kernel
theorem dM_axis_74 : decode cM_axis 74 = .ok (.iadd, 1) := by decide +kernel
theorem dM_axis_75 : decode cM_axis 75 = .ok (.iload_n 2, 1) := by decide +kernel
theorem dM_axis_76 : decode cM_axis 76 = .ok (.invokestatic 94, 3) := by decide +kernel
theorem dM_axis_79 : decode cM_axis 79 = .ok (.lastore, 1) := by decide +kernel
theorem dM_axis_80 : decode cM_axis 80 = .ok (.aload_n 0, 1) := by decide +kernel
theorem dM_axis_81 : decode cM_axis 81 = .ok (.iconst 4, 1) := by decide +kernel
theorem dM_axis_82 : decode cM_axis 82 = .ok (.iload_n 3, 1) := by decide +kernel
theorem dM_axis_83 : decode cM_axis 83 = .ok (.imul, 1) := by decide +kernel
theorem dM_axis_84 : decode cM_axis 84 = .ok (.iload 4, 2) := by decide +kernel
theorem dM_axis_86 : decode cM_axis 86 = .ok (.iadd, 1) := by decide +kernel
theorem dM_axis_87 : decode cM_axis 87 = .ok (.iload_n 2, 1) := by decide +kernel
theorem dM_axis_88 : decode cM_axis 88 = .ok (.invokestatic 80, 3) := by decide +kernel
theorem dM_axis_91 : decode cM_axis 91 = .ok (.lneg, 1) := by decide +kernel
theorem dM_axis_92 : decode cM_axis 92 = .ok (.lastore, 1) := by decide +kernel
theorem dM_axis_93 : decode cM_axis 93 = .ok (.aload_n 0, 1) := by decide +kernel
theorem dM_axis_94 : decode cM_axis 94 = .ok (.iconst 4, 1) := by decide +kernel
theorem dM_axis_95 : decode cM_axis 95 = .ok (.iload 4, 2) := by decide +kernel
theorem dM_axis_97 : decode cM_axis 97 = .ok (.imul, 1) := by decide +kernel
theorem dM_axis_98 : decode cM_axis 98 = .ok (.iload_n 3, 1) := by decide +kernel
theorem dM_axis_99 : decode cM_axis 99 = .ok (.iadd, 1) := by decide +kernel
theorem dM_axis_100 : decode cM_axis 100 = .ok (.iload_n 2, 1) := by decide +kernel
theorem dM_axis_101 : decode cM_axis 101 = .ok (.invokestatic 80, 3) := by decide +kernel
theorem dM_axis_104 : decode cM_axis 104 = .ok (.lastore, 1) := by decide +kernel
theorem dM_axis_105 : decode cM_axis 105 = .ok (.aload_n 0, 1) := by decide +kernel
theorem dM_axis_106 : decode cM_axis 106 = .ok (.iconst 4, 1) := by decide +kernel
theorem dM_axis_107 : decode cM_axis 107 = .ok (.iload 4, 2) := by decide +kernel
theorem dM_axis_109 : decode cM_axis 109 = .ok (.imul, 1) := by decide +kernel
theorem dM_axis_110 : decode cM_axis 110 = .ok (.iload 4, 2) := by decide +kernel
theorem dM_axis_112 : decode cM_axis 112 = .ok (.iadd, 1) := by decide +kernel
theorem dM_axis_113 : decode cM_axis 113 = .ok (.iload_n 2, 1) := by decide +kernel
theorem dM_axis_114 : decode cM_axis 114 = .ok (.invokestatic 94, 3) := by decide +kernel
theorem dM_axis_117 : decode cM_axis 117 = .ok (.lastore, 1) := by decide +kernel
theorem dM_axis_118 : decode cM_axis 118 = .ok (.return_, 1) := by decide +kernel
theorem dM_cos_0 : decode cM_cos 0 = .ok (.iload_n 0, 1) := by decide +kernel
theorem dM_cos_1 : decode cM_cos 1 = .ok (.sipush 1024, 3) := by decide +kernel
theorem dM_cos_4 : decode cM_cos 4 = .ok (.iadd, 1) := by decide +kernel
theorem dM_cos_5 : decode cM_cos 5 = .ok (.invokestatic 80, 3) := by decide +kernel
theorem dM_cos_8 : decode cM_cos 8 = .ok (.lreturn, 1) := by decide +kernel
theorem dM_sin_0 : decode cM_sin 0 = .ok (.iload_n 0, 1) := by decide +kernel
theorem dM_sin_1 : decode cM_sin 1 = .ok (.sipush 4096, 3) := by decide +kernel
theorem dM_sin_4 : decode cM_sin 4 = .ok (.irem, 1) := by decide +kernel
theorem dM_sin_5 : decode cM_sin 5 = .ok (.sipush 4096, 3) := by decide +kernel
theorem dM_sin_8 : decode cM_sin 8 = .ok (.iadd, 1) := by decide +kernel
theorem dM_sin_9 : decode cM_sin 9 = .ok (.sipush 4096, 3) := by decide +kernel
theorem dM_sin_12 : decode cM_sin 12 = .ok (.irem, 1) := by decide +kernel
theorem dM_sin_13 : decode cM_sin 13 = .ok (.istore_n 1, 1) := by decide +kernel
theorem dM_sin_14 : decode cM_sin 14 = .ok (.iload_n 1, 1) := by decide +kernel
theorem dM_sin_15 : decode cM_sin 15 = .ok (.sipush 2048, 3) := by decide +kernel
theorem dM_sin_18 : decode cM_sin 18 = .ok (.irem, 1) := by decide +kernel
theorem dM_sin_19 : decode cM_sin 19 = .ok (.i2l, 1) := by decide +kernel
theorem dM_sin_20 : decode cM_sin 20 = .ok (.sipush 2048, 3) := by decide +kernel
theorem dM_sin_23 : decode cM_sin 23 = .ok (.iload_n 1, 1) := by decide +kernel
theorem dM_sin_24 : decode cM_sin 24 = .ok (.sipush 2048, 3) := by decide +kernel
theorem dM_sin_27 : decode cM_sin 27 = .ok (.irem, 1) := by decide +kernel
theorem dM_sin_28 : decode cM_sin 28 = .ok (.isub, 1) := by decide +kernel
theorem dM_sin_29 : decode cM_sin 29 = .ok (.i2l, 1) := by decide +kernel
theorem dM_sin_30 : decode cM_sin 30 = .ok (.lmul, 1) := by decide +kernel
theorem dM_sin_31 : decode cM_sin 31 = .ok (.lstore_n 2, 1) := by decide +kernel
theorem dM_sin_32 : decode cM_sin 32 = .ok (.ldc2_w 74, 3) := by decide +kernel
theorem dM_sin_35 : decode cM_sin 35 = .ok (.lload_n 2, 1) := by decide +kernel
theorem dM_sin_36 : decode cM_sin 36 = .ok (.lmul, 1) := by decide +kernel
theorem dM_sin_37 : decode cM_sin 37 = .ok (.ldc2_w 76, 3) := by decide +kernel
theorem dM_sin_40 : decode cM_sin 40 = .ok (.ldc2_w 78, 3) := by decide +kernel
theorem dM_sin_43 : decode cM_sin 43 = .ok (.lload_n 2, 1) := by decide +kernel
theorem dM_sin_44 : decode cM_sin 44 = .ok (.lmul, 1) := by decide +kernel
theorem dM_sin_45 : decode cM_sin 45 = .ok (.lsub, 1) := by decide +kernel
theorem dM_sin_46 : decode cM_sin 46 = .ok (.ldiv, 1) := by decide +kernel
theorem dM_sin_47 : decode cM_sin 47 = .ok (.lstore 4, 2) := by decide +kernel
theorem dM_sin_49 : decode cM_sin 49 = .ok (.iload_n 1, 1) := by decide +kernel
theorem dM_sin_50 : decode cM_sin 50 = .ok (.sipush 2048, 3) := by decide +kernel
theorem dM_sin_53 : decode cM_sin 53 = .ok (.if_icmp .ge 8, 3) := by decide +kernel
theorem dM_sin_56 : decode cM_sin 56 = .ok (.lload 4, 2) := by decide +kernel
theorem dM_sin_58 : decode cM_sin 58 = .ok (.goto 6, 3) := by decide +kernel
theorem dM_sin_61 : decode cM_sin 61 = .ok (.lload 4, 2) := by decide +kernel
theorem dM_sin_63 : decode cM_sin 63 = .ok (.lneg, 1) := by decide +kernel
theorem dM_sin_64 : decode cM_sin 64 = .ok (.lreturn, 1) := by decide +kernel
theorem dM_times_0 : decode cM_times 0 = .ok (.iconst 0, 1) := by decide +kernel
theorem dM_times_1 : decode cM_times 1 = .ok (.istore_n 1, 1) := by decide +kernel
theorem dM_times_2 : decode cM_times 2 = .ok (.iload_n 1, 1) := by decide +kernel
theorem dM_times_3 : decode cM_times 3 = .ok (.iconst 3, 1) := by decide +kernel
theorem dM_times_4 : decode cM_times 4 = .ok (.if_icmp .ge 99, 3) := by decide +kernel
theorem dM_times_7 : decode cM_times 7 = .ok (.iconst 0, 1) := by decide +kernel
theorem dM_times_8 : decode cM_times 8 = .ok (.istore_n 2, 1) := by decide +kernel
theorem dM_times_9 : decode cM_times 9 = .ok (.iload_n 2, 1) := by decide +kernel
theorem dM_times_10 : decode cM_times 10 = .ok (.iconst 4, 1) := by decide +kernel
theorem dM_times_11 : decode cM_times 11 = .ok (.if_icmp .ge 86, 3) := by decide +kernel
theorem dM_times_14 : decode cM_times 14 = .ok (.iload_n 2, 1) := by decide +kernel
theorem dM_times_15 : decode cM_times 15 = .ok (.iconst 3, 1) := by decide +kernel
theorem dM_times_16 : decode cM_times 16 = .ok (.if_icmp .ne 16, 3) := by decide +kernel
theorem dM_times_19 : decode cM_times 19 = .ok (.aload_n 0, 1) := by decide +kernel
theorem dM_times_20 : decode cM_times 20 = .ok (.getfield 33, 3) := by decide +kernel
theorem dM_times_23 : decode cM_times 23 = .ok (.iconst 4, 1) := by decide +kernel
theorem dM_times_24 : decode cM_times 24 = .ok (.iload_n 1, 1) := by decide +kernel
theorem dM_times_25 : decode cM_times 25 = .ok (.imul, 1) := by decide +kernel
theorem dM_times_26 : decode cM_times 26 = .ok (.iconst 3, 1) := by decide +kernel
theorem dM_times_27 : decode cM_times 27 = .ok (.iadd, 1) := by decide +kernel
theorem dM_times_28 : decode cM_times 28 = .ok (.laload, 1) := by decide +kernel
theorem dM_times_29 : decode cM_times 29 = .ok (.goto 4, 3) := by decide +kernel
theorem dM_times_32 : decode cM_times 32 = .ok (.lconst 0, 1) := by decide +kernel
theorem dM_times_33 : decode cM_times 33 = .ok (.lstore_n 3, 1) := by decide +kernel
theorem dM_times_34 : decode cM_times 34 = .ok (.iconst 0, 1) := by decide +kernel
theorem dM_times_35 : decode cM_times 35 = .ok (.istore 5, 2) := by decide +kernel
theorem dM_times_37 : decode cM_times 37 = .ok (.iload 5, 2) := by decide +kernel
theorem dM_times_39 : decode cM_times 39 = .ok (.iconst 3, 1) := by decide +kernel
theorem dM_times_40 : decode cM_times 40 = .ok (.if_icmp .ge 37, 3) := by decide +kernel
theorem dM_times_43 : decode cM_times 43 = .ok (.lload_n 3, 1) := by decide +kernel
theorem dM_times_44 : decode cM_times 44 = .ok (.aload_n 0, 1) := by decide +kernel
theorem dM_times_45 : decode cM_times 45 = .ok (.getfield 33, 3) := by decide +kernel
theorem dM_times_48 : decode cM_times 48 = .ok (.iconst 4, 1) := by decide +kernel
theorem dM_times_49 : decode cM_times 49 = .ok (.iload_n 1, 1) := by decide +kernel
theorem dM_times_50 : decode cM_times 50 = .ok (.imul, 1) := by decide +kernel
theorem dM_times_51 : decode cM_times 51 = .ok (.iload 5, 2) := by decide +kernel
theorem dM_times_53 : decode cM_times 53 = .ok (.iadd, 1) := by decide +kernel
theorem dM_times_54 : decode cM_times 54 = .ok (.laload, 1) := by decide +kernel
theorem dM_times_55 : decode cM_times 55 = .ok (.aload_n 0, 1) := by decide +kernel
theorem dM_times_56 : decode cM_times 56 = .ok (.getfield 36, 3) := by decide +kernel
theorem dM_times_59 : decode cM_times 59 = .ok (.iconst 4, 1) := by decide +kernel
theorem dM_times_60 : decode cM_times 60 = .ok (.iload 5, 2) := by decide +kernel
theorem dM_times_62 : decode cM_times 62 = .ok (.imul, 1) := by decide +kernel
theorem dM_times_63 : decode cM_times 63 = .ok (.iload_n 2, 1) := by decide +kernel
theorem dM_times_64 : decode cM_times 64 = .ok (.iadd, 1) := by decide +kernel
theorem dM_times_65 : decode cM_times 65 = .ok (.laload, 1) := by decide +kernel
theorem dM_times_66 : decode cM_times 66 = .ok (.invokestatic 84, 3) := by decide +kernel
theorem dM_times_69 : decode cM_times 69 = .ok (.ladd, 1) := by decide +kernel
theorem dM_times_70 : decode cM_times 70 = .ok (.lstore_n 3, 1) := by decide +kernel
theorem dM_times_71 : decode cM_times 71 = .ok (.iinc 5 1, 3) := by decide +kernel
theorem dM_times_74 : decode cM_times 74 = .ok (.goto (-37), 3) := by decide +kernel
theorem dM_times_77 : decode cM_times 77 = .ok (.aload_n 0, 1) := by decide +kernel
theorem dM_times_78 : decode cM_times 78 = .ok (.getfield 30, 3) := by decide +kernel
theorem dM_times_81 : decode cM_times 81 = .ok (.iconst 4, 1) := by decide +kernel
theorem dM_times_82 : decode cM_times 82 = .ok (.iload_n 1, 1) := by decide +kernel
theorem dM_times_83 : decode cM_times 83 = .ok (.imul, 1) := by decide +kernel
theorem dM_times_84 : decode cM_times 84 = .ok (.iload_n 2, 1) := by decide +kernel
theorem dM_times_85 : decode cM_times 85 = .ok (.iadd, 1) := by decide +kernel
theorem dM_times_86 : decode cM_times 86 = .ok (.lload_n 3, 1) := by decide +kernel
theorem dM_times_87 : decode cM_times 87 = .ok (.invokestatic 88, 3) := by decide +kernel
theorem dM_times_90 : decode cM_times 90 = .ok (.lastore, 1) := by decide +kernel
theorem dM_times_91 : decode cM_times 91 = .ok (.iinc 2 1, 3) := by decide +kernel
theorem dM_times_94 : decode cM_times 94 = .ok (.goto (-85), 3) := by decide +kernel
theorem dM_times_97 : decode cM_times 97 = .ok (.iinc 1 1, 3) := by decide +kernel
theorem dM_times_100 : decode cM_times 100 = .ok (.goto (-98), 3) := by decide +kernel
theorem dM_times_103 : decode cM_times 103 = .ok (.return_, 1) := by decide +kernel
theorem dM_mul_0 : decode cM_mul 0 = .ok (.lload_n 0, 1) := by decide +kernel
theorem dM_mul_1 : decode cM_mul 1 = .ok (.lload_n 2, 1) := by decide +kernel
theorem dM_mul_2 : decode cM_mul 2 = .ok (.lmul, 1) := by decide +kernel
theorem dM_mul_3 : decode cM_mul 3 = .ok (.bipush 16, 2) := by decide +kernel
theorem dM_mul_5 : decode cM_mul 5 = .ok (.lshr, 1) := by decide +kernel
theorem dM_mul_6 : decode cM_mul 6 = .ok (.lreturn, 1) := by decide +kernel
theorem dM_bound_0 : decode cM_bound 0 = .ok (.lload_n 0, 1) := by decide +kernel
theorem dM_bound_1 : decode cM_bound 1 = .ok (.ldc2_w 70, 3) := by decide +kernel
theorem dM_bound_4 : decode cM_bound 4 = .ok (.lcmp, 1) := by decide +kernel
theorem dM_bound_5 : decode cM_bound 5 = .ok (.ifCond .ge 9, 3) := by decide +kernel
theorem dM_bound_8 : decode cM_bound 8 = .ok (.ldc2_w 70, 3) := by decide +kernel
theorem dM_bound_11 : decode cM_bound 11 = .ok (.goto 18, 3) := by decide +kernel
theorem dM_bound_14 : decode cM_bound 14 = .ok (.lload_n 0, 1) := by decide +kernel
theorem dM_bound_15 : decode cM_bound 15 = .ok (.ldc2_w 72, 3) := by decide +kernel
theorem dM_bound_18 : decode cM_bound 18 = .ok (.lcmp, 1) := by decide +kernel
theorem dM_bound_19 : decode cM_bound 19 = .ok (.ifCond .le 9, 3) := by decide +kernel
theorem dM_bound_22 : decode cM_bound 22 = .ok (.ldc2_w 72, 3) := by decide +kernel
theorem dM_bound_25 : decode cM_bound 25 = .ok (.goto 4, 3) := by decide +kernel
theorem dM_bound_28 : decode cM_bound 28 = .ok (.lload_n 0, 1) := by decide +kernel
theorem dM_bound_29 : decode cM_bound 29 = .ok (.lreturn, 1) := by decide +kernel
theorem dM_copy_0 : decode cM_copy 0 = .ok (.iconst 0, 1) := by decide +kernel
theorem dM_copy_1 : decode cM_copy 1 = .ok (.istore_n 2, 1) := by decide +kernel
theorem dM_copy_2 : decode cM_copy 2 = .ok (.iload_n 2, 1) := by decide +kernel
theorem dM_copy_3 : decode cM_copy 3 = .ok (.bipush 12, 2) := by decide +kernel
theorem dM_copy_5 : decode cM_copy 5 = .ok (.if_icmp .ge 15, 3) := by decide +kernel
theorem dM_copy_8 : decode cM_copy 8 = .ok (.aload_n 1, 1) := by decide +kernel
theorem dM_copy_9 : decode cM_copy 9 = .ok (.iload_n 2, 1) := by decide +kernel
theorem dM_copy_10 : decode cM_copy 10 = .ok (.aload_n 0, 1) := by decide +kernel
theorem dM_copy_11 : decode cM_copy 11 = .ok (.iload_n 2, 1) := by decide +kernel
theorem dM_copy_12 : decode cM_copy 12 = .ok (.laload, 1) := by decide +kernel
theorem dM_copy_13 : decode cM_copy 13 = .ok (.lastore, 1) := by decide +kernel
theorem dM_copy_14 : decode cM_copy 14 = .ok (.iinc 2 1, 3) := by decide +kernel
theorem dM_copy_17 : decode cM_copy 17 = .ok (.goto (-15), 3) := by decide +kernel
theorem dM_copy_20 : decode cM_copy 20 = .ok (.return_, 1) := by decide +kernel
theorem dM_model_0 : decode cM_model 0 = .ok (.aload_n 0, 1) := by decide +kernel
theorem dM_model_1 : decode cM_model 1 = .ok (.aload_n 0, 1) := by decide +kernel
theorem dM_model_2 : decode cM_model 2 = .ok (.iload_n 1, 1) := by decide +kernel
theorem dM_model_3 : decode cM_model 3 = .ok (.iload_n 2, 1) := by decide +kernel
theorem dM_model_4 : decode cM_model 4 = .ok (.iload_n 3, 1) := by decide +kernel
theorem dM_model_5 : decode cM_model 5 = .ok (.invokevirtual 118, 3) := by decide +kernel
theorem dM_model_8 : decode cM_model 8 = .ok (.ifCond .eq 7, 3) := by decide +kernel
theorem dM_model_11 : decode cM_model 11 = .ok (.iconst 0, 1) := by decide +kernel
theorem dM_model_12 : decode cM_model 12 = .ok (.goto 4, 3) := by decide +kernel
theorem dM_model_15 : decode cM_model 15 = .ok (.iconst 1, 1) := by decide +kernel
theorem dM_model_16 : decode cM_model 16 = .ok (.putfield 48, 3) := by decide +kernel
theorem dM_model_19 : decode cM_model 19 = .ok (.aload_n 0, 1) := by decide +kernel
theorem dM_model_20 : decode cM_model 20 = .ok (.getfield 48, 3) := by decide +kernel
theorem dM_model_23 : decode cM_model 23 = .ok (.iconst 1, 1) := by decide +kernel
theorem dM_model_24 : decode cM_model 24 = .ok (.if_icmp .ne 5, 3) := by decide +kernel
theorem dM_model_27 : decode cM_model 27 = .ok (.iconst 0, 1) := by decide +kernel
theorem dM_model_28 : decode cM_model 28 = .ok (.ireturn, 1) := by decide +kernel
theorem dM_model_29 : decode cM_model 29 = .ok (.aload_n 0, 1) := by decide +kernel
theorem dM_model_30 : decode cM_model 30 = .ok (.iload_n 1, 1) := by decide +kernel
theorem dM_model_31 : decode cM_model 31 = .ok (.invokevirtual 122, 3) := by decide +kernel
theorem dM_model_34 : decode cM_model 34 = .ok (.aload_n 0, 1) := by decide +kernel
theorem dM_model_35 : decode cM_model 35 = .ok (.getfield 30, 3) := by decide +kernel
theorem dM_model_38 : decode cM_model 38 = .ok (.iconst 4, 1) := by decide +kernel
theorem dM_model_39 : decode cM_model 39 = .ok (.iload_n 2, 1) := by decide +kernel
theorem dM_model_40 : decode cM_model 40 = .ok (.imul, 1) := by decide +kernel
theorem dM_model_41 : decode cM_model 41 = .ok (.iload_n 3, 1) := by decide +kernel
theorem dM_model_42 : decode cM_model 42 = .ok (.iadd, 1) := by decide +kernel
theorem dM_model_43 : decode cM_model 43 = .ok (.laload, 1) := by decide +kernel
theorem dM_model_44 : decode cM_model 44 = .ok (.l2i, 1) := by decide +kernel
theorem dM_model_45 : decode cM_model 45 = .ok (.ireturn, 1) := by decide +kernel
theorem dM_makesModel_0 : decode cM_makesModel 0 = .ok (.aload_n 0, 1) := by decide +kernel
theorem dM_makesModel_1 : decode cM_makesModel 1 = .ok (.iload_n 1, 1) := by decide +kernel
theorem dM_makesModel_2 : decode cM_makesModel 2 = .ok (.invokevirtual 115, 3) := by decide +kernel
theorem dM_makesModel_5 : decode cM_makesModel 5 = .ok (.aload_n 0, 1) := by decide +kernel
theorem dM_makesModel_6 : decode cM_makesModel 6 = .ok (.getfield 30, 3) := by decide +kernel
theorem dM_makesModel_9 : decode cM_makesModel 9 = .ok (.aload_n 0, 1) := by decide +kernel
theorem dM_makesModel_10 : decode cM_makesModel 10 = .ok (.getfield 45, 3) := by decide +kernel
theorem dM_makesModel_13 : decode cM_makesModel 13 = .ok (.invokestatic 104, 3) := by decide +kernel
theorem dM_makesModel_16 : decode cM_makesModel 16 = .ok (.aload_n 0, 1) := by decide +kernel
theorem dM_makesModel_17 : decode cM_makesModel 17 = .ok (.sipush 435, 3) := by decide +kernel
theorem dM_makesModel_20 : decode cM_makesModel 20 = .ok (.invokevirtual 108, 3) := by decide +kernel
theorem dM_makesModel_23 : decode cM_makesModel 23 = .ok (.iconst 0, 1) := by decide +kernel
theorem dM_makesModel_24 : decode cM_makesModel 24 = .ok (.istore_n 2, 1) := by decide +kernel
theorem dM_makesModel_25 : decode cM_makesModel 25 = .ok (.iload_n 2, 1) := by decide +kernel
theorem dM_makesModel_26 : decode cM_makesModel 26 = .ok (.iconst 3, 1) := by decide +kernel
theorem dM_makesModel_27 : decode cM_makesModel 27 = .ok (.if_icmp .ge 92, 3) := by decide +kernel
theorem dM_makesModel_30 : decode cM_makesModel 30 = .ok (.lconst 0, 1) := by decide +kernel
theorem dM_makesModel_31 : decode cM_makesModel 31 = .ok (.lstore_n 3, 1) := by decide +kernel
theorem dM_makesModel_32 : decode cM_makesModel 32 = .ok (.iconst 0, 1) := by decide +kernel
theorem dM_makesModel_33 : decode cM_makesModel 33 = .ok (.istore 5, 2) := by decide +kernel
theorem dM_makesModel_35 : decode cM_makesModel 35 = .ok (.iload 5, 2) := by decide +kernel
theorem dM_makesModel_37 : decode cM_makesModel 37 = .ok (.iconst 3, 1) := by decide +kernel
theorem dM_makesModel_38 : decode cM_makesModel 38 = .ok (.if_icmp .ge 60, 3) := by decide +kernel
theorem dM_makesModel_41 : decode cM_makesModel 41 = .ok (.aload_n 0, 1) := by decide +kernel
theorem dM_makesModel_42 : decode cM_makesModel 42 = .ok (.getfield 33, 3) := by decide +kernel
theorem dM_makesModel_45 : decode cM_makesModel 45 = .ok (.iconst 4, 1) := by decide +kernel
theorem dM_makesModel_46 : decode cM_makesModel 46 = .ok (.iload_n 2, 1) := by decide +kernel
theorem dM_makesModel_47 : decode cM_makesModel 47 = .ok (.imul, 1) := by decide +kernel
theorem dM_makesModel_48 : decode cM_makesModel 48 = .ok (.iload 5, 2) := by decide +kernel
theorem dM_makesModel_50 : decode cM_makesModel 50 = .ok (.iadd, 1) := by decide +kernel
theorem dM_makesModel_51 : decode cM_makesModel 51 = .ok (.aload_n 0, 1) := by decide +kernel
theorem dM_makesModel_52 : decode cM_makesModel 52 = .ok (.getfield 39, 3) := by decide +kernel
theorem dM_makesModel_55 : decode cM_makesModel 55 = .ok (.iconst 4, 1) := by decide +kernel
theorem dM_makesModel_56 : decode cM_makesModel 56 = .ok (.iload 5, 2) := by decide +kernel
theorem dM_makesModel_58 : decode cM_makesModel 58 = .ok (.imul, 1) := by decide +kernel
theorem dM_makesModel_59 : decode cM_makesModel 59 = .ok (.iload_n 2, 1) := by decide +kernel
theorem dM_makesModel_60 : decode cM_makesModel 60 = .ok (.iadd, 1) := by decide +kernel
theorem dM_makesModel_61 : decode cM_makesModel 61 = .ok (.laload, 1) := by decide +kernel
theorem dM_makesModel_62 : decode cM_makesModel 62 = .ok (.lastore, 1) := by decide +kernel
theorem dM_makesModel_63 : decode cM_makesModel 63 = .ok (.lload_n 3, 1) := by decide +kernel
theorem dM_makesModel_64 : decode cM_makesModel 64 = .ok (.aload_n 0, 1) := by decide +kernel
theorem dM_makesModel_65 : decode cM_makesModel 65 = .ok (.getfield 33, 3) := by decide +kernel
theorem dM_makesModel_68 : decode cM_makesModel 68 = .ok (.iconst 4, 1) := by decide +kernel
theorem dM_makesModel_69 : decode cM_makesModel 69 = .ok (.iload_n 2, 1) := by decide +kernel
theorem dM_makesModel_70 : decode cM_makesModel 70 = .ok (.imul, 1) := by decide +kernel
theorem dM_makesModel_71 : decode cM_makesModel 71 = .ok (.iload 5, 2) := by decide +kernel
theorem dM_makesModel_73 : decode cM_makesModel 73 = .ok (.iadd, 1) := by decide +kernel
theorem dM_makesModel_74 : decode cM_makesModel 74 = .ok (.laload, 1) := by decide +kernel
theorem dM_makesModel_75 : decode cM_makesModel 75 = .ok (.aload_n 0, 1) := by decide +kernel
theorem dM_makesModel_76 : decode cM_makesModel 76 = .ok (.getfield 20, 3) := by decide +kernel
theorem dM_makesModel_79 : decode cM_makesModel 79 = .ok (.sipush 432, 3) := by decide +kernel
theorem dM_makesModel_82 : decode cM_makesModel 82 = .ok (.iload 5, 2) := by decide +kernel
theorem dM_makesModel_84 : decode cM_makesModel 84 = .ok (.iadd, 1) := by decide +kernel
theorem dM_makesModel_85 : decode cM_makesModel 85 = .ok (.iaload, 1) := by decide +kernel
theorem dM_makesModel_86 : decode cM_makesModel 86 = .ok (.i2l, 1) := by decide +kernel
theorem dM_makesModel_87 : decode cM_makesModel 87 = .ok (.invokestatic 84, 3) := by decide +kernel
theorem dM_makesModel_90 : decode cM_makesModel 90 = .ok (.ladd, 1) := by decide +kernel
theorem dM_makesModel_91 : decode cM_makesModel 91 = .ok (.lstore_n 3, 1) := by decide +kernel
theorem dM_makesModel_92 : decode cM_makesModel 92 = .ok (.iinc 5 1, 3) := by decide +kernel
theorem dM_makesModel_95 : decode cM_makesModel 95 = .ok (.goto (-60), 3) := by decide +kernel
theorem dM_makesModel_98 : decode cM_makesModel 98 = .ok (.aload_n 0, 1) := by decide +kernel
theorem dM_makesModel_99 : decode cM_makesModel 99 = .ok (.getfield 33, 3) := by decide +kernel
theorem dM_makesModel_102 : decode cM_makesModel 102 = .ok (.iconst 4, 1) := by decide +kernel
theorem dM_makesModel_103 : decode cM_makesModel 103 = .ok (.iload_n 2, 1) := by decide +kernel
theorem dM_makesModel_104 : decode cM_makesModel 104 = .ok (.imul, 1) := by decide +kernel
theorem dM_makesModel_105 : decode cM_makesModel 105 = .ok (.iconst 3, 1) := by decide +kernel
theorem dM_makesModel_106 : decode cM_makesModel 106 = .ok (.iadd, 1) := by decide +kernel
theorem dM_makesModel_107 : decode cM_makesModel 107 = .ok (.lload_n 3, 1) := by decide +kernel
theorem dM_makesModel_108 : decode cM_makesModel 108 = .ok (.lneg, 1) := by decide +kernel
theorem dM_makesModel_109 : decode cM_makesModel 109 = .ok (.invokestatic 88, 3) := by decide +kernel
theorem dM_makesModel_112 : decode cM_makesModel 112 = .ok (.lastore, 1) := by decide +kernel
theorem dM_makesModel_113 : decode cM_makesModel 113 = .ok (.iinc 2 1, 3) := by decide +kernel
theorem dM_makesModel_116 : decode cM_makesModel 116 = .ok (.goto (-91), 3) := by decide +kernel
theorem dM_makesModel_119 : decode cM_makesModel 119 = .ok (.aload_n 0, 1) := by decide +kernel
theorem dM_makesModel_120 : decode cM_makesModel 120 = .ok (.getfield 45, 3) := by decide +kernel
theorem dM_makesModel_123 : decode cM_makesModel 123 = .ok (.aload_n 0, 1) := by decide +kernel
theorem dM_makesModel_124 : decode cM_makesModel 124 = .ok (.getfield 36, 3) := by decide +kernel
theorem dM_makesModel_127 : decode cM_makesModel 127 = .ok (.invokestatic 104, 3) := by decide +kernel
theorem dM_makesModel_130 : decode cM_makesModel 130 = .ok (.aload_n 0, 1) := by decide +kernel
theorem dM_makesModel_131 : decode cM_makesModel 131 = .ok (.invokevirtual 101, 3) := by decide +kernel
theorem dM_makesModel_134 : decode cM_makesModel 134 = .ok (.return_, 1) := by decide +kernel
theorem dM_seen_0 : decode cM_seen 0 = .ok (.aload_n 0, 1) := by decide +kernel
theorem dM_seen_1 : decode cM_seen 1 = .ok (.iconst 0, 1) := by decide +kernel
theorem dM_seen_2 : decode cM_seen 2 = .ok (.putfield 48, 3) := by decide +kernel
theorem dM_seen_5 : decode cM_seen 5 = .ok (.iconst 0, 1) := by decide +kernel
theorem dM_seen_6 : decode cM_seen 6 = .ok (.istore_n 1, 1) := by decide +kernel
theorem dM_seen_7 : decode cM_seen 7 = .ok (.iconst 0, 1) := by decide +kernel
theorem dM_seen_8 : decode cM_seen 8 = .ok (.istore_n 2, 1) := by decide +kernel
theorem dM_seen_9 : decode cM_seen 9 = .ok (.iload_n 2, 1) := by decide +kernel
theorem dM_seen_10 : decode cM_seen 10 = .ok (.aload_n 0, 1) := by decide +kernel
theorem dM_seen_11 : decode cM_seen 11 = .ok (.getfield 52, 3) := by decide +kernel
theorem dM_seen_14 : decode cM_seen 14 = .ok (.if_icmp .ge 25, 3) := by decide +kernel
theorem dM_seen_17 : decode cM_seen 17 = .ok (.iload_n 1, 1) := by decide +kernel
theorem dM_seen_18 : decode cM_seen 18 = .ok (.aload_n 0, 1) := by decide +kernel
theorem dM_seen_19 : decode cM_seen 19 = .ok (.iload_n 2, 1) := by decide +kernel
theorem dM_seen_20 : decode cM_seen 20 = .ok (.invokevirtual 125, 3) := by decide +kernel
theorem dM_seen_23 : decode cM_seen 23 = .ok (.ifCond .eq 7, 3) := by decide +kernel
theorem dM_seen_26 : decode cM_seen 26 = .ok (.iconst 1, 1) := by decide +kernel
theorem dM_seen_27 : decode cM_seen 27 = .ok (.goto 4, 3) := by decide +kernel
theorem dM_seen_30 : decode cM_seen 30 = .ok (.iconst 0, 1) := by decide +kernel
theorem dM_seen_31 : decode cM_seen 31 = .ok (.iadd, 1) := by decide +kernel
theorem dM_seen_32 : decode cM_seen 32 = .ok (.istore_n 1, 1) := by decide +kernel
theorem dM_seen_33 : decode cM_seen 33 = .ok (.iinc 2 1, 3) := by decide +kernel
theorem dM_seen_36 : decode cM_seen 36 = .ok (.goto (-27), 3) := by decide +kernel
theorem dM_seen_39 : decode cM_seen 39 = .ok (.iload_n 1, 1) := by decide +kernel
theorem dM_seen_40 : decode cM_seen 40 = .ok (.ireturn, 1) := by decide +kernel
theorem dM_isSeen_0 : decode cM_isSeen 0 = .ok (.aload_n 0, 1) := by decide +kernel
theorem dM_isSeen_1 : decode cM_isSeen 1 = .ok (.getfield 13, 3) := by decide +kernel
theorem dM_isSeen_4 : decode cM_isSeen 4 = .ok (.iload_n 1, 1) := by decide +kernel
theorem dM_isSeen_5 : decode cM_isSeen 5 = .ok (.iaload, 1) := by decide +kernel
theorem dM_isSeen_6 : decode cM_isSeen 6 = .ok (.ifCond .le 7, 3) := by decide +kernel
theorem dM_isSeen_9 : decode cM_isSeen 9 = .ok (.iconst 1, 1) := by decide +kernel
theorem dM_isSeen_10 : decode cM_isSeen 10 = .ok (.goto 4, 3) := by decide +kernel
theorem dM_isSeen_13 : decode cM_isSeen 13 = .ok (.iconst 0, 1) := by decide +kernel
theorem dM_isSeen_14 : decode cM_isSeen 14 = .ok (.istore_n 2, 1) := by decide +kernel
theorem dM_isSeen_15 : decode cM_isSeen 15 = .ok (.iload_n 1, 1) := by decide +kernel
theorem dM_isSeen_16 : decode cM_isSeen 16 = .ok (.istore_n 3, 1) := by decide +kernel
theorem dM_isSeen_17 : decode cM_isSeen 17 = .ok (.iload_n 3, 1) := by decide +kernel
theorem dM_isSeen_18 : decode cM_isSeen 18 = .ok (.ifCond .lt 32, 3) := by decide +kernel
theorem dM_isSeen_21 : decode cM_isSeen 21 = .ok (.iload_n 2, 1) := by decide +kernel
theorem dM_isSeen_22 : decode cM_isSeen 22 = .ok (.ifCond .eq 16, 3) := by decide +kernel
theorem dM_isSeen_25 : decode cM_isSeen 25 = .ok (.aload_n 0, 1) := by decide +kernel
theorem dM_isSeen_26 : decode cM_isSeen 26 = .ok (.getfield 16, 3) := by decide +kernel
theorem dM_isSeen_29 : decode cM_isSeen 29 = .ok (.iload_n 3, 1) := by decide +kernel
theorem dM_isSeen_30 : decode cM_isSeen 30 = .ok (.baload, 1) := by decide +kernel
theorem dM_isSeen_31 : decode cM_isSeen 31 = .ok (.ifCond .ne 7, 3) := by decide +kernel
theorem dM_isSeen_34 : decode cM_isSeen 34 = .ok (.iconst 1, 1) := by decide +kernel
theorem dM_isSeen_35 : decode cM_isSeen 35 = .ok (.goto 4, 3) := by decide +kernel
theorem dM_isSeen_38 : decode cM_isSeen 38 = .ok (.iconst 0, 1) := by decide +kernel
theorem dM_isSeen_39 : decode cM_isSeen 39 = .ok (.istore_n 2, 1) := by decide +kernel
theorem dM_isSeen_40 : decode cM_isSeen 40 = .ok (.aload_n 0, 1) := by decide +kernel
theorem dM_isSeen_41 : decode cM_isSeen 41 = .ok (.getfield 7, 3) := by decide +kernel
theorem dM_isSeen_44 : decode cM_isSeen 44 = .ok (.iload_n 3, 1) := by decide +kernel
theorem dM_isSeen_45 : decode cM_isSeen 45 = .ok (.iaload, 1) := by decide +kernel
theorem dM_isSeen_46 : decode cM_isSeen 46 = .ok (.istore_n 3, 1) := by decide +kernel
theorem dM_isSeen_47 : decode cM_isSeen 47 = .ok (.goto (-30), 3) := by decide +kernel
theorem dM_isSeen_50 : decode cM_isSeen 50 = .ok (.iload_n 2, 1) := by decide +kernel
theorem dM_isSeen_51 : decode cM_isSeen 51 = .ok (.ireturn, 1) := by decide +kernel
theorem dM_inOrder_0 : decode cM_inOrder 0 = .ok (.aload_n 0, 1) := by decide +kernel
theorem dM_inOrder_1 : decode cM_inOrder 1 = .ok (.iconst 0, 1) := by decide +kernel
theorem dM_inOrder_2 : decode cM_inOrder 2 = .ok (.putfield 48, 3) := by decide +kernel
theorem dM_inOrder_5 : decode cM_inOrder 5 = .ok (.iconst 0, 1) := by decide +kernel
theorem dM_inOrder_6 : decode cM_inOrder 6 = .ok (.istore_n 2, 1) := by decide +kernel
theorem dM_inOrder_7 : decode cM_inOrder 7 = .ok (.iload_n 2, 1) := by decide +kernel
theorem dM_inOrder_8 : decode cM_inOrder 8 = .ok (.aload_n 0, 1) := by decide +kernel
theorem dM_inOrder_9 : decode cM_inOrder 9 = .ok (.getfield 52, 3) := by decide +kernel
theorem dM_inOrder_12 : decode cM_inOrder 12 = .ok (.if_icmp .ge 27, 3) := by decide +kernel
theorem dM_inOrder_15 : decode cM_inOrder 15 = .ok (.aload_n 0, 1) := by decide +kernel
theorem dM_inOrder_16 : decode cM_inOrder 16 = .ok (.iload_n 2, 1) := by decide +kernel
theorem dM_inOrder_17 : decode cM_inOrder 17 = .ok (.invokevirtual 122, 3) := by decide +kernel
theorem dM_inOrder_20 : decode cM_inOrder 20 = .ok (.aload_n 0, 1) := by decide +kernel
theorem dM_inOrder_21 : decode cM_inOrder 21 = .ok (.getfield 26, 3) := by decide +kernel
theorem dM_inOrder_24 : decode cM_inOrder 24 = .ok (.iload_n 2, 1) := by decide +kernel
theorem dM_inOrder_25 : decode cM_inOrder 25 = .ok (.aload_n 0, 1) := by decide +kernel
theorem dM_inOrder_26 : decode cM_inOrder 26 = .ok (.getfield 30, 3) := by decide +kernel
theorem dM_inOrder_29 : decode cM_inOrder 29 = .ok (.bipush 11, 2) := by decide +kernel
theorem dM_inOrder_31 : decode cM_inOrder 31 = .ok (.laload, 1) := by decide +kernel
theorem dM_inOrder_32 : decode cM_inOrder 32 = .ok (.lastore, 1) := by decide +kernel
theorem dM_inOrder_33 : decode cM_inOrder 33 = .ok (.iinc 2 1, 3) := by decide +kernel
theorem dM_inOrder_36 : decode cM_inOrder 36 = .ok (.goto (-29), 3) := by decide +kernel
theorem dM_inOrder_39 : decode cM_inOrder 39 = .ok (.iconst (-1), 1) := by decide +kernel
theorem dM_inOrder_40 : decode cM_inOrder 40 = .ok (.istore_n 2, 1) := by decide +kernel
theorem dM_inOrder_41 : decode cM_inOrder 41 = .ok (.iconst 0, 1) := by decide +kernel
theorem dM_inOrder_42 : decode cM_inOrder 42 = .ok (.istore_n 3, 1) := by decide +kernel
theorem dM_inOrder_43 : decode cM_inOrder 43 = .ok (.iload_n 3, 1) := by decide +kernel
theorem dM_inOrder_44 : decode cM_inOrder 44 = .ok (.aload_n 0, 1) := by decide +kernel
theorem dM_inOrder_45 : decode cM_inOrder 45 = .ok (.getfield 52, 3) := by decide +kernel
theorem dM_inOrder_48 : decode cM_inOrder 48 = .ok (.if_icmp .ge 79, 3) := by decide +kernel
theorem dM_inOrder_51 : decode cM_inOrder 51 = .ok (.iconst 0, 1) := by decide +kernel
theorem dM_inOrder_52 : decode cM_inOrder 52 = .ok (.istore 4, 2) := by decide +kernel
theorem dM_inOrder_54 : decode cM_inOrder 54 = .ok (.iconst 0, 1) := by decide +kernel
