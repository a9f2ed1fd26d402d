theorem dS_hang_13 : decode cS_hang 13 = .ok (.ifCond .ne 5, 3) := by decide +kernel
theorem dS_hang_16 : decode cS_hang 16 = .ok (.iconst 0, 1) := by decide +kernel
theorem dS_hang_17 : decode cS_hang 17 = .ok (.ireturn, 1) := by decide +kernel
theorem dS_hang_18 : decode cS_hang 18 = .ok (.aload_n 0, 1) := by decide +kernel
theorem dS_hang_19 : decode cS_hang 19 = .ok (.getfield 13, 3) := by decide +kernel
theorem dS_hang_22 : decode cS_hang 22 = .ok (.iload_n 1, 1) := by decide +kernel
theorem dS_hang_23 : decode cS_hang 23 = .ok (.iload_n 2, 1) := by decide +kernel
theorem dS_hang_24 : decode cS_hang 24 = .ok (.iastore, 1) := by decide +kernel
theorem dS_hang_25 : decode cS_hang 25 = .ok (.aload_n 0, 1) := by decide +kernel
theorem dS_hang_26 : decode cS_hang 26 = .ok (.aload_n 0, 1) := by decide +kernel
theorem dS_hang_27 : decode cS_hang 27 = .ok (.getfield 35, 3) := by decide +kernel
theorem dS_hang_30 : decode cS_hang 30 = .ok (.iload_n 1, 1) := by decide +kernel
theorem dS_hang_31 : decode cS_hang 31 = .ok (.invokestatic 84, 3) := by decide +kernel
theorem dS_hang_34 : decode cS_hang 34 = .ok (.putfield 35, 3) := by decide +kernel
theorem dS_hang_37 : decode cS_hang 37 = .ok (.iconst 1, 1) := by decide +kernel
theorem dS_hang_38 : decode cS_hang 38 = .ok (.ireturn, 1) := by decide +kernel
theorem dS_hide_0 : decode cS_hide 0 = .ok (.aload_n 0, 1) := by decide +kernel
theorem dS_hide_1 : decode cS_hide 1 = .ok (.iload_n 1, 1) := by decide +kernel
theorem dS_hide_2 : decode cS_hide 2 = .ok (.invokevirtual 76, 3) := by decide +kernel
theorem dS_hide_5 : decode cS_hide 5 = .ok (.ifCond .ne 5, 3) := by decide +kernel
theorem dS_hide_8 : decode cS_hide 8 = .ok (.iconst 0, 1) := by decide +kernel
theorem dS_hide_9 : decode cS_hide 9 = .ok (.ireturn, 1) := by decide +kernel
theorem dS_hide_10 : decode cS_hide 10 = .ok (.aload_n 0, 1) := by decide +kernel
theorem dS_hide_11 : decode cS_hide 11 = .ok (.getfield 20, 3) := by decide +kernel
theorem dS_hide_14 : decode cS_hide 14 = .ok (.iload_n 1, 1) := by decide +kernel
theorem dS_hide_15 : decode cS_hide 15 = .ok (.iload_n 2, 1) := by decide +kernel
theorem dS_hide_16 : decode cS_hide 16 = .ok (.bastore, 1) := by decide +kernel
theorem dS_hide_17 : decode cS_hide 17 = .ok (.iconst 1, 1) := by decide +kernel
theorem dS_hide_18 : decode cS_hide 18 = .ok (.ireturn, 1) := by decide +kernel
theorem dS_camera_0 : decode cS_camera 0 = .ok (.iload_n 1, 1) := by decide +kernel
theorem dS_camera_1 : decode cS_camera 1 = .ok (.ifCond .lt 19, 3) := by decide +kernel
theorem dS_camera_4 : decode cS_camera 4 = .ok (.iload_n 1, 1) := by decide +kernel
theorem dS_camera_5 : decode cS_camera 5 = .ok (.iconst 1, 1) := by decide +kernel
theorem dS_camera_6 : decode cS_camera 6 = .ok (.if_icmp .gt 14, 3) := by decide +kernel
theorem dS_camera_9 : decode cS_camera 9 = .ok (.iload_n 1, 1) := by decide +kernel
theorem dS_camera_10 : decode cS_camera 10 = .ok (.iload_n 2, 1) := by decide +kernel
theorem dS_camera_11 : decode cS_camera 11 = .ok (.iload_n 3, 1) := by decide +kernel
theorem dS_camera_12 : decode cS_camera 12 = .ok (.iload 4, 2) := by decide +kernel
theorem dS_camera_14 : decode cS_camera 14 = .ok (.invokestatic 80, 3) := by decide +kernel
theorem dS_camera_17 : decode cS_camera 17 = .ok (.ifCond .ne 5, 3) := by decide +kernel
theorem dS_camera_20 : decode cS_camera 20 = .ok (.iconst 0, 1) := by decide +kernel
theorem dS_camera_21 : decode cS_camera 21 = .ok (.ireturn, 1) := by decide +kernel
theorem dS_camera_22 : decode cS_camera 22 = .ok (.aload_n 0, 1) := by decide +kernel
theorem dS_camera_23 : decode cS_camera 23 = .ok (.getfield 38, 3) := by decide +kernel
theorem dS_camera_26 : decode cS_camera 26 = .ok (.iload_n 1, 1) := by decide +kernel
theorem dS_camera_27 : decode cS_camera 27 = .ok (.iload_n 2, 1) := by decide +kernel
theorem dS_camera_28 : decode cS_camera 28 = .ok (.iload_n 3, 1) := by decide +kernel
theorem dS_camera_29 : decode cS_camera 29 = .ok (.iload 4, 2) := by decide +kernel
theorem dS_camera_31 : decode cS_camera 31 = .ok (.invokestatic 67, 3) := by decide +kernel
theorem dS_camera_34 : decode cS_camera 34 = .ok (.aload_n 0, 1) := by decide +kernel
theorem dS_camera_35 : decode cS_camera 35 = .ok (.invokevirtual 60, 3) := by decide +kernel
theorem dS_camera_38 : decode cS_camera 38 = .ok (.iconst 1, 1) := by decide +kernel
theorem dS_camera_39 : decode cS_camera 39 = .ok (.ireturn, 1) := by decide +kernel
theorem dS_seen_0 : decode cS_seen 0 = .ok (.aload_n 0, 1) := by decide +kernel
theorem dS_seen_1 : decode cS_seen 1 = .ok (.invokevirtual 103, 3) := by decide +kernel
theorem dS_seen_4 : decode cS_seen 4 = .ok (.iconst 0, 1) := by decide +kernel
theorem dS_seen_5 : decode cS_seen 5 = .ok (.istore_n 1, 1) := by decide +kernel
theorem dS_seen_6 : decode cS_seen 6 = .ok (.iconst 0, 1) := by decide +kernel
theorem dS_seen_7 : decode cS_seen 7 = .ok (.istore_n 2, 1) := by decide +kernel
theorem dS_seen_8 : decode cS_seen 8 = .ok (.iload_n 2, 1) := by decide +kernel
theorem dS_seen_9 : decode cS_seen 9 = .ok (.aload_n 0, 1) := by decide +kernel
theorem dS_seen_10 : decode cS_seen 10 = .ok (.getfield 7, 3) := by decide +kernel
theorem dS_seen_13 : decode cS_seen 13 = .ok (.if_icmp .ge 20, 3) := by decide +kernel
theorem dS_seen_16 : decode cS_seen 16 = .ok (.aload_n 0, 1) := by decide +kernel
theorem dS_seen_17 : decode cS_seen 17 = .ok (.iload_n 2, 1) := by decide +kernel
theorem dS_seen_18 : decode cS_seen 18 = .ok (.invokevirtual 106, 3) := by decide +kernel
theorem dS_seen_21 : decode cS_seen 21 = .ok (.ifCond .eq 6, 3) := by decide +kernel
theorem dS_seen_24 : decode cS_seen 24 = .ok (.iinc 1 1, 3) := by decide +kernel
theorem dS_seen_27 : decode cS_seen 27 = .ok (.iinc 2 1, 3) := by decide +kernel
theorem dS_seen_30 : decode cS_seen 30 = .ok (.goto (-22), 3) := by decide +kernel
theorem dS_seen_33 : decode cS_seen 33 = .ok (.iload_n 1, 1) := by decide +kernel
theorem dS_seen_34 : decode cS_seen 34 = .ok (.ireturn, 1) := by decide +kernel
theorem dS_markOpen_0 : decode cS_markOpen 0 = .ok (.iconst 0, 1) := by decide +kernel
theorem dS_markOpen_1 : decode cS_markOpen 1 = .ok (.istore_n 1, 1) := by decide +kernel
theorem dS_markOpen_2 : decode cS_markOpen 2 = .ok (.iload_n 1, 1) := by decide +kernel
theorem dS_markOpen_3 : decode cS_markOpen 3 = .ok (.aload_n 0, 1) := by decide +kernel
theorem dS_markOpen_4 : decode cS_markOpen 4 = .ok (.getfield 7, 3) := by decide +kernel
theorem dS_markOpen_7 : decode cS_markOpen 7 = .ok (.if_icmp .ge 49, 3) := by decide +kernel
theorem dS_markOpen_10 : decode cS_markOpen 10 = .ok (.aload_n 0, 1) := by decide +kernel
theorem dS_markOpen_11 : decode cS_markOpen 11 = .ok (.getfield 13, 3) := by decide +kernel
theorem dS_markOpen_14 : decode cS_markOpen 14 = .ok (.iload_n 1, 1) := by decide +kernel
theorem dS_markOpen_15 : decode cS_markOpen 15 = .ok (.iaload, 1) := by decide +kernel
theorem dS_markOpen_16 : decode cS_markOpen 16 = .ok (.istore_n 2, 1) := by decide +kernel
theorem dS_markOpen_17 : decode cS_markOpen 17 = .ok (.aload_n 0, 1) := by decide +kernel
theorem dS_markOpen_18 : decode cS_markOpen 18 = .ok (.getfield 44, 3) := by decide +kernel
theorem dS_markOpen_21 : decode cS_markOpen 21 = .ok (.iload_n 1, 1) := by decide +kernel
theorem dS_markOpen_22 : decode cS_markOpen 22 = .ok (.aload_n 0, 1) := by decide +kernel
theorem dS_markOpen_23 : decode cS_markOpen 23 = .ok (.getfield 20, 3) := by decide +kernel
theorem dS_markOpen_26 : decode cS_markOpen 26 = .ok (.iload_n 1, 1) := by decide +kernel
theorem dS_markOpen_27 : decode cS_markOpen 27 = .ok (.baload, 1) := by decide +kernel
theorem dS_markOpen_28 : decode cS_markOpen 28 = .ok (.ifCond .ne 20, 3) := by decide +kernel
theorem dS_markOpen_31 : decode cS_markOpen 31 = .ok (.iload_n 2, 1) := by decide +kernel
theorem dS_markOpen_32 : decode cS_markOpen 32 = .ok (.ifCond .lt 12, 3) := by decide +kernel
theorem dS_markOpen_35 : decode cS_markOpen 35 = .ok (.aload_n 0, 1) := by decide +kernel
theorem dS_markOpen_36 : decode cS_markOpen 36 = .ok (.getfield 44, 3) := by decide +kernel
theorem dS_markOpen_39 : decode cS_markOpen 39 = .ok (.iload_n 2, 1) := by decide +kernel
theorem dS_markOpen_40 : decode cS_markOpen 40 = .ok (.baload, 1) := by decide +kernel
theorem dS_markOpen_41 : decode cS_markOpen 41 = .ok (.ifCond .eq 7, 3) := by decide +kernel
theorem dS_markOpen_44 : decode cS_markOpen 44 = .ok (.iconst 1, 1) := by decide +kernel
theorem dS_markOpen_45 : decode cS_markOpen 45 = .ok (.goto 4, 3) := by decide +kernel
theorem dS_markOpen_48 : decode cS_markOpen 48 = .ok (.iconst 0, 1) := by decide +kernel
theorem dS_markOpen_49 : decode cS_markOpen 49 = .ok (.bastore, 1) := by decide +kernel
theorem dS_markOpen_50 : decode cS_markOpen 50 = .ok (.iinc 1 1, 3) := by decide +kernel
theorem dS_markOpen_53 : decode cS_markOpen 53 = .ok (.goto (-51), 3) := by decide +kernel
theorem dS_markOpen_56 : decode cS_markOpen 56 = .ok (.return_, 1) := by decide +kernel
theorem dS_isSeen_0 : decode cS_isSeen 0 = .ok (.aload_n 0, 1) := by decide +kernel
theorem dS_isSeen_1 : decode cS_isSeen 1 = .ok (.getfield 17, 3) := by decide +kernel
theorem dS_isSeen_4 : decode cS_isSeen 4 = .ok (.iload_n 1, 1) := by decide +kernel
theorem dS_isSeen_5 : decode cS_isSeen 5 = .ok (.iaload, 1) := by decide +kernel
theorem dS_isSeen_6 : decode cS_isSeen 6 = .ok (.ifCond .eq 16, 3) := by decide +kernel
theorem dS_isSeen_9 : decode cS_isSeen 9 = .ok (.aload_n 0, 1) := by decide +kernel
theorem dS_isSeen_10 : decode cS_isSeen 10 = .ok (.getfield 44, 3) := by decide +kernel
theorem dS_isSeen_13 : decode cS_isSeen 13 = .ok (.iload_n 1, 1) := by decide +kernel
theorem dS_isSeen_14 : decode cS_isSeen 14 = .ok (.baload, 1) := by decide +kernel
theorem dS_isSeen_15 : decode cS_isSeen 15 = .ok (.ifCond .eq 7, 3) := by decide +kernel
theorem dS_isSeen_18 : decode cS_isSeen 18 = .ok (.iconst 1, 1) := by decide +kernel
theorem dS_isSeen_19 : decode cS_isSeen 19 = .ok (.goto 4, 3) := by decide +kernel
theorem dS_isSeen_22 : decode cS_isSeen 22 = .ok (.iconst 0, 1) := by decide +kernel
theorem dS_isSeen_23 : decode cS_isSeen 23 = .ok (.ireturn, 1) := by decide +kernel
theorem dS_inOrder_0 : decode cS_inOrder 0 = .ok (.iload_n 1, 1) := by decide +kernel
theorem dS_inOrder_1 : decode cS_inOrder 1 = .ok (.ifCond .lt 11, 3) := by decide +kernel
theorem dS_inOrder_4 : decode cS_inOrder 4 = .ok (.iload_n 1, 1) := by decide +kernel
theorem dS_inOrder_5 : decode cS_inOrder 5 = .ok (.aload_n 0, 1) := by decide +kernel
theorem dS_inOrder_6 : decode cS_inOrder 6 = .ok (.getfield 7, 3) := by decide +kernel
theorem dS_inOrder_9 : decode cS_inOrder 9 = .ok (.if_icmp .lt 5, 3) := by decide +kernel
theorem dS_inOrder_12 : decode cS_inOrder 12 = .ok (.iconst (-1), 1) := by decide +kernel
theorem dS_inOrder_13 : decode cS_inOrder 13 = .ok (.ireturn, 1) := by decide +kernel
theorem dS_inOrder_14 : decode cS_inOrder 14 = .ok (.aload_n 0, 1) := by decide +kernel
theorem dS_inOrder_15 : decode cS_inOrder 15 = .ok (.invokevirtual 109, 3) := by decide +kernel
theorem dS_inOrder_18 : decode cS_inOrder 18 = .ok (.istore_n 2, 1) := by decide +kernel
theorem dS_inOrder_19 : decode cS_inOrder 19 = .ok (.iload_n 1, 1) := by decide +kernel
theorem dS_inOrder_20 : decode cS_inOrder 20 = .ok (.iload_n 2, 1) := by decide +kernel
theorem dS_inOrder_21 : decode cS_inOrder 21 = .ok (.if_icmp .ge 12, 3) := by decide +kernel
theorem dS_inOrder_24 : decode cS_inOrder 24 = .ok (.aload_n 0, 1) := by decide +kernel
theorem dS_inOrder_25 : decode cS_inOrder 25 = .ok (.getfield 50, 3) := by decide +kernel
theorem dS_inOrder_28 : decode cS_inOrder 28 = .ok (.iload_n 1, 1) := by decide +kernel
theorem dS_inOrder_29 : decode cS_inOrder 29 = .ok (.iaload, 1) := by decide +kernel
theorem dS_inOrder_30 : decode cS_inOrder 30 = .ok (.goto 4, 3) := by decide +kernel
theorem dS_inOrder_33 : decode cS_inOrder 33 = .ok (.iconst (-1), 1) := by decide +kernel
theorem dS_inOrder_34 : decode cS_inOrder 34 = .ok (.ireturn, 1) := by decide +kernel
theorem dS_putInOrder_0 : decode cS_putInOrder 0 = .ok (.aload_n 0, 1) := by decide +kernel
theorem dS_putInOrder_1 : decode cS_putInOrder 1 = .ok (.invokevirtual 103, 3) := by decide +kernel
theorem dS_putInOrder_4 : decode cS_putInOrder 4 = .ok (.aload_n 0, 1) := by decide +kernel
theorem dS_putInOrder_5 : decode cS_putInOrder 5 = .ok (.aload_n 0, 1) := by decide +kernel
theorem dS_putInOrder_6 : decode cS_putInOrder 6 = .ok (.getfield 7, 3) := by decide +kernel
theorem dS_putInOrder_9 : decode cS_putInOrder 9 = .ok (.invokevirtual 96, 3) := by decide +kernel
theorem dS_putInOrder_12 : decode cS_putInOrder 12 = .ok (.iconst 0, 1) := by decide +kernel
theorem dS_putInOrder_13 : decode cS_putInOrder 13 = .ok (.istore_n 1, 1) := by decide +kernel
theorem dS_putInOrder_14 : decode cS_putInOrder 14 = .ok (.iconst 0, 1) := by decide +kernel
theorem dS_putInOrder_15 : decode cS_putInOrder 15 = .ok (.istore_n 2, 1) := by decide +kernel
theorem dS_putInOrder_16 : decode cS_putInOrder 16 = .ok (.iload_n 2, 1) := by decide +kernel
theorem dS_putInOrder_17 : decode cS_putInOrder 17 = .ok (.aload_n 0, 1) := by decide +kernel
theorem dS_putInOrder_18 : decode cS_putInOrder 18 = .ok (.getfield 7, 3) := by decide +kernel
theorem dS_putInOrder_21 : decode cS_putInOrder 21 = .ok (.if_icmp .ge 47, 3) := by decide +kernel
theorem dS_putInOrder_24 : decode cS_putInOrder 24 = .ok (.aload_n 0, 1) := by decide +kernel
theorem dS_putInOrder_25 : decode cS_putInOrder 25 = .ok (.iload_n 2, 1) := by decide +kernel
theorem dS_putInOrder_26 : decode cS_putInOrder 26 = .ok (.invokevirtual 106, 3) := by decide +kernel
theorem dS_putInOrder_29 : decode cS_putInOrder 29 = .ok (.ifCond .eq 33, 3) := by decide +kernel
theorem dS_putInOrder_32 : decode cS_putInOrder 32 = .ok (.aload_n 0, 1) := by decide +kernel
theorem dS_putInOrder_33 : decode cS_putInOrder 33 = .ok (.getfield 47, 3) := by decide +kernel
theorem dS_putInOrder_36 : decode cS_putInOrder 36 = .ok (.iload_n 2, 1) := by decide +kernel
theorem dS_putInOrder_37 : decode cS_putInOrder 37 = .ok (.aload_n 0, 1) := by decide +kernel
theorem dS_putInOrder_38 : decode cS_putInOrder 38 = .ok (.getfield 41, 3) := by decide +kernel
theorem dS_putInOrder_41 : decode cS_putInOrder 41 = .ok (.aload_n 0, 1) := by decide +kernel
theorem dS_putInOrder_42 : decode cS_putInOrder 42 = .ok (.getfield 32, 3) := by decide +kernel
theorem dS_putInOrder_45 : decode cS_putInOrder 45 = .ok (.iload_n 2, 1) := by decide +kernel
theorem dS_putInOrder_46 : decode cS_putInOrder 46 = .ok (.aaload, 1) := by decide +kernel
theorem dS_putInOrder_47 : decode cS_putInOrder 47 = .ok (.iconst 2, 1) := by decide +kernel
theorem dS_putInOrder_48 : decode cS_putInOrder 48 = .ok (.iconst 3, 1) := by decide +kernel
theorem dS_putInOrder_49 : decode cS_putInOrder 49 = .ok (.invokestatic 99, 3) := by decide +kernel
theorem dS_putInOrder_52 : decode cS_putInOrder 52 = .ok (.iastore, 1) := by decide +kernel
theorem dS_putInOrder_53 : decode cS_putInOrder 53 = .ok (.aload_n 0, 1) := by decide +kernel
theorem dS_putInOrder_54 : decode cS_putInOrder 54 = .ok (.iload_n 2, 1) := by decide +kernel
theorem dS_putInOrder_55 : decode cS_putInOrder 55 = .ok (.iload_n 1, 1) := by decide +kernel
theorem dS_putInOrder_56 : decode cS_putInOrder 56 = .ok (.invokevirtual 143, 3) := by decide +kernel
theorem dS_putInOrder_59 : decode cS_putInOrder 59 = .ok (.iinc 1 1, 3) := by decide +kernel
theorem dS_putInOrder_62 : decode cS_putInOrder 62 = .ok (.iinc 2 1, 3) := by decide +kernel
theorem dS_putInOrder_65 : decode cS_putInOrder 65 = .ok (.goto (-49), 3) := by decide +kernel
theorem dS_putInOrder_68 : decode cS_putInOrder 68 = .ok (.iload_n 1, 1) := by decide +kernel
theorem dS_putInOrder_69 : decode cS_putInOrder 69 = .ok (.ireturn, 1) := by decide +kernel
theorem dS_readyWorlds_0 : decode cS_readyWorlds 0 = .ok (.aload_n 0, 1) := by decide +kernel
theorem dS_readyWorlds_1 : decode cS_readyWorlds 1 = .ok (.getfield 35, 3) := by decide +kernel
theorem dS_readyWorlds_4 : decode cS_readyWorlds 4 = .ok (.istore_n 2, 1) := by decide +kernel
theorem dS_readyWorlds_5 : decode cS_readyWorlds 5 = .ok (.iload_n 2, 1) := by decide +kernel
theorem dS_readyWorlds_6 : decode cS_readyWorlds 6 = .ok (.iload_n 1, 1) := by decide +kernel
theorem dS_readyWorlds_7 : decode cS_readyWorlds 7 = .ok (.if_icmp .ge 63, 3) := by decide +kernel
theorem dS_readyWorlds_10 : decode cS_readyWorlds 10 = .ok (.aload_n 0, 1) := by decide +kernel
theorem dS_readyWorlds_11 : decode cS_readyWorlds 11 = .ok (.getfield 13, 3) := by decide +kernel
theorem dS_readyWorlds_14 : decode cS_readyWorlds 14 = .ok (.iload_n 2, 1) := by decide +kernel
theorem dS_readyWorlds_15 : decode cS_readyWorlds 15 = .ok (.iaload, 1) := by decide +kernel
theorem dS_readyWorlds_16 : decode cS_readyWorlds 16 = .ok (.istore_n 3, 1) := by decide +kernel
theorem dS_readyWorlds_17 : decode cS_readyWorlds 17 = .ok (.iload_n 3, 1) := by decide +kernel
theorem dS_readyWorlds_18 : decode cS_readyWorlds 18 = .ok (.ifCond .lt 27, 3) := by decide +kernel
theorem dS_readyWorlds_21 : decode cS_readyWorlds 21 = .ok (.aload_n 0, 1) := by decide +kernel
theorem dS_readyWorlds_22 : decode cS_readyWorlds 22 = .ok (.getfield 32, 3) := by decide +kernel
theorem dS_readyWorlds_25 : decode cS_readyWorlds 25 = .ok (.iload_n 3, 1) := by decide +kernel
theorem dS_readyWorlds_26 : decode cS_readyWorlds 26 = .ok (.aaload, 1) := by decide +kernel
theorem dS_readyWorlds_27 : decode cS_readyWorlds 27 = .ok (.aload_n 0, 1) := by decide +kernel
theorem dS_readyWorlds_28 : decode cS_readyWorlds 28 = .ok (.getfield 29, 3) := by decide +kernel
theorem dS_readyWorlds_31 : decode cS_readyWorlds 31 = .ok (.iload_n 2, 1) := by decide +kernel
theorem dS_readyWorlds_32 : decode cS_readyWorlds 32 = .ok (.aaload, 1) := by decide +kernel
theorem dS_readyWorlds_33 : decode cS_readyWorlds 33 = .ok (.aload_n 0, 1) := by decide +kernel
theorem dS_readyWorlds_34 : decode cS_readyWorlds 34 = .ok (.getfield 32, 3) := by decide +kernel
theorem dS_readyWorlds_37 : decode cS_readyWorlds 37 = .ok (.iload_n 2, 1) := by decide +kernel
theorem dS_readyWorlds_38 : decode cS_readyWorlds 38 = .ok (.aaload, 1) := by decide +kernel
theorem dS_readyWorlds_39 : decode cS_readyWorlds 39 = .ok (.invokestatic 130, 3) := by decide +kernel
theorem dS_readyWorlds_42 : decode cS_readyWorlds 42 = .ok (.goto 22, 3) := by decide +kernel
theorem dS_readyWorlds_45 : decode cS_readyWorlds 45 = .ok (.aload_n 0, 1) := by decide +kernel
theorem dS_readyWorlds_46 : decode cS_readyWorlds 46 = .ok (.getfield 29, 3) := by decide +kernel
theorem dS_readyWorlds_49 : decode cS_readyWorlds 49 = .ok (.iload_n 2, 1) := by decide +kernel
theorem dS_readyWorlds_50 : decode cS_readyWorlds 50 = .ok (.aaload, 1) := by decide +kernel
theorem dS_readyWorlds_51 : decode cS_readyWorlds 51 = .ok (.iconst 0, 1) := by decide +kernel
theorem dS_readyWorlds_52 : decode cS_readyWorlds 52 = .ok (.aload_n 0, 1) := by decide +kernel
theorem dS_readyWorlds_53 : decode cS_readyWorlds 53 = .ok (.getfield 32, 3) := by decide +kernel
theorem dS_readyWorlds_56 : decode cS_readyWorlds 56 = .ok (.iload_n 2, 1) := by decide +kernel
theorem dS_readyWorlds_57 : decode cS_readyWorlds 57 = .ok (.aaload, 1) := by decide +kernel
theorem dS_readyWorlds_58 : decode cS_readyWorlds 58 = .ok (.iconst 0, 1) := by decide +kernel
theorem dS_readyWorlds_59 : decode cS_readyWorlds 59 = .ok (.bipush 12, 2) := by decide +kernel
theorem dS_readyWorlds_61 : decode cS_readyWorlds 61 = .ok (.invokestatic 134, 3) := by decide +kernel
theorem dS_readyWorlds_64 : decode cS_readyWorlds 64 = .ok (.iinc 2 1, 3) := by decide +kernel
theorem dS_readyWorlds_67 : decode cS_readyWorlds 67 = .ok (.goto (-62), 3) := by decide +kernel
theorem dS_readyWorlds_70 : decode cS_readyWorlds 70 = .ok (.aload_n 0, 1) := by decide +kernel
theorem dS_readyWorlds_71 : decode cS_readyWorlds 71 = .ok (.aload_n 0, 1) := by decide +kernel
theorem dS_readyWorlds_72 : decode cS_readyWorlds 72 = .ok (.getfield 35, 3) := by decide +kernel
theorem dS_readyWorlds_75 : decode cS_readyWorlds 75 = .ok (.iload_n 1, 1) := by decide +kernel
theorem dS_readyWorlds_76 : decode cS_readyWorlds 76 = .ok (.invokestatic 140, 3) := by decide +kernel
theorem dS_readyWorlds_79 : decode cS_readyWorlds 79 = .ok (.putfield 35, 3) := by decide +kernel
theorem dS_readyWorlds_82 : decode cS_readyWorlds 82 = .ok (.return_, 1) := by decide +kernel
theorem dS_insert_0 : decode cS_insert 0 = .ok (.iload_n 2, 1) := by decide +kernel
theorem dS_insert_1 : decode cS_insert 1 = .ok (.istore_n 3, 1) := by decide +kernel
theorem dS_insert_2 : decode cS_insert 2 = .ok (.iload_n 3, 1) := by decide +kernel
theorem dS_insert_3 : decode cS_insert 3 = .ok (.ifCond .le 39, 3) := by decide +kernel
theorem dS_insert_6 : decode cS_insert 6 = .ok (.aload_n 0, 1) := by decide +kernel
theorem dS_insert_7 : decode cS_insert 7 = .ok (.iload_n 1, 1) := by decide +kernel
theorem dS_insert_8 : decode cS_insert 8 = .ok (.aload_n 0, 1) := by decide +kernel
theorem dS_insert_9 : decode cS_insert 9 = .ok (.getfield 50, 3) := by decide +kernel
theorem dS_insert_12 : decode cS_insert 12 = .ok (.iload_n 3, 1) := by decide +kernel
theorem dS_insert_13 : decode cS_insert 13 = .ok (.iconst 1, 1) := by decide +kernel
theorem dS_insert_14 : decode cS_insert 14 = .ok (.isub, 1) := by decide +kernel
theorem dS_insert_15 : decode cS_insert 15 = .ok (.iaload, 1) := by decide +kernel
theorem dS_insert_16 : decode cS_insert 16 = .ok (.invokevirtual 147, 3) := by decide +kernel
theorem dS_insert_19 : decode cS_insert 19 = .ok (.ifCond .eq 23, 3) := by decide +kernel
theorem dS_insert_22 : decode cS_insert 22 = .ok (.aload_n 0, 1) := by decide +kernel
theorem dS_insert_23 : decode cS_insert 23 = .ok (.getfield 50, 3) := by decide +kernel
theorem dS_insert_26 : decode cS_insert 26 = .ok (.iload_n 3, 1) := by decide +kernel
theorem dS_insert_27 : decode cS_insert 27 = .ok (.aload_n 0, 1) := by decide +kernel
theorem dS_insert_28 : decode cS_insert 28 = .ok (.getfield 50, 3) := by decide +kernel
theorem dS_insert_31 : decode cS_insert 31 = .ok (.iload_n 3, 1) := by decide +kernel
theorem dS_insert_32 : decode cS_insert 32 = .ok (.iconst 1, 1) := by decide +kernel
theorem dS_insert_33 : decode cS_insert 33 = .ok (.isub, 1) := by decide +kernel
theorem dS_insert_34 : decode cS_insert 34 = .ok (.iaload, 1) := by decide +kernel
theorem dS_insert_35 : decode cS_insert 35 = .ok (.iastore, 1) := by decide +kernel
theorem dS_insert_36 : decode cS_insert 36 = .ok (.iinc 3 (-1), 3) := by decide +kernel
theorem dS_insert_39 : decode cS_insert 39 = .ok (.goto (-37), 3) := by decide +kernel
theorem dS_insert_42 : decode cS_insert 42 = .ok (.aload_n 0, 1) := by decide +kernel
theorem dS_insert_43 : decode cS_insert 43 = .ok (.getfield 50, 3) := by decide +kernel
theorem dS_insert_46 : decode cS_insert 46 = .ok (.iload_n 3, 1) := by decide +kernel
theorem dS_insert_47 : decode cS_insert 47 = .ok (.iload_n 1, 1) := by decide +kernel
theorem dS_insert_48 : decode cS_insert 48 = .ok (.iastore, 1) := by decide +kernel
theorem dS_insert_49 : decode cS_insert 49 = .ok (.return_, 1) := by decide +kernel
theorem dS_isDrawnBefore_0 : decode cS_isDrawnBefore 0 = .ok (.aload_n 0, 1) := by decide +kernel
theorem dS_isDrawnBefore_1 : decode cS_isDrawnBefore 1 = .ok (.getfield 17, 3) := by decide +kernel
theorem dS_isDrawnBefore_4 : decode cS_isDrawnBefore 4 = .ok (.iload_n 1, 1) := by decide +kernel
theorem dS_isDrawnBefore_5 : decode cS_isDrawnBefore 5 = .ok (.iaload, 1) := by decide +kernel
theorem dS_isDrawnBefore_6 : decode cS_isDrawnBefore 6 = .ok (.aload_n 0, 1) := by decide +kernel
theorem dS_isDrawnBefore_7 : decode cS_isDrawnBefore 7 = .ok (.getfield 17, 3) := by decide +kernel
theorem dS_isDrawnBefore_10 : decode cS_isDrawnBefore 10 = .ok (.iload_n 2, 1) := by decide +kernel
theorem dS_isDrawnBefore_11 : decode cS_isDrawnBefore 11 = .ok (.iaload, 1) := by decide +kernel
theorem dS_isDrawnBefore_12 : decode cS_isDrawnBefore 12 = .ok (.if_icmp .eq 19, 3) := by decide +kernel
theorem dS_isDrawnBefore_15 : decode cS_isDrawnBefore 15 = .ok (.aload_n 0, 1) := by decide +kernel
theorem dS_isDrawnBefore_16 : decode cS_isDrawnBefore 16 = .ok (.getfield 17, 3) := by decide +kernel
theorem dS_isDrawnBefore_19 : decode cS_isDrawnBefore 19 = .ok (.iload_n 1, 1) := by decide +kernel
theorem dS_isDrawnBefore_20 : decode cS_isDrawnBefore 20 = .ok (.iaload, 1) := by decide +kernel
theorem dS_isDrawnBefore_21 : decode cS_isDrawnBefore 21 = .ok (.iconst 1, 1) := by decide +kernel
theorem dS_isDrawnBefore_22 : decode cS_isDrawnBefore 22 = .ok (.if_icmp .ne 7, 3) := by decide +kernel
theorem dS_isDrawnBefore_25 : decode cS_isDrawnBefore 25 = .ok (.iconst 1, 1) := by decide +kernel
theorem dS_isDrawnBefore_26 : decode cS_isDrawnBefore 26 = .ok (.goto 4, 3) := by decide +kernel
theorem dS_isDrawnBefore_29 : decode cS_isDrawnBefore 29 = .ok (.iconst 0, 1) := by decide +kernel
theorem dS_isDrawnBefore_30 : decode cS_isDrawnBefore 30 = .ok (.ireturn, 1) := by decide +kernel
theorem dS_isDrawnBefore_31 : decode cS_isDrawnBefore 31 = .ok (.aload_n 0, 1) := by decide +kernel
theorem dS_isDrawnBefore_32 : decode cS_isDrawnBefore 32 = .ok (.getfield 17, 3) := by decide +kernel
theorem dS_isDrawnBefore_35 : decode cS_isDrawnBefore 35 = .ok (.iload_n 1, 1) := by decide +kernel
theorem dS_isDrawnBefore_36 : decode cS_isDrawnBefore 36 = .ok (.iaload, 1) := by decide +kernel
theorem dS_isDrawnBefore_37 : decode cS_isDrawnBefore 37 = .ok (.iconst 1, 1) := by decide +kernel
theorem dS_isDrawnBefore_38 : decode cS_isDrawnBefore 38 = .ok (.if_icmp .ne 26, 3) := by decide +kernel
theorem dS_isDrawnBefore_41 : decode cS_isDrawnBefore 41 = .ok (.aload_n 0, 1) := by decide +kernel
theorem dS_isDrawnBefore_42 : decode cS_isDrawnBefore 42 = .ok (.getfield 47, 3) := by decide +kernel
theorem dS_isDrawnBefore_45 : decode cS_isDrawnBefore 45 = .ok (.iload_n 1, 1) := by decide +kernel
theorem dS_isDrawnBefore_46 : decode cS_isDrawnBefore 46 = .ok (.iaload, 1) := by decide +kernel
theorem dS_isDrawnBefore_47 : decode cS_isDrawnBefore 47 = .ok (.aload_n 0, 1) := by decide +kernel
theorem dS_isDrawnBefore_48 : decode cS_isDrawnBefore 48 = .ok (.getfield 47, 3) := by decide +kernel
theorem dS_isDrawnBefore_51 : decode cS_isDrawnBefore 51 = .ok (.iload_n 2, 1) := by decide +kernel
theorem dS_isDrawnBefore_52 : decode cS_isDrawnBefore 52 = .ok (.iaload, 1) := by decide +kernel
theorem dS_isDrawnBefore_53 : decode cS_isDrawnBefore 53 = .ok (.if_icmp .ge 7, 3) := by decide +kernel
theorem dS_isDrawnBefore_56 : decode cS_isDrawnBefore 56 = .ok (.iconst 1, 1) := by decide +kernel
theorem dS_isDrawnBefore_57 : decode cS_isDrawnBefore 57 = .ok (.goto 27, 3) := by decide +kernel
theorem dS_isDrawnBefore_60 : decode cS_isDrawnBefore 60 = .ok (.iconst 0, 1) := by decide +kernel
theorem dS_isDrawnBefore_61 : decode cS_isDrawnBefore 61 = .ok (.goto 23, 3) := by decide +kernel
theorem dS_isDrawnBefore_64 : decode cS_isDrawnBefore 64 = .ok (.aload_n 0, 1) := by decide +kernel
theorem dS_isDrawnBefore_65 : decode cS_isDrawnBefore 65 = .ok (.getfield 47, 3) := by decide +kernel
theorem dS_isDrawnBefore_68 : decode cS_isDrawnBefore 68 = .ok (.iload_n 1, 1) := by decide +kernel
theorem dS_isDrawnBefore_69 : decode cS_isDrawnBefore 69 = .ok (.iaload, 1) := by decide +kernel
theorem dS_isDrawnBefore_70 : decode cS_isDrawnBefore 70 = .ok (.aload_n 0, 1) := by decide +kernel
theorem dS_isDrawnBefore_71 : decode cS_isDrawnBefore 71 = .ok (.getfield 47, 3) := by decide +kernel
theorem dS_isDrawnBefore_74 : decode cS_isDrawnBefore 74 = .ok (.iload_n 2, 1) := by decide +kernel
theorem dS_isDrawnBefore_75 : decode cS_isDrawnBefore 75 = .ok (.iaload, 1) := by decide +kernel
theorem dS_isDrawnBefore_76 : decode cS_isDrawnBefore 76 = .ok (.if_icmp .le 7, 3) := by decide +kernel
theorem dS_isDrawnBefore_79 : decode cS_isDrawnBefore 79 = .ok (.iconst 1, 1) := by decide +kernel
theorem dS_isDrawnBefore_80 : decode cS_isDrawnBefore 80 = .ok (.goto 4, 3) := by decide +kernel
theorem dS_isDrawnBefore_83 : decode cS_isDrawnBefore 83 = .ok (.iconst 0, 1) := by decide +kernel
theorem dS_isDrawnBefore_84 : decode cS_isDrawnBefore 84 = .ok (.ireturn, 1) := by decide +kernel
theorem dS_count_0 : decode cS_count 0 = .ok (.aload_n 0, 1) := by decide +kernel
theorem dS_count_1 : decode cS_count 1 = .ok (.getfield 7, 3) := by decide +kernel
theorem dS_count_4 : decode cS_count 4 = .ok (.ireturn, 1) := by decide +kernel
theorem dL_world_0 : decode cL_world 0 = .ok (.aload 4, 2) := by decide +kernel
theorem dL_world_2 : decode cL_world 2 = .ok (.iconst 0, 1) := by decide +kernel
theorem dL_world_3 : decode cL_world 3 = .ok (.aload_n 0, 1) := by decide +kernel
theorem dL_world_4 : decode cL_world 4 = .ok (.iload_n 1, 1) := by decide +kernel
theorem dL_world_5 : decode cL_world 5 = .ok (.iload_n 2, 1) := by decide +kernel
theorem dL_world_6 : decode cL_world 6 = .ok (.iload_n 3, 1) := by decide +kernel
theorem dL_world_7 : decode cL_world 7 = .ok (.invokevirtual 7, 3) := by decide +kernel
theorem dL_world_10 : decode cL_world 10 = .ok (.i2l, 1) := by decide +kernel
theorem dL_world_11 : decode cL_world 11 = .ok (.lastore, 1) := by decide +kernel
theorem dL_world_12 : decode cL_world 12 = .ok (.goto 7, 3) := by decide +kernel
theorem dL_world_15 : decode cL_world 15 = .ok (.astore 5, 2) := by decide +kernel
theorem dL_world_17 : decode cL_world 17 = .ok (.iconst 1, 1) := by decide +kernel
theorem dL_world_18 : decode cL_world 18 = .ok (.ireturn, 1) := by decide +kernel
theorem dL_world_19 : decode cL_world 19 = .ok (.iconst 0, 1) := by decide +kernel
theorem dL_world_20 : decode cL_world 20 = .ok (.ireturn, 1) := by decide +kernel
theorem dS_world_0 : decode cS_world 0 = .ok (.aload_n 0, 1) := by decide +kernel
theorem dS_world_1 : decode cS_world 1 = .ok (.iload_n 1, 1) := by decide +kernel
theorem dS_world_2 : decode cS_world 2 = .ok (.invokevirtual 76, 3) := by decide +kernel
theorem dS_world_5 : decode cS_world 5 = .ok (.ifCond .eq 11, 3) := by decide +kernel
theorem dS_world_8 : decode cS_world 8 = .ok (.iload_n 2, 1) := by decide +kernel
theorem dS_world_9 : decode cS_world 9 = .ok (.iload_n 3, 1) := by decide +kernel
theorem dS_world_10 : decode cS_world 10 = .ok (.invokestatic 90, 3) := by decide +kernel
theorem dS_world_13 : decode cS_world 13 = .ok (.ifCond .ne 11, 3) := by decide +kernel
theorem dS_world_16 : decode cS_world 16 = .ok (.new 93, 3) := by decide +kernel
theorem dS_world_19 : decode cS_world 19 = .ok (.dup, 1) := by decide +kernel
theorem dS_world_20 : decode cS_world 20 = .ok (.invokespecial 95, 3) := by decide +kernel
theorem dS_world_23 : decode cS_world 23 = .ok (.athrow, 1) := by decide +kernel
theorem dS_world_24 : decode cS_world 24 = .ok (.aload_n 0, 1) := by decide +kernel
theorem dS_world_25 : decode cS_world 25 = .ok (.iload_n 1, 1) := by decide +kernel
theorem dS_world_26 : decode cS_world 26 = .ok (.iconst 1, 1) := by decide +kernel
theorem dS_world_27 : decode cS_world 27 = .ok (.iadd, 1) := by decide +kernel
theorem dS_world_28 : decode cS_world 28 = .ok (.invokevirtual 96, 3) := by decide +kernel
theorem dS_world_31 : decode cS_world 31 = .ok (.aload_n 0, 1) := by decide +kernel
theorem dS_world_32 : decode cS_world 32 = .ok (.getfield 32, 3) := by decide +kernel
theorem dS_world_35 : decode cS_world 35 = .ok (.iload_n 1, 1) := by decide +kernel
theorem dS_world_36 : decode cS_world 36 = .ok (.aaload, 1) := by decide +kernel
theorem dS_world_37 : decode cS_world 37 = .ok (.iconst 4, 1) := by decide +kernel
theorem dS_world_38 : decode cS_world 38 = .ok (.iload_n 2, 1) := by decide +kernel
theorem dS_world_39 : decode cS_world 39 = .ok (.imul, 1) := by decide +kernel
theorem dS_world_40 : decode cS_world 40 = .ok (.iload_n 3, 1) := by decide +kernel
theorem dS_world_41 : decode cS_world 41 = .ok (.iadd, 1) := by decide +kernel
theorem dS_world_42 : decode cS_world 42 = .ok (.iaload, 1) := by decide +kernel
theorem dS_world_43 : decode cS_world 43 = .ok (.ireturn, 1) := by decide +kernel
theorem dS_isCell_0 : decode cS_isCell 0 = .ok (.iload_n 0, 1) := by decide +kernel
theorem dS_isCell_1 : decode cS_isCell 1 = .ok (.ifCond .lt 21, 3) := by decide +kernel
theorem dS_isCell_4 : decode cS_isCell 4 = .ok (.iload_n 0, 1) := by decide +kernel
theorem dS_isCell_5 : decode cS_isCell 5 = .ok (.iconst 3, 1) := by decide +kernel
theorem dS_isCell_6 : decode cS_isCell 6 = .ok (.if_icmp .ge 16, 3) := by decide +kernel
theorem dS_isCell_9 : decode cS_isCell 9 = .ok (.iload_n 1, 1) := by decide +kernel
theorem dS_isCell_10 : decode cS_isCell 10 = .ok (.ifCond .lt 12, 3) := by decide +kernel
theorem dS_isCell_13 : decode cS_isCell 13 = .ok (.iload_n 1, 1) := by decide +kernel
theorem dS_isCell_14 : decode cS_isCell 14 = .ok (.iconst 4, 1) := by decide +kernel
theorem dS_isCell_15 : decode cS_isCell 15 = .ok (.if_icmp .ge 7, 3) := by decide +kernel
theorem dS_isCell_18 : decode cS_isCell 18 = .ok (.iconst 1, 1) := by decide +kernel
theorem dS_isCell_19 : decode cS_isCell 19 = .ok (.goto 4, 3) := by decide +kernel
theorem dS_isCell_22 : decode cS_isCell 22 = .ok (.iconst 0, 1) := by decide +kernel
theorem dS_isCell_23 : decode cS_isCell 23 = .ok (.ireturn, 1) := by decide +kernel
theorem dL_model_0 : decode cL_model 0 = .ok (.aload 4, 2) := by decide +kernel
theorem dL_model_2 : decode cL_model 2 = .ok (.iconst 0, 1) := by decide +kernel
theorem dL_model_3 : decode cL_model 3 = .ok (.aload_n 0, 1) := by decide +kernel
theorem dL_model_4 : decode cL_model 4 = .ok (.iload_n 1, 1) := by decide +kernel
theorem dL_model_5 : decode cL_model 5 = .ok (.iload_n 2, 1) := by decide +kernel
theorem dL_model_6 : decode cL_model 6 = .ok (.iload_n 3, 1) := by decide +kernel
theorem dL_model_7 : decode cL_model 7 = .ok (.invokevirtual 15, 3) := by decide +kernel
theorem dL_model_10 : decode cL_model 10 = .ok (.i2l, 1) := by decide +kernel
theorem dL_model_11 : decode cL_model 11 = .ok (.lastore, 1) := by decide +kernel
theorem dL_model_12 : decode cL_model 12 = .ok (.goto 7, 3) := by decide +kernel
theorem dL_model_15 : decode cL_model 15 = .ok (.astore 5, 2) := by decide +kernel
theorem dL_model_17 : decode cL_model 17 = .ok (.iconst 1, 1) := by decide +kernel
theorem dL_model_18 : decode cL_model 18 = .ok (.ireturn, 1) := by decide +kernel
theorem dL_model_19 : decode cL_model 19 = .ok (.iconst 0, 1) := by decide +kernel
theorem dL_model_20 : decode cL_model 20 = .ok (.ireturn, 1) := by decide +kernel
theorem dS_model_0 : decode cS_model 0 = .ok (.aload_n 0, 1) := by decide +kernel
theorem dS_model_1 : decode cS_model 1 = .ok (.iload_n 1, 1) := by decide +kernel
theorem dS_model_2 : decode cS_model 2 = .ok (.invokevirtual 76, 3) := by decide +kernel
theorem dS_model_5 : decode cS_model 5 = .ok (.ifCond .eq 11, 3) := by decide +kernel
theorem dS_model_8 : decode cS_model 8 = .ok (.iload_n 2, 1) := by decide +kernel
theorem dS_model_9 : decode cS_model 9 = .ok (.iload_n 3, 1) := by decide +kernel
theorem dS_model_10 : decode cS_model 10 = .ok (.invokestatic 90, 3) := by decide +kernel
theorem dS_model_13 : decode cS_model 13 = .ok (.ifCond .ne 11, 3) := by decide +kernel
theorem dS_model_16 : decode cS_model 16 = .ok (.new 93, 3) := by decide +kernel
theorem dS_model_19 : decode cS_model 19 = .ok (.dup, 1) := by decide +kernel
theorem dS_model_20 : decode cS_model 20 = .ok (.invokespecial 95, 3) := by decide +kernel
theorem dS_model_23 : decode cS_model 23 = .ok (.athrow, 1) := by decide +kernel
theorem dS_model_24 : decode cS_model 24 = .ok (.aload_n 0, 1) := by decide +kernel
theorem dS_model_25 : decode cS_model 25 = .ok (.iload_n 1, 1) := by decide +kernel
theorem dS_model_26 : decode cS_model 26 = .ok (.iconst 1, 1) := by decide +kernel
theorem dS_model_27 : decode cS_model 27 = .ok (.iadd, 1) := by decide +kernel
theorem dS_model_28 : decode cS_model 28 = .ok (.invokevirtual 96, 3) := by decide +kernel
theorem dS_model_31 : decode cS_model 31 = .ok (.aload_n 0, 1) := by decide +kernel
theorem dS_model_32 : decode cS_model 32 = .ok (.getfield 41, 3) := by decide +kernel
theorem dS_model_35 : decode cS_model 35 = .ok (.aload_n 0, 1) := by decide +kernel
theorem dS_model_36 : decode cS_model 36 = .ok (.getfield 32, 3) := by decide +kernel
theorem dS_model_39 : decode cS_model 39 = .ok (.iload_n 1, 1) := by decide +kernel
theorem dS_model_40 : decode cS_model 40 = .ok (.aaload, 1) := by decide +kernel
theorem dS_model_41 : decode cS_model 41 = .ok (.iload_n 2, 1) := by decide +kernel
theorem dS_model_42 : decode cS_model 42 = .ok (.iload_n 3, 1) := by decide +kernel
theorem dS_model_43 : decode cS_model 43 = .ok (.invokestatic 99, 3) := by decide +kernel
theorem dS_model_46 : decode cS_model 46 = .ok (.ireturn, 1) := by decide +kernel
theorem dL_about_0 : decode cL_about 0 = .ok (.aload_n 3, 1) := by decide +kernel
theorem dL_about_1 : decode cL_about 1 = .ok (.iconst 0, 1) := by decide +kernel
theorem dL_about_2 : decode cL_about 2 = .ok (.aload_n 0, 1) := by decide +kernel
theorem dL_about_3 : decode cL_about 3 = .ok (.iload_n 1, 1) := by decide +kernel
theorem dL_about_4 : decode cL_about 4 = .ok (.iload_n 2, 1) := by decide +kernel
theorem dL_about_5 : decode cL_about 5 = .ok (.invokevirtual 18, 3) := by decide +kernel
theorem dL_about_8 : decode cL_about 8 = .ok (.i2l, 1) := by decide +kernel
theorem dL_about_9 : decode cL_about 9 = .ok (.lastore, 1) := by decide +kernel
theorem dL_about_10 : decode cL_about 10 = .ok (.goto 7, 3) := by decide +kernel
theorem dL_about_13 : decode cL_about 13 = .ok (.astore 4, 2) := by decide +kernel
theorem dL_about_15 : decode cL_about 15 = .ok (.iconst 1, 1) := by decide +kernel
theorem dL_about_16 : decode cL_about 16 = .ok (.ireturn, 1) := by decide +kernel
theorem dL_about_17 : decode cL_about 17 = .ok (.iconst 0, 1) := by decide +kernel
theorem dL_about_18 : decode cL_about 18 = .ok (.ireturn, 1) := by decide +kernel
theorem dS_about_0 : decode cS_about 0 = .ok (.aload_n 0, 1) := by decide +kernel
theorem dS_about_1 : decode cS_about 1 = .ok (.iload_n 1, 1) := by decide +kernel
theorem dS_about_2 : decode cS_about 2 = .ok (.invokevirtual 76, 3) := by decide +kernel
theorem dS_about_5 : decode cS_about 5 = .ok (.ifCond .eq 13, 3) := by decide +kernel
theorem dS_about_8 : decode cS_about 8 = .ok (.iload_n 2, 1) := by decide +kernel
theorem dS_about_9 : decode cS_about 9 = .ok (.ifCond .lt 9, 3) := by decide +kernel
theorem dS_about_12 : decode cS_about 12 = .ok (.iload_n 2, 1) := by decide +kernel
theorem dS_about_13 : decode cS_about 13 = .ok (.bipush 12, 2) := by decide +kernel
theorem dS_about_15 : decode cS_about 15 = .ok (.if_icmp .lt 11, 3) := by decide +kernel
theorem dS_about_18 : decode cS_about 18 = .ok (.new 93, 3) := by decide +kernel
theorem dS_about_21 : decode cS_about 21 = .ok (.dup, 1) := by decide +kernel
theorem dS_about_22 : decode cS_about 22 = .ok (.invokespecial 95, 3) := by decide +kernel
theorem dS_about_25 : decode cS_about 25 = .ok (.athrow, 1) := by decide +kernel
theorem dS_about_26 : decode cS_about 26 = .ok (.iload_n 2, 1) := by decide +kernel
theorem dS_about_27 : decode cS_about 27 = .ok (.tableswitch 54 0 2 #[25, 32, 39], 25) := by decide +kernel
theorem dS_about_52 : decode cS_about 52 = .ok (.aload_n 0, 1) := by decide +kernel
theorem dS_about_53 : decode cS_about 53 = .ok (.getfield 13, 3) := by decide +kernel
theorem dS_about_56 : decode cS_about 56 = .ok (.iload_n 1, 1) := by decide +kernel
theorem dS_about_57 : decode cS_about 57 = .ok (.iaload, 1) := by decide +kernel
theorem dS_about_58 : decode cS_about 58 = .ok (.ireturn, 1) := by decide +kernel
theorem dS_about_59 : decode cS_about 59 = .ok (.aload_n 0, 1) := by decide +kernel
theorem dS_about_60 : decode cS_about 60 = .ok (.getfield 17, 3) := by decide +kernel
theorem dS_about_63 : decode cS_about 63 = .ok (.iload_n 1, 1) := by decide +kernel
theorem dS_about_64 : decode cS_about 64 = .ok (.iaload, 1) := by decide +kernel
theorem dS_about_65 : decode cS_about 65 = .ok (.ireturn, 1) := by decide +kernel
theorem dS_about_66 : decode cS_about 66 = .ok (.aload_n 0, 1) := by decide +kernel
theorem dS_about_67 : decode cS_about 67 = .ok (.getfield 20, 3) := by decide +kernel
theorem dS_about_70 : decode cS_about 70 = .ok (.iload_n 1, 1) := by decide +kernel
theorem dS_about_71 : decode cS_about 71 = .ok (.baload, 1) := by decide +kernel
theorem dS_about_72 : decode cS_about 72 = .ok (.ifCond .eq 7, 3) := by decide +kernel
theorem dS_about_75 : decode cS_about 75 = .ok (.iconst 1, 1) := by decide +kernel
theorem dS_about_76 : decode cS_about 76 = .ok (.goto 4, 3) := by decide +kernel
theorem dS_about_79 : decode cS_about 79 = .ok (.iconst 0, 1) := by decide +kernel
theorem dS_about_80 : decode cS_about 80 = .ok (.ireturn, 1) := by decide +kernel
theorem dS_about_81 : decode cS_about 81 = .ok (.aload_n 0, 1) := by decide +kernel
theorem dS_about_82 : decode cS_about 82 = .ok (.getfield 26, 3) := by decide +kernel
theorem dS_about_85 : decode cS_about 85 = .ok (.iload_n 1, 1) := by decide +kernel
theorem dS_about_86 : decode cS_about 86 = .ok (.aaload, 1) := by decide +kernel
theorem dS_about_87 : decode cS_about 87 = .ok (.iload_n 2, 1) := by decide +kernel
theorem dS_about_88 : decode cS_about 88 = .ok (.iconst 3, 1) := by decide +kernel
theorem dS_about_89 : decode cS_about 89 = .ok (.isub, 1) := by decide +kernel
theorem dS_about_90 : decode cS_about 90 = .ok (.iaload, 1) := by decide +kernel
theorem dS_about_91 : decode cS_about 91 = .ok (.ireturn, 1) := by decide +kernel
theorem dM_init_0 : decode cM_init 0 = .ok (.aload_n 0, 1) := by decide +kernel
theorem dM_init_1 : decode cM_init 1 = .ok (.invokespecial 1, 3) := by decide +kernel
theorem dM_init_4 : decode cM_init 4 = .ok (.aload_n 0, 1) := by decide +kernel
theorem dM_init_5 : decode cM_init 5 = .ok (.bipush 48, 2) := by decide +kernel
theorem dM_init_7 : decode cM_init 7 = .ok (.newarray .int, 2) := by decide +kernel
theorem dM_init_9 : decode cM_init 9 = .ok (.putfield 7, 3) := by decide +kernel
theorem dM_init_12 : decode cM_init 12 = .ok (.aload_n 0, 1) := by decide +kernel
theorem dM_init_13 : decode cM_init 13 = .ok (.bipush 48, 2) := by decide +kernel
theorem dM_init_15 : decode cM_init 15 = .ok (.newarray .int, 2) := by decide +kernel
theorem dM_init_17 : decode cM_init 17 = .ok (.putfield 13, 3) := by decide +kernel
theorem dM_init_20 : decode cM_init 20 = .ok (.aload_n 0, 1) := by decide +kernel
theorem dM_init_21 : decode cM_init 21 = .ok (.bipush 48, 2) := by decide +kernel
theorem dM_init_23 : decode cM_init 23 = .ok (.newarray .boolean, 2) := by decide +kernel
theorem dM_init_25 : decode cM_init 25 = .ok (.putfield 16, 3) := by decide +kernel
theorem dM_init_28 : decode cM_init 28 = .ok (.aload_n 0, 1) := by decide +kernel
theorem dM_init_29 : decode cM_init 29 = .ok (.sipush 441, 3) := by decide +kernel
theorem dM_init_32 : decode cM_init 32 = .ok (.newarray .int, 2) := by decide +kernel
theorem dM_init_34 : decode cM_init 34 = .ok (.putfield 20, 3) := by decide +kernel
theorem dM_init_37 : decode cM_init 37 = .ok (.aload_n 0, 1) := by decide +kernel
theorem dM_init_38 : decode cM_init 38 = .ok (.bipush 48, 2) := by decide +kernel
theorem dM_init_40 : decode cM_init 40 = .ok (.newarray .int, 2) := by decide +kernel
theorem dM_init_42 : decode cM_init 42 = .ok (.putfield 23, 3) := by decide +kernel
theorem dM_init_45 : decode cM_init 45 = .ok (.aload_n 0, 1) := by decide +kernel
theorem dM_init_46 : decode cM_init 46 = .ok (.bipush 48, 2) := by decide +kernel
theorem dM_init_48 : decode cM_init 48 = .ok (.newarray .long, 2) := by decide +kernel
theorem dM_init_50 : decode cM_init 50 = .ok (.putfield 26, 3) := by decide +kernel
theorem dM_init_53 : decode cM_init 53 = .ok (.aload_n 0, 1) := by decide +kernel
theorem dM_init_54 : decode cM_init 54 = .ok (.bipush 12, 2) := by decide +kernel
theorem dM_init_56 : decode cM_init 56 = .ok (.newarray .long, 2) := by decide +kernel
theorem dM_init_58 : decode cM_init 58 = .ok (.putfield 30, 3) := by decide +kernel
theorem dM_init_61 : decode cM_init 61 = .ok (.aload_n 0, 1) := by decide +kernel
theorem dM_init_62 : decode cM_init 62 = .ok (.bipush 12, 2) := by decide +kernel
theorem dM_init_64 : decode cM_init 64 = .ok (.newarray .long, 2) := by decide +kernel
theorem dM_init_66 : decode cM_init 66 = .ok (.putfield 33, 3) := by decide +kernel
theorem dM_init_69 : decode cM_init 69 = .ok (.aload_n 0, 1) := by decide +kernel
theorem dM_init_70 : decode cM_init 70 = .ok (.bipush 12, 2) := by decide +kernel
theorem dM_init_72 : decode cM_init 72 = .ok (.newarray .long, 2) := by decide +kernel
theorem dM_init_74 : decode cM_init 74 = .ok (.putfield 36, 3) := by decide +kernel
theorem dM_init_77 : decode cM_init 77 = .ok (.aload_n 0, 1) := by decide +kernel
theorem dM_init_78 : decode cM_init 78 = .ok (.bipush 12, 2) := by decide +kernel
theorem dM_init_80 : decode cM_init 80 = .ok (.newarray .long, 2) := by decide +kernel
theorem dM_init_82 : decode cM_init 82 = .ok (.putfield 39, 3) := by decide +kernel
theorem dM_init_85 : decode cM_init 85 = .ok (.aload_n 0, 1) := by decide +kernel
theorem dM_init_86 : decode cM_init 86 = .ok (.bipush 12, 2) := by decide +kernel
theorem dM_init_88 : decode cM_init 88 = .ok (.newarray .long, 2) := by decide +kernel
theorem dM_init_90 : decode cM_init 90 = .ok (.putfield 42, 3) := by decide +kernel
theorem dM_init_93 : decode cM_init 93 = .ok (.aload_n 0, 1) := by decide +kernel
theorem dM_init_94 : decode cM_init 94 = .ok (.bipush 12, 2) := by decide +kernel
theorem dM_init_96 : decode cM_init 96 = .ok (.newarray .long, 2) := by decide +kernel
theorem dM_init_98 : decode cM_init 98 = .ok (.putfield 45, 3) := by decide +kernel
theorem dM_init_101 : decode cM_init 101 = .ok (.return_, 1) := by decide +kernel
theorem dM_thrown_0 : decode cM_thrown 0 = .ok (.aload_n 0, 1) := by decide +kernel
theorem dM_thrown_1 : decode cM_thrown 1 = .ok (.getfield 48, 3) := by decide +kernel
theorem dM_thrown_4 : decode cM_thrown 4 = .ok (.ireturn, 1) := by decide +kernel
theorem dM_add_0 : decode cM_add 0 = .ok (.aload_n 0, 1) := by decide +kernel
theorem dM_add_1 : decode cM_add 1 = .ok (.iconst 0, 1) := by decide +kernel
theorem dM_add_2 : decode cM_add 2 = .ok (.putfield 48, 3) := by decide +kernel
theorem dM_add_5 : decode cM_add 5 = .ok (.aload_n 0, 1) := by decide +kernel
theorem dM_add_6 : decode cM_add 6 = .ok (.getfield 52, 3) := by decide +kernel
theorem dM_add_9 : decode cM_add 9 = .ok (.bipush 48, 2) := by decide +kernel
theorem dM_add_11 : decode cM_add 11 = .ok (.if_icmp .eq 25, 3) := by decide +kernel
theorem dM_add_14 : decode cM_add 14 = .ok (.iload_n 1, 1) := by decide +kernel
theorem dM_add_15 : decode cM_add 15 = .ok (.iconst (-1), 1) := by decide +kernel
theorem dM_add_16 : decode cM_add 16 = .ok (.if_icmp .lt 20, 3) := by decide +kernel
theorem dM_add_19 : decode cM_add 19 = .ok (.iload_n 1, 1) := by decide +kernel
theorem dM_add_20 : decode cM_add 20 = .ok (.aload_n 0, 1) := by decide +kernel
theorem dM_add_21 : decode cM_add 21 = .ok (.getfield 52, 3) := by decide +kernel
theorem dM_add_24 : decode cM_add 24 = .ok (.if_icmp .ge 12, 3) := by decide +kernel
theorem dM_add_27 : decode cM_add 27 = .ok (.iload_n 2, 1) := by decide +kernel
theorem dM_add_28 : decode cM_add 28 = .ok (.ifCond .lt 8, 3) := by decide +kernel
theorem dM_add_31 : decode cM_add 31 = .ok (.iload_n 2, 1) := by decide +kernel
theorem dM_add_32 : decode cM_add 32 = .ok (.iconst 2, 1) := by decide +kernel
theorem dM_add_33 : decode cM_add 33 = .ok (.if_icmp .le 5, 3) := by decide +kernel
theorem dM_add_36 : decode cM_add 36 = .ok (.iconst (-1), 1) := by decide +kernel
theorem dM_add_37 : decode cM_add 37 = .ok (.ireturn, 1) := by decide +kernel
theorem dM_add_38 : decode cM_add 38 = .ok (.aload_n 0, 1) := by decide +kernel
theorem dM_add_39 : decode cM_add 39 = .ok (.getfield 7, 3) := by decide +kernel
theorem dM_add_42 : decode cM_add 42 = .ok (.aload_n 0, 1) := by decide +kernel
theorem dM_add_43 : decode cM_add 43 = .ok (.getfield 52, 3) := by decide +kernel
theorem dM_add_46 : decode cM_add 46 = .ok (.iload_n 1, 1) := by decide +kernel
theorem dM_add_47 : decode cM_add 47 = .ok (.iastore, 1) := by decide +kernel
theorem dM_add_48 : decode cM_add 48 = .ok (.aload_n 0, 1) := by decide +kernel
theorem dM_add_49 : decode cM_add 49 = .ok (.getfield 13, 3) := by decide +kernel
theorem dM_add_52 : decode cM_add 52 = .ok (.aload_n 0, 1) := by decide +kernel
theorem dM_add_53 : decode cM_add 53 = .ok (.getfield 52, 3) := by decide +kernel
theorem dM_add_56 : decode cM_add 56 = .ok (.iload_n 2, 1) := by decide +kernel
theorem dM_add_57 : decode cM_add 57 = .ok (.iastore, 1) := by decide +kernel
theorem dM_add_58 : decode cM_add 58 = .ok (.aload_n 0, 1) := by decide +kernel
theorem dM_add_59 : decode cM_add 59 = .ok (.getfield 16, 3) := by decide +kernel
theorem dM_add_62 : decode cM_add 62 = .ok (.aload_n 0, 1) := by decide +kernel
theorem dM_add_63 : decode cM_add 63 = .ok (.getfield 52, 3) := by decide +kernel
theorem dM_add_66 : decode cM_add 66 = .ok (.iconst 0, 1) := by decide +kernel
theorem dM_add_67 : decode cM_add 67 = .ok (.bastore, 1) := by decide +kernel
theorem dM_add_68 : decode cM_add 68 = .ok (.iconst 0, 1) := by decide +kernel
theorem dM_add_69 : decode cM_add 69 = .ok (.istore_n 3, 1) := by decide +kernel
theorem dM_add_70 : decode cM_add 70 = .ok (.iload_n 3, 1) := by decide +kernel
theorem dM_add_71 : decode cM_add 71 = .ok (.bipush 9, 2) := by decide +kernel
theorem dM_add_73 : decode cM_add 73 = .ok (.if_icmp .ge 35, 3) := by decide +kernel
theorem dM_add_76 : decode cM_add 76 = .ok (.aload_n 0, 1) := by decide +kernel
theorem dM_add_77 : decode cM_add 77 = .ok (.getfield 20, 3) := by decide +kernel
theorem dM_add_80 : decode cM_add 80 = .ok (.bipush 9, 2) := by decide +kernel
theorem dM_add_82 : decode cM_add 82 = .ok (.aload_n 0, 1) := by decide +kernel
theorem dM_add_83 : decode cM_add 83 = .ok (.getfield 52, 3) := by decide +kernel
theorem dM_add_86 : decode cM_add 86 = .ok (.imul, 1) := by decide +kernel
theorem dM_add_87 : decode cM_add 87 = .ok (.iload_n 3, 1) := by decide +kernel
theorem dM_add_88 : decode cM_add 88 = .ok (.iadd, 1) := by decide +kernel
theorem dM_add_89 : decode cM_add 89 = .ok (.iload_n 3, 1) := by decide +kernel
theorem dM_add_90 : decode cM_add 90 = .ok (.bipush 6, 2) := by decide +kernel
theorem dM_add_92 : decode cM_add 92 = .ok (.if_icmp .ge 7, 3) := by decide +kernel
theorem dM_add_95 : decode cM_add 95 = .ok (.iconst 0, 1) := by decide +kernel
theorem dM_add_96 : decode cM_add 96 = .ok (.goto 5, 3) := by decide +kernel
theorem dM_add_99 : decode cM_add 99 = .ok (.ldc 55, 2) := by decide +kernel
theorem dM_add_101 : decode cM_add 101 = .ok (.iastore, 1) := by decide +kernel
theorem dM_add_102 : decode cM_add 102 = .ok (.iinc 3 1, 3) := by decide +kernel
theorem dM_add_105 : decode cM_add 105 = .ok (.goto (-35), 3) := by decide +kernel
theorem dM_add_108 : decode cM_add 108 = .ok (.aload_n 0, 1) := by decide +kernel
theorem dM_add_109 : decode cM_add 109 = .ok (.dup, 1) := by decide +kernel
theorem dM_add_110 : decode cM_add 110 = .ok (.getfield 52, 3) := by decide +kernel
theorem dM_add_113 : decode cM_add 113 = .ok (.iconst 1, 1) := by decide +kernel
theorem dM_add_114 : decode cM_add 114 = .ok (.iadd, 1) := by decide +kernel
theorem dM_add_115 : decode cM_add 115 = .ok (.putfield 52, 3) := by decide +kernel
theorem dM_add_118 : decode cM_add 118 = .ok (.aload_n 0, 1) := by decide +kernel
theorem dM_add_119 : decode cM_add 119 = .ok (.getfield 52, 3) := by decide +kernel
theorem dM_add_122 : decode cM_add 122 = .ok (.iconst 1, 1) := by decide +kernel
theorem dM_add_123 : decode cM_add 123 = .ok (.isub, 1) := by decide +kernel
theorem dM_add_124 : decode cM_add 124 = .ok (.ireturn, 1) := by decide +kernel
theorem dM_clear_0 : decode cM_clear 0 = .ok (.aload_n 0, 1) := by decide +kernel
theorem dM_clear_1 : decode cM_clear 1 = .ok (.iconst 0, 1) := by decide +kernel
theorem dM_clear_2 : decode cM_clear 2 = .ok (.putfield 48, 3) := by decide +kernel
theorem dM_clear_5 : decode cM_clear 5 = .ok (.aload_n 0, 1) := by decide +kernel
theorem dM_clear_6 : decode cM_clear 6 = .ok (.iconst 0, 1) := by decide +kernel
theorem dM_clear_7 : decode cM_clear 7 = .ok (.putfield 52, 3) := by decide +kernel
theorem dM_clear_10 : decode cM_clear 10 = .ok (.return_, 1) := by decide +kernel
theorem dM_set_0 : decode cM_set 0 = .ok (.aload_n 0, 1) := by decide +kernel
theorem dM_set_1 : decode cM_set 1 = .ok (.iconst 0, 1) := by decide +kernel
theorem dM_set_2 : decode cM_set 2 = .ok (.putfield 48, 3) := by decide +kernel
theorem dM_set_5 : decode cM_set 5 = .ok (.aload_n 0, 1) := by decide +kernel
theorem dM_set_6 : decode cM_set 6 = .ok (.iload_n 1, 1) := by decide +kernel
theorem dM_set_7 : decode cM_set 7 = .ok (.invokevirtual 62, 3) := by decide +kernel
theorem dM_set_10 : decode cM_set 10 = .ok (.ifCond .eq 37, 3) := by decide +kernel
theorem dM_set_13 : decode cM_set 13 = .ok (.iload_n 2, 1) := by decide +kernel
theorem dM_set_14 : decode cM_set 14 = .ok (.ifCond .lt 33, 3) := by decide +kernel
theorem dM_set_17 : decode cM_set 17 = .ok (.iload_n 2, 1) := by decide +kernel
theorem dM_set_18 : decode cM_set 18 = .ok (.iconst 3, 1) := by decide +kernel
theorem dM_set_19 : decode cM_set 19 = .ok (.if_icmp .ge 28, 3) := by decide +kernel
theorem dM_set_22 : decode cM_set 22 = .ok (.aload_n 0, 1) := by decide +kernel
theorem dM_set_23 : decode cM_set 23 = .ok (.bipush 9, 2) := by decide +kernel
theorem dM_set_25 : decode cM_set 25 = .ok (.iload_n 1, 1) := by decide +kernel
theorem dM_set_26 : decode cM_set 26 = .ok (.imul, 1) := by decide +kernel
theorem dM_set_27 : decode cM_set 27 = .ok (.iconst 3, 1) := by decide +kernel
theorem dM_set_28 : decode cM_set 28 = .ok (.iload_n 2, 1) := by decide +kernel
theorem dM_set_29 : decode cM_set 29 = .ok (.imul, 1) := by decide +kernel
theorem dM_set_30 : decode cM_set 30 = .ok (.iadd, 1) := by decide +kernel
theorem dM_set_31 : decode cM_set 31 = .ok (.iload_n 2, 1) := by decide +kernel
theorem dM_set_32 : decode cM_set 32 = .ok (.iload_n 3, 1) := by decide +kernel
theorem dM_set_33 : decode cM_set 33 = .ok (.iload 4, 2) := by decide +kernel
theorem dM_set_35 : decode cM_set 35 = .ok (.iload 5, 2) := by decide +kernel
theorem dM_set_37 : decode cM_set 37 = .ok (.invokevirtual 66, 3) := by decide +kernel
theorem dM_set_40 : decode cM_set 40 = .ok (.ifCond .eq 7, 3) := by decide +kernel
theorem dM_set_43 : decode cM_set 43 = .ok (.iconst 1, 1) := by decide +kernel
theorem dM_set_44 : decode cM_set 44 = .ok (.goto 4, 3) := by decide +kernel
theorem dM_set_47 : decode cM_set 47 = .ok (.iconst 0, 1) := by decide +kernel
theorem dM_set_48 : decode cM_set 48 = .ok (.ireturn, 1) := by decide +kernel
theorem dM_isNode_0 : decode cM_isNode 0 = .ok (.iload_n 1, 1) := by decide +kernel
theorem dM_isNode_1 : decode cM_isNode 1 = .ok (.ifCond .lt 15, 3) := by decide +kernel
theorem dM_isNode_4 : decode cM_isNode 4 = .ok (.iload_n 1, 1) := by decide +kernel
theorem dM_isNode_5 : decode cM_isNode 5 = .ok (.aload_n 0, 1) := by decide +kernel
theorem dM_isNode_6 : decode cM_isNode 6 = .ok (.getfield 52, 3) := by decide +kernel
theorem dM_isNode_9 : decode cM_isNode 9 = .ok (.if_icmp .ge 7, 3) := by decide +kernel
theorem dM_isNode_12 : decode cM_isNode 12 = .ok (.iconst 1, 1) := by decide +kernel
theorem dM_isNode_13 : decode cM_isNode 13 = .ok (.goto 4, 3) := by decide +kernel
theorem dM_isNode_16 : decode cM_isNode 16 = .ok (.iconst 0, 1) := by decide +kernel
theorem dM_isNode_17 : decode cM_isNode 17 = .ok (.ireturn, 1) := by decide +kernel
theorem dM_lays_0 : decode cM_lays 0 = .ok (.iload_n 2, 1) := by decide +kernel
theorem dM_lays_1 : decode cM_lays 1 = .ok (.iload_n 3, 1) := by decide +kernel
theorem dM_lays_2 : decode cM_lays 2 = .ok (.invokestatic 58, 3) := by decide +kernel
theorem dM_lays_5 : decode cM_lays 5 = .ok (.ifCond .eq 21, 3) := by decide +kernel
theorem dM_lays_8 : decode cM_lays 8 = .ok (.iload_n 2, 1) := by decide +kernel
theorem dM_lays_9 : decode cM_lays 9 = .ok (.iload 4, 2) := by decide +kernel
theorem dM_lays_11 : decode cM_lays 11 = .ok (.invokestatic 58, 3) := by decide +kernel
theorem dM_lays_14 : decode cM_lays 14 = .ok (.ifCond .eq 12, 3) := by decide +kernel
theorem dM_lays_17 : decode cM_lays 17 = .ok (.iload_n 2, 1) := by decide +kernel
theorem dM_lays_18 : decode cM_lays 18 = .ok (.iload 5, 2) := by decide +kernel
theorem dM_lays_20 : decode cM_lays 20 = .ok (.invokestatic 58, 3) := by decide +kernel
theorem dM_lays_23 : decode cM_lays 23 = .ok (.ifCond .ne 5, 3) := by decide +kernel
theorem dM_lays_26 : decode cM_lays 26 = .ok (.iconst 0, 1) := by decide +kernel
theorem dM_lays_27 : decode cM_lays 27 = .ok (.ireturn, 1) := by decide +kernel
theorem dM_lays_28 : decode cM_lays 28 = .ok (.aload_n 0, 1) := by decide +kernel
theorem dM_lays_29 : decode cM_lays 29 = .ok (.getfield 20, 3) := by decide +kernel
theorem dM_lays_32 : decode cM_lays 32 = .ok (.iload_n 1, 1) := by decide +kernel
theorem dM_lays_33 : decode cM_lays 33 = .ok (.iload_n 3, 1) := by decide +kernel
theorem dM_lays_34 : decode cM_lays 34 = .ok (.iastore, 1) := by decide +kernel
theorem dM_lays_35 : decode cM_lays 35 = .ok (.aload_n 0, 1) := by decide +kernel
theorem dM_lays_36 : decode cM_lays 36 = .ok (.getfield 20, 3) := by decide +kernel
theorem dM_lays_39 : decode cM_lays 39 = .ok (.iload_n 1, 1) := by decide +kernel
theorem dM_lays_40 : decode cM_lays 40 = .ok (.iconst 1, 1) := by decide +kernel
theorem dM_lays_41 : decode cM_lays 41 = .ok (.iadd, 1) := by decide +kernel
theorem dM_lays_42 : decode cM_lays 42 = .ok (.iload 4, 2) := by decide +kernel
theorem dM_lays_44 : decode cM_lays 44 = .ok (.iastore, 1) := by decide +kernel
theorem dM_lays_45 : decode cM_lays 45 = .ok (.aload_n 0, 1) := by decide +kernel
theorem dM_lays_46 : decode cM_lays 46 = .ok (.getfield 20, 3) := by decide +kernel
theorem dM_lays_49 : decode cM_lays 49 = .ok (.iload_n 1, 1) := by decide +kernel
theorem dM_lays_50 : decode cM_lays 50 = .ok (.iconst 2, 1) := by decide +kernel
theorem dM_lays_51 : decode cM_lays 51 = .ok (.iadd, 1) := by decide +kernel
theorem dM_lays_52 : decode cM_lays 52 = .ok (.iload 5, 2) := by decide +kernel
theorem dM_lays_54 : decode cM_lays 54 = .ok (.iastore, 1) := by decide +kernel
theorem dM_lays_55 : decode cM_lays 55 = .ok (.iconst 1, 1) := by decide +kernel
theorem dM_lays_56 : decode cM_lays 56 = .ok (.ireturn, 1) := by decide +kernel
theorem dM_can_0 : decode cM_can 0 = .ok (.iload_n 0, 1) := by decide +kernel
theorem dM_can_1 : decode cM_can 1 = .ok (.ifCond .ne 8, 3) := by decide +kernel
theorem dM_can_4 : decode cM_can 4 = .ok (.ldc 56, 2) := by decide +kernel
theorem dM_can_6 : decode cM_can 6 = .ok (.goto 5, 3) := by decide +kernel
theorem dM_can_9 : decode cM_can 9 = .ok (.ldc 57, 2) := by decide +kernel
theorem dM_can_11 : decode cM_can 11 = .ok (.istore_n 2, 1) := by decide +kernel
theorem dM_can_12 : decode cM_can 12 = .ok (.iload_n 1, 1) := by decide +kernel
theorem dM_can_13 : decode cM_can 13 = .ok (.iload_n 2, 1) := by decide +kernel
theorem dM_can_14 : decode cM_can 14 = .ok (.ineg, 1) := by decide +kernel
theorem dM_can_15 : decode cM_can 15 = .ok (.if_icmp .lt 12, 3) := by decide +kernel
theorem dM_can_18 : decode cM_can 18 = .ok (.iload_n 1, 1) := by decide +kernel
theorem dM_can_19 : decode cM_can 19 = .ok (.iload_n 2, 1) := by decide +kernel
theorem dM_can_20 : decode cM_can 20 = .ok (.if_icmp .gt 7, 3) := by decide +kernel
theorem dM_can_23 : decode cM_can 23 = .ok (.iconst 1, 1) := by decide +kernel
theorem dM_can_24 : decode cM_can 24 = .ok (.goto 4, 3) := by decide +kernel
theorem dM_can_27 : decode cM_can 27 = .ok (.iconst 0, 1) := by decide +kernel
theorem dM_can_28 : decode cM_can 28 = .ok (.ireturn, 1) := by decide +kernel
theorem dM_hang_0 : decode cM_hang 0 = .ok (.aload_n 0, 1) := by decide +kernel
theorem dM_hang_1 : decode cM_hang 1 = .ok (.iconst 0, 1) := by decide +kernel
theorem dM_hang_2 : decode cM_hang 2 = .ok (.putfield 48, 3) := by decide +kernel
theorem dM_hang_5 : decode cM_hang 5 = .ok (.aload_n 0, 1) := by decide +kernel
theorem dM_hang_6 : decode cM_hang 6 = .ok (.iload_n 1, 1) := by decide +kernel
