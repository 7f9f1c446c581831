theorem dX0_faultOfValve_0 : decode cX0_faultOfValve 0 = .ok (.iload_n 1, 1) := by decide +kernel
theorem dX0_faultOfValve_1 : decode cX0_faultOfValve 1 = .ok (.iconst 0, 1) := by decide +kernel
theorem dX0_faultOfValve_2 : decode cX0_faultOfValve 2 = .ok (.iconst 4, 1) := by decide +kernel
theorem dX0_faultOfValve_3 : decode cX0_faultOfValve 3 = .ok (.invokestatic 9, 3) := by decide +kernel
theorem dX0_faultOfValve_6 : decode cX0_faultOfValve 6 = .ok (.ifCond .eq 14, 3) := by decide +kernel
theorem dX0_faultOfValve_9 : decode cX0_faultOfValve 9 = .ok (.iload_n 2, 1) := by decide +kernel
theorem dX0_faultOfValve_10 : decode cX0_faultOfValve 10 = .ok (.bipush 10, 2) := by decide +kernel
theorem dX0_faultOfValve_12 : decode cX0_faultOfValve 12 = .ok (.bipush 99, 2) := by decide +kernel
theorem dX0_faultOfValve_14 : decode cX0_faultOfValve 14 = .ok (.invokestatic 9, 3) := by decide +kernel
theorem dX0_faultOfValve_17 : decode cX0_faultOfValve 17 = .ok (.ifCond .ne 5, 3) := by decide +kernel
theorem dX0_faultOfValve_20 : decode cX0_faultOfValve 20 = .ok (.iconst 2, 1) := by decide +kernel
theorem dX0_faultOfValve_21 : decode cX0_faultOfValve 21 = .ok (.ireturn, 1) := by decide +kernel
theorem dX0_faultOfValve_22 : decode cX0_faultOfValve 22 = .ok (.aload_n 0, 1) := by decide +kernel
theorem dX0_faultOfValve_23 : decode cX0_faultOfValve 23 = .ok (.getfield 13, 3) := by decide +kernel
theorem dX0_faultOfValve_26 : decode cX0_faultOfValve 26 = .ok (.bipush 10, 2) := by decide +kernel
theorem dX0_faultOfValve_28 : decode cX0_faultOfValve 28 = .ok (.if_icmp .ge 7, 3) := by decide +kernel
theorem dX0_faultOfValve_31 : decode cX0_faultOfValve 31 = .ok (.iconst 0, 1) := by decide +kernel
theorem dX0_faultOfValve_32 : decode cX0_faultOfValve 32 = .ok (.goto 4, 3) := by decide +kernel
theorem dX0_faultOfValve_35 : decode cX0_faultOfValve 35 = .ok (.iconst 3, 1) := by decide +kernel
theorem dX0_faultOfValve_36 : decode cX0_faultOfValve 36 = .ok (.ireturn, 1) := by decide +kernel
theorem dX0_tryValve_0 : decode cX0_tryValve 0 = .ok (.aload_n 0, 1) := by decide +kernel
theorem dX0_tryValve_1 : decode cX0_tryValve 1 = .ok (.iload_n 1, 1) := by decide +kernel
theorem dX0_tryValve_2 : decode cX0_tryValve 2 = .ok (.iload_n 2, 1) := by decide +kernel
theorem dX0_tryValve_3 : decode cX0_tryValve 3 = .ok (.invokestatic 19, 3) := by decide +kernel
theorem dX0_tryValve_6 : decode cX0_tryValve 6 = .ok (.ifCond .eq 5, 3) := by decide +kernel
theorem dX0_tryValve_9 : decode cX0_tryValve 9 = .ok (.iconst 0, 1) := by decide +kernel
theorem dX0_tryValve_10 : decode cX0_tryValve 10 = .ok (.ireturn, 1) := by decide +kernel
theorem dX0_tryValve_11 : decode cX0_tryValve 11 = .ok (.aload_n 0, 1) := by decide +kernel
theorem dX0_tryValve_12 : decode cX0_tryValve 12 = .ok (.iload_n 1, 1) := by decide +kernel
theorem dX0_tryValve_13 : decode cX0_tryValve 13 = .ok (.iload_n 2, 1) := by decide +kernel
theorem dX0_tryValve_14 : decode cX0_tryValve 14 = .ok (.invokevirtual 25, 3) := by decide +kernel
theorem dX0_tryValve_17 : decode cX0_tryValve 17 = .ok (.iconst 1, 1) := by decide +kernel
theorem dX0_tryValve_18 : decode cX0_tryValve 18 = .ok (.ireturn, 1) := by decide +kernel
theorem dX0_faultOfDuct_0 : decode cX0_faultOfDuct 0 = .ok (.aload_n 0, 1) := by decide +kernel
theorem dX0_faultOfDuct_1 : decode cX0_faultOfDuct 1 = .ok (.iload_n 1, 1) := by decide +kernel
theorem dX0_faultOfDuct_2 : decode cX0_faultOfDuct 2 = .ok (.iload_n 2, 1) := by decide +kernel
theorem dX0_faultOfDuct_3 : decode cX0_faultOfDuct 3 = .ok (.invokevirtual 29, 3) := by decide +kernel
theorem dX0_faultOfDuct_6 : decode cX0_faultOfDuct 6 = .ok (.ifCond .eq 13, 3) := by decide +kernel
theorem dX0_faultOfDuct_9 : decode cX0_faultOfDuct 9 = .ok (.aload_n 0, 1) := by decide +kernel
theorem dX0_faultOfDuct_10 : decode cX0_faultOfDuct 10 = .ok (.iload_n 3, 1) := by decide +kernel
theorem dX0_faultOfDuct_11 : decode cX0_faultOfDuct 11 = .ok (.iload 4, 2) := by decide +kernel
theorem dX0_faultOfDuct_13 : decode cX0_faultOfDuct 13 = .ok (.invokevirtual 29, 3) := by decide +kernel
theorem dX0_faultOfDuct_16 : decode cX0_faultOfDuct 16 = .ok (.ifCond .ne 5, 3) := by decide +kernel
theorem dX0_faultOfDuct_19 : decode cX0_faultOfDuct 19 = .ok (.iconst 1, 1) := by decide +kernel
theorem dX0_faultOfDuct_20 : decode cX0_faultOfDuct 20 = .ok (.ireturn, 1) := by decide +kernel
theorem dX0_faultOfDuct_21 : decode cX0_faultOfDuct 21 = .ok (.iload 5, 2) := by decide +kernel
theorem dX0_faultOfDuct_23 : decode cX0_faultOfDuct 23 = .ok (.iconst 1, 1) := by decide +kernel
theorem dX0_faultOfDuct_24 : decode cX0_faultOfDuct 24 = .ok (.bipush 6, 2) := by decide +kernel
theorem dX0_faultOfDuct_26 : decode cX0_faultOfDuct 26 = .ok (.invokestatic 9, 3) := by decide +kernel
theorem dX0_faultOfDuct_29 : decode cX0_faultOfDuct 29 = .ok (.ifCond .ne 5, 3) := by decide +kernel
theorem dX0_faultOfDuct_32 : decode cX0_faultOfDuct 32 = .ok (.iconst 2, 1) := by decide +kernel
theorem dX0_faultOfDuct_33 : decode cX0_faultOfDuct 33 = .ok (.ireturn, 1) := by decide +kernel
theorem dX0_faultOfDuct_34 : decode cX0_faultOfDuct 34 = .ok (.aload_n 0, 1) := by decide +kernel
theorem dX0_faultOfDuct_35 : decode cX0_faultOfDuct 35 = .ok (.getfield 33, 3) := by decide +kernel
theorem dX0_faultOfDuct_38 : decode cX0_faultOfDuct 38 = .ok (.bipush 16, 2) := by decide +kernel
theorem dX0_faultOfDuct_40 : decode cX0_faultOfDuct 40 = .ok (.if_icmp .ge 7, 3) := by decide +kernel
theorem dX0_faultOfDuct_43 : decode cX0_faultOfDuct 43 = .ok (.iconst 0, 1) := by decide +kernel
theorem dX0_faultOfDuct_44 : decode cX0_faultOfDuct 44 = .ok (.goto 4, 3) := by decide +kernel
theorem dX0_faultOfDuct_47 : decode cX0_faultOfDuct 47 = .ok (.iconst 3, 1) := by decide +kernel
theorem dX0_faultOfDuct_48 : decode cX0_faultOfDuct 48 = .ok (.ireturn, 1) := by decide +kernel
theorem dX0_tryDuct_0 : decode cX0_tryDuct 0 = .ok (.aload_n 0, 1) := by decide +kernel
theorem dX0_tryDuct_1 : decode cX0_tryDuct 1 = .ok (.iload_n 1, 1) := by decide +kernel
theorem dX0_tryDuct_2 : decode cX0_tryDuct 2 = .ok (.iload_n 2, 1) := by decide +kernel
theorem dX0_tryDuct_3 : decode cX0_tryDuct 3 = .ok (.iload_n 3, 1) := by decide +kernel
theorem dX0_tryDuct_4 : decode cX0_tryDuct 4 = .ok (.iload 4, 2) := by decide +kernel
theorem dX0_tryDuct_6 : decode cX0_tryDuct 6 = .ok (.iload 5, 2) := by decide +kernel
theorem dX0_tryDuct_8 : decode cX0_tryDuct 8 = .ok (.invokestatic 36, 3) := by decide +kernel
theorem dX0_tryDuct_11 : decode cX0_tryDuct 11 = .ok (.ifCond .eq 5, 3) := by decide +kernel
theorem dX0_tryDuct_14 : decode cX0_tryDuct 14 = .ok (.iconst 0, 1) := by decide +kernel
theorem dX0_tryDuct_15 : decode cX0_tryDuct 15 = .ok (.ireturn, 1) := by decide +kernel
theorem dX0_tryDuct_16 : decode cX0_tryDuct 16 = .ok (.aload_n 0, 1) := by decide +kernel
theorem dX0_tryDuct_17 : decode cX0_tryDuct 17 = .ok (.iload_n 1, 1) := by decide +kernel
theorem dX0_tryDuct_18 : decode cX0_tryDuct 18 = .ok (.iload_n 2, 1) := by decide +kernel
theorem dX0_tryDuct_19 : decode cX0_tryDuct 19 = .ok (.invokestatic 40, 3) := by decide +kernel
theorem dX0_tryDuct_22 : decode cX0_tryDuct 22 = .ok (.iload_n 3, 1) := by decide +kernel
theorem dX0_tryDuct_23 : decode cX0_tryDuct 23 = .ok (.iload 4, 2) := by decide +kernel
theorem dX0_tryDuct_25 : decode cX0_tryDuct 25 = .ok (.invokestatic 40, 3) := by decide +kernel
theorem dX0_tryDuct_28 : decode cX0_tryDuct 28 = .ok (.iload 5, 2) := by decide +kernel
theorem dX0_tryDuct_30 : decode cX0_tryDuct 30 = .ok (.invokevirtual 44, 3) := by decide +kernel
theorem dX0_tryDuct_33 : decode cX0_tryDuct 33 = .ok (.iconst 1, 1) := by decide +kernel
theorem dX0_tryDuct_34 : decode cX0_tryDuct 34 = .ok (.ireturn, 1) := by decide +kernel
theorem dX0_faultOfRemove_0 : decode cX0_faultOfRemove 0 = .ok (.aload_n 0, 1) := by decide +kernel
theorem dX0_faultOfRemove_1 : decode cX0_faultOfRemove 1 = .ok (.iload_n 1, 1) := by decide +kernel
theorem dX0_faultOfRemove_2 : decode cX0_faultOfRemove 2 = .ok (.invokevirtual 48, 3) := by decide +kernel
theorem dX0_faultOfRemove_5 : decode cX0_faultOfRemove 5 = .ok (.ifCond .eq 7, 3) := by decide +kernel
theorem dX0_faultOfRemove_8 : decode cX0_faultOfRemove 8 = .ok (.iconst 0, 1) := by decide +kernel
theorem dX0_faultOfRemove_9 : decode cX0_faultOfRemove 9 = .ok (.goto 4, 3) := by decide +kernel
theorem dX0_faultOfRemove_12 : decode cX0_faultOfRemove 12 = .ok (.iconst 1, 1) := by decide +kernel
theorem dX0_faultOfRemove_13 : decode cX0_faultOfRemove 13 = .ok (.ireturn, 1) := by decide +kernel
theorem dX0_tryRemove_0 : decode cX0_tryRemove 0 = .ok (.aload_n 0, 1) := by decide +kernel
theorem dX0_tryRemove_1 : decode cX0_tryRemove 1 = .ok (.iload_n 1, 1) := by decide +kernel
theorem dX0_tryRemove_2 : decode cX0_tryRemove 2 = .ok (.invokestatic 52, 3) := by decide +kernel
theorem dX0_tryRemove_5 : decode cX0_tryRemove 5 = .ok (.ifCond .eq 5, 3) := by decide +kernel
theorem dX0_tryRemove_8 : decode cX0_tryRemove 8 = .ok (.iconst 0, 1) := by decide +kernel
theorem dX0_tryRemove_9 : decode cX0_tryRemove 9 = .ok (.ireturn, 1) := by decide +kernel
theorem dX0_tryRemove_10 : decode cX0_tryRemove 10 = .ok (.aload_n 0, 1) := by decide +kernel
theorem dX0_tryRemove_11 : decode cX0_tryRemove 11 = .ok (.iload_n 1, 1) := by decide +kernel
theorem dX0_tryRemove_12 : decode cX0_tryRemove 12 = .ok (.invokevirtual 56, 3) := by decide +kernel
theorem dX0_tryRemove_15 : decode cX0_tryRemove 15 = .ok (.iconst 1, 1) := by decide +kernel
theorem dX0_tryRemove_16 : decode cX0_tryRemove 16 = .ok (.ireturn, 1) := by decide +kernel
theorem dX0_faultOfPress_0 : decode cX0_faultOfPress 0 = .ok (.aload_n 0, 1) := by decide +kernel
theorem dX0_faultOfPress_1 : decode cX0_faultOfPress 1 = .ok (.iload_n 1, 1) := by decide +kernel
theorem dX0_faultOfPress_2 : decode cX0_faultOfPress 2 = .ok (.invokevirtual 60, 3) := by decide +kernel
theorem dX0_faultOfPress_5 : decode cX0_faultOfPress 5 = .ok (.ifCond .ne 5, 3) := by decide +kernel
theorem dX0_faultOfPress_8 : decode cX0_faultOfPress 8 = .ok (.iconst 1, 1) := by decide +kernel
theorem dX0_faultOfPress_9 : decode cX0_faultOfPress 9 = .ok (.ireturn, 1) := by decide +kernel
theorem dX0_faultOfPress_10 : decode cX0_faultOfPress 10 = .ok (.aload_n 0, 1) := by decide +kernel
theorem dX0_faultOfPress_11 : decode cX0_faultOfPress 11 = .ok (.getfield 63, 3) := by decide +kernel
theorem dX0_faultOfPress_14 : decode cX0_faultOfPress 14 = .ok (.iload_n 1, 1) := by decide +kernel
theorem dX0_faultOfPress_15 : decode cX0_faultOfPress 15 = .ok (.iaload, 1) := by decide +kernel
theorem dX0_faultOfPress_16 : decode cX0_faultOfPress 16 = .ok (.ifCond .ne 7, 3) := by decide +kernel
theorem dX0_faultOfPress_19 : decode cX0_faultOfPress 19 = .ok (.iconst 0, 1) := by decide +kernel
theorem dX0_faultOfPress_20 : decode cX0_faultOfPress 20 = .ok (.goto 4, 3) := by decide +kernel
theorem dX0_faultOfPress_23 : decode cX0_faultOfPress 23 = .ok (.iconst 3, 1) := by decide +kernel
theorem dX0_faultOfPress_24 : decode cX0_faultOfPress 24 = .ok (.ireturn, 1) := by decide +kernel
theorem dX0_tryPress_0 : decode cX0_tryPress 0 = .ok (.aload_n 0, 1) := by decide +kernel
theorem dX0_tryPress_1 : decode cX0_tryPress 1 = .ok (.iload_n 1, 1) := by decide +kernel
theorem dX0_tryPress_2 : decode cX0_tryPress 2 = .ok (.invokestatic 67, 3) := by decide +kernel
theorem dX0_tryPress_5 : decode cX0_tryPress 5 = .ok (.ifCond .eq 5, 3) := by decide +kernel
theorem dX0_tryPress_8 : decode cX0_tryPress 8 = .ok (.iconst 0, 1) := by decide +kernel
theorem dX0_tryPress_9 : decode cX0_tryPress 9 = .ok (.ireturn, 1) := by decide +kernel
theorem dX0_tryPress_10 : decode cX0_tryPress 10 = .ok (.aload_n 0, 1) := by decide +kernel
theorem dX0_tryPress_11 : decode cX0_tryPress 11 = .ok (.getfield 70, 3) := by decide +kernel
theorem dX0_tryPress_14 : decode cX0_tryPress 14 = .ok (.iload_n 1, 1) := by decide +kernel
theorem dX0_tryPress_15 : decode cX0_tryPress 15 = .ok (.iload_n 2, 1) := by decide +kernel
theorem dX0_tryPress_16 : decode cX0_tryPress 16 = .ok (.ifCond .eq 7, 3) := by decide +kernel
theorem dX0_tryPress_19 : decode cX0_tryPress 19 = .ok (.iconst 1, 1) := by decide +kernel
theorem dX0_tryPress_20 : decode cX0_tryPress 20 = .ok (.goto 4, 3) := by decide +kernel
theorem dX0_tryPress_23 : decode cX0_tryPress 23 = .ok (.iconst 0, 1) := by decide +kernel
theorem dX0_tryPress_24 : decode cX0_tryPress 24 = .ok (.iastore, 1) := by decide +kernel
theorem dX0_tryPress_25 : decode cX0_tryPress 25 = .ok (.iconst 1, 1) := by decide +kernel
theorem dX0_tryPress_26 : decode cX0_tryPress 26 = .ok (.ireturn, 1) := by decide +kernel
theorem dX0_faultOfLeak_0 : decode cX0_faultOfLeak 0 = .ok (.aload_n 0, 1) := by decide +kernel
theorem dX0_faultOfLeak_1 : decode cX0_faultOfLeak 1 = .ok (.iload_n 1, 1) := by decide +kernel
theorem dX0_faultOfLeak_2 : decode cX0_faultOfLeak 2 = .ok (.invokevirtual 48, 3) := by decide +kernel
theorem dX0_faultOfLeak_5 : decode cX0_faultOfLeak 5 = .ok (.ifCond .ne 5, 3) := by decide +kernel
theorem dX0_faultOfLeak_8 : decode cX0_faultOfLeak 8 = .ok (.iconst 1, 1) := by decide +kernel
theorem dX0_faultOfLeak_9 : decode cX0_faultOfLeak 9 = .ok (.ireturn, 1) := by decide +kernel
theorem dX0_faultOfLeak_10 : decode cX0_faultOfLeak 10 = .ok (.iload_n 2, 1) := by decide +kernel
theorem dX0_faultOfLeak_11 : decode cX0_faultOfLeak 11 = .ok (.iconst 0, 1) := by decide +kernel
theorem dX0_faultOfLeak_12 : decode cX0_faultOfLeak 12 = .ok (.bipush 30, 2) := by decide +kernel
theorem dX0_faultOfLeak_14 : decode cX0_faultOfLeak 14 = .ok (.invokestatic 9, 3) := by decide +kernel
theorem dX0_faultOfLeak_17 : decode cX0_faultOfLeak 17 = .ok (.ifCond .eq 7, 3) := by decide +kernel
theorem dX0_faultOfLeak_20 : decode cX0_faultOfLeak 20 = .ok (.iconst 0, 1) := by decide +kernel
theorem dX0_faultOfLeak_21 : decode cX0_faultOfLeak 21 = .ok (.goto 4, 3) := by decide +kernel
theorem dX0_faultOfLeak_24 : decode cX0_faultOfLeak 24 = .ok (.iconst 2, 1) := by decide +kernel
theorem dX0_faultOfLeak_25 : decode cX0_faultOfLeak 25 = .ok (.ireturn, 1) := by decide +kernel
theorem dX0_tryLeak_0 : decode cX0_tryLeak 0 = .ok (.aload_n 0, 1) := by decide +kernel
theorem dX0_tryLeak_1 : decode cX0_tryLeak 1 = .ok (.iload_n 1, 1) := by decide +kernel
theorem dX0_tryLeak_2 : decode cX0_tryLeak 2 = .ok (.iload_n 2, 1) := by decide +kernel
theorem dX0_tryLeak_3 : decode cX0_tryLeak 3 = .ok (.invokestatic 73, 3) := by decide +kernel
theorem dX0_tryLeak_6 : decode cX0_tryLeak 6 = .ok (.ifCond .eq 5, 3) := by decide +kernel
theorem dX0_tryLeak_9 : decode cX0_tryLeak 9 = .ok (.iconst 0, 1) := by decide +kernel
theorem dX0_tryLeak_10 : decode cX0_tryLeak 10 = .ok (.ireturn, 1) := by decide +kernel
theorem dX0_tryLeak_11 : decode cX0_tryLeak 11 = .ok (.aload_n 0, 1) := by decide +kernel
theorem dX0_tryLeak_12 : decode cX0_tryLeak 12 = .ok (.getfield 76, 3) := by decide +kernel
theorem dX0_tryLeak_15 : decode cX0_tryLeak 15 = .ok (.iload_n 1, 1) := by decide +kernel
theorem dX0_tryLeak_16 : decode cX0_tryLeak 16 = .ok (.iload_n 2, 1) := by decide +kernel
theorem dX0_tryLeak_17 : decode cX0_tryLeak 17 = .ok (.iastore, 1) := by decide +kernel
theorem dX0_tryLeak_18 : decode cX0_tryLeak 18 = .ok (.iconst 1, 1) := by decide +kernel
theorem dX0_tryLeak_19 : decode cX0_tryLeak 19 = .ok (.ireturn, 1) := by decide +kernel
theorem dX0_faultOfFeed_0 : decode cX0_faultOfFeed 0 = .ok (.aload_n 0, 1) := by decide +kernel
theorem dX0_faultOfFeed_1 : decode cX0_faultOfFeed 1 = .ok (.iload_n 1, 1) := by decide +kernel
theorem dX0_faultOfFeed_2 : decode cX0_faultOfFeed 2 = .ok (.invokevirtual 60, 3) := by decide +kernel
theorem dX0_faultOfFeed_5 : decode cX0_faultOfFeed 5 = .ok (.ifCond .ne 5, 3) := by decide +kernel
theorem dX0_faultOfFeed_8 : decode cX0_faultOfFeed 8 = .ok (.iconst 1, 1) := by decide +kernel
theorem dX0_faultOfFeed_9 : decode cX0_faultOfFeed 9 = .ok (.ireturn, 1) := by decide +kernel
theorem dX0_faultOfFeed_10 : decode cX0_faultOfFeed 10 = .ok (.iload_n 2, 1) := by decide +kernel
theorem dX0_faultOfFeed_11 : decode cX0_faultOfFeed 11 = .ok (.bipush 10, 2) := by decide +kernel
theorem dX0_faultOfFeed_13 : decode cX0_faultOfFeed 13 = .ok (.bipush 99, 2) := by decide +kernel
theorem dX0_faultOfFeed_15 : decode cX0_faultOfFeed 15 = .ok (.invokestatic 9, 3) := by decide +kernel
theorem dX0_faultOfFeed_18 : decode cX0_faultOfFeed 18 = .ok (.ifCond .eq 7, 3) := by decide +kernel
theorem dX0_faultOfFeed_21 : decode cX0_faultOfFeed 21 = .ok (.iconst 0, 1) := by decide +kernel
theorem dX0_faultOfFeed_22 : decode cX0_faultOfFeed 22 = .ok (.goto 4, 3) := by decide +kernel
theorem dX0_faultOfFeed_25 : decode cX0_faultOfFeed 25 = .ok (.iconst 2, 1) := by decide +kernel
theorem dX0_faultOfFeed_26 : decode cX0_faultOfFeed 26 = .ok (.ireturn, 1) := by decide +kernel
theorem dX0_tryFeed_0 : decode cX0_tryFeed 0 = .ok (.aload_n 0, 1) := by decide +kernel
theorem dX0_tryFeed_1 : decode cX0_tryFeed 1 = .ok (.iload_n 1, 1) := by decide +kernel
theorem dX0_tryFeed_2 : decode cX0_tryFeed 2 = .ok (.iload_n 2, 1) := by decide +kernel
theorem dX0_tryFeed_3 : decode cX0_tryFeed 3 = .ok (.invokestatic 79, 3) := by decide +kernel
theorem dX0_tryFeed_6 : decode cX0_tryFeed 6 = .ok (.ifCond .eq 5, 3) := by decide +kernel
theorem dX0_tryFeed_9 : decode cX0_tryFeed 9 = .ok (.iconst 0, 1) := by decide +kernel
theorem dX0_tryFeed_10 : decode cX0_tryFeed 10 = .ok (.ireturn, 1) := by decide +kernel
theorem dX0_tryFeed_11 : decode cX0_tryFeed 11 = .ok (.aload_n 0, 1) := by decide +kernel
theorem dX0_tryFeed_12 : decode cX0_tryFeed 12 = .ok (.getfield 82, 3) := by decide +kernel
theorem dX0_tryFeed_15 : decode cX0_tryFeed 15 = .ok (.iload_n 1, 1) := by decide +kernel
theorem dX0_tryFeed_16 : decode cX0_tryFeed 16 = .ok (.iload_n 2, 1) := by decide +kernel
theorem dX0_tryFeed_17 : decode cX0_tryFeed 17 = .ok (.iastore, 1) := by decide +kernel
theorem dX0_tryFeed_18 : decode cX0_tryFeed 18 = .ok (.iconst 1, 1) := by decide +kernel
theorem dX0_tryFeed_19 : decode cX0_tryFeed 19 = .ok (.ireturn, 1) := by decide +kernel
theorem dX0_faultOfSet_0 : decode cX0_faultOfSet 0 = .ok (.iload_n 0, 1) := by decide +kernel
theorem dX0_faultOfSet_1 : decode cX0_faultOfSet 1 = .ok (.ifCond .ne 13, 3) := by decide +kernel
theorem dX0_faultOfSet_4 : decode cX0_faultOfSet 4 = .ok (.iload_n 1, 1) := by decide +kernel
theorem dX0_faultOfSet_5 : decode cX0_faultOfSet 5 = .ok (.iconst 0, 1) := by decide +kernel
theorem dX0_faultOfSet_6 : decode cX0_faultOfSet 6 = .ok (.bipush 9, 2) := by decide +kernel
theorem dX0_faultOfSet_8 : decode cX0_faultOfSet 8 = .ok (.invokestatic 9, 3) := by decide +kernel
theorem dX0_faultOfSet_11 : decode cX0_faultOfSet 11 = .ok (.ifCond .ne 18, 3) := by decide +kernel
theorem dX0_faultOfSet_14 : decode cX0_faultOfSet 14 = .ok (.iload_n 0, 1) := by decide +kernel
theorem dX0_faultOfSet_15 : decode cX0_faultOfSet 15 = .ok (.iconst 1, 1) := by decide +kernel
theorem dX0_faultOfSet_16 : decode cX0_faultOfSet 16 = .ok (.if_icmp .ne 17, 3) := by decide +kernel
theorem dX0_faultOfSet_19 : decode cX0_faultOfSet 19 = .ok (.iload_n 1, 1) := by decide +kernel
theorem dX0_faultOfSet_20 : decode cX0_faultOfSet 20 = .ok (.iconst 5, 1) := by decide +kernel
theorem dX0_faultOfSet_21 : decode cX0_faultOfSet 21 = .ok (.bipush 90, 2) := by decide +kernel
theorem dX0_faultOfSet_23 : decode cX0_faultOfSet 23 = .ok (.invokestatic 9, 3) := by decide +kernel
theorem dX0_faultOfSet_26 : decode cX0_faultOfSet 26 = .ok (.ifCond .eq 7, 3) := by decide +kernel
theorem dX0_faultOfSet_29 : decode cX0_faultOfSet 29 = .ok (.iconst 1, 1) := by decide +kernel
theorem dX0_faultOfSet_30 : decode cX0_faultOfSet 30 = .ok (.goto 4, 3) := by decide +kernel
theorem dX0_faultOfSet_33 : decode cX0_faultOfSet 33 = .ok (.iconst 0, 1) := by decide +kernel
theorem dX0_faultOfSet_34 : decode cX0_faultOfSet 34 = .ok (.istore_n 2, 1) := by decide +kernel
theorem dX0_faultOfSet_35 : decode cX0_faultOfSet 35 = .ok (.iload_n 2, 1) := by decide +kernel
theorem dX0_faultOfSet_36 : decode cX0_faultOfSet 36 = .ok (.ifCond .eq 7, 3) := by decide +kernel
theorem dX0_faultOfSet_39 : decode cX0_faultOfSet 39 = .ok (.iconst 0, 1) := by decide +kernel
theorem dX0_faultOfSet_40 : decode cX0_faultOfSet 40 = .ok (.goto 4, 3) := by decide +kernel
theorem dX0_faultOfSet_43 : decode cX0_faultOfSet 43 = .ok (.iconst 2, 1) := by decide +kernel
theorem dX0_faultOfSet_44 : decode cX0_faultOfSet 44 = .ok (.ireturn, 1) := by decide +kernel
theorem dX0_trySet_0 : decode cX0_trySet 0 = .ok (.iload_n 1, 1) := by decide +kernel
theorem dX0_trySet_1 : decode cX0_trySet 1 = .ok (.iload_n 2, 1) := by decide +kernel
theorem dX0_trySet_2 : decode cX0_trySet 2 = .ok (.invokestatic 85, 3) := by decide +kernel
theorem dX0_trySet_5 : decode cX0_trySet 5 = .ok (.ifCond .eq 5, 3) := by decide +kernel
theorem dX0_trySet_8 : decode cX0_trySet 8 = .ok (.iconst 0, 1) := by decide +kernel
theorem dX0_trySet_9 : decode cX0_trySet 9 = .ok (.ireturn, 1) := by decide +kernel
theorem dX0_trySet_10 : decode cX0_trySet 10 = .ok (.aload_n 0, 1) := by decide +kernel
theorem dX0_trySet_11 : decode cX0_trySet 11 = .ok (.getfield 88, 3) := by decide +kernel
theorem dX0_trySet_14 : decode cX0_trySet 14 = .ok (.iload_n 1, 1) := by decide +kernel
theorem dX0_trySet_15 : decode cX0_trySet 15 = .ok (.iload_n 2, 1) := by decide +kernel
theorem dX0_trySet_16 : decode cX0_trySet 16 = .ok (.iastore, 1) := by decide +kernel
theorem dX0_trySet_17 : decode cX0_trySet 17 = .ok (.iconst 1, 1) := by decide +kernel
theorem dX0_trySet_18 : decode cX0_trySet 18 = .ok (.ireturn, 1) := by decide +kernel
theorem dX0_faultOfTicks_0 : decode cX0_faultOfTicks 0 = .ok (.iload_n 0, 1) := by decide +kernel
theorem dX0_faultOfTicks_1 : decode cX0_faultOfTicks 1 = .ok (.iconst 1, 1) := by decide +kernel
theorem dX0_faultOfTicks_2 : decode cX0_faultOfTicks 2 = .ok (.bipush 99, 2) := by decide +kernel
theorem dX0_faultOfTicks_4 : decode cX0_faultOfTicks 4 = .ok (.invokestatic 9, 3) := by decide +kernel
theorem dX0_faultOfTicks_7 : decode cX0_faultOfTicks 7 = .ok (.ifCond .eq 7, 3) := by decide +kernel
theorem dX0_faultOfTicks_10 : decode cX0_faultOfTicks 10 = .ok (.iconst 0, 1) := by decide +kernel
theorem dX0_faultOfTicks_11 : decode cX0_faultOfTicks 11 = .ok (.goto 4, 3) := by decide +kernel
theorem dX0_faultOfTicks_14 : decode cX0_faultOfTicks 14 = .ok (.iconst 2, 1) := by decide +kernel
theorem dX0_faultOfTicks_15 : decode cX0_faultOfTicks 15 = .ok (.ireturn, 1) := by decide +kernel
theorem dX0_tryTicks_0 : decode cX0_tryTicks 0 = .ok (.iload_n 1, 1) := by decide +kernel
theorem dX0_tryTicks_1 : decode cX0_tryTicks 1 = .ok (.invokestatic 91, 3) := by decide +kernel
theorem dX0_tryTicks_4 : decode cX0_tryTicks 4 = .ok (.ifCond .eq 5, 3) := by decide +kernel
theorem dX0_tryTicks_7 : decode cX0_tryTicks 7 = .ok (.iconst 0, 1) := by decide +kernel
theorem dX0_tryTicks_8 : decode cX0_tryTicks 8 = .ok (.ireturn, 1) := by decide +kernel
theorem dX0_tryTicks_9 : decode cX0_tryTicks 9 = .ok (.iconst 0, 1) := by decide +kernel
theorem dX0_tryTicks_10 : decode cX0_tryTicks 10 = .ok (.istore_n 2, 1) := by decide +kernel
theorem dX0_tryTicks_11 : decode cX0_tryTicks 11 = .ok (.iload_n 2, 1) := by decide +kernel
theorem dX0_tryTicks_12 : decode cX0_tryTicks 12 = .ok (.iload_n 1, 1) := by decide +kernel
theorem dX0_tryTicks_13 : decode cX0_tryTicks 13 = .ok (.if_icmp .ge 14, 3) := by decide +kernel
theorem dX0_tryTicks_16 : decode cX0_tryTicks 16 = .ok (.aload_n 0, 1) := by decide +kernel
theorem dX0_tryTicks_17 : decode cX0_tryTicks 17 = .ok (.invokevirtual 95, 3) := by decide +kernel
theorem dX0_tryTicks_20 : decode cX0_tryTicks 20 = .ok (.pop, 1) := by decide +kernel
theorem dX0_tryTicks_21 : decode cX0_tryTicks 21 = .ok (.iinc 2 1, 3) := by decide +kernel
theorem dX0_tryTicks_24 : decode cX0_tryTicks 24 = .ok (.goto (-13), 3) := by decide +kernel
theorem dX0_tryTicks_27 : decode cX0_tryTicks 27 = .ok (.iconst 1, 1) := by decide +kernel
theorem dX0_tryTicks_28 : decode cX0_tryTicks 28 = .ok (.ireturn, 1) := by decide +kernel
theorem dX1_init_0 : decode cX1_init 0 = .ok (.aload_n 0, 1) := by decide +kernel
theorem dX1_init_1 : decode cX1_init 1 = .ok (.invokespecial 3, 3) := by decide +kernel
theorem dX1_init_4 : decode cX1_init 4 = .ok (.aload_n 0, 1) := by decide +kernel
theorem dX1_init_5 : decode cX1_init 5 = .ok (.bipush 14, 2) := by decide +kernel
theorem dX1_init_7 : decode cX1_init 7 = .ok (.anewarray 9, 3) := by decide +kernel
theorem dX1_init_10 : decode cX1_init 10 = .ok (.putfield 11, 3) := by decide +kernel
theorem dX1_init_13 : decode cX1_init 13 = .ok (.iconst 0, 1) := by decide +kernel
theorem dX1_init_14 : decode cX1_init 14 = .ok (.istore_n 1, 1) := by decide +kernel
theorem dX1_init_15 : decode cX1_init 15 = .ok (.iload_n 1, 1) := by decide +kernel
theorem dX1_init_16 : decode cX1_init 16 = .ok (.bipush 14, 2) := by decide +kernel
theorem dX1_init_18 : decode cX1_init 18 = .ok (.if_icmp .ge 22, 3) := by decide +kernel
theorem dX1_init_21 : decode cX1_init 21 = .ok (.aload_n 0, 1) := by decide +kernel
theorem dX1_init_22 : decode cX1_init 22 = .ok (.getfield 11, 3) := by decide +kernel
theorem dX1_init_25 : decode cX1_init 25 = .ok (.iload_n 1, 1) := by decide +kernel
theorem dX1_init_26 : decode cX1_init 26 = .ok (.new 9, 3) := by decide +kernel
theorem dX1_init_29 : decode cX1_init 29 = .ok (.dup, 1) := by decide +kernel
theorem dX1_init_30 : decode cX1_init 30 = .ok (.invokespecial 17, 3) := by decide +kernel
theorem dX1_init_33 : decode cX1_init 33 = .ok (.aastore, 1) := by decide +kernel
theorem dX1_init_34 : decode cX1_init 34 = .ok (.iinc 1 1, 3) := by decide +kernel
theorem dX1_init_37 : decode cX1_init 37 = .ok (.goto (-22), 3) := by decide +kernel
theorem dX1_init_40 : decode cX1_init 40 = .ok (.return_, 1) := by decide +kernel
theorem dX1_keep_0 : decode cX1_keep 0 = .ok (.aload_n 0, 1) := by decide +kernel
theorem dX1_keep_1 : decode cX1_keep 1 = .ok (.getfield 11, 3) := by decide +kernel
theorem dX1_keep_4 : decode cX1_keep 4 = .ok (.aload_n 0, 1) := by decide +kernel
theorem dX1_keep_5 : decode cX1_keep 5 = .ok (.getfield 18, 3) := by decide +kernel
theorem dX1_keep_8 : decode cX1_keep 8 = .ok (.aload_n 0, 1) := by decide +kernel
theorem dX1_keep_9 : decode cX1_keep 9 = .ok (.getfield 22, 3) := by decide +kernel
theorem dX1_keep_12 : decode cX1_keep 12 = .ok (.iadd, 1) := by decide +kernel
theorem dX1_keep_13 : decode cX1_keep 13 = .ok (.bipush 14, 2) := by decide +kernel
theorem dX1_keep_15 : decode cX1_keep 15 = .ok (.irem, 1) := by decide +kernel
theorem dX1_keep_16 : decode cX1_keep 16 = .ok (.aaload, 1) := by decide +kernel
theorem dX1_keep_17 : decode cX1_keep 17 = .ok (.aload_n 1, 1) := by decide +kernel
theorem dX1_keep_18 : decode cX1_keep 18 = .ok (.invokevirtual 25, 3) := by decide +kernel
theorem dX1_keep_21 : decode cX1_keep 21 = .ok (.aload_n 0, 1) := by decide +kernel
theorem dX1_keep_22 : decode cX1_keep 22 = .ok (.getfield 22, 3) := by decide +kernel
theorem dX1_keep_25 : decode cX1_keep 25 = .ok (.bipush 14, 2) := by decide +kernel
theorem dX1_keep_27 : decode cX1_keep 27 = .ok (.if_icmp .ge 16, 3) := by decide +kernel
theorem dX1_keep_30 : decode cX1_keep 30 = .ok (.aload_n 0, 1) := by decide +kernel
theorem dX1_keep_31 : decode cX1_keep 31 = .ok (.dup, 1) := by decide +kernel
theorem dX1_keep_32 : decode cX1_keep 32 = .ok (.getfield 22, 3) := by decide +kernel
theorem dX1_keep_35 : decode cX1_keep 35 = .ok (.iconst 1, 1) := by decide +kernel
theorem dX1_keep_36 : decode cX1_keep 36 = .ok (.iadd, 1) := by decide +kernel
theorem dX1_keep_37 : decode cX1_keep 37 = .ok (.putfield 22, 3) := by decide +kernel
theorem dX1_keep_40 : decode cX1_keep 40 = .ok (.goto 16, 3) := by decide +kernel
theorem dX1_keep_43 : decode cX1_keep 43 = .ok (.aload_n 0, 1) := by decide +kernel
theorem dX1_keep_44 : decode cX1_keep 44 = .ok (.aload_n 0, 1) := by decide +kernel
theorem dX1_keep_45 : decode cX1_keep 45 = .ok (.getfield 18, 3) := by decide +kernel
theorem dX1_keep_48 : decode cX1_keep 48 = .ok (.iconst 1, 1) := by decide +kernel
theorem dX1_keep_49 : decode cX1_keep 49 = .ok (.iadd, 1) := by decide +kernel
theorem dX1_keep_50 : decode cX1_keep 50 = .ok (.bipush 14, 2) := by decide +kernel
theorem dX1_keep_52 : decode cX1_keep 52 = .ok (.irem, 1) := by decide +kernel
theorem dX1_keep_53 : decode cX1_keep 53 = .ok (.putfield 18, 3) := by decide +kernel
theorem dX1_keep_56 : decode cX1_keep 56 = .ok (.return_, 1) := by decide +kernel
theorem dX1_takeBack_0 : decode cX1_takeBack 0 = .ok (.aload_n 0, 1) := by decide +kernel
theorem dX1_takeBack_1 : decode cX1_takeBack 1 = .ok (.dup, 1) := by decide +kernel
theorem dX1_takeBack_2 : decode cX1_takeBack 2 = .ok (.getfield 22, 3) := by decide +kernel
theorem dX1_takeBack_5 : decode cX1_takeBack 5 = .ok (.iconst 1, 1) := by decide +kernel
theorem dX1_takeBack_6 : decode cX1_takeBack 6 = .ok (.isub, 1) := by decide +kernel
theorem dX1_takeBack_7 : decode cX1_takeBack 7 = .ok (.putfield 22, 3) := by decide +kernel
theorem dX1_takeBack_10 : decode cX1_takeBack 10 = .ok (.aload_n 1, 1) := by decide +kernel
theorem dX1_takeBack_11 : decode cX1_takeBack 11 = .ok (.aload_n 0, 1) := by decide +kernel
theorem dX1_takeBack_12 : decode cX1_takeBack 12 = .ok (.getfield 11, 3) := by decide +kernel
theorem dX1_takeBack_15 : decode cX1_takeBack 15 = .ok (.aload_n 0, 1) := by decide +kernel
theorem dX1_takeBack_16 : decode cX1_takeBack 16 = .ok (.getfield 18, 3) := by decide +kernel
theorem dX1_takeBack_19 : decode cX1_takeBack 19 = .ok (.aload_n 0, 1) := by decide +kernel
theorem dX1_takeBack_20 : decode cX1_takeBack 20 = .ok (.getfield 22, 3) := by decide +kernel
theorem dX1_takeBack_23 : decode cX1_takeBack 23 = .ok (.iadd, 1) := by decide +kernel
theorem dX1_takeBack_24 : decode cX1_takeBack 24 = .ok (.bipush 14, 2) := by decide +kernel
theorem dX1_takeBack_26 : decode cX1_takeBack 26 = .ok (.irem, 1) := by decide +kernel
theorem dX1_takeBack_27 : decode cX1_takeBack 27 = .ok (.aaload, 1) := by decide +kernel
theorem dX1_takeBack_28 : decode cX1_takeBack 28 = .ok (.invokevirtual 25, 3) := by decide +kernel
theorem dX1_takeBack_31 : decode cX1_takeBack 31 = .ok (.return_, 1) := by decide +kernel
theorem dX1_forgetAll_0 : decode cX1_forgetAll 0 = .ok (.aload_n 0, 1) := by decide +kernel
theorem dX1_forgetAll_1 : decode cX1_forgetAll 1 = .ok (.iconst 0, 1) := by decide +kernel
theorem dX1_forgetAll_2 : decode cX1_forgetAll 2 = .ok (.putfield 22, 3) := by decide +kernel
theorem dX1_forgetAll_5 : decode cX1_forgetAll 5 = .ok (.aload_n 0, 1) := by decide +kernel
theorem dX1_forgetAll_6 : decode cX1_forgetAll 6 = .ok (.iconst 0, 1) := by decide +kernel
theorem dX1_forgetAll_7 : decode cX1_forgetAll 7 = .ok (.putfield 18, 3) := by decide +kernel
theorem dX1_forgetAll_10 : decode cX1_forgetAll 10 = .ok (.return_, 1) := by decide +kernel
theorem dX2_init_0 : decode cX2_init 0 = .ok (.aload_n 0, 1) := by decide +kernel
theorem dX2_init_1 : decode cX2_init 1 = .ok (.invokespecial 3, 3) := by decide +kernel
theorem dX2_init_4 : decode cX2_init 4 = .ok (.aload_n 0, 1) := by decide +kernel
theorem dX2_init_5 : decode cX2_init 5 = .ok (.iconst 2, 1) := by decide +kernel
theorem dX2_init_6 : decode cX2_init 6 = .ok (.newarray .int, 2) := by decide +kernel
theorem dX2_init_8 : decode cX2_init 8 = .ok (.dup, 1) := by decide +kernel
theorem dX2_init_9 : decode cX2_init 9 = .ok (.iconst 0, 1) := by decide +kernel
theorem dX2_init_10 : decode cX2_init 10 = .ok (.iconst 2, 1) := by decide +kernel
theorem dX2_init_11 : decode cX2_init 11 = .ok (.iastore, 1) := by decide +kernel
theorem dX2_init_12 : decode cX2_init 12 = .ok (.dup, 1) := by decide +kernel
theorem dX2_init_13 : decode cX2_init 13 = .ok (.iconst 1, 1) := by decide +kernel
theorem dX2_init_14 : decode cX2_init 14 = .ok (.bipush 30, 2) := by decide +kernel
theorem dX2_init_16 : decode cX2_init 16 = .ok (.iastore, 1) := by decide +kernel
theorem dX2_init_17 : decode cX2_init 17 = .ok (.putfield 9, 3) := by decide +kernel
theorem dX2_init_20 : decode cX2_init 20 = .ok (.aload_n 0, 1) := by decide +kernel
theorem dX2_init_21 : decode cX2_init 21 = .ok (.bipush 10, 2) := by decide +kernel
theorem dX2_init_23 : decode cX2_init 23 = .ok (.newarray .int, 2) := by decide +kernel
theorem dX2_init_25 : decode cX2_init 25 = .ok (.putfield 15, 3) := by decide +kernel
theorem dX2_init_28 : decode cX2_init 28 = .ok (.aload_n 0, 1) := by decide +kernel
theorem dX2_init_29 : decode cX2_init 29 = .ok (.bipush 10, 2) := by decide +kernel
theorem dX2_init_31 : decode cX2_init 31 = .ok (.newarray .int, 2) := by decide +kernel
theorem dX2_init_33 : decode cX2_init 33 = .ok (.putfield 18, 3) := by decide +kernel
theorem dX2_init_36 : decode cX2_init 36 = .ok (.aload_n 0, 1) := by decide +kernel
theorem dX2_init_37 : decode cX2_init 37 = .ok (.bipush 10, 2) := by decide +kernel
theorem dX2_init_39 : decode cX2_init 39 = .ok (.newarray .int, 2) := by decide +kernel
theorem dX2_init_41 : decode cX2_init 41 = .ok (.putfield 21, 3) := by decide +kernel
theorem dX2_init_44 : decode cX2_init 44 = .ok (.aload_n 0, 1) := by decide +kernel
theorem dX2_init_45 : decode cX2_init 45 = .ok (.bipush 20, 2) := by decide +kernel
theorem dX2_init_47 : decode cX2_init 47 = .ok (.newarray .int, 2) := by decide +kernel
theorem dX2_init_49 : decode cX2_init 49 = .ok (.putfield 24, 3) := by decide +kernel
theorem dX2_init_52 : decode cX2_init 52 = .ok (.aload_n 0, 1) := by decide +kernel
theorem dX2_init_53 : decode cX2_init 53 = .ok (.bipush 20, 2) := by decide +kernel
theorem dX2_init_55 : decode cX2_init 55 = .ok (.newarray .int, 2) := by decide +kernel
theorem dX2_init_57 : decode cX2_init 57 = .ok (.putfield 27, 3) := by decide +kernel
theorem dX2_init_60 : decode cX2_init 60 = .ok (.aload_n 0, 1) := by decide +kernel
theorem dX2_init_61 : decode cX2_init 61 = .ok (.bipush 16, 2) := by decide +kernel
theorem dX2_init_63 : decode cX2_init 63 = .ok (.newarray .int, 2) := by decide +kernel
theorem dX2_init_65 : decode cX2_init 65 = .ok (.putfield 30, 3) := by decide +kernel
theorem dX2_init_68 : decode cX2_init 68 = .ok (.aload_n 0, 1) := by decide +kernel
theorem dX2_init_69 : decode cX2_init 69 = .ok (.bipush 16, 2) := by decide +kernel
theorem dX2_init_71 : decode cX2_init 71 = .ok (.newarray .int, 2) := by decide +kernel
theorem dX2_init_73 : decode cX2_init 73 = .ok (.putfield 33, 3) := by decide +kernel
theorem dX2_init_76 : decode cX2_init 76 = .ok (.aload_n 0, 1) := by decide +kernel
theorem dX2_init_77 : decode cX2_init 77 = .ok (.bipush 16, 2) := by decide +kernel
theorem dX2_init_79 : decode cX2_init 79 = .ok (.newarray .int, 2) := by decide +kernel
theorem dX2_init_81 : decode cX2_init 81 = .ok (.putfield 36, 3) := by decide +kernel
theorem dX2_init_84 : decode cX2_init 84 = .ok (.aload_n 0, 1) := by decide +kernel
theorem dX2_init_85 : decode cX2_init 85 = .ok (.bipush 16, 2) := by decide +kernel
theorem dX2_init_87 : decode cX2_init 87 = .ok (.newarray .int, 2) := by decide +kernel
theorem dX2_init_89 : decode cX2_init 89 = .ok (.putfield 39, 3) := by decide +kernel
theorem dX2_init_92 : decode cX2_init 92 = .ok (.aload_n 0, 1) := by decide +kernel
theorem dX2_init_93 : decode cX2_init 93 = .ok (.bipush 96, 2) := by decide +kernel
theorem dX2_init_95 : decode cX2_init 95 = .ok (.newarray .int, 2) := by decide +kernel
theorem dX2_init_97 : decode cX2_init 97 = .ok (.putfield 42, 3) := by decide +kernel
theorem dX2_init_100 : decode cX2_init 100 = .ok (.aload_n 0, 1) := by decide +kernel
theorem dX2_init_101 : decode cX2_init 101 = .ok (.bipush 20, 2) := by decide +kernel
theorem dX2_init_103 : decode cX2_init 103 = .ok (.newarray .int, 2) := by decide +kernel
theorem dX2_init_105 : decode cX2_init 105 = .ok (.putfield 45, 3) := by decide +kernel
theorem dX2_init_108 : decode cX2_init 108 = .ok (.return_, 1) := by decide +kernel
theorem dX2_startAnew_0 : decode cX2_startAnew 0 = .ok (.aload_n 0, 1) := by decide +kernel
theorem dX2_startAnew_1 : decode cX2_startAnew 1 = .ok (.iconst 0, 1) := by decide +kernel
theorem dX2_startAnew_2 : decode cX2_startAnew 2 = .ok (.putfield 48, 3) := by decide +kernel
theorem dX2_startAnew_5 : decode cX2_startAnew 5 = .ok (.aload_n 0, 1) := by decide +kernel
theorem dX2_startAnew_6 : decode cX2_startAnew 6 = .ok (.iconst 0, 1) := by decide +kernel
theorem dX2_startAnew_7 : decode cX2_startAnew 7 = .ok (.putfield 52, 3) := by decide +kernel
theorem dX2_startAnew_10 : decode cX2_startAnew 10 = .ok (.aload_n 0, 1) := by decide +kernel
theorem dX2_startAnew_11 : decode cX2_startAnew 11 = .ok (.iconst 0, 1) := by decide +kernel
theorem dX2_startAnew_12 : decode cX2_startAnew 12 = .ok (.putfield 55, 3) := by decide +kernel
theorem dX2_startAnew_15 : decode cX2_startAnew 15 = .ok (.aload_n 0, 1) := by decide +kernel
theorem dX2_startAnew_16 : decode cX2_startAnew 16 = .ok (.iconst 0, 1) := by decide +kernel
theorem dX2_startAnew_17 : decode cX2_startAnew 17 = .ok (.putfield 58, 3) := by decide +kernel
theorem dX2_startAnew_20 : decode cX2_startAnew 20 = .ok (.aload_n 0, 1) := by decide +kernel
theorem dX2_startAnew_21 : decode cX2_startAnew 21 = .ok (.getfield 9, 3) := by decide +kernel
theorem dX2_startAnew_24 : decode cX2_startAnew 24 = .ok (.iconst 0, 1) := by decide +kernel
theorem dX2_startAnew_25 : decode cX2_startAnew 25 = .ok (.iconst 2, 1) := by decide +kernel
theorem dX2_startAnew_26 : decode cX2_startAnew 26 = .ok (.iastore, 1) := by decide +kernel
theorem dX2_startAnew_27 : decode cX2_startAnew 27 = .ok (.aload_n 0, 1) := by decide +kernel
theorem dX2_startAnew_28 : decode cX2_startAnew 28 = .ok (.getfield 9, 3) := by decide +kernel
theorem dX2_startAnew_31 : decode cX2_startAnew 31 = .ok (.iconst 1, 1) := by decide +kernel
theorem dX2_startAnew_32 : decode cX2_startAnew 32 = .ok (.bipush 30, 2) := by decide +kernel
theorem dX2_startAnew_34 : decode cX2_startAnew 34 = .ok (.iastore, 1) := by decide +kernel
theorem dX2_startAnew_35 : decode cX2_startAnew 35 = .ok (.return_, 1) := by decide +kernel
theorem dX2_copyFrom_0 : decode cX2_copyFrom 0 = .ok (.aload_n 0, 1) := by decide +kernel
theorem dX2_copyFrom_1 : decode cX2_copyFrom 1 = .ok (.aload_n 1, 1) := by decide +kernel
theorem dX2_copyFrom_2 : decode cX2_copyFrom 2 = .ok (.getfield 48, 3) := by decide +kernel
theorem dX2_copyFrom_5 : decode cX2_copyFrom 5 = .ok (.putfield 48, 3) := by decide +kernel
theorem dX2_copyFrom_8 : decode cX2_copyFrom 8 = .ok (.aload_n 0, 1) := by decide +kernel
theorem dX2_copyFrom_9 : decode cX2_copyFrom 9 = .ok (.aload_n 1, 1) := by decide +kernel
theorem dX2_copyFrom_10 : decode cX2_copyFrom 10 = .ok (.getfield 52, 3) := by decide +kernel
theorem dX2_copyFrom_13 : decode cX2_copyFrom 13 = .ok (.putfield 52, 3) := by decide +kernel
theorem dX2_copyFrom_16 : decode cX2_copyFrom 16 = .ok (.aload_n 0, 1) := by decide +kernel
theorem dX2_copyFrom_17 : decode cX2_copyFrom 17 = .ok (.aload_n 1, 1) := by decide +kernel
theorem dX2_copyFrom_18 : decode cX2_copyFrom 18 = .ok (.getfield 55, 3) := by decide +kernel
theorem dX2_copyFrom_21 : decode cX2_copyFrom 21 = .ok (.putfield 55, 3) := by decide +kernel
theorem dX2_copyFrom_24 : decode cX2_copyFrom 24 = .ok (.aload_n 0, 1) := by decide +kernel
theorem dX2_copyFrom_25 : decode cX2_copyFrom 25 = .ok (.aload_n 1, 1) := by decide +kernel
theorem dX2_copyFrom_26 : decode cX2_copyFrom 26 = .ok (.getfield 58, 3) := by decide +kernel
theorem dX2_copyFrom_29 : decode cX2_copyFrom 29 = .ok (.putfield 58, 3) := by decide +kernel
theorem dX2_copyFrom_32 : decode cX2_copyFrom 32 = .ok (.aload_n 1, 1) := by decide +kernel
theorem dX2_copyFrom_33 : decode cX2_copyFrom 33 = .ok (.getfield 9, 3) := by decide +kernel
theorem dX2_copyFrom_36 : decode cX2_copyFrom 36 = .ok (.iconst 0, 1) := by decide +kernel
theorem dX2_copyFrom_37 : decode cX2_copyFrom 37 = .ok (.aload_n 0, 1) := by decide +kernel
theorem dX2_copyFrom_38 : decode cX2_copyFrom 38 = .ok (.getfield 9, 3) := by decide +kernel
theorem dX2_copyFrom_41 : decode cX2_copyFrom 41 = .ok (.iconst 0, 1) := by decide +kernel
theorem dX2_copyFrom_42 : decode cX2_copyFrom 42 = .ok (.aload_n 0, 1) := by decide +kernel
theorem dX2_copyFrom_43 : decode cX2_copyFrom 43 = .ok (.getfield 9, 3) := by decide +kernel
theorem dX2_copyFrom_46 : decode cX2_copyFrom 46 = .ok (.arraylength, 1) := by decide +kernel
theorem dX2_copyFrom_47 : decode cX2_copyFrom 47 = .ok (.invokestatic 61, 3) := by decide +kernel
theorem dX2_copyFrom_50 : decode cX2_copyFrom 50 = .ok (.aload_n 1, 1) := by decide +kernel
theorem dX2_copyFrom_51 : decode cX2_copyFrom 51 = .ok (.getfield 15, 3) := by decide +kernel
theorem dX2_copyFrom_54 : decode cX2_copyFrom 54 = .ok (.iconst 0, 1) := by decide +kernel
theorem dX2_copyFrom_55 : decode cX2_copyFrom 55 = .ok (.aload_n 0, 1) := by decide +kernel
theorem dX2_copyFrom_56 : decode cX2_copyFrom 56 = .ok (.getfield 15, 3) := by decide +kernel
theorem dX2_copyFrom_59 : decode cX2_copyFrom 59 = .ok (.iconst 0, 1) := by decide +kernel
theorem dX2_copyFrom_60 : decode cX2_copyFrom 60 = .ok (.bipush 10, 2) := by decide +kernel
theorem dX2_copyFrom_62 : decode cX2_copyFrom 62 = .ok (.invokestatic 61, 3) := by decide +kernel
theorem dX2_copyFrom_65 : decode cX2_copyFrom 65 = .ok (.aload_n 1, 1) := by decide +kernel
theorem dX2_copyFrom_66 : decode cX2_copyFrom 66 = .ok (.getfield 18, 3) := by decide +kernel
theorem dX2_copyFrom_69 : decode cX2_copyFrom 69 = .ok (.iconst 0, 1) := by decide +kernel
theorem dX2_copyFrom_70 : decode cX2_copyFrom 70 = .ok (.aload_n 0, 1) := by decide +kernel
theorem dX2_copyFrom_71 : decode cX2_copyFrom 71 = .ok (.getfield 18, 3) := by decide +kernel
theorem dX2_copyFrom_74 : decode cX2_copyFrom 74 = .ok (.iconst 0, 1) := by decide +kernel
theorem dX2_copyFrom_75 : decode cX2_copyFrom 75 = .ok (.bipush 10, 2) := by decide +kernel
theorem dX2_copyFrom_77 : decode cX2_copyFrom 77 = .ok (.invokestatic 61, 3) := by decide +kernel
theorem dX2_copyFrom_80 : decode cX2_copyFrom 80 = .ok (.aload_n 1, 1) := by decide +kernel
theorem dX2_copyFrom_81 : decode cX2_copyFrom 81 = .ok (.getfield 21, 3) := by decide +kernel
theorem dX2_copyFrom_84 : decode cX2_copyFrom 84 = .ok (.iconst 0, 1) := by decide +kernel
theorem dX2_copyFrom_85 : decode cX2_copyFrom 85 = .ok (.aload_n 0, 1) := by decide +kernel
theorem dX2_copyFrom_86 : decode cX2_copyFrom 86 = .ok (.getfield 21, 3) := by decide +kernel
theorem dX2_copyFrom_89 : decode cX2_copyFrom 89 = .ok (.iconst 0, 1) := by decide +kernel
theorem dX2_copyFrom_90 : decode cX2_copyFrom 90 = .ok (.bipush 10, 2) := by decide +kernel
theorem dX2_copyFrom_92 : decode cX2_copyFrom 92 = .ok (.invokestatic 61, 3) := by decide +kernel
theorem dX2_copyFrom_95 : decode cX2_copyFrom 95 = .ok (.aload_n 1, 1) := by decide +kernel
theorem dX2_copyFrom_96 : decode cX2_copyFrom 96 = .ok (.getfield 24, 3) := by decide +kernel
theorem dX2_copyFrom_99 : decode cX2_copyFrom 99 = .ok (.iconst 0, 1) := by decide +kernel
theorem dX2_copyFrom_100 : decode cX2_copyFrom 100 = .ok (.aload_n 0, 1) := by decide +kernel
theorem dX2_copyFrom_101 : decode cX2_copyFrom 101 = .ok (.getfield 24, 3) := by decide +kernel
theorem dX2_copyFrom_104 : decode cX2_copyFrom 104 = .ok (.iconst 0, 1) := by decide +kernel
theorem dX2_copyFrom_105 : decode cX2_copyFrom 105 = .ok (.bipush 20, 2) := by decide +kernel
theorem dX2_copyFrom_107 : decode cX2_copyFrom 107 = .ok (.invokestatic 61, 3) := by decide +kernel
theorem dX2_copyFrom_110 : decode cX2_copyFrom 110 = .ok (.aload_n 1, 1) := by decide +kernel
theorem dX2_copyFrom_111 : decode cX2_copyFrom 111 = .ok (.getfield 27, 3) := by decide +kernel
theorem dX2_copyFrom_114 : decode cX2_copyFrom 114 = .ok (.iconst 0, 1) := by decide +kernel
theorem dX2_copyFrom_115 : decode cX2_copyFrom 115 = .ok (.aload_n 0, 1) := by decide +kernel
theorem dX2_copyFrom_116 : decode cX2_copyFrom 116 = .ok (.getfield 27, 3) := by decide +kernel
theorem dX2_copyFrom_119 : decode cX2_copyFrom 119 = .ok (.iconst 0, 1) := by decide +kernel
theorem dX2_copyFrom_120 : decode cX2_copyFrom 120 = .ok (.bipush 20, 2) := by decide +kernel
theorem dX2_copyFrom_122 : decode cX2_copyFrom 122 = .ok (.invokestatic 61, 3) := by decide +kernel
theorem dX2_copyFrom_125 : decode cX2_copyFrom 125 = .ok (.aload_n 1, 1) := by decide +kernel
theorem dX2_copyFrom_126 : decode cX2_copyFrom 126 = .ok (.getfield 30, 3) := by decide +kernel
theorem dX2_copyFrom_129 : decode cX2_copyFrom 129 = .ok (.iconst 0, 1) := by decide +kernel
theorem dX2_copyFrom_130 : decode cX2_copyFrom 130 = .ok (.aload_n 0, 1) := by decide +kernel
theorem dX2_copyFrom_131 : decode cX2_copyFrom 131 = .ok (.getfield 30, 3) := by decide +kernel
theorem dX2_copyFrom_134 : decode cX2_copyFrom 134 = .ok (.iconst 0, 1) := by decide +kernel
theorem dX2_copyFrom_135 : decode cX2_copyFrom 135 = .ok (.bipush 16, 2) := by decide +kernel
theorem dX2_copyFrom_137 : decode cX2_copyFrom 137 = .ok (.invokestatic 61, 3) := by decide +kernel
theorem dX2_copyFrom_140 : decode cX2_copyFrom 140 = .ok (.aload_n 1, 1) := by decide +kernel
theorem dX2_copyFrom_141 : decode cX2_copyFrom 141 = .ok (.getfield 33, 3) := by decide +kernel
theorem dX2_copyFrom_144 : decode cX2_copyFrom 144 = .ok (.iconst 0, 1) := by decide +kernel
theorem dX2_copyFrom_145 : decode cX2_copyFrom 145 = .ok (.aload_n 0, 1) := by decide +kernel
theorem dX2_copyFrom_146 : decode cX2_copyFrom 146 = .ok (.getfield 33, 3) := by decide +kernel
theorem dX2_copyFrom_149 : decode cX2_copyFrom 149 = .ok (.iconst 0, 1) := by decide +kernel
theorem dX2_copyFrom_150 : decode cX2_copyFrom 150 = .ok (.bipush 16, 2) := by decide +kernel
theorem dX2_copyFrom_152 : decode cX2_copyFrom 152 = .ok (.invokestatic 61, 3) := by decide +kernel
theorem dX2_copyFrom_155 : decode cX2_copyFrom 155 = .ok (.aload_n 1, 1) := by decide +kernel
theorem dX2_copyFrom_156 : decode cX2_copyFrom 156 = .ok (.getfield 36, 3) := by decide +kernel
theorem dX2_copyFrom_159 : decode cX2_copyFrom 159 = .ok (.iconst 0, 1) := by decide +kernel
theorem dX2_copyFrom_160 : decode cX2_copyFrom 160 = .ok (.aload_n 0, 1) := by decide +kernel
theorem dX2_copyFrom_161 : decode cX2_copyFrom 161 = .ok (.getfield 36, 3) := by decide +kernel
theorem dX2_copyFrom_164 : decode cX2_copyFrom 164 = .ok (.iconst 0, 1) := by decide +kernel
theorem dX2_copyFrom_165 : decode cX2_copyFrom 165 = .ok (.bipush 16, 2) := by decide +kernel
theorem dX2_copyFrom_167 : decode cX2_copyFrom 167 = .ok (.invokestatic 61, 3) := by decide +kernel
theorem dX2_copyFrom_170 : decode cX2_copyFrom 170 = .ok (.aload_n 1, 1) := by decide +kernel
theorem dX2_copyFrom_171 : decode cX2_copyFrom 171 = .ok (.getfield 39, 3) := by decide +kernel
theorem dX2_copyFrom_174 : decode cX2_copyFrom 174 = .ok (.iconst 0, 1) := by decide +kernel
theorem dX2_copyFrom_175 : decode cX2_copyFrom 175 = .ok (.aload_n 0, 1) := by decide +kernel
theorem dX2_copyFrom_176 : decode cX2_copyFrom 176 = .ok (.getfield 39, 3) := by decide +kernel
theorem dX2_copyFrom_179 : decode cX2_copyFrom 179 = .ok (.iconst 0, 1) := by decide +kernel
theorem dX2_copyFrom_180 : decode cX2_copyFrom 180 = .ok (.bipush 16, 2) := by decide +kernel
theorem dX2_copyFrom_182 : decode cX2_copyFrom 182 = .ok (.invokestatic 61, 3) := by decide +kernel
theorem dX2_copyFrom_185 : decode cX2_copyFrom 185 = .ok (.aload_n 1, 1) := by decide +kernel
theorem dX2_copyFrom_186 : decode cX2_copyFrom 186 = .ok (.getfield 42, 3) := by decide +kernel
theorem dX2_copyFrom_189 : decode cX2_copyFrom 189 = .ok (.iconst 0, 1) := by decide +kernel
theorem dX2_copyFrom_190 : decode cX2_copyFrom 190 = .ok (.aload_n 0, 1) := by decide +kernel
theorem dX2_copyFrom_191 : decode cX2_copyFrom 191 = .ok (.getfield 42, 3) := by decide +kernel
theorem dX2_copyFrom_194 : decode cX2_copyFrom 194 = .ok (.iconst 0, 1) := by decide +kernel
theorem dX2_copyFrom_195 : decode cX2_copyFrom 195 = .ok (.bipush 96, 2) := by decide +kernel
theorem dX2_copyFrom_197 : decode cX2_copyFrom 197 = .ok (.invokestatic 61, 3) := by decide +kernel
theorem dX2_copyFrom_200 : decode cX2_copyFrom 200 = .ok (.return_, 1) := by decide +kernel
theorem dX2_hasValve_0 : decode cX2_hasValve 0 = .ok (.iload_n 1, 1) := by decide +kernel
theorem dX2_hasValve_1 : decode cX2_hasValve 1 = .ok (.ifCond .lt 15, 3) := by decide +kernel
theorem dX2_hasValve_4 : decode cX2_hasValve 4 = .ok (.iload_n 1, 1) := by decide +kernel
theorem dX2_hasValve_5 : decode cX2_hasValve 5 = .ok (.aload_n 0, 1) := by decide +kernel
theorem dX2_hasValve_6 : decode cX2_hasValve 6 = .ok (.getfield 55, 3) := by decide +kernel
theorem dX2_hasValve_9 : decode cX2_hasValve 9 = .ok (.if_icmp .ge 7, 3) := by decide +kernel
theorem dX2_hasValve_12 : decode cX2_hasValve 12 = .ok (.iconst 1, 1) := by decide +kernel
theorem dX2_hasValve_13 : decode cX2_hasValve 13 = .ok (.goto 4, 3) := by decide +kernel
theorem dX2_hasValve_16 : decode cX2_hasValve 16 = .ok (.iconst 0, 1) := by decide +kernel
theorem dX2_hasValve_17 : decode cX2_hasValve 17 = .ok (.ireturn, 1) := by decide +kernel
theorem dX2_hasEnd_0 : decode cX2_hasEnd 0 = .ok (.aload_n 0, 1) := by decide +kernel
theorem dX2_hasEnd_1 : decode cX2_hasEnd 1 = .ok (.iload_n 1, 1) := by decide +kernel
theorem dX2_hasEnd_2 : decode cX2_hasEnd 2 = .ok (.invokevirtual 67, 3) := by decide +kernel
theorem dX2_hasEnd_5 : decode cX2_hasEnd 5 = .ok (.ifCond .eq 16, 3) := by decide +kernel
theorem dX2_hasEnd_8 : decode cX2_hasEnd 8 = .ok (.iload_n 2, 1) := by decide +kernel
theorem dX2_hasEnd_9 : decode cX2_hasEnd 9 = .ok (.iconst 0, 1) := by decide +kernel
theorem dX2_hasEnd_10 : decode cX2_hasEnd 10 = .ok (.iconst 1, 1) := by decide +kernel
theorem dX2_hasEnd_11 : decode cX2_hasEnd 11 = .ok (.invokestatic 71, 3) := by decide +kernel
theorem dX2_hasEnd_14 : decode cX2_hasEnd 14 = .ok (.ifCond .eq 7, 3) := by decide +kernel
theorem dX2_hasEnd_17 : decode cX2_hasEnd 17 = .ok (.iconst 1, 1) := by decide +kernel
theorem dX2_hasEnd_18 : decode cX2_hasEnd 18 = .ok (.goto 4, 3) := by decide +kernel
theorem dX2_hasEnd_21 : decode cX2_hasEnd 21 = .ok (.iconst 0, 1) := by decide +kernel
theorem dX2_hasEnd_22 : decode cX2_hasEnd 22 = .ok (.ireturn, 1) := by decide +kernel
theorem dX2_hasDuct_0 : decode cX2_hasDuct 0 = .ok (.iload_n 1, 1) := by decide +kernel
theorem dX2_hasDuct_1 : decode cX2_hasDuct 1 = .ok (.ifCond .lt 15, 3) := by decide +kernel
theorem dX2_hasDuct_4 : decode cX2_hasDuct 4 = .ok (.iload_n 1, 1) := by decide +kernel
theorem dX2_hasDuct_5 : decode cX2_hasDuct 5 = .ok (.aload_n 0, 1) := by decide +kernel
theorem dX2_hasDuct_6 : decode cX2_hasDuct 6 = .ok (.getfield 58, 3) := by decide +kernel
theorem dX2_hasDuct_9 : decode cX2_hasDuct 9 = .ok (.if_icmp .ge 7, 3) := by decide +kernel
theorem dX2_hasDuct_12 : decode cX2_hasDuct 12 = .ok (.iconst 1, 1) := by decide +kernel
theorem dX2_hasDuct_13 : decode cX2_hasDuct 13 = .ok (.goto 4, 3) := by decide +kernel
theorem dX2_hasDuct_16 : decode cX2_hasDuct 16 = .ok (.iconst 0, 1) := by decide +kernel
theorem dX2_hasDuct_17 : decode cX2_hasDuct 17 = .ok (.ireturn, 1) := by decide +kernel
theorem dX2_addValve_0 : decode cX2_addValve 0 = .ok (.aload_n 0, 1) := by decide +kernel
theorem dX2_addValve_1 : decode cX2_addValve 1 = .ok (.getfield 15, 3) := by decide +kernel
theorem dX2_addValve_4 : decode cX2_addValve 4 = .ok (.aload_n 0, 1) := by decide +kernel
theorem dX2_addValve_5 : decode cX2_addValve 5 = .ok (.getfield 55, 3) := by decide +kernel
theorem dX2_addValve_8 : decode cX2_addValve 8 = .ok (.iload_n 1, 1) := by decide +kernel
theorem dX2_addValve_9 : decode cX2_addValve 9 = .ok (.iastore, 1) := by decide +kernel
theorem dX2_addValve_10 : decode cX2_addValve 10 = .ok (.aload_n 0, 1) := by decide +kernel
theorem dX2_addValve_11 : decode cX2_addValve 11 = .ok (.getfield 18, 3) := by decide +kernel
theorem dX2_addValve_14 : decode cX2_addValve 14 = .ok (.aload_n 0, 1) := by decide +kernel
theorem dX2_addValve_15 : decode cX2_addValve 15 = .ok (.getfield 55, 3) := by decide +kernel
theorem dX2_addValve_18 : decode cX2_addValve 18 = .ok (.iload_n 2, 1) := by decide +kernel
theorem dX2_addValve_19 : decode cX2_addValve 19 = .ok (.iastore, 1) := by decide +kernel
theorem dX2_addValve_20 : decode cX2_addValve 20 = .ok (.aload_n 0, 1) := by decide +kernel
theorem dX2_addValve_21 : decode cX2_addValve 21 = .ok (.getfield 21, 3) := by decide +kernel
theorem dX2_addValve_24 : decode cX2_addValve 24 = .ok (.aload_n 0, 1) := by decide +kernel
theorem dX2_addValve_25 : decode cX2_addValve 25 = .ok (.getfield 55, 3) := by decide +kernel
theorem dX2_addValve_28 : decode cX2_addValve 28 = .ok (.iconst 0, 1) := by decide +kernel
theorem dX2_addValve_29 : decode cX2_addValve 29 = .ok (.iastore, 1) := by decide +kernel
theorem dX2_addValve_30 : decode cX2_addValve 30 = .ok (.aload_n 0, 1) := by decide +kernel
theorem dX2_addValve_31 : decode cX2_addValve 31 = .ok (.getfield 24, 3) := by decide +kernel
theorem dX2_addValve_34 : decode cX2_addValve 34 = .ok (.aload_n 0, 1) := by decide +kernel
theorem dX2_addValve_35 : decode cX2_addValve 35 = .ok (.getfield 55, 3) := by decide +kernel
theorem dX2_addValve_38 : decode cX2_addValve 38 = .ok (.iconst 0, 1) := by decide +kernel
theorem dX2_addValve_39 : decode cX2_addValve 39 = .ok (.invokestatic 75, 3) := by decide +kernel
theorem dX2_addValve_42 : decode cX2_addValve 42 = .ok (.aload_n 0, 1) := by decide +kernel
theorem dX2_addValve_43 : decode cX2_addValve 43 = .ok (.getfield 55, 3) := by decide +kernel
theorem dX2_addValve_46 : decode cX2_addValve 46 = .ok (.iconst 2, 1) := by decide +kernel
theorem dX2_addValve_47 : decode cX2_addValve 47 = .ok (.invokestatic 75, 3) := by decide +kernel
theorem dX2_addValve_50 : decode cX2_addValve 50 = .ok (.iconst 0, 1) := by decide +kernel
theorem dX2_addValve_51 : decode cX2_addValve 51 = .ok (.invokestatic 79, 3) := by decide +kernel
theorem dX2_addValve_54 : decode cX2_addValve 54 = .ok (.aload_n 0, 1) := by decide +kernel
theorem dX2_addValve_55 : decode cX2_addValve 55 = .ok (.getfield 27, 3) := by decide +kernel
theorem dX2_addValve_58 : decode cX2_addValve 58 = .ok (.aload_n 0, 1) := by decide +kernel
theorem dX2_addValve_59 : decode cX2_addValve 59 = .ok (.getfield 55, 3) := by decide +kernel
theorem dX2_addValve_62 : decode cX2_addValve 62 = .ok (.iconst 0, 1) := by decide +kernel
theorem dX2_addValve_63 : decode cX2_addValve 63 = .ok (.invokestatic 75, 3) := by decide +kernel
theorem dX2_addValve_66 : decode cX2_addValve 66 = .ok (.aload_n 0, 1) := by decide +kernel
theorem dX2_addValve_67 : decode cX2_addValve 67 = .ok (.getfield 55, 3) := by decide +kernel
theorem dX2_addValve_70 : decode cX2_addValve 70 = .ok (.iconst 2, 1) := by decide +kernel
theorem dX2_addValve_71 : decode cX2_addValve 71 = .ok (.invokestatic 75, 3) := by decide +kernel
theorem dX2_addValve_74 : decode cX2_addValve 74 = .ok (.iconst 0, 1) := by decide +kernel
theorem dX2_addValve_75 : decode cX2_addValve 75 = .ok (.invokestatic 79, 3) := by decide +kernel
theorem dX2_addValve_78 : decode cX2_addValve 78 = .ok (.aload_n 0, 1) := by decide +kernel
theorem dX2_addValve_79 : decode cX2_addValve 79 = .ok (.dup, 1) := by decide +kernel
theorem dX2_addValve_80 : decode cX2_addValve 80 = .ok (.getfield 55, 3) := by decide +kernel
theorem dX2_addValve_83 : decode cX2_addValve 83 = .ok (.iconst 1, 1) := by decide +kernel
theorem dX2_addValve_84 : decode cX2_addValve 84 = .ok (.iadd, 1) := by decide +kernel
theorem dX2_addValve_85 : decode cX2_addValve 85 = .ok (.putfield 55, 3) := by decide +kernel
theorem dX2_addValve_88 : decode cX2_addValve 88 = .ok (.return_, 1) := by decide +kernel
theorem dX2_addDuct_0 : decode cX2_addDuct 0 = .ok (.aload_n 0, 1) := by decide +kernel
theorem dX2_addDuct_1 : decode cX2_addDuct 1 = .ok (.getfield 30, 3) := by decide +kernel
theorem dX2_addDuct_4 : decode cX2_addDuct 4 = .ok (.aload_n 0, 1) := by decide +kernel
theorem dX2_addDuct_5 : decode cX2_addDuct 5 = .ok (.getfield 58, 3) := by decide +kernel
theorem dX2_addDuct_8 : decode cX2_addDuct 8 = .ok (.iload_n 1, 1) := by decide +kernel
theorem dX2_addDuct_9 : decode cX2_addDuct 9 = .ok (.iastore, 1) := by decide +kernel
theorem dX2_addDuct_10 : decode cX2_addDuct 10 = .ok (.aload_n 0, 1) := by decide +kernel
theorem dX2_addDuct_11 : decode cX2_addDuct 11 = .ok (.getfield 33, 3) := by decide +kernel
theorem dX2_addDuct_14 : decode cX2_addDuct 14 = .ok (.aload_n 0, 1) := by decide +kernel
theorem dX2_addDuct_15 : decode cX2_addDuct 15 = .ok (.getfield 58, 3) := by decide +kernel
theorem dX2_addDuct_18 : decode cX2_addDuct 18 = .ok (.iload_n 2, 1) := by decide +kernel
theorem dX2_addDuct_19 : decode cX2_addDuct 19 = .ok (.iastore, 1) := by decide +kernel
theorem dX2_addDuct_20 : decode cX2_addDuct 20 = .ok (.aload_n 0, 1) := by decide +kernel
theorem dX2_addDuct_21 : decode cX2_addDuct 21 = .ok (.getfield 36, 3) := by decide +kernel
theorem dX2_addDuct_24 : decode cX2_addDuct 24 = .ok (.aload_n 0, 1) := by decide +kernel
theorem dX2_addDuct_25 : decode cX2_addDuct 25 = .ok (.getfield 58, 3) := by decide +kernel
theorem dX2_addDuct_28 : decode cX2_addDuct 28 = .ok (.iload_n 3, 1) := by decide +kernel
theorem dX2_addDuct_29 : decode cX2_addDuct 29 = .ok (.iastore, 1) := by decide +kernel
theorem dX2_addDuct_30 : decode cX2_addDuct 30 = .ok (.aload_n 0, 1) := by decide +kernel
theorem dX2_addDuct_31 : decode cX2_addDuct 31 = .ok (.getfield 39, 3) := by decide +kernel
theorem dX2_addDuct_34 : decode cX2_addDuct 34 = .ok (.aload_n 0, 1) := by decide +kernel
theorem dX2_addDuct_35 : decode cX2_addDuct 35 = .ok (.getfield 58, 3) := by decide +kernel
theorem dX2_addDuct_38 : decode cX2_addDuct 38 = .ok (.iconst 0, 1) := by decide +kernel
theorem dX2_addDuct_39 : decode cX2_addDuct 39 = .ok (.iastore, 1) := by decide +kernel
theorem dX2_addDuct_40 : decode cX2_addDuct 40 = .ok (.aload_n 0, 1) := by decide +kernel
theorem dX2_addDuct_41 : decode cX2_addDuct 41 = .ok (.getfield 42, 3) := by decide +kernel
theorem dX2_addDuct_44 : decode cX2_addDuct 44 = .ok (.aload_n 0, 1) := by decide +kernel
theorem dX2_addDuct_45 : decode cX2_addDuct 45 = .ok (.getfield 58, 3) := by decide +kernel
theorem dX2_addDuct_48 : decode cX2_addDuct 48 = .ok (.bipush 6, 2) := by decide +kernel
theorem dX2_addDuct_50 : decode cX2_addDuct 50 = .ok (.imul, 1) := by decide +kernel
theorem dX2_addDuct_51 : decode cX2_addDuct 51 = .ok (.aload_n 0, 1) := by decide +kernel
theorem dX2_addDuct_52 : decode cX2_addDuct 52 = .ok (.getfield 58, 3) := by decide +kernel
theorem dX2_addDuct_55 : decode cX2_addDuct 55 = .ok (.iconst 1, 1) := by decide +kernel
theorem dX2_addDuct_56 : decode cX2_addDuct 56 = .ok (.iadd, 1) := by decide +kernel
theorem dX2_addDuct_57 : decode cX2_addDuct 57 = .ok (.bipush 6, 2) := by decide +kernel
theorem dX2_addDuct_59 : decode cX2_addDuct 59 = .ok (.imul, 1) := by decide +kernel
theorem dX2_addDuct_60 : decode cX2_addDuct 60 = .ok (.iconst 0, 1) := by decide +kernel
theorem dX2_addDuct_61 : decode cX2_addDuct 61 = .ok (.invokestatic 79, 3) := by decide +kernel
theorem dX2_addDuct_64 : decode cX2_addDuct 64 = .ok (.aload_n 0, 1) := by decide +kernel
theorem dX2_addDuct_65 : decode cX2_addDuct 65 = .ok (.dup, 1) := by decide +kernel
theorem dX2_addDuct_66 : decode cX2_addDuct 66 = .ok (.getfield 58, 3) := by decide +kernel
theorem dX2_addDuct_69 : decode cX2_addDuct 69 = .ok (.iconst 1, 1) := by decide +kernel
theorem dX2_addDuct_70 : decode cX2_addDuct 70 = .ok (.iadd, 1) := by decide +kernel
theorem dX2_addDuct_71 : decode cX2_addDuct 71 = .ok (.putfield 58, 3) := by decide +kernel
theorem dX2_addDuct_74 : decode cX2_addDuct 74 = .ok (.return_, 1) := by decide +kernel
theorem dX2_removeDuct_0 : decode cX2_removeDuct 0 = .ok (.aload_n 0, 1) := by decide +kernel
theorem dX2_removeDuct_1 : decode cX2_removeDuct 1 = .ok (.getfield 58, 3) := by decide +kernel
theorem dX2_removeDuct_4 : decode cX2_removeDuct 4 = .ok (.iconst 1, 1) := by decide +kernel
theorem dX2_removeDuct_5 : decode cX2_removeDuct 5 = .ok (.isub, 1) := by decide +kernel
theorem dX2_removeDuct_6 : decode cX2_removeDuct 6 = .ok (.iload_n 1, 1) := by decide +kernel
theorem dX2_removeDuct_7 : decode cX2_removeDuct 7 = .ok (.isub, 1) := by decide +kernel
theorem dX2_removeDuct_8 : decode cX2_removeDuct 8 = .ok (.istore_n 2, 1) := by decide +kernel
theorem dX2_removeDuct_9 : decode cX2_removeDuct 9 = .ok (.aload_n 0, 1) := by decide +kernel
theorem dX2_removeDuct_10 : decode cX2_removeDuct 10 = .ok (.getfield 30, 3) := by decide +kernel
theorem dX2_removeDuct_13 : decode cX2_removeDuct 13 = .ok (.iload_n 1, 1) := by decide +kernel
theorem dX2_removeDuct_14 : decode cX2_removeDuct 14 = .ok (.iconst 1, 1) := by decide +kernel
theorem dX2_removeDuct_15 : decode cX2_removeDuct 15 = .ok (.iadd, 1) := by decide +kernel
theorem dX2_removeDuct_16 : decode cX2_removeDuct 16 = .ok (.aload_n 0, 1) := by decide +kernel
theorem dX2_removeDuct_17 : decode cX2_removeDuct 17 = .ok (.getfield 30, 3) := by decide +kernel
theorem dX2_removeDuct_20 : decode cX2_removeDuct 20 = .ok (.iload_n 1, 1) := by decide +kernel
theorem dX2_removeDuct_21 : decode cX2_removeDuct 21 = .ok (.iload_n 2, 1) := by decide +kernel
theorem dX2_removeDuct_22 : decode cX2_removeDuct 22 = .ok (.invokestatic 61, 3) := by decide +kernel
theorem dX2_removeDuct_25 : decode cX2_removeDuct 25 = .ok (.aload_n 0, 1) := by decide +kernel
theorem dX2_removeDuct_26 : decode cX2_removeDuct 26 = .ok (.getfield 33, 3) := by decide +kernel
theorem dX2_removeDuct_29 : decode cX2_removeDuct 29 = .ok (.iload_n 1, 1) := by decide +kernel
theorem dX2_removeDuct_30 : decode cX2_removeDuct 30 = .ok (.iconst 1, 1) := by decide +kernel
theorem dX2_removeDuct_31 : decode cX2_removeDuct 31 = .ok (.iadd, 1) := by decide +kernel
theorem dX2_removeDuct_32 : decode cX2_removeDuct 32 = .ok (.aload_n 0, 1) := by decide +kernel
theorem dX2_removeDuct_33 : decode cX2_removeDuct 33 = .ok (.getfield 33, 3) := by decide +kernel
theorem dX2_removeDuct_36 : decode cX2_removeDuct 36 = .ok (.iload_n 1, 1) := by decide +kernel
theorem dX2_removeDuct_37 : decode cX2_removeDuct 37 = .ok (.iload_n 2, 1) := by decide +kernel
theorem dX2_removeDuct_38 : decode cX2_removeDuct 38 = .ok (.invokestatic 61, 3) := by decide +kernel
theorem dX2_removeDuct_41 : decode cX2_removeDuct 41 = .ok (.aload_n 0, 1) := by decide +kernel
theorem dX2_removeDuct_42 : decode cX2_removeDuct 42 = .ok (.getfield 36, 3) := by decide +kernel
theorem dX2_removeDuct_45 : decode cX2_removeDuct 45 = .ok (.iload_n 1, 1) := by decide +kernel
theorem dX2_removeDuct_46 : decode cX2_removeDuct 46 = .ok (.iconst 1, 1) := by decide +kernel
theorem dX2_removeDuct_47 : decode cX2_removeDuct 47 = .ok (.iadd, 1) := by decide +kernel
theorem dX2_removeDuct_48 : decode cX2_removeDuct 48 = .ok (.aload_n 0, 1) := by decide +kernel
theorem dX2_removeDuct_49 : decode cX2_removeDuct 49 = .ok (.getfield 36, 3) := by decide +kernel
theorem dX2_removeDuct_52 : decode cX2_removeDuct 52 = .ok (.iload_n 1, 1) := by decide +kernel
theorem dX2_removeDuct_53 : decode cX2_removeDuct 53 = .ok (.iload_n 2, 1) := by decide +kernel
theorem dX2_removeDuct_54 : decode cX2_removeDuct 54 = .ok (.invokestatic 61, 3) := by decide +kernel
theorem dX2_removeDuct_57 : decode cX2_removeDuct 57 = .ok (.aload_n 0, 1) := by decide +kernel
theorem dX2_removeDuct_58 : decode cX2_removeDuct 58 = .ok (.getfield 39, 3) := by decide +kernel
theorem dX2_removeDuct_61 : decode cX2_removeDuct 61 = .ok (.iload_n 1, 1) := by decide +kernel
theorem dX2_removeDuct_62 : decode cX2_removeDuct 62 = .ok (.iconst 1, 1) := by decide +kernel
theorem dX2_removeDuct_63 : decode cX2_removeDuct 63 = .ok (.iadd, 1) := by decide +kernel
theorem dX2_removeDuct_64 : decode cX2_removeDuct 64 = .ok (.aload_n 0, 1) := by decide +kernel
theorem dX2_removeDuct_65 : decode cX2_removeDuct 65 = .ok (.getfield 39, 3) := by decide +kernel
theorem dX2_removeDuct_68 : decode cX2_removeDuct 68 = .ok (.iload_n 1, 1) := by decide +kernel
theorem dX2_removeDuct_69 : decode cX2_removeDuct 69 = .ok (.iload_n 2, 1) := by decide +kernel
theorem dX2_removeDuct_70 : decode cX2_removeDuct 70 = .ok (.invokestatic 61, 3) := by decide +kernel
theorem dX2_removeDuct_73 : decode cX2_removeDuct 73 = .ok (.aload_n 0, 1) := by decide +kernel
theorem dX2_removeDuct_74 : decode cX2_removeDuct 74 = .ok (.getfield 42, 3) := by decide +kernel
theorem dX2_removeDuct_77 : decode cX2_removeDuct 77 = .ok (.iload_n 1, 1) := by decide +kernel
theorem dX2_removeDuct_78 : decode cX2_removeDuct 78 = .ok (.iconst 1, 1) := by decide +kernel
theorem dX2_removeDuct_79 : decode cX2_removeDuct 79 = .ok (.iadd, 1) := by decide +kernel
theorem dX2_removeDuct_80 : decode cX2_removeDuct 80 = .ok (.bipush 6, 2) := by decide +kernel
theorem dX2_removeDuct_82 : decode cX2_removeDuct 82 = .ok (.imul, 1) := by decide +kernel
theorem dX2_removeDuct_83 : decode cX2_removeDuct 83 = .ok (.aload_n 0, 1) := by decide +kernel
theorem dX2_removeDuct_84 : decode cX2_removeDuct 84 = .ok (.getfield 42, 3) := by decide +kernel
theorem dX2_removeDuct_87 : decode cX2_removeDuct 87 = .ok (.iload_n 1, 1) := by decide +kernel
theorem dX2_removeDuct_88 : decode cX2_removeDuct 88 = .ok (.bipush 6, 2) := by decide +kernel
theorem dX2_removeDuct_90 : decode cX2_removeDuct 90 = .ok (.imul, 1) := by decide +kernel
theorem dX2_removeDuct_91 : decode cX2_removeDuct 91 = .ok (.iload_n 2, 1) := by decide +kernel
theorem dX2_removeDuct_92 : decode cX2_removeDuct 92 = .ok (.bipush 6, 2) := by decide +kernel
theorem dX2_removeDuct_94 : decode cX2_removeDuct 94 = .ok (.imul, 1) := by decide +kernel
theorem dX2_removeDuct_95 : decode cX2_removeDuct 95 = .ok (.invokestatic 61, 3) := by decide +kernel
theorem dX2_removeDuct_98 : decode cX2_removeDuct 98 = .ok (.aload_n 0, 1) := by decide +kernel
theorem dX2_removeDuct_99 : decode cX2_removeDuct 99 = .ok (.dup, 1) := by decide +kernel
theorem dX2_removeDuct_100 : decode cX2_removeDuct 100 = .ok (.getfield 58, 3) := by decide +kernel
theorem dX2_removeDuct_103 : decode cX2_removeDuct 103 = .ok (.iconst 1, 1) := by decide +kernel
theorem dX2_removeDuct_104 : decode cX2_removeDuct 104 = .ok (.isub, 1) := by decide +kernel
theorem dX2_removeDuct_105 : decode cX2_removeDuct 105 = .ok (.putfield 58, 3) := by decide +kernel
theorem dX2_removeDuct_108 : decode cX2_removeDuct 108 = .ok (.return_, 1) := by decide +kernel
theorem dX2_legsUnderPressure_0 : decode cX2_legsUnderPressure 0 = .ok (.iconst 0, 1) := by decide +kernel
theorem dX2_legsUnderPressure_1 : decode cX2_legsUnderPressure 1 = .ok (.istore_n 1, 1) := by decide +kernel
theorem dX2_legsUnderPressure_2 : decode cX2_legsUnderPressure 2 = .ok (.iconst 0, 1) := by decide +kernel
theorem dX2_legsUnderPressure_3 : decode cX2_legsUnderPressure 3 = .ok (.istore_n 2, 1) := by decide +kernel
theorem dX2_legsUnderPressure_4 : decode cX2_legsUnderPressure 4 = .ok (.iload_n 2, 1) := by decide +kernel
theorem dX2_legsUnderPressure_5 : decode cX2_legsUnderPressure 5 = .ok (.iconst 2, 1) := by decide +kernel
theorem dX2_legsUnderPressure_6 : decode cX2_legsUnderPressure 6 = .ok (.aload_n 0, 1) := by decide +kernel
theorem dX2_legsUnderPressure_7 : decode cX2_legsUnderPressure 7 = .ok (.getfield 55, 3) := by decide +kernel
theorem dX2_legsUnderPressure_10 : decode cX2_legsUnderPressure 10 = .ok (.imul, 1) := by decide +kernel
theorem dX2_legsUnderPressure_11 : decode cX2_legsUnderPressure 11 = .ok (.if_icmp .ge 21, 3) := by decide +kernel
theorem dX2_legsUnderPressure_14 : decode cX2_legsUnderPressure 14 = .ok (.aload_n 0, 1) := by decide +kernel
theorem dX2_legsUnderPressure_15 : decode cX2_legsUnderPressure 15 = .ok (.getfield 24, 3) := by decide +kernel
theorem dX2_legsUnderPressure_18 : decode cX2_legsUnderPressure 18 = .ok (.iload_n 2, 1) := by decide +kernel
theorem dX2_legsUnderPressure_19 : decode cX2_legsUnderPressure 19 = .ok (.iaload, 1) := by decide +kernel
theorem dX2_legsUnderPressure_20 : decode cX2_legsUnderPressure 20 = .ok (.ifCond .le 6, 3) := by decide +kernel
theorem dX2_legsUnderPressure_23 : decode cX2_legsUnderPressure 23 = .ok (.iinc 1 1, 3) := by decide +kernel
theorem dX2_legsUnderPressure_26 : decode cX2_legsUnderPressure 26 = .ok (.iinc 2 1, 3) := by decide +kernel
theorem dX2_legsUnderPressure_29 : decode cX2_legsUnderPressure 29 = .ok (.goto (-25), 3) := by decide +kernel
theorem dX2_legsUnderPressure_32 : decode cX2_legsUnderPressure 32 = .ok (.iload_n 1, 1) := by decide +kernel
theorem dX2_legsUnderPressure_33 : decode cX2_legsUnderPressure 33 = .ok (.ireturn, 1) := by decide +kernel
theorem dX2_pressureOfAllLegs_0 : decode cX2_pressureOfAllLegs 0 = .ok (.iconst 0, 1) := by decide +kernel
theorem dX2_pressureOfAllLegs_1 : decode cX2_pressureOfAllLegs 1 = .ok (.istore_n 1, 1) := by decide +kernel
theorem dX2_pressureOfAllLegs_2 : decode cX2_pressureOfAllLegs 2 = .ok (.iconst 0, 1) := by decide +kernel
theorem dX2_pressureOfAllLegs_3 : decode cX2_pressureOfAllLegs 3 = .ok (.istore_n 2, 1) := by decide +kernel
theorem dX2_pressureOfAllLegs_4 : decode cX2_pressureOfAllLegs 4 = .ok (.iload_n 2, 1) := by decide +kernel
theorem dX2_pressureOfAllLegs_5 : decode cX2_pressureOfAllLegs 5 = .ok (.iconst 2, 1) := by decide +kernel
theorem dX2_pressureOfAllLegs_6 : decode cX2_pressureOfAllLegs 6 = .ok (.aload_n 0, 1) := by decide +kernel
theorem dX2_pressureOfAllLegs_7 : decode cX2_pressureOfAllLegs 7 = .ok (.getfield 55, 3) := by decide +kernel
theorem dX2_pressureOfAllLegs_10 : decode cX2_pressureOfAllLegs 10 = .ok (.imul, 1) := by decide +kernel
theorem dX2_pressureOfAllLegs_11 : decode cX2_pressureOfAllLegs 11 = .ok (.if_icmp .ge 18, 3) := by decide +kernel
theorem dX2_pressureOfAllLegs_14 : decode cX2_pressureOfAllLegs 14 = .ok (.iload_n 1, 1) := by decide +kernel
theorem dX2_pressureOfAllLegs_15 : decode cX2_pressureOfAllLegs 15 = .ok (.aload_n 0, 1) := by decide +kernel
theorem dX2_pressureOfAllLegs_16 : decode cX2_pressureOfAllLegs 16 = .ok (.getfield 24, 3) := by decide +kernel
theorem dX2_pressureOfAllLegs_19 : decode cX2_pressureOfAllLegs 19 = .ok (.iload_n 2, 1) := by decide +kernel
theorem dX2_pressureOfAllLegs_20 : decode cX2_pressureOfAllLegs 20 = .ok (.iaload, 1) := by decide +kernel
theorem dX2_pressureOfAllLegs_21 : decode cX2_pressureOfAllLegs 21 = .ok (.iadd, 1) := by decide +kernel
theorem dX2_pressureOfAllLegs_22 : decode cX2_pressureOfAllLegs 22 = .ok (.istore_n 1, 1) := by decide +kernel
theorem dX2_pressureOfAllLegs_23 : decode cX2_pressureOfAllLegs 23 = .ok (.iinc 2 1, 3) := by decide +kernel
theorem dX2_pressureOfAllLegs_26 : decode cX2_pressureOfAllLegs 26 = .ok (.goto (-22), 3) := by decide +kernel
theorem dX2_pressureOfAllLegs_29 : decode cX2_pressureOfAllLegs 29 = .ok (.iload_n 1, 1) := by decide +kernel
theorem dX2_pressureOfAllLegs_30 : decode cX2_pressureOfAllLegs 30 = .ok (.ireturn, 1) := by decide +kernel
theorem dX2_legsUnlike_0 : decode cX2_legsUnlike 0 = .ok (.iconst 0, 1) := by decide +kernel
theorem dX2_legsUnlike_1 : decode cX2_legsUnlike 1 = .ok (.istore_n 2, 1) := by decide +kernel
theorem dX2_legsUnlike_2 : decode cX2_legsUnlike 2 = .ok (.iconst 0, 1) := by decide +kernel
theorem dX2_legsUnlike_3 : decode cX2_legsUnlike 3 = .ok (.istore_n 3, 1) := by decide +kernel
theorem dX2_legsUnlike_4 : decode cX2_legsUnlike 4 = .ok (.iload_n 3, 1) := by decide +kernel
theorem dX2_legsUnlike_5 : decode cX2_legsUnlike 5 = .ok (.iconst 2, 1) := by decide +kernel
theorem dX2_legsUnlike_6 : decode cX2_legsUnlike 6 = .ok (.aload_n 0, 1) := by decide +kernel
theorem dX2_legsUnlike_7 : decode cX2_legsUnlike 7 = .ok (.getfield 55, 3) := by decide +kernel
theorem dX2_legsUnlike_10 : decode cX2_legsUnlike 10 = .ok (.imul, 1) := by decide +kernel
theorem dX2_legsUnlike_11 : decode cX2_legsUnlike 11 = .ok (.if_icmp .ge 27, 3) := by decide +kernel
theorem dX2_legsUnlike_14 : decode cX2_legsUnlike 14 = .ok (.aload_n 0, 1) := by decide +kernel
theorem dX2_legsUnlike_15 : decode cX2_legsUnlike 15 = .ok (.getfield 24, 3) := by decide +kernel
theorem dX2_legsUnlike_18 : decode cX2_legsUnlike 18 = .ok (.iload_n 3, 1) := by decide +kernel
theorem dX2_legsUnlike_19 : decode cX2_legsUnlike 19 = .ok (.iaload, 1) := by decide +kernel
theorem dX2_legsUnlike_20 : decode cX2_legsUnlike 20 = .ok (.aload_n 1, 1) := by decide +kernel
theorem dX2_legsUnlike_21 : decode cX2_legsUnlike 21 = .ok (.getfield 24, 3) := by decide +kernel
theorem dX2_legsUnlike_24 : decode cX2_legsUnlike 24 = .ok (.iload_n 3, 1) := by decide +kernel
theorem dX2_legsUnlike_25 : decode cX2_legsUnlike 25 = .ok (.iaload, 1) := by decide +kernel
theorem dX2_legsUnlike_26 : decode cX2_legsUnlike 26 = .ok (.if_icmp .eq 6, 3) := by decide +kernel
theorem dX2_legsUnlike_29 : decode cX2_legsUnlike 29 = .ok (.iinc 2 1, 3) := by decide +kernel
theorem dX2_legsUnlike_32 : decode cX2_legsUnlike 32 = .ok (.iinc 3 1, 3) := by decide +kernel
theorem dX2_legsUnlike_35 : decode cX2_legsUnlike 35 = .ok (.goto (-31), 3) := by decide +kernel
theorem dX2_legsUnlike_38 : decode cX2_legsUnlike 38 = .ok (.iload_n 2, 1) := by decide +kernel
theorem dX2_legsUnlike_39 : decode cX2_legsUnlike 39 = .ok (.ireturn, 1) := by decide +kernel
theorem dX2_pressedKeys_0 : decode cX2_pressedKeys 0 = .ok (.iconst 0, 1) := by decide +kernel
theorem dX2_pressedKeys_1 : decode cX2_pressedKeys 1 = .ok (.istore_n 1, 1) := by decide +kernel
theorem dX2_pressedKeys_2 : decode cX2_pressedKeys 2 = .ok (.iconst 0, 1) := by decide +kernel
theorem dX2_pressedKeys_3 : decode cX2_pressedKeys 3 = .ok (.istore_n 2, 1) := by decide +kernel
theorem dX2_pressedKeys_4 : decode cX2_pressedKeys 4 = .ok (.iload_n 2, 1) := by decide +kernel
theorem dX2_pressedKeys_5 : decode cX2_pressedKeys 5 = .ok (.aload_n 0, 1) := by decide +kernel
theorem dX2_pressedKeys_6 : decode cX2_pressedKeys 6 = .ok (.getfield 55, 3) := by decide +kernel
theorem dX2_pressedKeys_9 : decode cX2_pressedKeys 9 = .ok (.if_icmp .ge 34, 3) := by decide +kernel
theorem dX2_pressedKeys_12 : decode cX2_pressedKeys 12 = .ok (.aload_n 0, 1) := by decide +kernel
theorem dX2_pressedKeys_13 : decode cX2_pressedKeys 13 = .ok (.getfield 15, 3) := by decide +kernel
theorem dX2_pressedKeys_16 : decode cX2_pressedKeys 16 = .ok (.iload_n 2, 1) := by decide +kernel
theorem dX2_pressedKeys_17 : decode cX2_pressedKeys 17 = .ok (.iaload, 1) := by decide +kernel
theorem dX2_pressedKeys_18 : decode cX2_pressedKeys 18 = .ok (.ifCond .ne 19, 3) := by decide +kernel
theorem dX2_pressedKeys_21 : decode cX2_pressedKeys 21 = .ok (.aload_n 0, 1) := by decide +kernel
theorem dX2_pressedKeys_22 : decode cX2_pressedKeys 22 = .ok (.getfield 21, 3) := by decide +kernel
theorem dX2_pressedKeys_25 : decode cX2_pressedKeys 25 = .ok (.iload_n 2, 1) := by decide +kernel
theorem dX2_pressedKeys_26 : decode cX2_pressedKeys 26 = .ok (.iaload, 1) := by decide +kernel
theorem dX2_pressedKeys_27 : decode cX2_pressedKeys 27 = .ok (.iconst 1, 1) := by decide +kernel
theorem dX2_pressedKeys_28 : decode cX2_pressedKeys 28 = .ok (.if_icmp .ne 9, 3) := by decide +kernel
theorem dX2_pressedKeys_31 : decode cX2_pressedKeys 31 = .ok (.iload_n 1, 1) := by decide +kernel
theorem dX2_pressedKeys_32 : decode cX2_pressedKeys 32 = .ok (.iconst 1, 1) := by decide +kernel
theorem dX2_pressedKeys_33 : decode cX2_pressedKeys 33 = .ok (.iload_n 2, 1) := by decide +kernel
theorem dX2_pressedKeys_34 : decode cX2_pressedKeys 34 = .ok (.ishl, 1) := by decide +kernel
theorem dX2_pressedKeys_35 : decode cX2_pressedKeys 35 = .ok (.ior, 1) := by decide +kernel
theorem dX2_pressedKeys_36 : decode cX2_pressedKeys 36 = .ok (.istore_n 1, 1) := by decide +kernel
theorem dX2_pressedKeys_37 : decode cX2_pressedKeys 37 = .ok (.iinc 2 1, 3) := by decide +kernel
theorem dX2_pressedKeys_40 : decode cX2_pressedKeys 40 = .ok (.goto (-36), 3) := by decide +kernel
theorem dX2_pressedKeys_43 : decode cX2_pressedKeys 43 = .ok (.iload_n 1, 1) := by decide +kernel
theorem dX2_pressedKeys_44 : decode cX2_pressedKeys 44 = .ok (.ireturn, 1) := by decide +kernel
theorem dX2_ductsFrom_0 : decode cX2_ductsFrom 0 = .ok (.iconst 0, 1) := by decide +kernel
theorem dX2_ductsFrom_1 : decode cX2_ductsFrom 1 = .ok (.istore_n 2, 1) := by decide +kernel
theorem dX2_ductsFrom_2 : decode cX2_ductsFrom 2 = .ok (.iconst 0, 1) := by decide +kernel
theorem dX2_ductsFrom_3 : decode cX2_ductsFrom 3 = .ok (.istore_n 3, 1) := by decide +kernel
theorem dX2_ductsFrom_4 : decode cX2_ductsFrom 4 = .ok (.iload_n 3, 1) := by decide +kernel
theorem dX2_ductsFrom_5 : decode cX2_ductsFrom 5 = .ok (.aload_n 0, 1) := by decide +kernel
theorem dX2_ductsFrom_6 : decode cX2_ductsFrom 6 = .ok (.getfield 58, 3) := by decide +kernel
theorem dX2_ductsFrom_9 : decode cX2_ductsFrom 9 = .ok (.if_icmp .ge 24, 3) := by decide +kernel
theorem dX2_ductsFrom_12 : decode cX2_ductsFrom 12 = .ok (.aload_n 0, 1) := by decide +kernel
theorem dX2_ductsFrom_13 : decode cX2_ductsFrom 13 = .ok (.getfield 30, 3) := by decide +kernel
theorem dX2_ductsFrom_16 : decode cX2_ductsFrom 16 = .ok (.iload_n 3, 1) := by decide +kernel
theorem dX2_ductsFrom_17 : decode cX2_ductsFrom 17 = .ok (.iaload, 1) := by decide +kernel
theorem dX2_ductsFrom_18 : decode cX2_ductsFrom 18 = .ok (.iconst 2, 1) := by decide +kernel
theorem dX2_ductsFrom_19 : decode cX2_ductsFrom 19 = .ok (.idiv, 1) := by decide +kernel
theorem dX2_ductsFrom_20 : decode cX2_ductsFrom 20 = .ok (.iload_n 1, 1) := by decide +kernel
theorem dX2_ductsFrom_21 : decode cX2_ductsFrom 21 = .ok (.if_icmp .ne 6, 3) := by decide +kernel
theorem dX2_ductsFrom_24 : decode cX2_ductsFrom 24 = .ok (.iinc 2 1, 3) := by decide +kernel
theorem dX2_ductsFrom_27 : decode cX2_ductsFrom 27 = .ok (.iinc 3 1, 3) := by decide +kernel
theorem dX2_ductsFrom_30 : decode cX2_ductsFrom 30 = .ok (.goto (-26), 3) := by decide +kernel
theorem dX2_ductsFrom_33 : decode cX2_ductsFrom 33 = .ok (.iload_n 2, 1) := by decide +kernel
theorem dX2_ductsFrom_34 : decode cX2_ductsFrom 34 = .ok (.ireturn, 1) := by decide +kernel
theorem dX2_ductsTo_0 : decode cX2_ductsTo 0 = .ok (.iconst 0, 1) := by decide +kernel
theorem dX2_ductsTo_1 : decode cX2_ductsTo 1 = .ok (.istore_n 2, 1) := by decide +kernel
theorem dX2_ductsTo_2 : decode cX2_ductsTo 2 = .ok (.iconst 0, 1) := by decide +kernel
theorem dX2_ductsTo_3 : decode cX2_ductsTo 3 = .ok (.istore_n 3, 1) := by decide +kernel
theorem dX2_ductsTo_4 : decode cX2_ductsTo 4 = .ok (.iload_n 3, 1) := by decide +kernel
theorem dX2_ductsTo_5 : decode cX2_ductsTo 5 = .ok (.aload_n 0, 1) := by decide +kernel
theorem dX2_ductsTo_6 : decode cX2_ductsTo 6 = .ok (.getfield 58, 3) := by decide +kernel
theorem dX2_ductsTo_9 : decode cX2_ductsTo 9 = .ok (.if_icmp .ge 24, 3) := by decide +kernel
theorem dX2_ductsTo_12 : decode cX2_ductsTo 12 = .ok (.aload_n 0, 1) := by decide +kernel
theorem dX2_ductsTo_13 : decode cX2_ductsTo 13 = .ok (.getfield 33, 3) := by decide +kernel
theorem dX2_ductsTo_16 : decode cX2_ductsTo 16 = .ok (.iload_n 3, 1) := by decide +kernel
theorem dX2_ductsTo_17 : decode cX2_ductsTo 17 = .ok (.iaload, 1) := by decide +kernel
theorem dX2_ductsTo_18 : decode cX2_ductsTo 18 = .ok (.iconst 2, 1) := by decide +kernel
theorem dX2_ductsTo_19 : decode cX2_ductsTo 19 = .ok (.idiv, 1) := by decide +kernel
theorem dX2_ductsTo_20 : decode cX2_ductsTo 20 = .ok (.iload_n 1, 1) := by decide +kernel
theorem dX2_ductsTo_21 : decode cX2_ductsTo 21 = .ok (.if_icmp .ne 6, 3) := by decide +kernel
theorem dX2_ductsTo_24 : decode cX2_ductsTo 24 = .ok (.iinc 2 1, 3) := by decide +kernel
theorem dX2_ductsTo_27 : decode cX2_ductsTo 27 = .ok (.iinc 3 1, 3) := by decide +kernel
theorem dX2_ductsTo_30 : decode cX2_ductsTo 30 = .ok (.goto (-26), 3) := by decide +kernel
theorem dX2_ductsTo_33 : decode cX2_ductsTo 33 = .ok (.iload_n 2, 1) := by decide +kernel
theorem dX2_ductsTo_34 : decode cX2_ductsTo 34 = .ok (.ireturn, 1) := by decide +kernel
theorem dX2_works_0 : decode cX2_works 0 = .ok (.aload_n 0, 1) := by decide +kernel
theorem dX2_works_1 : decode cX2_works 1 = .ok (.getfield 27, 3) := by decide +kernel
theorem dX2_works_4 : decode cX2_works 4 = .ok (.iload_n 1, 1) := by decide +kernel
theorem dX2_works_5 : decode cX2_works 5 = .ok (.iaload, 1) := by decide +kernel
theorem dX2_works_6 : decode cX2_works 6 = .ok (.ifCond .eq 34, 3) := by decide +kernel
theorem dX2_works_9 : decode cX2_works 9 = .ok (.bipush 100, 2) := by decide +kernel
theorem dX2_works_11 : decode cX2_works 11 = .ok (.aload_n 0, 1) := by decide +kernel
theorem dX2_works_12 : decode cX2_works 12 = .ok (.getfield 27, 3) := by decide +kernel
theorem dX2_works_15 : decode cX2_works 15 = .ok (.iload_n 1, 1) := by decide +kernel
theorem dX2_works_16 : decode cX2_works 16 = .ok (.iaload, 1) := by decide +kernel
theorem dX2_works_17 : decode cX2_works 17 = .ok (.imul, 1) := by decide +kernel
theorem dX2_works_18 : decode cX2_works 18 = .ok (.aload_n 0, 1) := by decide +kernel
theorem dX2_works_19 : decode cX2_works 19 = .ok (.getfield 18, 3) := by decide +kernel
theorem dX2_works_22 : decode cX2_works 22 = .ok (.iload_n 1, 1) := by decide +kernel
theorem dX2_works_23 : decode cX2_works 23 = .ok (.iconst 2, 1) := by decide +kernel
theorem dX2_works_24 : decode cX2_works 24 = .ok (.idiv, 1) := by decide +kernel
theorem dX2_works_25 : decode cX2_works 25 = .ok (.iaload, 1) := by decide +kernel
theorem dX2_works_26 : decode cX2_works 26 = .ok (.aload_n 0, 1) := by decide +kernel
theorem dX2_works_27 : decode cX2_works 27 = .ok (.getfield 9, 3) := by decide +kernel
theorem dX2_works_30 : decode cX2_works 30 = .ok (.iconst 1, 1) := by decide +kernel
theorem dX2_works_31 : decode cX2_works 31 = .ok (.iaload, 1) := by decide +kernel
theorem dX2_works_32 : decode cX2_works 32 = .ok (.imul, 1) := by decide +kernel
theorem dX2_works_33 : decode cX2_works 33 = .ok (.if_icmp .lt 7, 3) := by decide +kernel
theorem dX2_works_36 : decode cX2_works 36 = .ok (.iconst 1, 1) := by decide +kernel
theorem dX2_works_37 : decode cX2_works 37 = .ok (.goto 4, 3) := by decide +kernel
theorem dX2_works_40 : decode cX2_works 40 = .ok (.iconst 0, 1) := by decide +kernel
theorem dX2_works_41 : decode cX2_works 41 = .ok (.ireturn, 1) := by decide +kernel
theorem dX2_lostIn_0 : decode cX2_lostIn 0 = .ok (.aload_n 0, 1) := by decide +kernel
theorem dX2_lostIn_1 : decode cX2_lostIn 1 = .ok (.getfield 36, 3) := by decide +kernel
theorem dX2_lostIn_4 : decode cX2_lostIn 4 = .ok (.iload_n 1, 1) := by decide +kernel
theorem dX2_lostIn_5 : decode cX2_lostIn 5 = .ok (.iaload, 1) := by decide +kernel
theorem dX2_lostIn_6 : decode cX2_lostIn 6 = .ok (.aload_n 0, 1) := by decide +kernel
theorem dX2_lostIn_7 : decode cX2_lostIn 7 = .ok (.getfield 9, 3) := by decide +kernel
theorem dX2_lostIn_10 : decode cX2_lostIn 10 = .ok (.iconst 0, 1) := by decide +kernel
theorem dX2_lostIn_11 : decode cX2_lostIn 11 = .ok (.iaload, 1) := by decide +kernel
theorem dX2_lostIn_12 : decode cX2_lostIn 12 = .ok (.imul, 1) := by decide +kernel
theorem dX2_lostIn_13 : decode cX2_lostIn 13 = .ok (.aload_n 0, 1) := by decide +kernel
theorem dX2_lostIn_14 : decode cX2_lostIn 14 = .ok (.getfield 39, 3) := by decide +kernel
theorem dX2_lostIn_17 : decode cX2_lostIn 17 = .ok (.iload_n 1, 1) := by decide +kernel
theorem dX2_lostIn_18 : decode cX2_lostIn 18 = .ok (.iaload, 1) := by decide +kernel
theorem dX2_lostIn_19 : decode cX2_lostIn 19 = .ok (.iadd, 1) := by decide +kernel
theorem dX2_lostIn_20 : decode cX2_lostIn 20 = .ok (.ireturn, 1) := by decide +kernel
theorem dX2_nextOutOf_0 : decode cX2_nextOutOf 0 = .ok (.iconst 0, 1) := by decide +kernel
theorem dX2_nextOutOf_1 : decode cX2_nextOutOf 1 = .ok (.aload_n 0, 1) := by decide +kernel
theorem dX2_nextOutOf_2 : decode cX2_nextOutOf 2 = .ok (.getfield 42, 3) := by decide +kernel
theorem dX2_nextOutOf_5 : decode cX2_nextOutOf 5 = .ok (.iload_n 1, 1) := by decide +kernel
theorem dX2_nextOutOf_6 : decode cX2_nextOutOf 6 = .ok (.bipush 6, 2) := by decide +kernel
theorem dX2_nextOutOf_8 : decode cX2_nextOutOf 8 = .ok (.imul, 1) := by decide +kernel
theorem dX2_nextOutOf_9 : decode cX2_nextOutOf 9 = .ok (.iaload, 1) := by decide +kernel
theorem dX2_nextOutOf_10 : decode cX2_nextOutOf 10 = .ok (.aload_n 0, 1) := by decide +kernel
theorem dX2_nextOutOf_11 : decode cX2_nextOutOf 11 = .ok (.iload_n 1, 1) := by decide +kernel
theorem dX2_nextOutOf_12 : decode cX2_nextOutOf 12 = .ok (.invokevirtual 85, 3) := by decide +kernel
theorem dX2_nextOutOf_15 : decode cX2_nextOutOf 15 = .ok (.isub, 1) := by decide +kernel
theorem dX2_nextOutOf_16 : decode cX2_nextOutOf 16 = .ok (.invokestatic 89, 3) := by decide +kernel
theorem dX2_nextOutOf_19 : decode cX2_nextOutOf 19 = .ok (.ireturn, 1) := by decide +kernel
theorem dX2_enoughFor_0 : decode cX2_enoughFor 0 = .ok (.aload_n 0, 1) := by decide +kernel
theorem dX2_enoughFor_1 : decode cX2_enoughFor 1 = .ok (.getfield 18, 3) := by decide +kernel
theorem dX2_enoughFor_4 : decode cX2_enoughFor 4 = .ok (.aload_n 0, 1) := by decide +kernel
theorem dX2_enoughFor_5 : decode cX2_enoughFor 5 = .ok (.getfield 33, 3) := by decide +kernel
theorem dX2_enoughFor_8 : decode cX2_enoughFor 8 = .ok (.iload_n 1, 1) := by decide +kernel
theorem dX2_enoughFor_9 : decode cX2_enoughFor 9 = .ok (.iaload, 1) := by decide +kernel
theorem dX2_enoughFor_10 : decode cX2_enoughFor 10 = .ok (.iconst 2, 1) := by decide +kernel
theorem dX2_enoughFor_11 : decode cX2_enoughFor 11 = .ok (.idiv, 1) := by decide +kernel
theorem dX2_enoughFor_12 : decode cX2_enoughFor 12 = .ok (.iaload, 1) := by decide +kernel
theorem dX2_enoughFor_13 : decode cX2_enoughFor 13 = .ok (.aload_n 0, 1) := by decide +kernel
theorem dX2_enoughFor_14 : decode cX2_enoughFor 14 = .ok (.getfield 9, 3) := by decide +kernel
theorem dX2_enoughFor_17 : decode cX2_enoughFor 17 = .ok (.iconst 1, 1) := by decide +kernel
theorem dX2_enoughFor_18 : decode cX2_enoughFor 18 = .ok (.iaload, 1) := by decide +kernel
theorem dX2_enoughFor_19 : decode cX2_enoughFor 19 = .ok (.imul, 1) := by decide +kernel
theorem dX2_enoughFor_20 : decode cX2_enoughFor 20 = .ok (.bipush 99, 2) := by decide +kernel
theorem dX2_enoughFor_22 : decode cX2_enoughFor 22 = .ok (.iadd, 1) := by decide +kernel
theorem dX2_enoughFor_23 : decode cX2_enoughFor 23 = .ok (.bipush 100, 2) := by decide +kernel
theorem dX2_enoughFor_25 : decode cX2_enoughFor 25 = .ok (.idiv, 1) := by decide +kernel
theorem dX2_enoughFor_26 : decode cX2_enoughFor 26 = .ok (.istore_n 2, 1) := by decide +kernel
theorem dX2_enoughFor_27 : decode cX2_enoughFor 27 = .ok (.iload_n 2, 1) := by decide +kernel
theorem dX2_enoughFor_28 : decode cX2_enoughFor 28 = .ok (.aload_n 0, 1) := by decide +kernel
theorem dX2_enoughFor_29 : decode cX2_enoughFor 29 = .ok (.iload_n 1, 1) := by decide +kernel
theorem dX2_enoughFor_30 : decode cX2_enoughFor 30 = .ok (.invokevirtual 85, 3) := by decide +kernel
theorem dX2_enoughFor_33 : decode cX2_enoughFor 33 = .ok (.iadd, 1) := by decide +kernel
theorem dX2_enoughFor_34 : decode cX2_enoughFor 34 = .ok (.istore_n 3, 1) := by decide +kernel
theorem dX2_enoughFor_35 : decode cX2_enoughFor 35 = .ok (.iload_n 3, 1) := by decide +kernel
theorem dX2_enoughFor_36 : decode cX2_enoughFor 36 = .ok (.bipush 99, 2) := by decide +kernel
theorem dX2_enoughFor_38 : decode cX2_enoughFor 38 = .ok (.if_icmp .gt 7, 3) := by decide +kernel
theorem dX2_enoughFor_41 : decode cX2_enoughFor 41 = .ok (.iload_n 3, 1) := by decide +kernel
theorem dX2_enoughFor_42 : decode cX2_enoughFor 42 = .ok (.goto 4, 3) := by decide +kernel
theorem dX2_enoughFor_45 : decode cX2_enoughFor 45 = .ok (.iconst (-1), 1) := by decide +kernel
theorem dX2_enoughFor_46 : decode cX2_enoughFor 46 = .ok (.ireturn, 1) := by decide +kernel
theorem dX2_spareOf_0 : decode cX2_spareOf 0 = .ok (.aload_n 0, 1) := by decide +kernel
theorem dX2_spareOf_1 : decode cX2_spareOf 1 = .ok (.iload_n 1, 1) := by decide +kernel
theorem dX2_spareOf_2 : decode cX2_spareOf 2 = .ok (.invokevirtual 94, 3) := by decide +kernel
theorem dX2_spareOf_5 : decode cX2_spareOf 5 = .ok (.istore_n 2, 1) := by decide +kernel
theorem dX2_spareOf_6 : decode cX2_spareOf 6 = .ok (.iload_n 2, 1) := by decide +kernel
theorem dX2_spareOf_7 : decode cX2_spareOf 7 = .ok (.iconst (-1), 1) := by decide +kernel
theorem dX2_spareOf_8 : decode cX2_spareOf 8 = .ok (.if_icmp .ne 8, 3) := by decide +kernel
theorem dX2_spareOf_11 : decode cX2_spareOf 11 = .ok (.bipush (-99), 2) := by decide +kernel
theorem dX2_spareOf_13 : decode cX2_spareOf 13 = .ok (.goto 16, 3) := by decide +kernel
theorem dX2_spareOf_16 : decode cX2_spareOf 16 = .ok (.aload_n 0, 1) := by decide +kernel
theorem dX2_spareOf_17 : decode cX2_spareOf 17 = .ok (.getfield 24, 3) := by decide +kernel
theorem dX2_spareOf_20 : decode cX2_spareOf 20 = .ok (.aload_n 0, 1) := by decide +kernel
theorem dX2_spareOf_21 : decode cX2_spareOf 21 = .ok (.getfield 30, 3) := by decide +kernel
theorem dX2_spareOf_24 : decode cX2_spareOf 24 = .ok (.iload_n 1, 1) := by decide +kernel
theorem dX2_spareOf_25 : decode cX2_spareOf 25 = .ok (.iaload, 1) := by decide +kernel
theorem dX2_spareOf_26 : decode cX2_spareOf 26 = .ok (.iaload, 1) := by decide +kernel
theorem dX2_spareOf_27 : decode cX2_spareOf 27 = .ok (.iload_n 2, 1) := by decide +kernel
theorem dX2_spareOf_28 : decode cX2_spareOf 28 = .ok (.isub, 1) := by decide +kernel
theorem dX2_spareOf_29 : decode cX2_spareOf 29 = .ok (.ireturn, 1) := by decide +kernel
theorem dX2_passTick_0 : decode cX2_passTick 0 = .ok (.aload_n 0, 1) := by decide +kernel
theorem dX2_passTick_1 : decode cX2_passTick 1 = .ok (.dup, 1) := by decide +kernel
theorem dX2_passTick_2 : decode cX2_passTick 2 = .ok (.getfield 48, 3) := by decide +kernel
theorem dX2_passTick_5 : decode cX2_passTick 5 = .ok (.iconst 1, 1) := by decide +kernel
theorem dX2_passTick_6 : decode cX2_passTick 6 = .ok (.iadd, 1) := by decide +kernel
theorem dX2_passTick_7 : decode cX2_passTick 7 = .ok (.putfield 48, 3) := by decide +kernel
theorem dX2_passTick_10 : decode cX2_passTick 10 = .ok (.aload_n 0, 1) := by decide +kernel
theorem dX2_passTick_11 : decode cX2_passTick 11 = .ok (.invokevirtual 97, 3) := by decide +kernel
theorem dX2_passTick_14 : decode cX2_passTick 14 = .ok (.istore_n 1, 1) := by decide +kernel
theorem dX2_passTick_15 : decode cX2_passTick 15 = .ok (.iconst 0, 1) := by decide +kernel
theorem dX2_passTick_16 : decode cX2_passTick 16 = .ok (.istore_n 2, 1) := by decide +kernel
theorem dX2_passTick_17 : decode cX2_passTick 17 = .ok (.iload_n 2, 1) := by decide +kernel
theorem dX2_passTick_18 : decode cX2_passTick 18 = .ok (.aload_n 0, 1) := by decide +kernel
theorem dX2_passTick_19 : decode cX2_passTick 19 = .ok (.getfield 55, 3) := by decide +kernel
theorem dX2_passTick_22 : decode cX2_passTick 22 = .ok (.if_icmp .ge 19, 3) := by decide +kernel
theorem dX2_passTick_25 : decode cX2_passTick 25 = .ok (.aload_n 0, 1) := by decide +kernel
theorem dX2_passTick_26 : decode cX2_passTick 26 = .ok (.iload_n 2, 1) := by decide +kernel
theorem dX2_passTick_27 : decode cX2_passTick 27 = .ok (.invokevirtual 101, 3) := by decide +kernel
theorem dX2_passTick_30 : decode cX2_passTick 30 = .ok (.ifCond .eq 5, 3) := by decide +kernel
theorem dX2_passTick_33 : decode cX2_passTick 33 = .ok (.iconst 1, 1) := by decide +kernel
theorem dX2_passTick_34 : decode cX2_passTick 34 = .ok (.istore_n 1, 1) := by decide +kernel
theorem dX2_passTick_35 : decode cX2_passTick 35 = .ok (.iinc 2 1, 3) := by decide +kernel
theorem dX2_passTick_38 : decode cX2_passTick 38 = .ok (.goto (-21), 3) := by decide +kernel
theorem dX2_passTick_41 : decode cX2_passTick 41 = .ok (.iconst 0, 1) := by decide +kernel
theorem dX2_passTick_42 : decode cX2_passTick 42 = .ok (.istore_n 2, 1) := by decide +kernel
theorem dX2_passTick_43 : decode cX2_passTick 43 = .ok (.iload_n 2, 1) := by decide +kernel
theorem dX2_passTick_44 : decode cX2_passTick 44 = .ok (.aload_n 0, 1) := by decide +kernel
theorem dX2_passTick_45 : decode cX2_passTick 45 = .ok (.getfield 58, 3) := by decide +kernel
theorem dX2_passTick_48 : decode cX2_passTick 48 = .ok (.if_icmp .ge 19, 3) := by decide +kernel
theorem dX2_passTick_51 : decode cX2_passTick 51 = .ok (.aload_n 0, 1) := by decide +kernel
theorem dX2_passTick_52 : decode cX2_passTick 52 = .ok (.iload_n 2, 1) := by decide +kernel
theorem dX2_passTick_53 : decode cX2_passTick 53 = .ok (.invokevirtual 104, 3) := by decide +kernel
theorem dX2_passTick_56 : decode cX2_passTick 56 = .ok (.ifCond .eq 5, 3) := by decide +kernel
theorem dX2_passTick_59 : decode cX2_passTick 59 = .ok (.iconst 1, 1) := by decide +kernel
theorem dX2_passTick_60 : decode cX2_passTick 60 = .ok (.istore_n 1, 1) := by decide +kernel
theorem dX2_passTick_61 : decode cX2_passTick 61 = .ok (.iinc 2 1, 3) := by decide +kernel
theorem dX2_passTick_64 : decode cX2_passTick 64 = .ok (.goto (-21), 3) := by decide +kernel
theorem dX2_passTick_67 : decode cX2_passTick 67 = .ok (.iload_n 1, 1) := by decide +kernel
theorem dX2_passTick_68 : decode cX2_passTick 68 = .ok (.ireturn, 1) := by decide +kernel
theorem dX2_fillPushes_0 : decode cX2_fillPushes 0 = .ok (.aload_n 0, 1) := by decide +kernel
theorem dX2_fillPushes_1 : decode cX2_fillPushes 1 = .ok (.getfield 45, 3) := by decide +kernel
theorem dX2_fillPushes_4 : decode cX2_fillPushes 4 = .ok (.iconst 0, 1) := by decide +kernel
theorem dX2_fillPushes_5 : decode cX2_fillPushes 5 = .ok (.invokestatic 107, 3) := by decide +kernel
theorem dX2_fillPushes_8 : decode cX2_fillPushes 8 = .ok (.iconst 0, 1) := by decide +kernel
theorem dX2_fillPushes_9 : decode cX2_fillPushes 9 = .ok (.istore_n 1, 1) := by decide +kernel
theorem dX2_fillPushes_10 : decode cX2_fillPushes 10 = .ok (.iload_n 1, 1) := by decide +kernel
theorem dX2_fillPushes_11 : decode cX2_fillPushes 11 = .ok (.aload_n 0, 1) := by decide +kernel
theorem dX2_fillPushes_12 : decode cX2_fillPushes 12 = .ok (.getfield 58, 3) := by decide +kernel
theorem dX2_fillPushes_15 : decode cX2_fillPushes 15 = .ok (.if_icmp .ge 36, 3) := by decide +kernel
theorem dX2_fillPushes_18 : decode cX2_fillPushes 18 = .ok (.aload_n 0, 1) := by decide +kernel
theorem dX2_fillPushes_19 : decode cX2_fillPushes 19 = .ok (.getfield 33, 3) := by decide +kernel
theorem dX2_fillPushes_22 : decode cX2_fillPushes 22 = .ok (.iload_n 1, 1) := by decide +kernel
theorem dX2_fillPushes_23 : decode cX2_fillPushes 23 = .ok (.iaload, 1) := by decide +kernel
theorem dX2_fillPushes_24 : decode cX2_fillPushes 24 = .ok (.istore_n 2, 1) := by decide +kernel
theorem dX2_fillPushes_25 : decode cX2_fillPushes 25 = .ok (.aload_n 0, 1) := by decide +kernel
theorem dX2_fillPushes_26 : decode cX2_fillPushes 26 = .ok (.getfield 45, 3) := by decide +kernel
theorem dX2_fillPushes_29 : decode cX2_fillPushes 29 = .ok (.iload_n 2, 1) := by decide +kernel
theorem dX2_fillPushes_30 : decode cX2_fillPushes 30 = .ok (.aload_n 0, 1) := by decide +kernel
theorem dX2_fillPushes_31 : decode cX2_fillPushes 31 = .ok (.getfield 45, 3) := by decide +kernel
theorem dX2_fillPushes_34 : decode cX2_fillPushes 34 = .ok (.iload_n 2, 1) := by decide +kernel
theorem dX2_fillPushes_35 : decode cX2_fillPushes 35 = .ok (.iaload, 1) := by decide +kernel
theorem dX2_fillPushes_36 : decode cX2_fillPushes 36 = .ok (.aload_n 0, 1) := by decide +kernel
theorem dX2_fillPushes_37 : decode cX2_fillPushes 37 = .ok (.iload_n 1, 1) := by decide +kernel
theorem dX2_fillPushes_38 : decode cX2_fillPushes 38 = .ok (.invokevirtual 110, 3) := by decide +kernel
theorem dX2_fillPushes_41 : decode cX2_fillPushes 41 = .ok (.invokestatic 89, 3) := by decide +kernel
theorem dX2_fillPushes_44 : decode cX2_fillPushes 44 = .ok (.iastore, 1) := by decide +kernel
theorem dX2_fillPushes_45 : decode cX2_fillPushes 45 = .ok (.iinc 1 1, 3) := by decide +kernel
theorem dX2_fillPushes_48 : decode cX2_fillPushes 48 = .ok (.goto (-38), 3) := by decide +kernel
theorem dX2_fillPushes_51 : decode cX2_fillPushes 51 = .ok (.iconst 0, 1) := by decide +kernel
theorem dX2_fillPushes_52 : decode cX2_fillPushes 52 = .ok (.istore_n 1, 1) := by decide +kernel
theorem dX2_fillPushes_53 : decode cX2_fillPushes 53 = .ok (.iconst 0, 1) := by decide +kernel
theorem dX2_fillPushes_54 : decode cX2_fillPushes 54 = .ok (.istore_n 2, 1) := by decide +kernel
theorem dX2_fillPushes_55 : decode cX2_fillPushes 55 = .ok (.iload_n 2, 1) := by decide +kernel
theorem dX2_fillPushes_56 : decode cX2_fillPushes 56 = .ok (.iconst 2, 1) := by decide +kernel
theorem dX2_fillPushes_57 : decode cX2_fillPushes 57 = .ok (.aload_n 0, 1) := by decide +kernel
theorem dX2_fillPushes_58 : decode cX2_fillPushes 58 = .ok (.getfield 55, 3) := by decide +kernel
theorem dX2_fillPushes_61 : decode cX2_fillPushes 61 = .ok (.imul, 1) := by decide +kernel
theorem dX2_fillPushes_62 : decode cX2_fillPushes 62 = .ok (.if_icmp .ge 38, 3) := by decide +kernel
theorem dX2_fillPushes_65 : decode cX2_fillPushes 65 = .ok (.aload_n 0, 1) := by decide +kernel
theorem dX2_fillPushes_66 : decode cX2_fillPushes 66 = .ok (.getfield 27, 3) := by decide +kernel
theorem dX2_fillPushes_69 : decode cX2_fillPushes 69 = .ok (.iload_n 2, 1) := by decide +kernel
theorem dX2_fillPushes_70 : decode cX2_fillPushes 70 = .ok (.iaload, 1) := by decide +kernel
theorem dX2_fillPushes_71 : decode cX2_fillPushes 71 = .ok (.aload_n 0, 1) := by decide +kernel
theorem dX2_fillPushes_72 : decode cX2_fillPushes 72 = .ok (.getfield 45, 3) := by decide +kernel
theorem dX2_fillPushes_75 : decode cX2_fillPushes 75 = .ok (.iload_n 2, 1) := by decide +kernel
theorem dX2_fillPushes_76 : decode cX2_fillPushes 76 = .ok (.iaload, 1) := by decide +kernel
theorem dX2_fillPushes_77 : decode cX2_fillPushes 77 = .ok (.if_icmp .eq 17, 3) := by decide +kernel
theorem dX2_fillPushes_80 : decode cX2_fillPushes 80 = .ok (.aload_n 0, 1) := by decide +kernel
theorem dX2_fillPushes_81 : decode cX2_fillPushes 81 = .ok (.getfield 27, 3) := by decide +kernel
theorem dX2_fillPushes_84 : decode cX2_fillPushes 84 = .ok (.iload_n 2, 1) := by decide +kernel
theorem dX2_fillPushes_85 : decode cX2_fillPushes 85 = .ok (.aload_n 0, 1) := by decide +kernel
theorem dX2_fillPushes_86 : decode cX2_fillPushes 86 = .ok (.getfield 45, 3) := by decide +kernel
theorem dX2_fillPushes_89 : decode cX2_fillPushes 89 = .ok (.iload_n 2, 1) := by decide +kernel
theorem dX2_fillPushes_90 : decode cX2_fillPushes 90 = .ok (.iaload, 1) := by decide +kernel
theorem dX2_fillPushes_91 : decode cX2_fillPushes 91 = .ok (.iastore, 1) := by decide +kernel
theorem dX2_fillPushes_92 : decode cX2_fillPushes 92 = .ok (.iconst 1, 1) := by decide +kernel
theorem dX2_fillPushes_93 : decode cX2_fillPushes 93 = .ok (.istore_n 1, 1) := by decide +kernel
theorem dX2_fillPushes_94 : decode cX2_fillPushes 94 = .ok (.iinc 2 1, 3) := by decide +kernel
theorem dX2_fillPushes_97 : decode cX2_fillPushes 97 = .ok (.goto (-42), 3) := by decide +kernel
theorem dX2_fillPushes_100 : decode cX2_fillPushes 100 = .ok (.iload_n 1, 1) := by decide +kernel
theorem dX2_fillPushes_101 : decode cX2_fillPushes 101 = .ok (.ireturn, 1) := by decide +kernel
theorem dX2_turnValve_0 : decode cX2_turnValve 0 = .ok (.aload_n 0, 1) := by decide +kernel
theorem dX2_turnValve_1 : decode cX2_turnValve 1 = .ok (.getfield 27, 3) := by decide +kernel
theorem dX2_turnValve_4 : decode cX2_turnValve 4 = .ok (.iload_n 1, 1) := by decide +kernel
theorem dX2_turnValve_5 : decode cX2_turnValve 5 = .ok (.iconst 0, 1) := by decide +kernel
theorem dX2_turnValve_6 : decode cX2_turnValve 6 = .ok (.invokestatic 75, 3) := by decide +kernel
theorem dX2_turnValve_9 : decode cX2_turnValve 9 = .ok (.iaload, 1) := by decide +kernel
theorem dX2_turnValve_10 : decode cX2_turnValve 10 = .ok (.istore_n 2, 1) := by decide +kernel
theorem dX2_turnValve_11 : decode cX2_turnValve 11 = .ok (.aload_n 0, 1) := by decide +kernel
theorem dX2_turnValve_12 : decode cX2_turnValve 12 = .ok (.getfield 27, 3) := by decide +kernel
theorem dX2_turnValve_15 : decode cX2_turnValve 15 = .ok (.iload_n 1, 1) := by decide +kernel
theorem dX2_turnValve_16 : decode cX2_turnValve 16 = .ok (.iconst 1, 1) := by decide +kernel
theorem dX2_turnValve_17 : decode cX2_turnValve 17 = .ok (.invokestatic 75, 3) := by decide +kernel
theorem dX2_turnValve_20 : decode cX2_turnValve 20 = .ok (.iaload, 1) := by decide +kernel
theorem dX2_turnValve_21 : decode cX2_turnValve 21 = .ok (.istore_n 3, 1) := by decide +kernel
theorem dX2_turnValve_22 : decode cX2_turnValve 22 = .ok (.iload_n 2, 1) := by decide +kernel
theorem dX2_turnValve_23 : decode cX2_turnValve 23 = .ok (.iload_n 3, 1) := by decide +kernel
theorem dX2_turnValve_24 : decode cX2_turnValve 24 = .ok (.invokestatic 113, 3) := by decide +kernel
theorem dX2_turnValve_27 : decode cX2_turnValve 27 = .ok (.istore 4, 2) := by decide +kernel
theorem dX2_turnValve_29 : decode cX2_turnValve 29 = .ok (.iload_n 2, 1) := by decide +kernel
theorem dX2_turnValve_30 : decode cX2_turnValve 30 = .ok (.iload_n 3, 1) := by decide +kernel
theorem dX2_turnValve_31 : decode cX2_turnValve 31 = .ok (.invokestatic 89, 3) := by decide +kernel
theorem dX2_turnValve_34 : decode cX2_turnValve 34 = .ok (.istore 5, 2) := by decide +kernel
theorem dX2_turnValve_36 : decode cX2_turnValve 36 = .ok (.aload_n 0, 1) := by decide +kernel
theorem dX2_turnValve_37 : decode cX2_turnValve 37 = .ok (.getfield 15, 3) := by decide +kernel
theorem dX2_turnValve_40 : decode cX2_turnValve 40 = .ok (.iload_n 1, 1) := by decide +kernel
theorem dX2_turnValve_41 : decode cX2_turnValve 41 = .ok (.iaload, 1) := by decide +kernel
theorem dX2_turnValve_42 : decode cX2_turnValve 42 = .ok (.tableswitch 113 0 3 #[30, 44, 79, 90], 30) := by decide +kernel
theorem dX2_turnValve_72 : decode cX2_turnValve 72 = .ok (.aload_n 0, 1) := by decide +kernel
theorem dX2_turnValve_73 : decode cX2_turnValve 73 = .ok (.iload_n 1, 1) := by decide +kernel
theorem dX2_turnValve_74 : decode cX2_turnValve 74 = .ok (.iconst 1, 1) := by decide +kernel
theorem dX2_turnValve_75 : decode cX2_turnValve 75 = .ok (.aload_n 0, 1) := by decide +kernel
theorem dX2_turnValve_76 : decode cX2_turnValve 76 = .ok (.getfield 21, 3) := by decide +kernel
theorem dX2_turnValve_79 : decode cX2_turnValve 79 = .ok (.iload_n 1, 1) := by decide +kernel
theorem dX2_turnValve_80 : decode cX2_turnValve 80 = .ok (.iaload, 1) := by decide +kernel
theorem dX2_turnValve_81 : decode cX2_turnValve 81 = .ok (.isub, 1) := by decide +kernel
theorem dX2_turnValve_82 : decode cX2_turnValve 82 = .ok (.invokevirtual 116, 3) := by decide +kernel
theorem dX2_turnValve_85 : decode cX2_turnValve 85 = .ok (.ireturn, 1) := by decide +kernel
theorem dX2_turnValve_86 : decode cX2_turnValve 86 = .ok (.aload_n 0, 1) := by decide +kernel
theorem dX2_turnValve_87 : decode cX2_turnValve 87 = .ok (.iload_n 1, 1) := by decide +kernel
theorem dX2_turnValve_88 : decode cX2_turnValve 88 = .ok (.aload_n 0, 1) := by decide +kernel
theorem dX2_turnValve_89 : decode cX2_turnValve 89 = .ok (.iload_n 1, 1) := by decide +kernel
theorem dX2_turnValve_90 : decode cX2_turnValve 90 = .ok (.iconst 0, 1) := by decide +kernel
theorem dX2_turnValve_91 : decode cX2_turnValve 91 = .ok (.invokestatic 75, 3) := by decide +kernel
theorem dX2_turnValve_94 : decode cX2_turnValve 94 = .ok (.invokevirtual 120, 3) := by decide +kernel
theorem dX2_turnValve_97 : decode cX2_turnValve 97 = .ok (.ifCond .ne 15, 3) := by decide +kernel
theorem dX2_turnValve_100 : decode cX2_turnValve 100 = .ok (.aload_n 0, 1) := by decide +kernel
theorem dX2_turnValve_101 : decode cX2_turnValve 101 = .ok (.iload_n 1, 1) := by decide +kernel
theorem dX2_turnValve_102 : decode cX2_turnValve 102 = .ok (.iconst 1, 1) := by decide +kernel
theorem dX2_turnValve_103 : decode cX2_turnValve 103 = .ok (.invokestatic 75, 3) := by decide +kernel
theorem dX2_turnValve_106 : decode cX2_turnValve 106 = .ok (.invokevirtual 120, 3) := by decide +kernel
theorem dX2_turnValve_109 : decode cX2_turnValve 109 = .ok (.ifCond .eq 7, 3) := by decide +kernel
theorem dX2_turnValve_112 : decode cX2_turnValve 112 = .ok (.iconst 1, 1) := by decide +kernel
theorem dX2_turnValve_113 : decode cX2_turnValve 113 = .ok (.goto 4, 3) := by decide +kernel
theorem dX2_turnValve_116 : decode cX2_turnValve 116 = .ok (.iconst 0, 1) := by decide +kernel
theorem dX2_turnValve_117 : decode cX2_turnValve 117 = .ok (.invokevirtual 116, 3) := by decide +kernel
theorem dX2_turnValve_120 : decode cX2_turnValve 120 = .ok (.ireturn, 1) := by decide +kernel
theorem dX2_turnValve_121 : decode cX2_turnValve 121 = .ok (.aload_n 0, 1) := by decide +kernel
theorem dX2_turnValve_122 : decode cX2_turnValve 122 = .ok (.iload_n 1, 1) := by decide +kernel
theorem dX2_turnValve_123 : decode cX2_turnValve 123 = .ok (.aload_n 0, 1) := by decide +kernel
theorem dX2_turnValve_124 : decode cX2_turnValve 124 = .ok (.iload_n 1, 1) := by decide +kernel
theorem dX2_turnValve_125 : decode cX2_turnValve 125 = .ok (.invokevirtual 123, 3) := by decide +kernel
theorem dX2_turnValve_128 : decode cX2_turnValve 128 = .ok (.invokevirtual 116, 3) := by decide +kernel
theorem dX2_turnValve_131 : decode cX2_turnValve 131 = .ok (.ireturn, 1) := by decide +kernel
theorem dX2_turnValve_132 : decode cX2_turnValve 132 = .ok (.aload_n 0, 1) := by decide +kernel
theorem dX2_turnValve_133 : decode cX2_turnValve 133 = .ok (.iload_n 1, 1) := by decide +kernel
theorem dX2_turnValve_134 : decode cX2_turnValve 134 = .ok (.iconst 0, 1) := by decide +kernel
theorem dX2_turnValve_135 : decode cX2_turnValve 135 = .ok (.invokestatic 75, 3) := by decide +kernel
theorem dX2_turnValve_138 : decode cX2_turnValve 138 = .ok (.iload 4, 2) := by decide +kernel
theorem dX2_turnValve_140 : decode cX2_turnValve 140 = .ok (.iload 4, 2) := by decide +kernel
theorem dX2_turnValve_142 : decode cX2_turnValve 142 = .ok (.ifCond .ne 8, 3) := by decide +kernel
theorem dX2_turnValve_145 : decode cX2_turnValve 145 = .ok (.iload 5, 2) := by decide +kernel
theorem dX2_turnValve_147 : decode cX2_turnValve 147 = .ok (.goto 4, 3) := by decide +kernel
theorem dX2_turnValve_150 : decode cX2_turnValve 150 = .ok (.iconst 0, 1) := by decide +kernel
theorem dX2_turnValve_151 : decode cX2_turnValve 151 = .ok (.invokevirtual 126, 3) := by decide +kernel
theorem dX2_turnValve_154 : decode cX2_turnValve 154 = .ok (.ireturn, 1) := by decide +kernel
theorem dX2_turnValve_155 : decode cX2_turnValve 155 = .ok (.aload_n 0, 1) := by decide +kernel
theorem dX2_turnValve_156 : decode cX2_turnValve 156 = .ok (.iload_n 1, 1) := by decide +kernel
theorem dX2_turnValve_157 : decode cX2_turnValve 157 = .ok (.iload 5, 2) := by decide +kernel
theorem dX2_turnValve_159 : decode cX2_turnValve 159 = .ok (.iconst 5, 1) := by decide +kernel
theorem dX2_turnValve_160 : decode cX2_turnValve 160 = .ok (.if_icmp .lt 7, 3) := by decide +kernel
theorem dX2_turnValve_163 : decode cX2_turnValve 163 = .ok (.iconst 0, 1) := by decide +kernel
theorem dX2_turnValve_164 : decode cX2_turnValve 164 = .ok (.goto 4, 3) := by decide +kernel
theorem dX2_turnValve_167 : decode cX2_turnValve 167 = .ok (.iconst 1, 1) := by decide +kernel
theorem dX2_turnValve_168 : decode cX2_turnValve 168 = .ok (.invokevirtual 116, 3) := by decide +kernel
theorem dX2_turnValve_171 : decode cX2_turnValve 171 = .ok (.ireturn, 1) := by decide +kernel
theorem dX2_turnWallJet_0 : decode cX2_turnWallJet 0 = .ok (.aload_n 0, 1) := by decide +kernel
theorem dX2_turnWallJet_1 : decode cX2_turnWallJet 1 = .ok (.iload_n 1, 1) := by decide +kernel
theorem dX2_turnWallJet_2 : decode cX2_turnWallJet 2 = .ok (.iconst 0, 1) := by decide +kernel
theorem dX2_turnWallJet_3 : decode cX2_turnWallJet 3 = .ok (.invokestatic 75, 3) := by decide +kernel
theorem dX2_turnWallJet_6 : decode cX2_turnWallJet 6 = .ok (.invokevirtual 120, 3) := by decide +kernel
theorem dX2_turnWallJet_9 : decode cX2_turnWallJet 9 = .ok (.istore_n 2, 1) := by decide +kernel
theorem dX2_turnWallJet_10 : decode cX2_turnWallJet 10 = .ok (.aload_n 0, 1) := by decide +kernel
theorem dX2_turnWallJet_11 : decode cX2_turnWallJet 11 = .ok (.iload_n 1, 1) := by decide +kernel
theorem dX2_turnWallJet_12 : decode cX2_turnWallJet 12 = .ok (.iconst 1, 1) := by decide +kernel
theorem dX2_turnWallJet_13 : decode cX2_turnWallJet 13 = .ok (.invokestatic 75, 3) := by decide +kernel
theorem dX2_turnWallJet_16 : decode cX2_turnWallJet 16 = .ok (.invokevirtual 120, 3) := by decide +kernel
theorem dX2_turnWallJet_19 : decode cX2_turnWallJet 19 = .ok (.istore_n 3, 1) := by decide +kernel
theorem dX2_turnWallJet_20 : decode cX2_turnWallJet 20 = .ok (.iload_n 2, 1) := by decide +kernel
theorem dX2_turnWallJet_21 : decode cX2_turnWallJet 21 = .ok (.iload_n 3, 1) := by decide +kernel
theorem dX2_turnWallJet_22 : decode cX2_turnWallJet 22 = .ok (.if_icmp .eq 45, 3) := by decide +kernel
theorem dX2_turnWallJet_25 : decode cX2_turnWallJet 25 = .ok (.aload_n 0, 1) := by decide +kernel
theorem dX2_turnWallJet_26 : decode cX2_turnWallJet 26 = .ok (.getfield 21, 3) := by decide +kernel
theorem dX2_turnWallJet_29 : decode cX2_turnWallJet 29 = .ok (.iload_n 1, 1) := by decide +kernel
theorem dX2_turnWallJet_30 : decode cX2_turnWallJet 30 = .ok (.iaload, 1) := by decide +kernel
theorem dX2_turnWallJet_31 : decode cX2_turnWallJet 31 = .ok (.iload_n 2, 1) := by decide +kernel
theorem dX2_turnWallJet_32 : decode cX2_turnWallJet 32 = .ok (.ifCond .eq 7, 3) := by decide +kernel
theorem dX2_turnWallJet_35 : decode cX2_turnWallJet 35 = .ok (.iconst 1, 1) := by decide +kernel
theorem dX2_turnWallJet_36 : decode cX2_turnWallJet 36 = .ok (.goto 4, 3) := by decide +kernel
theorem dX2_turnWallJet_39 : decode cX2_turnWallJet 39 = .ok (.iconst 0, 1) := by decide +kernel
theorem dX2_turnWallJet_40 : decode cX2_turnWallJet 40 = .ok (.if_icmp .eq 27, 3) := by decide +kernel
theorem dX2_turnWallJet_43 : decode cX2_turnWallJet 43 = .ok (.aload_n 0, 1) := by decide +kernel
theorem dX2_turnWallJet_44 : decode cX2_turnWallJet 44 = .ok (.getfield 21, 3) := by decide +kernel
theorem dX2_turnWallJet_47 : decode cX2_turnWallJet 47 = .ok (.iload_n 1, 1) := by decide +kernel
theorem dX2_turnWallJet_48 : decode cX2_turnWallJet 48 = .ok (.iconst 1, 1) := by decide +kernel
theorem dX2_turnWallJet_49 : decode cX2_turnWallJet 49 = .ok (.aload_n 0, 1) := by decide +kernel
theorem dX2_turnWallJet_50 : decode cX2_turnWallJet 50 = .ok (.getfield 21, 3) := by decide +kernel
theorem dX2_turnWallJet_53 : decode cX2_turnWallJet 53 = .ok (.iload_n 1, 1) := by decide +kernel
theorem dX2_turnWallJet_54 : decode cX2_turnWallJet 54 = .ok (.iaload, 1) := by decide +kernel
theorem dX2_turnWallJet_55 : decode cX2_turnWallJet 55 = .ok (.isub, 1) := by decide +kernel
theorem dX2_turnWallJet_56 : decode cX2_turnWallJet 56 = .ok (.iastore, 1) := by decide +kernel
theorem dX2_turnWallJet_57 : decode cX2_turnWallJet 57 = .ok (.aload_n 0, 1) := by decide +kernel
theorem dX2_turnWallJet_58 : decode cX2_turnWallJet 58 = .ok (.dup, 1) := by decide +kernel
theorem dX2_turnWallJet_59 : decode cX2_turnWallJet 59 = .ok (.getfield 52, 3) := by decide +kernel
theorem dX2_turnWallJet_62 : decode cX2_turnWallJet 62 = .ok (.iconst 1, 1) := by decide +kernel
theorem dX2_turnWallJet_63 : decode cX2_turnWallJet 63 = .ok (.iadd, 1) := by decide +kernel
theorem dX2_turnWallJet_64 : decode cX2_turnWallJet 64 = .ok (.putfield 52, 3) := by decide +kernel
theorem dX2_turnWallJet_67 : decode cX2_turnWallJet 67 = .ok (.aload_n 0, 1) := by decide +kernel
theorem dX2_turnWallJet_68 : decode cX2_turnWallJet 68 = .ok (.getfield 21, 3) := by decide +kernel
theorem dX2_turnWallJet_71 : decode cX2_turnWallJet 71 = .ok (.iload_n 1, 1) := by decide +kernel
theorem dX2_turnWallJet_72 : decode cX2_turnWallJet 72 = .ok (.iaload, 1) := by decide +kernel
theorem dX2_turnWallJet_73 : decode cX2_turnWallJet 73 = .ok (.ireturn, 1) := by decide +kernel
theorem dX2_supplyLeg_0 : decode cX2_supplyLeg 0 = .ok (.iload_n 1, 1) := by decide +kernel
theorem dX2_supplyLeg_1 : decode cX2_supplyLeg 1 = .ok (.iconst 0, 1) := by decide +kernel
theorem dX2_supplyLeg_2 : decode cX2_supplyLeg 2 = .ok (.invokestatic 75, 3) := by decide +kernel
theorem dX2_supplyLeg_5 : decode cX2_supplyLeg 5 = .ok (.istore_n 3, 1) := by decide +kernel
theorem dX2_supplyLeg_6 : decode cX2_supplyLeg 6 = .ok (.iload_n 2, 1) := by decide +kernel
theorem dX2_supplyLeg_7 : decode cX2_supplyLeg 7 = .ok (.ifCond .ne 18, 3) := by decide +kernel
theorem dX2_supplyLeg_10 : decode cX2_supplyLeg 10 = .ok (.aload_n 0, 1) := by decide +kernel
theorem dX2_supplyLeg_11 : decode cX2_supplyLeg 11 = .ok (.iload_n 3, 1) := by decide +kernel
theorem dX2_supplyLeg_12 : decode cX2_supplyLeg 12 = .ok (.aload_n 0, 1) := by decide +kernel
theorem dX2_supplyLeg_13 : decode cX2_supplyLeg 13 = .ok (.getfield 18, 3) := by decide +kernel
theorem dX2_supplyLeg_16 : decode cX2_supplyLeg 16 = .ok (.iload_n 1, 1) := by decide +kernel
theorem dX2_supplyLeg_17 : decode cX2_supplyLeg 17 = .ok (.iaload, 1) := by decide +kernel
theorem dX2_supplyLeg_18 : decode cX2_supplyLeg 18 = .ok (.iconst 0, 1) := by decide +kernel
theorem dX2_supplyLeg_19 : decode cX2_supplyLeg 19 = .ok (.invokevirtual 126, 3) := by decide +kernel
theorem dX2_supplyLeg_22 : decode cX2_supplyLeg 22 = .ok (.goto 15, 3) := by decide +kernel
theorem dX2_supplyLeg_25 : decode cX2_supplyLeg 25 = .ok (.aload_n 0, 1) := by decide +kernel
theorem dX2_supplyLeg_26 : decode cX2_supplyLeg 26 = .ok (.iload_n 3, 1) := by decide +kernel
theorem dX2_supplyLeg_27 : decode cX2_supplyLeg 27 = .ok (.iconst 0, 1) := by decide +kernel
theorem dX2_supplyLeg_28 : decode cX2_supplyLeg 28 = .ok (.aload_n 0, 1) := by decide +kernel
theorem dX2_supplyLeg_29 : decode cX2_supplyLeg 29 = .ok (.getfield 18, 3) := by decide +kernel
theorem dX2_supplyLeg_32 : decode cX2_supplyLeg 32 = .ok (.iload_n 1, 1) := by decide +kernel
theorem dX2_supplyLeg_33 : decode cX2_supplyLeg 33 = .ok (.iaload, 1) := by decide +kernel
theorem dX2_supplyLeg_34 : decode cX2_supplyLeg 34 = .ok (.invokevirtual 126, 3) := by decide +kernel
theorem dX2_supplyLeg_37 : decode cX2_supplyLeg 37 = .ok (.ireturn, 1) := by decide +kernel
theorem dX2_putLegs_0 : decode cX2_putLegs 0 = .ok (.aload_n 0, 1) := by decide +kernel
theorem dX2_putLegs_1 : decode cX2_putLegs 1 = .ok (.getfield 24, 3) := by decide +kernel
theorem dX2_putLegs_4 : decode cX2_putLegs 4 = .ok (.iload_n 1, 1) := by decide +kernel
theorem dX2_putLegs_5 : decode cX2_putLegs 5 = .ok (.iaload, 1) := by decide +kernel
theorem dX2_putLegs_6 : decode cX2_putLegs 6 = .ok (.iload_n 2, 1) := by decide +kernel
theorem dX2_putLegs_7 : decode cX2_putLegs 7 = .ok (.if_icmp .ne 15, 3) := by decide +kernel
theorem dX2_putLegs_10 : decode cX2_putLegs 10 = .ok (.aload_n 0, 1) := by decide +kernel
theorem dX2_putLegs_11 : decode cX2_putLegs 11 = .ok (.getfield 24, 3) := by decide +kernel
theorem dX2_putLegs_14 : decode cX2_putLegs 14 = .ok (.iload_n 1, 1) := by decide +kernel
theorem dX2_putLegs_15 : decode cX2_putLegs 15 = .ok (.iconst 1, 1) := by decide +kernel
theorem dX2_putLegs_16 : decode cX2_putLegs 16 = .ok (.iadd, 1) := by decide +kernel
theorem dX2_putLegs_17 : decode cX2_putLegs 17 = .ok (.iaload, 1) := by decide +kernel
theorem dX2_putLegs_18 : decode cX2_putLegs 18 = .ok (.iload_n 3, 1) := by decide +kernel
theorem dX2_putLegs_19 : decode cX2_putLegs 19 = .ok (.if_icmp .eq 7, 3) := by decide +kernel
theorem dX2_putLegs_22 : decode cX2_putLegs 22 = .ok (.iconst 1, 1) := by decide +kernel
theorem dX2_putLegs_23 : decode cX2_putLegs 23 = .ok (.goto 4, 3) := by decide +kernel
theorem dX2_putLegs_26 : decode cX2_putLegs 26 = .ok (.iconst 0, 1) := by decide +kernel
theorem dX2_putLegs_27 : decode cX2_putLegs 27 = .ok (.istore 4, 2) := by decide +kernel
theorem dX2_putLegs_29 : decode cX2_putLegs 29 = .ok (.aload_n 0, 1) := by decide +kernel
theorem dX2_putLegs_30 : decode cX2_putLegs 30 = .ok (.getfield 24, 3) := by decide +kernel
theorem dX2_putLegs_33 : decode cX2_putLegs 33 = .ok (.iload_n 1, 1) := by decide +kernel
theorem dX2_putLegs_34 : decode cX2_putLegs 34 = .ok (.iload_n 2, 1) := by decide +kernel
theorem dX2_putLegs_35 : decode cX2_putLegs 35 = .ok (.iastore, 1) := by decide +kernel
theorem dX2_putLegs_36 : decode cX2_putLegs 36 = .ok (.aload_n 0, 1) := by decide +kernel
theorem dX2_putLegs_37 : decode cX2_putLegs 37 = .ok (.getfield 24, 3) := by decide +kernel
theorem dX2_putLegs_40 : decode cX2_putLegs 40 = .ok (.iload_n 1, 1) := by decide +kernel
theorem dX2_putLegs_41 : decode cX2_putLegs 41 = .ok (.iconst 1, 1) := by decide +kernel
theorem dX2_putLegs_42 : decode cX2_putLegs 42 = .ok (.iadd, 1) := by decide +kernel
theorem dX2_putLegs_43 : decode cX2_putLegs 43 = .ok (.iload_n 3, 1) := by decide +kernel
theorem dX2_putLegs_44 : decode cX2_putLegs 44 = .ok (.iastore, 1) := by decide +kernel
theorem dX2_putLegs_45 : decode cX2_putLegs 45 = .ok (.iload 4, 2) := by decide +kernel
theorem dX2_putLegs_47 : decode cX2_putLegs 47 = .ok (.ireturn, 1) := by decide +kernel
theorem dX2_moveAir_0 : decode cX2_moveAir 0 = .ok (.iload_n 1, 1) := by decide +kernel
theorem dX2_moveAir_1 : decode cX2_moveAir 1 = .ok (.bipush 6, 2) := by decide +kernel
theorem dX2_moveAir_3 : decode cX2_moveAir 3 = .ok (.imul, 1) := by decide +kernel
theorem dX2_moveAir_4 : decode cX2_moveAir 4 = .ok (.istore_n 2, 1) := by decide +kernel
theorem dX2_moveAir_5 : decode cX2_moveAir 5 = .ok (.iload_n 2, 1) := by decide +kernel
theorem dX2_moveAir_6 : decode cX2_moveAir 6 = .ok (.aload_n 0, 1) := by decide +kernel
theorem dX2_moveAir_7 : decode cX2_moveAir 7 = .ok (.getfield 36, 3) := by decide +kernel
theorem dX2_moveAir_10 : decode cX2_moveAir 10 = .ok (.iload_n 1, 1) := by decide +kernel
theorem dX2_moveAir_11 : decode cX2_moveAir 11 = .ok (.iaload, 1) := by decide +kernel
theorem dX2_moveAir_12 : decode cX2_moveAir 12 = .ok (.iadd, 1) := by decide +kernel
theorem dX2_moveAir_13 : decode cX2_moveAir 13 = .ok (.iconst 1, 1) := by decide +kernel
theorem dX2_moveAir_14 : decode cX2_moveAir 14 = .ok (.isub, 1) := by decide +kernel
theorem dX2_moveAir_15 : decode cX2_moveAir 15 = .ok (.istore_n 3, 1) := by decide +kernel
theorem dX2_moveAir_16 : decode cX2_moveAir 16 = .ok (.iconst 0, 1) := by decide +kernel
theorem dX2_moveAir_17 : decode cX2_moveAir 17 = .ok (.istore 4, 2) := by decide +kernel
theorem dX2_moveAir_19 : decode cX2_moveAir 19 = .ok (.iload_n 2, 1) := by decide +kernel
theorem dX2_moveAir_20 : decode cX2_moveAir 20 = .ok (.istore 5, 2) := by decide +kernel
theorem dX2_moveAir_22 : decode cX2_moveAir 22 = .ok (.iload 5, 2) := by decide +kernel
theorem dX2_moveAir_24 : decode cX2_moveAir 24 = .ok (.iload_n 3, 1) := by decide +kernel
theorem dX2_moveAir_25 : decode cX2_moveAir 25 = .ok (.if_icmp .gt 64, 3) := by decide +kernel
theorem dX2_moveAir_28 : decode cX2_moveAir 28 = .ok (.iload 5, 2) := by decide +kernel
theorem dX2_moveAir_30 : decode cX2_moveAir 30 = .ok (.iload_n 3, 1) := by decide +kernel
theorem dX2_moveAir_31 : decode cX2_moveAir 31 = .ok (.if_icmp .ge 15, 3) := by decide +kernel
theorem dX2_moveAir_34 : decode cX2_moveAir 34 = .ok (.aload_n 0, 1) := by decide +kernel
theorem dX2_moveAir_35 : decode cX2_moveAir 35 = .ok (.getfield 42, 3) := by decide +kernel
theorem dX2_moveAir_38 : decode cX2_moveAir 38 = .ok (.iload 5, 2) := by decide +kernel
theorem dX2_moveAir_40 : decode cX2_moveAir 40 = .ok (.iconst 1, 1) := by decide +kernel
theorem dX2_moveAir_41 : decode cX2_moveAir 41 = .ok (.iadd, 1) := by decide +kernel
theorem dX2_moveAir_42 : decode cX2_moveAir 42 = .ok (.iaload, 1) := by decide +kernel
theorem dX2_moveAir_43 : decode cX2_moveAir 43 = .ok (.goto 14, 3) := by decide +kernel
theorem dX2_moveAir_46 : decode cX2_moveAir 46 = .ok (.aload_n 0, 1) := by decide +kernel
theorem dX2_moveAir_47 : decode cX2_moveAir 47 = .ok (.getfield 24, 3) := by decide +kernel
theorem dX2_moveAir_50 : decode cX2_moveAir 50 = .ok (.aload_n 0, 1) := by decide +kernel
theorem dX2_moveAir_51 : decode cX2_moveAir 51 = .ok (.getfield 30, 3) := by decide +kernel
theorem dX2_moveAir_54 : decode cX2_moveAir 54 = .ok (.iload_n 1, 1) := by decide +kernel
theorem dX2_moveAir_55 : decode cX2_moveAir 55 = .ok (.iaload, 1) := by decide +kernel
theorem dX2_moveAir_56 : decode cX2_moveAir 56 = .ok (.iaload, 1) := by decide +kernel
theorem dX2_moveAir_57 : decode cX2_moveAir 57 = .ok (.istore 6, 2) := by decide +kernel
theorem dX2_moveAir_59 : decode cX2_moveAir 59 = .ok (.aload_n 0, 1) := by decide +kernel
theorem dX2_moveAir_60 : decode cX2_moveAir 60 = .ok (.getfield 42, 3) := by decide +kernel
theorem dX2_moveAir_63 : decode cX2_moveAir 63 = .ok (.iload 5, 2) := by decide +kernel
theorem dX2_moveAir_65 : decode cX2_moveAir 65 = .ok (.iaload, 1) := by decide +kernel
theorem dX2_moveAir_66 : decode cX2_moveAir 66 = .ok (.iload 6, 2) := by decide +kernel
theorem dX2_moveAir_68 : decode cX2_moveAir 68 = .ok (.if_icmp .eq 15, 3) := by decide +kernel
theorem dX2_moveAir_71 : decode cX2_moveAir 71 = .ok (.aload_n 0, 1) := by decide +kernel
theorem dX2_moveAir_72 : decode cX2_moveAir 72 = .ok (.getfield 42, 3) := by decide +kernel
theorem dX2_moveAir_75 : decode cX2_moveAir 75 = .ok (.iload 5, 2) := by decide +kernel
theorem dX2_moveAir_77 : decode cX2_moveAir 77 = .ok (.iload 6, 2) := by decide +kernel
theorem dX2_moveAir_79 : decode cX2_moveAir 79 = .ok (.iastore, 1) := by decide +kernel
theorem dX2_moveAir_80 : decode cX2_moveAir 80 = .ok (.iconst 1, 1) := by decide +kernel
theorem dX2_moveAir_81 : decode cX2_moveAir 81 = .ok (.istore 4, 2) := by decide +kernel
theorem dX2_moveAir_83 : decode cX2_moveAir 83 = .ok (.iinc 5 1, 3) := by decide +kernel
theorem dX2_moveAir_86 : decode cX2_moveAir 86 = .ok (.goto (-64), 3) := by decide +kernel
theorem dX2_moveAir_89 : decode cX2_moveAir 89 = .ok (.iload 4, 2) := by decide +kernel
theorem dX2_moveAir_91 : decode cX2_moveAir 91 = .ok (.ireturn, 1) := by decide +kernel
theorem dX2_findBeat_0 : decode cX2_findBeat 0 = .ok (.iconst 0, 1) := by decide +kernel
theorem dX2_findBeat_1 : decode cX2_findBeat 1 = .ok (.istore_n 2, 1) := by decide +kernel
theorem dX2_findBeat_2 : decode cX2_findBeat 2 = .ok (.iload_n 2, 1) := by decide +kernel
theorem dX2_findBeat_3 : decode cX2_findBeat 3 = .ok (.bipush 100, 2) := by decide +kernel
theorem dX2_findBeat_5 : decode cX2_findBeat 5 = .ok (.if_icmp .ge 18, 3) := by decide +kernel
theorem dX2_findBeat_8 : decode cX2_findBeat 8 = .ok (.aload_n 0, 1) := by decide +kernel
theorem dX2_findBeat_9 : decode cX2_findBeat 9 = .ok (.invokevirtual 129, 3) := by decide +kernel
theorem dX2_findBeat_12 : decode cX2_findBeat 12 = .ok (.ifCond .ne 5, 3) := by decide +kernel
theorem dX2_findBeat_15 : decode cX2_findBeat 15 = .ok (.iconst (-1), 1) := by decide +kernel
theorem dX2_findBeat_16 : decode cX2_findBeat 16 = .ok (.ireturn, 1) := by decide +kernel
theorem dX2_findBeat_17 : decode cX2_findBeat 17 = .ok (.iinc 2 1, 3) := by decide +kernel
theorem dX2_findBeat_20 : decode cX2_findBeat 20 = .ok (.goto (-18), 3) := by decide +kernel
theorem dX2_findBeat_23 : decode cX2_findBeat 23 = .ok (.iload_n 1, 1) := by decide +kernel
theorem dX2_findBeat_24 : decode cX2_findBeat 24 = .ok (.iconst 0, 1) := by decide +kernel
theorem dX2_findBeat_25 : decode cX2_findBeat 25 = .ok (.invokestatic 75, 3) := by decide +kernel
theorem dX2_findBeat_28 : decode cX2_findBeat 28 = .ok (.istore_n 2, 1) := by decide +kernel
theorem dX2_findBeat_29 : decode cX2_findBeat 29 = .ok (.iconst (-1), 1) := by decide +kernel
theorem dX2_findBeat_30 : decode cX2_findBeat 30 = .ok (.istore_n 3, 1) := by decide +kernel
theorem dX2_findBeat_31 : decode cX2_findBeat 31 = .ok (.iconst 0, 1) := by decide +kernel
theorem dX2_findBeat_32 : decode cX2_findBeat 32 = .ok (.istore 4, 2) := by decide +kernel
theorem dX2_findBeat_34 : decode cX2_findBeat 34 = .ok (.iload 4, 2) := by decide +kernel
theorem dX2_findBeat_36 : decode cX2_findBeat 36 = .ok (.sipush 200, 3) := by decide +kernel
theorem dX2_findBeat_39 : decode cX2_findBeat 39 = .ok (.if_icmp .ge 49, 3) := by decide +kernel
theorem dX2_findBeat_42 : decode cX2_findBeat 42 = .ok (.aload_n 0, 1) := by decide +kernel
theorem dX2_findBeat_43 : decode cX2_findBeat 43 = .ok (.getfield 24, 3) := by decide +kernel
theorem dX2_findBeat_46 : decode cX2_findBeat 46 = .ok (.iload_n 2, 1) := by decide +kernel
theorem dX2_findBeat_47 : decode cX2_findBeat 47 = .ok (.iaload, 1) := by decide +kernel
theorem dX2_findBeat_48 : decode cX2_findBeat 48 = .ok (.istore 5, 2) := by decide +kernel
theorem dX2_findBeat_50 : decode cX2_findBeat 50 = .ok (.aload_n 0, 1) := by decide +kernel
theorem dX2_findBeat_51 : decode cX2_findBeat 51 = .ok (.invokevirtual 129, 3) := by decide +kernel
theorem dX2_findBeat_54 : decode cX2_findBeat 54 = .ok (.pop, 1) := by decide +kernel
theorem dX2_findBeat_55 : decode cX2_findBeat 55 = .ok (.iload 5, 2) := by decide +kernel
theorem dX2_findBeat_57 : decode cX2_findBeat 57 = .ok (.ifCond .ne 25, 3) := by decide +kernel
theorem dX2_findBeat_60 : decode cX2_findBeat 60 = .ok (.aload_n 0, 1) := by decide +kernel
theorem dX2_findBeat_61 : decode cX2_findBeat 61 = .ok (.getfield 24, 3) := by decide +kernel
theorem dX2_findBeat_64 : decode cX2_findBeat 64 = .ok (.iload_n 2, 1) := by decide +kernel
theorem dX2_findBeat_65 : decode cX2_findBeat 65 = .ok (.iaload, 1) := by decide +kernel
theorem dX2_findBeat_66 : decode cX2_findBeat 66 = .ok (.ifCond .le 16, 3) := by decide +kernel
theorem dX2_findBeat_69 : decode cX2_findBeat 69 = .ok (.iload_n 3, 1) := by decide +kernel
theorem dX2_findBeat_70 : decode cX2_findBeat 70 = .ok (.iconst (-1), 1) := by decide +kernel
theorem dX2_findBeat_71 : decode cX2_findBeat 71 = .ok (.if_icmp .eq 8, 3) := by decide +kernel
theorem dX2_findBeat_74 : decode cX2_findBeat 74 = .ok (.iload 4, 2) := by decide +kernel
theorem dX2_findBeat_76 : decode cX2_findBeat 76 = .ok (.iload_n 3, 1) := by decide +kernel
theorem dX2_findBeat_77 : decode cX2_findBeat 77 = .ok (.isub, 1) := by decide +kernel
theorem dX2_findBeat_78 : decode cX2_findBeat 78 = .ok (.ireturn, 1) := by decide +kernel
theorem dX2_findBeat_79 : decode cX2_findBeat 79 = .ok (.iload 4, 2) := by decide +kernel
theorem dX2_findBeat_81 : decode cX2_findBeat 81 = .ok (.istore_n 3, 1) := by decide +kernel
theorem dX2_findBeat_82 : decode cX2_findBeat 82 = .ok (.iinc 4 1, 3) := by decide +kernel
theorem dX2_findBeat_85 : decode cX2_findBeat 85 = .ok (.goto (-51), 3) := by decide +kernel
theorem dX2_findBeat_88 : decode cX2_findBeat 88 = .ok (.iconst (-1), 1) := by decide +kernel
theorem dX2_findBeat_89 : decode cX2_findBeat 89 = .ok (.ireturn, 1) := by decide +kernel
theorem dX3_succeeds_0 : decode cX3_succeeds 0 = .ok (.iload_n 2, 1) := by decide +kernel
theorem dX3_succeeds_1 : decode cX3_succeeds 1 = .ok (.sipush 10000, 3) := by decide +kernel
theorem dX3_succeeds_4 : decode cX3_succeeds 4 = .ok (.idiv, 1) := by decide +kernel
theorem dX3_succeeds_5 : decode cX3_succeeds 5 = .ok (.bipush 10, 2) := by decide +kernel
theorem dX3_succeeds_7 : decode cX3_succeeds 7 = .ok (.irem, 1) := by decide +kernel
theorem dX3_succeeds_8 : decode cX3_succeeds 8 = .ok (.istore_n 3, 1) := by decide +kernel
theorem dX3_succeeds_9 : decode cX3_succeeds 9 = .ok (.iload_n 2, 1) := by decide +kernel
theorem dX3_succeeds_10 : decode cX3_succeeds 10 = .ok (.sipush 1000, 3) := by decide +kernel
theorem dX3_succeeds_13 : decode cX3_succeeds 13 = .ok (.idiv, 1) := by decide +kernel
theorem dX3_succeeds_14 : decode cX3_succeeds 14 = .ok (.bipush 10, 2) := by decide +kernel
theorem dX3_succeeds_16 : decode cX3_succeeds 16 = .ok (.irem, 1) := by decide +kernel
theorem dX3_succeeds_17 : decode cX3_succeeds 17 = .ok (.istore 4, 2) := by decide +kernel
theorem dX3_succeeds_19 : decode cX3_succeeds 19 = .ok (.iload_n 2, 1) := by decide +kernel
theorem dX3_succeeds_20 : decode cX3_succeeds 20 = .ok (.bipush 100, 2) := by decide +kernel
theorem dX3_succeeds_22 : decode cX3_succeeds 22 = .ok (.idiv, 1) := by decide +kernel
theorem dX3_succeeds_23 : decode cX3_succeeds 23 = .ok (.bipush 10, 2) := by decide +kernel
theorem dX3_succeeds_25 : decode cX3_succeeds 25 = .ok (.irem, 1) := by decide +kernel
theorem dX3_succeeds_26 : decode cX3_succeeds 26 = .ok (.istore 5, 2) := by decide +kernel
theorem dX3_succeeds_28 : decode cX3_succeeds 28 = .ok (.iload_n 2, 1) := by decide +kernel
theorem dX3_succeeds_29 : decode cX3_succeeds 29 = .ok (.bipush 10, 2) := by decide +kernel
theorem dX3_succeeds_31 : decode cX3_succeeds 31 = .ok (.idiv, 1) := by decide +kernel
theorem dX3_succeeds_32 : decode cX3_succeeds 32 = .ok (.bipush 10, 2) := by decide +kernel
theorem dX3_succeeds_34 : decode cX3_succeeds 34 = .ok (.irem, 1) := by decide +kernel
theorem dX3_succeeds_35 : decode cX3_succeeds 35 = .ok (.istore 6, 2) := by decide +kernel
theorem dX3_succeeds_37 : decode cX3_succeeds 37 = .ok (.iload_n 2, 1) := by decide +kernel
theorem dX3_succeeds_38 : decode cX3_succeeds 38 = .ok (.bipush 10, 2) := by decide +kernel
theorem dX3_succeeds_40 : decode cX3_succeeds 40 = .ok (.irem, 1) := by decide +kernel
theorem dX3_succeeds_41 : decode cX3_succeeds 41 = .ok (.istore 7, 2) := by decide +kernel
theorem dX3_succeeds_43 : decode cX3_succeeds 43 = .ok (.iload_n 2, 1) := by decide +kernel
theorem dX3_succeeds_44 : decode cX3_succeeds 44 = .ok (.bipush 100, 2) := by decide +kernel
theorem dX3_succeeds_46 : decode cX3_succeeds 46 = .ok (.irem, 1) := by decide +kernel
theorem dX3_succeeds_47 : decode cX3_succeeds 47 = .ok (.istore 8, 2) := by decide +kernel
theorem dX3_succeeds_49 : decode cX3_succeeds 49 = .ok (.iload_n 2, 1) := by decide +kernel
theorem dX3_succeeds_50 : decode cX3_succeeds 50 = .ok (.ldc 7, 2) := by decide +kernel
theorem dX3_succeeds_52 : decode cX3_succeeds 52 = .ok (.idiv, 1) := by decide +kernel
theorem dX3_succeeds_53 : decode cX3_succeeds 53 = .ok (.tableswitch 346 1 9 #[51, 80, 121, 148, 174, 200, 237, 286, 306], 51) := by decide +kernel
theorem dX3_succeeds_104 : decode cX3_succeeds 104 = .ok (.iload_n 3, 1) := by decide +kernel
theorem dX3_succeeds_105 : decode cX3_succeeds 105 = .ok (.ifCond .ne 26, 3) := by decide +kernel
theorem dX3_succeeds_108 : decode cX3_succeeds 108 = .ok (.iload 4, 2) := by decide +kernel
theorem dX3_succeeds_110 : decode cX3_succeeds 110 = .ok (.ifCond .ne 21, 3) := by decide +kernel
theorem dX3_succeeds_113 : decode cX3_succeeds 113 = .ok (.iload 5, 2) := by decide +kernel
theorem dX3_succeeds_115 : decode cX3_succeeds 115 = .ok (.ifCond .ne 16, 3) := by decide +kernel
theorem dX3_succeeds_118 : decode cX3_succeeds 118 = .ok (.aload_n 0, 1) := by decide +kernel
theorem dX3_succeeds_119 : decode cX3_succeeds 119 = .ok (.iload 8, 2) := by decide +kernel
theorem dX3_succeeds_121 : decode cX3_succeeds 121 = .ok (.invokestatic 8, 3) := by decide +kernel
theorem dX3_succeeds_124 : decode cX3_succeeds 124 = .ok (.ifCond .eq 7, 3) := by decide +kernel
theorem dX3_succeeds_127 : decode cX3_succeeds 127 = .ok (.iconst 1, 1) := by decide +kernel
theorem dX3_succeeds_128 : decode cX3_succeeds 128 = .ok (.goto 4, 3) := by decide +kernel
theorem dX3_succeeds_131 : decode cX3_succeeds 131 = .ok (.iconst 0, 1) := by decide +kernel
theorem dX3_succeeds_132 : decode cX3_succeeds 132 = .ok (.ireturn, 1) := by decide +kernel
theorem dX3_succeeds_133 : decode cX3_succeeds 133 = .ok (.iload 4, 2) := by decide +kernel
theorem dX3_succeeds_135 : decode cX3_succeeds 135 = .ok (.iconst 1, 1) := by decide +kernel
theorem dX3_succeeds_136 : decode cX3_succeeds 136 = .ok (.if_icmp .gt 36, 3) := by decide +kernel
theorem dX3_succeeds_139 : decode cX3_succeeds 139 = .ok (.iload 5, 2) := by decide +kernel
theorem dX3_succeeds_141 : decode cX3_succeeds 141 = .ok (.ifCond .ne 31, 3) := by decide +kernel
theorem dX3_succeeds_144 : decode cX3_succeeds 144 = .ok (.iload 8, 2) := by decide +kernel
theorem dX3_succeeds_146 : decode cX3_succeeds 146 = .ok (.ifCond .ne 26, 3) := by decide +kernel
theorem dX3_succeeds_149 : decode cX3_succeeds 149 = .ok (.aload_n 0, 1) := by decide +kernel
theorem dX3_succeeds_150 : decode cX3_succeeds 150 = .ok (.iload_n 3, 1) := by decide +kernel
theorem dX3_succeeds_151 : decode cX3_succeeds 151 = .ok (.iload 4, 2) := by decide +kernel
theorem dX3_succeeds_153 : decode cX3_succeeds 153 = .ok (.iconst 1, 1) := by decide +kernel
theorem dX3_succeeds_154 : decode cX3_succeeds 154 = .ok (.if_icmp .ne 7, 3) := by decide +kernel
theorem dX3_succeeds_157 : decode cX3_succeeds 157 = .ok (.iconst 1, 1) := by decide +kernel
theorem dX3_succeeds_158 : decode cX3_succeeds 158 = .ok (.goto 4, 3) := by decide +kernel
theorem dX3_succeeds_161 : decode cX3_succeeds 161 = .ok (.iconst 0, 1) := by decide +kernel
theorem dX3_succeeds_162 : decode cX3_succeeds 162 = .ok (.invokestatic 14, 3) := by decide +kernel
theorem dX3_succeeds_165 : decode cX3_succeeds 165 = .ok (.ifCond .eq 7, 3) := by decide +kernel
theorem dX3_succeeds_168 : decode cX3_succeeds 168 = .ok (.iconst 1, 1) := by decide +kernel
theorem dX3_succeeds_169 : decode cX3_succeeds 169 = .ok (.goto 4, 3) := by decide +kernel
theorem dX3_succeeds_172 : decode cX3_succeeds 172 = .ok (.iconst 0, 1) := by decide +kernel
theorem dX3_succeeds_173 : decode cX3_succeeds 173 = .ok (.ireturn, 1) := by decide +kernel
theorem dX3_succeeds_174 : decode cX3_succeeds 174 = .ok (.iload 5, 2) := by decide +kernel
theorem dX3_succeeds_176 : decode cX3_succeeds 176 = .ok (.ifCond .ne 23, 3) := by decide +kernel
theorem dX3_succeeds_179 : decode cX3_succeeds 179 = .ok (.aload_n 0, 1) := by decide +kernel
theorem dX3_succeeds_180 : decode cX3_succeeds 180 = .ok (.bipush 10, 2) := by decide +kernel
theorem dX3_succeeds_182 : decode cX3_succeeds 182 = .ok (.iload_n 3, 1) := by decide +kernel
theorem dX3_succeeds_183 : decode cX3_succeeds 183 = .ok (.imul, 1) := by decide +kernel
theorem dX3_succeeds_184 : decode cX3_succeeds 184 = .ok (.iload 4, 2) := by decide +kernel
theorem dX3_succeeds_186 : decode cX3_succeeds 186 = .ok (.iadd, 1) := by decide +kernel
theorem dX3_succeeds_187 : decode cX3_succeeds 187 = .ok (.iload 8, 2) := by decide +kernel
theorem dX3_succeeds_189 : decode cX3_succeeds 189 = .ok (.invokestatic 18, 3) := by decide +kernel
theorem dX3_succeeds_192 : decode cX3_succeeds 192 = .ok (.ifCond .eq 7, 3) := by decide +kernel
theorem dX3_succeeds_195 : decode cX3_succeeds 195 = .ok (.iconst 1, 1) := by decide +kernel
theorem dX3_succeeds_196 : decode cX3_succeeds 196 = .ok (.goto 4, 3) := by decide +kernel
theorem dX3_succeeds_199 : decode cX3_succeeds 199 = .ok (.iconst 0, 1) := by decide +kernel
theorem dX3_succeeds_200 : decode cX3_succeeds 200 = .ok (.ireturn, 1) := by decide +kernel
theorem dX3_succeeds_201 : decode cX3_succeeds 201 = .ok (.iload 4, 2) := by decide +kernel
theorem dX3_succeeds_203 : decode cX3_succeeds 203 = .ok (.ifCond .ne 22, 3) := by decide +kernel
theorem dX3_succeeds_206 : decode cX3_succeeds 206 = .ok (.iload 5, 2) := by decide +kernel
theorem dX3_succeeds_208 : decode cX3_succeeds 208 = .ok (.ifCond .ne 17, 3) := by decide +kernel
theorem dX3_succeeds_211 : decode cX3_succeeds 211 = .ok (.aload_n 0, 1) := by decide +kernel
theorem dX3_succeeds_212 : decode cX3_succeeds 212 = .ok (.iload_n 3, 1) := by decide +kernel
theorem dX3_succeeds_213 : decode cX3_succeeds 213 = .ok (.iload 8, 2) := by decide +kernel
theorem dX3_succeeds_215 : decode cX3_succeeds 215 = .ok (.invokestatic 22, 3) := by decide +kernel
theorem dX3_succeeds_218 : decode cX3_succeeds 218 = .ok (.ifCond .eq 7, 3) := by decide +kernel
theorem dX3_succeeds_221 : decode cX3_succeeds 221 = .ok (.iconst 1, 1) := by decide +kernel
theorem dX3_succeeds_222 : decode cX3_succeeds 222 = .ok (.goto 4, 3) := by decide +kernel
theorem dX3_succeeds_225 : decode cX3_succeeds 225 = .ok (.iconst 0, 1) := by decide +kernel
theorem dX3_succeeds_226 : decode cX3_succeeds 226 = .ok (.ireturn, 1) := by decide +kernel
theorem dX3_succeeds_227 : decode cX3_succeeds 227 = .ok (.iload 4, 2) := by decide +kernel
theorem dX3_succeeds_229 : decode cX3_succeeds 229 = .ok (.ifCond .ne 22, 3) := by decide +kernel
theorem dX3_succeeds_232 : decode cX3_succeeds 232 = .ok (.iload 5, 2) := by decide +kernel
theorem dX3_succeeds_234 : decode cX3_succeeds 234 = .ok (.ifCond .ne 17, 3) := by decide +kernel
theorem dX3_succeeds_237 : decode cX3_succeeds 237 = .ok (.aload_n 0, 1) := by decide +kernel
theorem dX3_succeeds_238 : decode cX3_succeeds 238 = .ok (.iload_n 3, 1) := by decide +kernel
theorem dX3_succeeds_239 : decode cX3_succeeds 239 = .ok (.iload 8, 2) := by decide +kernel
theorem dX3_succeeds_241 : decode cX3_succeeds 241 = .ok (.invokestatic 25, 3) := by decide +kernel
theorem dX3_succeeds_244 : decode cX3_succeeds 244 = .ok (.ifCond .eq 7, 3) := by decide +kernel
theorem dX3_succeeds_247 : decode cX3_succeeds 247 = .ok (.iconst 1, 1) := by decide +kernel
theorem dX3_succeeds_248 : decode cX3_succeeds 248 = .ok (.goto 4, 3) := by decide +kernel
theorem dX3_succeeds_251 : decode cX3_succeeds 251 = .ok (.iconst 0, 1) := by decide +kernel
theorem dX3_succeeds_252 : decode cX3_succeeds 252 = .ok (.ireturn, 1) := by decide +kernel
theorem dX3_succeeds_253 : decode cX3_succeeds 253 = .ok (.iload 5, 2) := by decide +kernel
theorem dX3_succeeds_255 : decode cX3_succeeds 255 = .ok (.ifCond .ne 33, 3) := by decide +kernel
theorem dX3_succeeds_258 : decode cX3_succeeds 258 = .ok (.aload_n 0, 1) := by decide +kernel
theorem dX3_succeeds_259 : decode cX3_succeeds 259 = .ok (.iload_n 3, 1) := by decide +kernel
theorem dX3_succeeds_260 : decode cX3_succeeds 260 = .ok (.iload 4, 2) := by decide +kernel
theorem dX3_succeeds_262 : decode cX3_succeeds 262 = .ok (.invokevirtual 28, 3) := by decide +kernel
theorem dX3_succeeds_265 : decode cX3_succeeds 265 = .ok (.ifCond .eq 23, 3) := by decide +kernel
theorem dX3_succeeds_268 : decode cX3_succeeds 268 = .ok (.aload_n 0, 1) := by decide +kernel
theorem dX3_succeeds_269 : decode cX3_succeeds 269 = .ok (.getfield 34, 3) := by decide +kernel
theorem dX3_succeeds_272 : decode cX3_succeeds 272 = .ok (.iload_n 3, 1) := by decide +kernel
theorem dX3_succeeds_273 : decode cX3_succeeds 273 = .ok (.iload 4, 2) := by decide +kernel
theorem dX3_succeeds_275 : decode cX3_succeeds 275 = .ok (.invokestatic 38, 3) := by decide +kernel
theorem dX3_succeeds_278 : decode cX3_succeeds 278 = .ok (.iaload, 1) := by decide +kernel
theorem dX3_succeeds_279 : decode cX3_succeeds 279 = .ok (.iload 8, 2) := by decide +kernel
theorem dX3_succeeds_281 : decode cX3_succeeds 281 = .ok (.if_icmp .lt 7, 3) := by decide +kernel
theorem dX3_succeeds_284 : decode cX3_succeeds 284 = .ok (.iconst 1, 1) := by decide +kernel
theorem dX3_succeeds_285 : decode cX3_succeeds 285 = .ok (.goto 4, 3) := by decide +kernel
theorem dX3_succeeds_288 : decode cX3_succeeds 288 = .ok (.iconst 0, 1) := by decide +kernel
theorem dX3_succeeds_289 : decode cX3_succeeds 289 = .ok (.ireturn, 1) := by decide +kernel
theorem dX3_succeeds_290 : decode cX3_succeeds 290 = .ok (.iload 5, 2) := by decide +kernel
theorem dX3_succeeds_292 : decode cX3_succeeds 292 = .ok (.ifCond .ne 45, 3) := by decide +kernel
theorem dX3_succeeds_295 : decode cX3_succeeds 295 = .ok (.iload 6, 2) := by decide +kernel
theorem dX3_succeeds_297 : decode cX3_succeeds 297 = .ok (.ifCond .ne 40, 3) := by decide +kernel
theorem dX3_succeeds_300 : decode cX3_succeeds 300 = .ok (.aload_n 0, 1) := by decide +kernel
theorem dX3_succeeds_301 : decode cX3_succeeds 301 = .ok (.iload_n 3, 1) := by decide +kernel
theorem dX3_succeeds_302 : decode cX3_succeeds 302 = .ok (.iload 4, 2) := by decide +kernel
theorem dX3_succeeds_304 : decode cX3_succeeds 304 = .ok (.invokevirtual 28, 3) := by decide +kernel
theorem dX3_succeeds_307 : decode cX3_succeeds 307 = .ok (.ifCond .eq 30, 3) := by decide +kernel
theorem dX3_succeeds_310 : decode cX3_succeeds 310 = .ok (.aload_n 0, 1) := by decide +kernel
theorem dX3_succeeds_311 : decode cX3_succeeds 311 = .ok (.iload_n 3, 1) := by decide +kernel
theorem dX3_succeeds_312 : decode cX3_succeeds 312 = .ok (.iload 4, 2) := by decide +kernel
theorem dX3_succeeds_314 : decode cX3_succeeds 314 = .ok (.invokestatic 38, 3) := by decide +kernel
theorem dX3_succeeds_317 : decode cX3_succeeds 317 = .ok (.invokevirtual 44, 3) := by decide +kernel
theorem dX3_succeeds_320 : decode cX3_succeeds 320 = .ok (.ifCond .eq 7, 3) := by decide +kernel
theorem dX3_succeeds_323 : decode cX3_succeeds 323 = .ok (.iconst 1, 1) := by decide +kernel
theorem dX3_succeeds_324 : decode cX3_succeeds 324 = .ok (.goto 4, 3) := by decide +kernel
theorem dX3_succeeds_327 : decode cX3_succeeds 327 = .ok (.iconst 0, 1) := by decide +kernel
theorem dX3_succeeds_328 : decode cX3_succeeds 328 = .ok (.iload 7, 2) := by decide +kernel
theorem dX3_succeeds_330 : decode cX3_succeeds 330 = .ok (.if_icmp .ne 7, 3) := by decide +kernel
theorem dX3_succeeds_333 : decode cX3_succeeds 333 = .ok (.iconst 1, 1) := by decide +kernel
theorem dX3_succeeds_334 : decode cX3_succeeds 334 = .ok (.goto 4, 3) := by decide +kernel
theorem dX3_succeeds_337 : decode cX3_succeeds 337 = .ok (.iconst 0, 1) := by decide +kernel
theorem dX3_succeeds_338 : decode cX3_succeeds 338 = .ok (.ireturn, 1) := by decide +kernel
theorem dX3_succeeds_339 : decode cX3_succeeds 339 = .ok (.iload_n 2, 1) := by decide +kernel
theorem dX3_succeeds_340 : decode cX3_succeeds 340 = .ok (.ldc 48, 2) := by decide +kernel
theorem dX3_succeeds_342 : decode cX3_succeeds 342 = .ok (.if_icmp .ne 15, 3) := by decide +kernel
theorem dX3_succeeds_345 : decode cX3_succeeds 345 = .ok (.aload_n 0, 1) := by decide +kernel
theorem dX3_succeeds_346 : decode cX3_succeeds 346 = .ok (.aload_n 1, 1) := by decide +kernel
theorem dX3_succeeds_347 : decode cX3_succeeds 347 = .ok (.invokestatic 49, 3) := by decide +kernel
theorem dX3_succeeds_350 : decode cX3_succeeds 350 = .ok (.ifCond .eq 7, 3) := by decide +kernel
theorem dX3_succeeds_353 : decode cX3_succeeds 353 = .ok (.iconst 1, 1) := by decide +kernel
theorem dX3_succeeds_354 : decode cX3_succeeds 354 = .ok (.goto 4, 3) := by decide +kernel
theorem dX3_succeeds_357 : decode cX3_succeeds 357 = .ok (.iconst 0, 1) := by decide +kernel
theorem dX3_succeeds_358 : decode cX3_succeeds 358 = .ok (.ireturn, 1) := by decide +kernel
theorem dX3_succeeds_359 : decode cX3_succeeds 359 = .ok (.iload 4, 2) := by decide +kernel
theorem dX3_succeeds_361 : decode cX3_succeeds 361 = .ok (.ifCond .ne 36, 3) := by decide +kernel
theorem dX3_succeeds_364 : decode cX3_succeeds 364 = .ok (.iload 5, 2) := by decide +kernel
theorem dX3_succeeds_366 : decode cX3_succeeds 366 = .ok (.ifCond .ne 31, 3) := by decide +kernel
theorem dX3_succeeds_369 : decode cX3_succeeds 369 = .ok (.iload 6, 2) := by decide +kernel
theorem dX3_succeeds_371 : decode cX3_succeeds 371 = .ok (.ifCond .ne 26, 3) := by decide +kernel
theorem dX3_succeeds_374 : decode cX3_succeeds 374 = .ok (.aload_n 0, 1) := by decide +kernel
theorem dX3_succeeds_375 : decode cX3_succeeds 375 = .ok (.iload_n 3, 1) := by decide +kernel
theorem dX3_succeeds_376 : decode cX3_succeeds 376 = .ok (.invokevirtual 55, 3) := by decide +kernel
theorem dX3_succeeds_379 : decode cX3_succeeds 379 = .ok (.ifCond .eq 18, 3) := by decide +kernel
theorem dX3_succeeds_382 : decode cX3_succeeds 382 = .ok (.aload_n 0, 1) := by decide +kernel
theorem dX3_succeeds_383 : decode cX3_succeeds 383 = .ok (.getfield 58, 3) := by decide +kernel
theorem dX3_succeeds_386 : decode cX3_succeeds 386 = .ok (.iload_n 3, 1) := by decide +kernel
theorem dX3_succeeds_387 : decode cX3_succeeds 387 = .ok (.iaload, 1) := by decide +kernel
theorem dX3_succeeds_388 : decode cX3_succeeds 388 = .ok (.iload 7, 2) := by decide +kernel
theorem dX3_succeeds_390 : decode cX3_succeeds 390 = .ok (.if_icmp .ne 7, 3) := by decide +kernel
theorem dX3_succeeds_393 : decode cX3_succeeds 393 = .ok (.iconst 1, 1) := by decide +kernel
theorem dX3_succeeds_394 : decode cX3_succeeds 394 = .ok (.goto 4, 3) := by decide +kernel
theorem dX3_succeeds_397 : decode cX3_succeeds 397 = .ok (.iconst 0, 1) := by decide +kernel
theorem dX3_succeeds_398 : decode cX3_succeeds 398 = .ok (.ireturn, 1) := by decide +kernel
theorem dX3_succeeds_399 : decode cX3_succeeds 399 = .ok (.iconst 0, 1) := by decide +kernel
theorem dX3_succeeds_400 : decode cX3_succeeds 400 = .ok (.ireturn, 1) := by decide +kernel
theorem dX3_isAtRest_0 : decode cX3_isAtRest 0 = .ok (.aload_n 1, 1) := by decide +kernel
theorem dX3_isAtRest_1 : decode cX3_isAtRest 1 = .ok (.aload_n 0, 1) := by decide +kernel
theorem dX3_isAtRest_2 : decode cX3_isAtRest 2 = .ok (.invokevirtual 61, 3) := by decide +kernel
theorem dX3_isAtRest_5 : decode cX3_isAtRest 5 = .ok (.aload_n 1, 1) := by decide +kernel
theorem dX3_isAtRest_6 : decode cX3_isAtRest 6 = .ok (.invokevirtual 65, 3) := by decide +kernel
theorem dX3_isAtRest_9 : decode cX3_isAtRest 9 = .ok (.ifCond .ne 7, 3) := by decide +kernel
theorem dX3_isAtRest_12 : decode cX3_isAtRest 12 = .ok (.iconst 1, 1) := by decide +kernel
theorem dX3_isAtRest_13 : decode cX3_isAtRest 13 = .ok (.goto 4, 3) := by decide +kernel
theorem dX3_isAtRest_16 : decode cX3_isAtRest 16 = .ok (.iconst 0, 1) := by decide +kernel
theorem dX3_isAtRest_17 : decode cX3_isAtRest 17 = .ok (.ireturn, 1) := by decide +kernel
theorem dX3_doTurn_0 : decode cX3_doTurn 0 = .ok (.iload_n 1, 1) := by decide +kernel
theorem dX3_doTurn_1 : decode cX3_doTurn 1 = .ok (.bipush 8, 2) := by decide +kernel
theorem dX3_doTurn_3 : decode cX3_doTurn 3 = .ok (.idiv, 1) := by decide +kernel
theorem dX3_doTurn_4 : decode cX3_doTurn 4 = .ok (.istore_n 2, 1) := by decide +kernel
theorem dX3_doTurn_5 : decode cX3_doTurn 5 = .ok (.iload_n 1, 1) := by decide +kernel
theorem dX3_doTurn_6 : decode cX3_doTurn 6 = .ok (.bipush 8, 2) := by decide +kernel
theorem dX3_doTurn_8 : decode cX3_doTurn 8 = .ok (.irem, 1) := by decide +kernel
theorem dX3_doTurn_9 : decode cX3_doTurn 9 = .ok (.tableswitch 192 0 5 #[39, 60, 60, 102, 129, 170], 39) := by decide +kernel
theorem dX3_doTurn_48 : decode cX3_doTurn 48 = .ok (.aload_n 0, 1) := by decide +kernel
theorem dX3_doTurn_49 : decode cX3_doTurn 49 = .ok (.iload_n 2, 1) := by decide +kernel
theorem dX3_doTurn_50 : decode cX3_doTurn 50 = .ok (.iconst 5, 1) := by decide +kernel
theorem dX3_doTurn_51 : decode cX3_doTurn 51 = .ok (.irem, 1) := by decide +kernel
theorem dX3_doTurn_52 : decode cX3_doTurn 52 = .ok (.bipush 10, 2) := by decide +kernel
theorem dX3_doTurn_54 : decode cX3_doTurn 54 = .ok (.iload_n 2, 1) := by decide +kernel
theorem dX3_doTurn_55 : decode cX3_doTurn 55 = .ok (.bipush 8, 2) := by decide +kernel
theorem dX3_doTurn_57 : decode cX3_doTurn 57 = .ok (.idiv, 1) := by decide +kernel
theorem dX3_doTurn_58 : decode cX3_doTurn 58 = .ok (.bipush 90, 2) := by decide +kernel
theorem dX3_doTurn_60 : decode cX3_doTurn 60 = .ok (.irem, 1) := by decide +kernel
theorem dX3_doTurn_61 : decode cX3_doTurn 61 = .ok (.iadd, 1) := by decide +kernel
theorem dX3_doTurn_62 : decode cX3_doTurn 62 = .ok (.invokestatic 69, 3) := by decide +kernel
theorem dX3_doTurn_65 : decode cX3_doTurn 65 = .ok (.pop, 1) := by decide +kernel
theorem dX3_doTurn_66 : decode cX3_doTurn 66 = .ok (.goto 146, 3) := by decide +kernel
theorem dX3_doTurn_69 : decode cX3_doTurn 69 = .ok (.aload_n 0, 1) := by decide +kernel
theorem dX3_doTurn_70 : decode cX3_doTurn 70 = .ok (.iload_n 2, 1) := by decide +kernel
theorem dX3_doTurn_71 : decode cX3_doTurn 71 = .ok (.bipush 10, 2) := by decide +kernel
theorem dX3_doTurn_73 : decode cX3_doTurn 73 = .ok (.irem, 1) := by decide +kernel
theorem dX3_doTurn_74 : decode cX3_doTurn 74 = .ok (.iload_n 2, 1) := by decide +kernel
theorem dX3_doTurn_75 : decode cX3_doTurn 75 = .ok (.bipush 16, 2) := by decide +kernel
theorem dX3_doTurn_77 : decode cX3_doTurn 77 = .ok (.idiv, 1) := by decide +kernel
theorem dX3_doTurn_78 : decode cX3_doTurn 78 = .ok (.iconst 2, 1) := by decide +kernel
theorem dX3_doTurn_79 : decode cX3_doTurn 79 = .ok (.irem, 1) := by decide +kernel
theorem dX3_doTurn_80 : decode cX3_doTurn 80 = .ok (.iload_n 2, 1) := by decide +kernel
theorem dX3_doTurn_81 : decode cX3_doTurn 81 = .ok (.bipush 32, 2) := by decide +kernel
theorem dX3_doTurn_83 : decode cX3_doTurn 83 = .ok (.idiv, 1) := by decide +kernel
theorem dX3_doTurn_84 : decode cX3_doTurn 84 = .ok (.bipush 10, 2) := by decide +kernel
theorem dX3_doTurn_86 : decode cX3_doTurn 86 = .ok (.irem, 1) := by decide +kernel
theorem dX3_doTurn_87 : decode cX3_doTurn 87 = .ok (.iload_n 2, 1) := by decide +kernel
theorem dX3_doTurn_88 : decode cX3_doTurn 88 = .ok (.sipush 512, 3) := by decide +kernel
theorem dX3_doTurn_91 : decode cX3_doTurn 91 = .ok (.idiv, 1) := by decide +kernel
theorem dX3_doTurn_92 : decode cX3_doTurn 92 = .ok (.iconst 2, 1) := by decide +kernel
theorem dX3_doTurn_93 : decode cX3_doTurn 93 = .ok (.irem, 1) := by decide +kernel
theorem dX3_doTurn_94 : decode cX3_doTurn 94 = .ok (.iconst 1, 1) := by decide +kernel
theorem dX3_doTurn_95 : decode cX3_doTurn 95 = .ok (.iload_n 2, 1) := by decide +kernel
theorem dX3_doTurn_96 : decode cX3_doTurn 96 = .ok (.sipush 1024, 3) := by decide +kernel
theorem dX3_doTurn_99 : decode cX3_doTurn 99 = .ok (.idiv, 1) := by decide +kernel
theorem dX3_doTurn_100 : decode cX3_doTurn 100 = .ok (.bipush 6, 2) := by decide +kernel
theorem dX3_doTurn_102 : decode cX3_doTurn 102 = .ok (.irem, 1) := by decide +kernel
theorem dX3_doTurn_103 : decode cX3_doTurn 103 = .ok (.iadd, 1) := by decide +kernel
theorem dX3_doTurn_104 : decode cX3_doTurn 104 = .ok (.invokestatic 72, 3) := by decide +kernel
theorem dX3_doTurn_107 : decode cX3_doTurn 107 = .ok (.pop, 1) := by decide +kernel
theorem dX3_doTurn_108 : decode cX3_doTurn 108 = .ok (.goto 104, 3) := by decide +kernel
theorem dX3_doTurn_111 : decode cX3_doTurn 111 = .ok (.aload_n 0, 1) := by decide +kernel
theorem dX3_doTurn_112 : decode cX3_doTurn 112 = .ok (.iload_n 2, 1) := by decide +kernel
theorem dX3_doTurn_113 : decode cX3_doTurn 113 = .ok (.bipush 10, 2) := by decide +kernel
theorem dX3_doTurn_115 : decode cX3_doTurn 115 = .ok (.irem, 1) := by decide +kernel
theorem dX3_doTurn_116 : decode cX3_doTurn 116 = .ok (.iload_n 2, 1) := by decide +kernel
theorem dX3_doTurn_117 : decode cX3_doTurn 117 = .ok (.bipush 16, 2) := by decide +kernel
theorem dX3_doTurn_119 : decode cX3_doTurn 119 = .ok (.idiv, 1) := by decide +kernel
theorem dX3_doTurn_120 : decode cX3_doTurn 120 = .ok (.iconst 2, 1) := by decide +kernel
theorem dX3_doTurn_121 : decode cX3_doTurn 121 = .ok (.irem, 1) := by decide +kernel
theorem dX3_doTurn_122 : decode cX3_doTurn 122 = .ok (.iconst 1, 1) := by decide +kernel
theorem dX3_doTurn_123 : decode cX3_doTurn 123 = .ok (.if_icmp .ne 7, 3) := by decide +kernel
theorem dX3_doTurn_126 : decode cX3_doTurn 126 = .ok (.iconst 1, 1) := by decide +kernel
theorem dX3_doTurn_127 : decode cX3_doTurn 127 = .ok (.goto 4, 3) := by decide +kernel
theorem dX3_doTurn_130 : decode cX3_doTurn 130 = .ok (.iconst 0, 1) := by decide +kernel
theorem dX3_doTurn_131 : decode cX3_doTurn 131 = .ok (.invokestatic 14, 3) := by decide +kernel
theorem dX3_doTurn_134 : decode cX3_doTurn 134 = .ok (.pop, 1) := by decide +kernel
theorem dX3_doTurn_135 : decode cX3_doTurn 135 = .ok (.goto 77, 3) := by decide +kernel
theorem dX3_doTurn_138 : decode cX3_doTurn 138 = .ok (.iload_n 2, 1) := by decide +kernel
theorem dX3_doTurn_139 : decode cX3_doTurn 139 = .ok (.sipush 512, 3) := by decide +kernel
theorem dX3_doTurn_142 : decode cX3_doTurn 142 = .ok (.idiv, 1) := by decide +kernel
theorem dX3_doTurn_143 : decode cX3_doTurn 143 = .ok (.iconst 2, 1) := by decide +kernel
theorem dX3_doTurn_144 : decode cX3_doTurn 144 = .ok (.irem, 1) := by decide +kernel
theorem dX3_doTurn_145 : decode cX3_doTurn 145 = .ok (.ifCond .ne 22, 3) := by decide +kernel
theorem dX3_doTurn_148 : decode cX3_doTurn 148 = .ok (.aload_n 0, 1) := by decide +kernel
theorem dX3_doTurn_149 : decode cX3_doTurn 149 = .ok (.iload_n 2, 1) := by decide +kernel
theorem dX3_doTurn_150 : decode cX3_doTurn 150 = .ok (.bipush 16, 2) := by decide +kernel
theorem dX3_doTurn_152 : decode cX3_doTurn 152 = .ok (.irem, 1) := by decide +kernel
theorem dX3_doTurn_153 : decode cX3_doTurn 153 = .ok (.iload_n 2, 1) := by decide +kernel
theorem dX3_doTurn_154 : decode cX3_doTurn 154 = .ok (.bipush 16, 2) := by decide +kernel
theorem dX3_doTurn_156 : decode cX3_doTurn 156 = .ok (.idiv, 1) := by decide +kernel
theorem dX3_doTurn_157 : decode cX3_doTurn 157 = .ok (.bipush 31, 2) := by decide +kernel
theorem dX3_doTurn_159 : decode cX3_doTurn 159 = .ok (.irem, 1) := by decide +kernel
theorem dX3_doTurn_160 : decode cX3_doTurn 160 = .ok (.invokestatic 18, 3) := by decide +kernel
theorem dX3_doTurn_163 : decode cX3_doTurn 163 = .ok (.pop, 1) := by decide +kernel
theorem dX3_doTurn_164 : decode cX3_doTurn 164 = .ok (.goto 48, 3) := by decide +kernel
theorem dX3_doTurn_167 : decode cX3_doTurn 167 = .ok (.aload_n 0, 1) := by decide +kernel
theorem dX3_doTurn_168 : decode cX3_doTurn 168 = .ok (.iload_n 2, 1) := by decide +kernel
theorem dX3_doTurn_169 : decode cX3_doTurn 169 = .ok (.bipush 16, 2) := by decide +kernel
theorem dX3_doTurn_171 : decode cX3_doTurn 171 = .ok (.irem, 1) := by decide +kernel
theorem dX3_doTurn_172 : decode cX3_doTurn 172 = .ok (.invokestatic 76, 3) := by decide +kernel
theorem dX3_doTurn_175 : decode cX3_doTurn 175 = .ok (.pop, 1) := by decide +kernel
theorem dX3_doTurn_176 : decode cX3_doTurn 176 = .ok (.goto 36, 3) := by decide +kernel
theorem dX3_doTurn_179 : decode cX3_doTurn 179 = .ok (.aload_n 0, 1) := by decide +kernel
theorem dX3_doTurn_180 : decode cX3_doTurn 180 = .ok (.iload_n 2, 1) := by decide +kernel
theorem dX3_doTurn_181 : decode cX3_doTurn 181 = .ok (.bipush 10, 2) := by decide +kernel
theorem dX3_doTurn_183 : decode cX3_doTurn 183 = .ok (.irem, 1) := by decide +kernel
theorem dX3_doTurn_184 : decode cX3_doTurn 184 = .ok (.bipush 10, 2) := by decide +kernel
theorem dX3_doTurn_186 : decode cX3_doTurn 186 = .ok (.iload_n 2, 1) := by decide +kernel
theorem dX3_doTurn_187 : decode cX3_doTurn 187 = .ok (.bipush 16, 2) := by decide +kernel
theorem dX3_doTurn_189 : decode cX3_doTurn 189 = .ok (.idiv, 1) := by decide +kernel
theorem dX3_doTurn_190 : decode cX3_doTurn 190 = .ok (.bipush 90, 2) := by decide +kernel
theorem dX3_doTurn_192 : decode cX3_doTurn 192 = .ok (.irem, 1) := by decide +kernel
theorem dX3_doTurn_193 : decode cX3_doTurn 193 = .ok (.iadd, 1) := by decide +kernel
theorem dX3_doTurn_194 : decode cX3_doTurn 194 = .ok (.invokestatic 22, 3) := by decide +kernel
theorem dX3_doTurn_197 : decode cX3_doTurn 197 = .ok (.pop, 1) := by decide +kernel
theorem dX3_doTurn_198 : decode cX3_doTurn 198 = .ok (.goto 14, 3) := by decide +kernel
theorem dX3_doTurn_201 : decode cX3_doTurn 201 = .ok (.aload_n 0, 1) := by decide +kernel
theorem dX3_doTurn_202 : decode cX3_doTurn 202 = .ok (.iconst 1, 1) := by decide +kernel
theorem dX3_doTurn_203 : decode cX3_doTurn 203 = .ok (.iload_n 2, 1) := by decide +kernel
theorem dX3_doTurn_204 : decode cX3_doTurn 204 = .ok (.bipush 20, 2) := by decide +kernel
theorem dX3_doTurn_206 : decode cX3_doTurn 206 = .ok (.irem, 1) := by decide +kernel
theorem dX3_doTurn_207 : decode cX3_doTurn 207 = .ok (.iadd, 1) := by decide +kernel
theorem dX3_doTurn_208 : decode cX3_doTurn 208 = .ok (.invokestatic 8, 3) := by decide +kernel
theorem dX3_doTurn_211 : decode cX3_doTurn 211 = .ok (.pop, 1) := by decide +kernel
theorem dX3_doTurn_212 : decode cX3_doTurn 212 = .ok (.return_, 1) := by decide +kernel
theorem dX4_init_0 : decode cX4_init 0 = .ok (.aload_n 0, 1) := by decide +kernel
theorem dX4_init_1 : decode cX4_init 1 = .ok (.invokespecial 3, 3) := by decide +kernel
theorem dX4_init_4 : decode cX4_init 4 = .ok (.aload_n 0, 1) := by decide +kernel
theorem dX4_init_5 : decode cX4_init 5 = .ok (.bipush 120, 2) := by decide +kernel
theorem dX4_init_7 : decode cX4_init 7 = .ok (.newarray .char, 2) := by decide +kernel
theorem dX4_init_9 : decode cX4_init 9 = .ok (.putfield 9, 3) := by decide +kernel
theorem dX4_init_12 : decode cX4_init 12 = .ok (.aload_n 0, 1) := by decide +kernel
theorem dX4_init_13 : decode cX4_init 13 = .ok (.iconst 5, 1) := by decide +kernel
theorem dX4_init_14 : decode cX4_init 14 = .ok (.newarray .int, 2) := by decide +kernel
theorem dX4_init_16 : decode cX4_init 16 = .ok (.putfield 15, 3) := by decide +kernel
theorem dX4_init_19 : decode cX4_init 19 = .ok (.return_, 1) := by decide +kernel
theorem dX4_firstError_0 : decode cX4_firstError 0 = .ok (.aload_n 0, 1) := by decide +kernel
theorem dX4_firstError_1 : decode cX4_firstError 1 = .ok (.invokevirtual 19, 3) := by decide +kernel
theorem dX4_firstError_4 : decode cX4_firstError 4 = .ok (.ifCond .ne 8, 3) := by decide +kernel
theorem dX4_firstError_7 : decode cX4_firstError 7 = .ok (.aload_n 0, 1) := by decide +kernel
theorem dX4_firstError_8 : decode cX4_firstError 8 = .ok (.getfield 23, 3) := by decide +kernel
theorem dX4_firstError_11 : decode cX4_firstError 11 = .ok (.ireturn, 1) := by decide +kernel
theorem dX4_firstError_12 : decode cX4_firstError 12 = .ok (.iconst 0, 1) := by decide +kernel
theorem dX4_firstError_13 : decode cX4_firstError 13 = .ok (.istore_n 1, 1) := by decide +kernel
theorem dX4_firstError_14 : decode cX4_firstError 14 = .ok (.iload_n 1, 1) := by decide +kernel
theorem dX4_firstError_15 : decode cX4_firstError 15 = .ok (.bipush 120, 2) := by decide +kernel
theorem dX4_firstError_17 : decode cX4_firstError 17 = .ok (.if_icmp .ge 28, 3) := by decide +kernel
theorem dX4_firstError_20 : decode cX4_firstError 20 = .ok (.aload_n 0, 1) := by decide +kernel
theorem dX4_firstError_21 : decode cX4_firstError 21 = .ok (.invokevirtual 27, 3) := by decide +kernel
theorem dX4_firstError_24 : decode cX4_firstError 24 = .ok (.ifCond .eq 21, 3) := by decide +kernel
theorem dX4_firstError_27 : decode cX4_firstError 27 = .ok (.aload_n 0, 1) := by decide +kernel
theorem dX4_firstError_28 : decode cX4_firstError 28 = .ok (.invokevirtual 30, 3) := by decide +kernel
theorem dX4_firstError_31 : decode cX4_firstError 31 = .ok (.ifCond .ne 8, 3) := by decide +kernel
theorem dX4_firstError_34 : decode cX4_firstError 34 = .ok (.aload_n 0, 1) := by decide +kernel
theorem dX4_firstError_35 : decode cX4_firstError 35 = .ok (.getfield 23, 3) := by decide +kernel
theorem dX4_firstError_38 : decode cX4_firstError 38 = .ok (.ireturn, 1) := by decide +kernel
theorem dX4_firstError_39 : decode cX4_firstError 39 = .ok (.iinc 1 1, 3) := by decide +kernel
theorem dX4_firstError_42 : decode cX4_firstError 42 = .ok (.goto (-28), 3) := by decide +kernel
theorem dX4_firstError_45 : decode cX4_firstError 45 = .ok (.iconst (-1), 1) := by decide +kernel
theorem dX4_firstError_46 : decode cX4_firstError 46 = .ok (.ireturn, 1) := by decide +kernel
theorem dX4_readStart_0 : decode cX4_readStart 0 = .ok (.aload_n 0, 1) := by decide +kernel
theorem dX4_readStart_1 : decode cX4_readStart 1 = .ok (.iconst 0, 1) := by decide +kernel
theorem dX4_readStart_2 : decode cX4_readStart 2 = .ok (.putfield 23, 3) := by decide +kernel
theorem dX4_readStart_5 : decode cX4_readStart 5 = .ok (.aload_n 0, 1) := by decide +kernel
theorem dX4_readStart_6 : decode cX4_readStart 6 = .ok (.getfield 33, 3) := by decide +kernel
theorem dX4_readStart_9 : decode cX4_readStart 9 = .ok (.ifCond .eq 14, 3) := by decide +kernel
theorem dX4_readStart_12 : decode cX4_readStart 12 = .ok (.aload_n 0, 1) := by decide +kernel
theorem dX4_readStart_13 : decode cX4_readStart 13 = .ok (.getfield 9, 3) := by decide +kernel
theorem dX4_readStart_16 : decode cX4_readStart 16 = .ok (.iconst 0, 1) := by decide +kernel
theorem dX4_readStart_17 : decode cX4_readStart 17 = .ok (.caload, 1) := by decide +kernel
theorem dX4_readStart_18 : decode cX4_readStart 18 = .ok (.bipush 87, 2) := by decide +kernel
theorem dX4_readStart_20 : decode cX4_readStart 20 = .ok (.if_icmp .eq 5, 3) := by decide +kernel
theorem dX4_readStart_23 : decode cX4_readStart 23 = .ok (.iconst 0, 1) := by decide +kernel
theorem dX4_readStart_24 : decode cX4_readStart 24 = .ok (.ireturn, 1) := by decide +kernel
theorem dX4_readStart_25 : decode cX4_readStart 25 = .ok (.aload_n 0, 1) := by decide +kernel
theorem dX4_readStart_26 : decode cX4_readStart 26 = .ok (.iconst 1, 1) := by decide +kernel
theorem dX4_readStart_27 : decode cX4_readStart 27 = .ok (.putfield 23, 3) := by decide +kernel
theorem dX4_readStart_30 : decode cX4_readStart 30 = .ok (.iconst 1, 1) := by decide +kernel
theorem dX4_readStart_31 : decode cX4_readStart 31 = .ok (.ireturn, 1) := by decide +kernel
theorem dX4_hasMore_0 : decode cX4_hasMore 0 = .ok (.aload_n 0, 1) := by decide +kernel
theorem dX4_hasMore_1 : decode cX4_hasMore 1 = .ok (.getfield 23, 3) := by decide +kernel
theorem dX4_hasMore_4 : decode cX4_hasMore 4 = .ok (.aload_n 0, 1) := by decide +kernel
theorem dX4_hasMore_5 : decode cX4_hasMore 5 = .ok (.getfield 33, 3) := by decide +kernel
theorem dX4_hasMore_8 : decode cX4_hasMore 8 = .ok (.if_icmp .ge 7, 3) := by decide +kernel
theorem dX4_hasMore_11 : decode cX4_hasMore 11 = .ok (.iconst 1, 1) := by decide +kernel
theorem dX4_hasMore_12 : decode cX4_hasMore 12 = .ok (.goto 4, 3) := by decide +kernel
theorem dX4_hasMore_15 : decode cX4_hasMore 15 = .ok (.iconst 0, 1) := by decide +kernel
theorem dX4_hasMore_16 : decode cX4_hasMore 16 = .ok (.ireturn, 1) := by decide +kernel
theorem dX4_readCommand_0 : decode cX4_readCommand 0 = .ok (.aload_n 0, 1) := by decide +kernel
theorem dX4_readCommand_1 : decode cX4_readCommand 1 = .ok (.invokevirtual 27, 3) := by decide +kernel
theorem dX4_readCommand_4 : decode cX4_readCommand 4 = .ok (.ifCond .ne 5, 3) := by decide +kernel
theorem dX4_readCommand_7 : decode cX4_readCommand 7 = .ok (.iconst 0, 1) := by decide +kernel
theorem dX4_readCommand_8 : decode cX4_readCommand 8 = .ok (.ireturn, 1) := by decide +kernel
theorem dX4_readCommand_9 : decode cX4_readCommand 9 = .ok (.aload_n 0, 1) := by decide +kernel
theorem dX4_readCommand_10 : decode cX4_readCommand 10 = .ok (.aload_n 0, 1) := by decide +kernel
theorem dX4_readCommand_11 : decode cX4_readCommand 11 = .ok (.getfield 9, 3) := by decide +kernel
theorem dX4_readCommand_14 : decode cX4_readCommand 14 = .ok (.aload_n 0, 1) := by decide +kernel
theorem dX4_readCommand_15 : decode cX4_readCommand 15 = .ok (.getfield 23, 3) := by decide +kernel
theorem dX4_readCommand_18 : decode cX4_readCommand 18 = .ok (.caload, 1) := by decide +kernel
theorem dX4_readCommand_19 : decode cX4_readCommand 19 = .ok (.putfield 36, 3) := by decide +kernel
theorem dX4_readCommand_22 : decode cX4_readCommand 22 = .ok (.aload_n 0, 1) := by decide +kernel
theorem dX4_readCommand_23 : decode cX4_readCommand 23 = .ok (.getfield 36, 3) := by decide +kernel
theorem dX4_readCommand_26 : decode cX4_readCommand 26 = .ok (.invokestatic 39, 3) := by decide +kernel
theorem dX4_readCommand_29 : decode cX4_readCommand 29 = .ok (.astore_n 1, 1) := by decide +kernel
theorem dX4_readCommand_30 : decode cX4_readCommand 30 = .ok (.aload_n 1, 1) := by decide +kernel
theorem dX4_readCommand_31 : decode cX4_readCommand 31 = .ok (.arraylength, 1) := by decide +kernel
theorem dX4_readCommand_32 : decode cX4_readCommand 32 = .ok (.ifCond .ne 5, 3) := by decide +kernel
theorem dX4_readCommand_35 : decode cX4_readCommand 35 = .ok (.iconst 0, 1) := by decide +kernel
theorem dX4_readCommand_36 : decode cX4_readCommand 36 = .ok (.ireturn, 1) := by decide +kernel
theorem dX4_readCommand_37 : decode cX4_readCommand 37 = .ok (.aload_n 0, 1) := by decide +kernel
theorem dX4_readCommand_38 : decode cX4_readCommand 38 = .ok (.dup, 1) := by decide +kernel
theorem dX4_readCommand_39 : decode cX4_readCommand 39 = .ok (.getfield 23, 3) := by decide +kernel
theorem dX4_readCommand_42 : decode cX4_readCommand 42 = .ok (.iconst 1, 1) := by decide +kernel
theorem dX4_readCommand_43 : decode cX4_readCommand 43 = .ok (.iadd, 1) := by decide +kernel
theorem dX4_readCommand_44 : decode cX4_readCommand 44 = .ok (.putfield 23, 3) := by decide +kernel
theorem dX4_readCommand_47 : decode cX4_readCommand 47 = .ok (.iconst 0, 1) := by decide +kernel
theorem dX4_readCommand_48 : decode cX4_readCommand 48 = .ok (.istore_n 2, 1) := by decide +kernel
theorem dX4_readCommand_49 : decode cX4_readCommand 49 = .ok (.iconst 2, 1) := by decide +kernel
theorem dX4_readCommand_50 : decode cX4_readCommand 50 = .ok (.iload_n 2, 1) := by decide +kernel
theorem dX4_readCommand_51 : decode cX4_readCommand 51 = .ok (.imul, 1) := by decide +kernel
theorem dX4_readCommand_52 : decode cX4_readCommand 52 = .ok (.iconst 1, 1) := by decide +kernel
theorem dX4_readCommand_53 : decode cX4_readCommand 53 = .ok (.iadd, 1) := by decide +kernel
theorem dX4_readCommand_54 : decode cX4_readCommand 54 = .ok (.aload_n 1, 1) := by decide +kernel
theorem dX4_readCommand_55 : decode cX4_readCommand 55 = .ok (.arraylength, 1) := by decide +kernel
theorem dX4_readCommand_56 : decode cX4_readCommand 56 = .ok (.if_icmp .ge 36, 3) := by decide +kernel
theorem dX4_readCommand_59 : decode cX4_readCommand 59 = .ok (.iload_n 2, 1) := by decide +kernel
theorem dX4_readCommand_60 : decode cX4_readCommand 60 = .ok (.iconst 5, 1) := by decide +kernel
theorem dX4_readCommand_61 : decode cX4_readCommand 61 = .ok (.if_icmp .ge 31, 3) := by decide +kernel
theorem dX4_readCommand_64 : decode cX4_readCommand 64 = .ok (.aload_n 0, 1) := by decide +kernel
theorem dX4_readCommand_65 : decode cX4_readCommand 65 = .ok (.iload_n 2, 1) := by decide +kernel
theorem dX4_readCommand_66 : decode cX4_readCommand 66 = .ok (.aload_n 1, 1) := by decide +kernel
theorem dX4_readCommand_67 : decode cX4_readCommand 67 = .ok (.iconst 2, 1) := by decide +kernel
theorem dX4_readCommand_68 : decode cX4_readCommand 68 = .ok (.iload_n 2, 1) := by decide +kernel
theorem dX4_readCommand_69 : decode cX4_readCommand 69 = .ok (.imul, 1) := by decide +kernel
theorem dX4_readCommand_70 : decode cX4_readCommand 70 = .ok (.iaload, 1) := by decide +kernel
theorem dX4_readCommand_71 : decode cX4_readCommand 71 = .ok (.aload_n 1, 1) := by decide +kernel
theorem dX4_readCommand_72 : decode cX4_readCommand 72 = .ok (.iconst 2, 1) := by decide +kernel
theorem dX4_readCommand_73 : decode cX4_readCommand 73 = .ok (.iload_n 2, 1) := by decide +kernel
theorem dX4_readCommand_74 : decode cX4_readCommand 74 = .ok (.imul, 1) := by decide +kernel
theorem dX4_readCommand_75 : decode cX4_readCommand 75 = .ok (.iconst 1, 1) := by decide +kernel
theorem dX4_readCommand_76 : decode cX4_readCommand 76 = .ok (.iadd, 1) := by decide +kernel
theorem dX4_readCommand_77 : decode cX4_readCommand 77 = .ok (.iaload, 1) := by decide +kernel
theorem dX4_readCommand_78 : decode cX4_readCommand 78 = .ok (.invokevirtual 43, 3) := by decide +kernel
theorem dX4_readCommand_81 : decode cX4_readCommand 81 = .ok (.ifCond .ne 5, 3) := by decide +kernel
theorem dX4_readCommand_84 : decode cX4_readCommand 84 = .ok (.iconst 0, 1) := by decide +kernel
theorem dX4_readCommand_85 : decode cX4_readCommand 85 = .ok (.ireturn, 1) := by decide +kernel
theorem dX4_readCommand_86 : decode cX4_readCommand 86 = .ok (.iinc 2 1, 3) := by decide +kernel
theorem dX4_readCommand_89 : decode cX4_readCommand 89 = .ok (.goto (-40), 3) := by decide +kernel
theorem dX4_readCommand_92 : decode cX4_readCommand 92 = .ok (.iconst 1, 1) := by decide +kernel
theorem dX4_readCommand_93 : decode cX4_readCommand 93 = .ok (.ireturn, 1) := by decide +kernel
theorem dX4_boundsOf_0 : decode cX4_boundsOf 0 = .ok (.iload_n 0, 1) := by decide +kernel
theorem dX4_boundsOf_1 : decode cX4_boundsOf 1 = .ok (.tableswitch 111 100 118 #[95, 111, 111, 111, 111, 111, 111, 99, 103, 111, 111, 111, 111, 111, 99, 111, 107, 111, 91], 91) := by decide +kernel
theorem dX4_boundsOf_92 : decode cX4_boundsOf 92 = .ok (.getstatic 47, 3) := by decide +kernel
theorem dX4_boundsOf_95 : decode cX4_boundsOf 95 = .ok (.areturn, 1) := by decide +kernel
theorem dX4_boundsOf_96 : decode cX4_boundsOf 96 = .ok (.getstatic 50, 3) := by decide +kernel
theorem dX4_boundsOf_99 : decode cX4_boundsOf 99 = .ok (.areturn, 1) := by decide +kernel
theorem dX4_boundsOf_100 : decode cX4_boundsOf 100 = .ok (.getstatic 53, 3) := by decide +kernel
theorem dX4_boundsOf_103 : decode cX4_boundsOf 103 = .ok (.areturn, 1) := by decide +kernel
theorem dX4_boundsOf_104 : decode cX4_boundsOf 104 = .ok (.getstatic 56, 3) := by decide +kernel
theorem dX4_boundsOf_107 : decode cX4_boundsOf 107 = .ok (.areturn, 1) := by decide +kernel
theorem dX4_boundsOf_108 : decode cX4_boundsOf 108 = .ok (.getstatic 59, 3) := by decide +kernel
theorem dX4_boundsOf_111 : decode cX4_boundsOf 111 = .ok (.areturn, 1) := by decide +kernel
theorem dX4_boundsOf_112 : decode cX4_boundsOf 112 = .ok (.getstatic 62, 3) := by decide +kernel
theorem dX4_boundsOf_115 : decode cX4_boundsOf 115 = .ok (.areturn, 1) := by decide +kernel
theorem dX4_readNumber_0 : decode cX4_readNumber 0 = .ok (.iload_n 3, 1) := by decide +kernel
theorem dX4_readNumber_1 : decode cX4_readNumber 1 = .ok (.bipush 9, 2) := by decide +kernel
theorem dX4_readNumber_3 : decode cX4_readNumber 3 = .ok (.if_icmp .le 7, 3) := by decide +kernel
theorem dX4_readNumber_6 : decode cX4_readNumber 6 = .ok (.iconst 2, 1) := by decide +kernel
theorem dX4_readNumber_7 : decode cX4_readNumber 7 = .ok (.goto 4, 3) := by decide +kernel
theorem dX4_readNumber_10 : decode cX4_readNumber 10 = .ok (.iconst 1, 1) := by decide +kernel
theorem dX4_readNumber_11 : decode cX4_readNumber 11 = .ok (.istore 4, 2) := by decide +kernel
theorem dX4_readNumber_13 : decode cX4_readNumber 13 = .ok (.iconst 0, 1) := by decide +kernel
theorem dX4_readNumber_14 : decode cX4_readNumber 14 = .ok (.istore 5, 2) := by decide +kernel
theorem dX4_readNumber_16 : decode cX4_readNumber 16 = .ok (.iconst 1, 1) := by decide +kernel
theorem dX4_readNumber_17 : decode cX4_readNumber 17 = .ok (.istore 6, 2) := by decide +kernel
theorem dX4_readNumber_19 : decode cX4_readNumber 19 = .ok (.iload 6, 2) := by decide +kernel
theorem dX4_readNumber_21 : decode cX4_readNumber 21 = .ok (.iload 4, 2) := by decide +kernel
theorem dX4_readNumber_23 : decode cX4_readNumber 23 = .ok (.if_icmp .gt 108, 3) := by decide +kernel
theorem dX4_readNumber_26 : decode cX4_readNumber 26 = .ok (.aload_n 0, 1) := by decide +kernel
theorem dX4_readNumber_27 : decode cX4_readNumber 27 = .ok (.invokevirtual 27, 3) := by decide +kernel
theorem dX4_readNumber_30 : decode cX4_readNumber 30 = .ok (.ifCond .eq 22, 3) := by decide +kernel
theorem dX4_readNumber_33 : decode cX4_readNumber 33 = .ok (.aload_n 0, 1) := by decide +kernel
theorem dX4_readNumber_34 : decode cX4_readNumber 34 = .ok (.getfield 9, 3) := by decide +kernel
theorem dX4_readNumber_37 : decode cX4_readNumber 37 = .ok (.aload_n 0, 1) := by decide +kernel
theorem dX4_readNumber_38 : decode cX4_readNumber 38 = .ok (.getfield 23, 3) := by decide +kernel
theorem dX4_readNumber_41 : decode cX4_readNumber 41 = .ok (.caload, 1) := by decide +kernel
theorem dX4_readNumber_42 : decode cX4_readNumber 42 = .ok (.bipush 48, 2) := by decide +kernel
theorem dX4_readNumber_44 : decode cX4_readNumber 44 = .ok (.bipush 57, 2) := by decide +kernel
theorem dX4_readNumber_46 : decode cX4_readNumber 46 = .ok (.invokestatic 65, 3) := by decide +kernel
theorem dX4_readNumber_49 : decode cX4_readNumber 49 = .ok (.ifCond .ne 5, 3) := by decide +kernel
theorem dX4_readNumber_52 : decode cX4_readNumber 52 = .ok (.iconst 0, 1) := by decide +kernel
theorem dX4_readNumber_53 : decode cX4_readNumber 53 = .ok (.ireturn, 1) := by decide +kernel
theorem dX4_readNumber_54 : decode cX4_readNumber 54 = .ok (.bipush 10, 2) := by decide +kernel
theorem dX4_readNumber_56 : decode cX4_readNumber 56 = .ok (.iload 5, 2) := by decide +kernel
theorem dX4_readNumber_58 : decode cX4_readNumber 58 = .ok (.imul, 1) := by decide +kernel
theorem dX4_readNumber_59 : decode cX4_readNumber 59 = .ok (.aload_n 0, 1) := by decide +kernel
theorem dX4_readNumber_60 : decode cX4_readNumber 60 = .ok (.getfield 9, 3) := by decide +kernel
theorem dX4_readNumber_63 : decode cX4_readNumber 63 = .ok (.aload_n 0, 1) := by decide +kernel
theorem dX4_readNumber_64 : decode cX4_readNumber 64 = .ok (.getfield 23, 3) := by decide +kernel
theorem dX4_readNumber_67 : decode cX4_readNumber 67 = .ok (.caload, 1) := by decide +kernel
theorem dX4_readNumber_68 : decode cX4_readNumber 68 = .ok (.iadd, 1) := by decide +kernel
theorem dX4_readNumber_69 : decode cX4_readNumber 69 = .ok (.bipush 48, 2) := by decide +kernel
theorem dX4_readNumber_71 : decode cX4_readNumber 71 = .ok (.isub, 1) := by decide +kernel
theorem dX4_readNumber_72 : decode cX4_readNumber 72 = .ok (.istore 5, 2) := by decide +kernel
theorem dX4_readNumber_74 : decode cX4_readNumber 74 = .ok (.iload 6, 2) := by decide +kernel
theorem dX4_readNumber_76 : decode cX4_readNumber 76 = .ok (.iload 4, 2) := by decide +kernel
theorem dX4_readNumber_78 : decode cX4_readNumber 78 = .ok (.if_icmp .ge 8, 3) := by decide +kernel
theorem dX4_readNumber_81 : decode cX4_readNumber 81 = .ok (.bipush 10, 2) := by decide +kernel
theorem dX4_readNumber_83 : decode cX4_readNumber 83 = .ok (.goto 4, 3) := by decide +kernel
theorem dX4_readNumber_86 : decode cX4_readNumber 86 = .ok (.iconst 1, 1) := by decide +kernel
theorem dX4_readNumber_87 : decode cX4_readNumber 87 = .ok (.istore 7, 2) := by decide +kernel
theorem dX4_readNumber_89 : decode cX4_readNumber 89 = .ok (.iload 5, 2) := by decide +kernel
theorem dX4_readNumber_91 : decode cX4_readNumber 91 = .ok (.iload 7, 2) := by decide +kernel
theorem dX4_readNumber_93 : decode cX4_readNumber 93 = .ok (.imul, 1) := by decide +kernel
theorem dX4_readNumber_94 : decode cX4_readNumber 94 = .ok (.istore 8, 2) := by decide +kernel
theorem dX4_readNumber_96 : decode cX4_readNumber 96 = .ok (.iload 8, 2) := by decide +kernel
theorem dX4_readNumber_98 : decode cX4_readNumber 98 = .ok (.iload_n 3, 1) := by decide +kernel
theorem dX4_readNumber_99 : decode cX4_readNumber 99 = .ok (.if_icmp .gt 14, 3) := by decide +kernel
theorem dX4_readNumber_102 : decode cX4_readNumber 102 = .ok (.iload 8, 2) := by decide +kernel
theorem dX4_readNumber_104 : decode cX4_readNumber 104 = .ok (.iload 7, 2) := by decide +kernel
theorem dX4_readNumber_106 : decode cX4_readNumber 106 = .ok (.iadd, 1) := by decide +kernel
theorem dX4_readNumber_107 : decode cX4_readNumber 107 = .ok (.iconst 1, 1) := by decide +kernel
theorem dX4_readNumber_108 : decode cX4_readNumber 108 = .ok (.isub, 1) := by decide +kernel
theorem dX4_readNumber_109 : decode cX4_readNumber 109 = .ok (.iload_n 2, 1) := by decide +kernel
theorem dX4_readNumber_110 : decode cX4_readNumber 110 = .ok (.if_icmp .ge 5, 3) := by decide +kernel
theorem dX4_readNumber_113 : decode cX4_readNumber 113 = .ok (.iconst 0, 1) := by decide +kernel
theorem dX4_readNumber_114 : decode cX4_readNumber 114 = .ok (.ireturn, 1) := by decide +kernel
theorem dX4_readNumber_115 : decode cX4_readNumber 115 = .ok (.aload_n 0, 1) := by decide +kernel
theorem dX4_readNumber_116 : decode cX4_readNumber 116 = .ok (.dup, 1) := by decide +kernel
theorem dX4_readNumber_117 : decode cX4_readNumber 117 = .ok (.getfield 23, 3) := by decide +kernel
theorem dX4_readNumber_120 : decode cX4_readNumber 120 = .ok (.iconst 1, 1) := by decide +kernel
theorem dX4_readNumber_121 : decode cX4_readNumber 121 = .ok (.iadd, 1) := by decide +kernel
theorem dX4_readNumber_122 : decode cX4_readNumber 122 = .ok (.putfield 23, 3) := by decide +kernel
theorem dX4_readNumber_125 : decode cX4_readNumber 125 = .ok (.iinc 6 1, 3) := by decide +kernel
theorem dX4_readNumber_128 : decode cX4_readNumber 128 = .ok (.goto (-109), 3) := by decide +kernel
theorem dX4_readNumber_131 : decode cX4_readNumber 131 = .ok (.aload_n 0, 1) := by decide +kernel
theorem dX4_readNumber_132 : decode cX4_readNumber 132 = .ok (.getfield 15, 3) := by decide +kernel
theorem dX4_readNumber_135 : decode cX4_readNumber 135 = .ok (.iload_n 1, 1) := by decide +kernel
theorem dX4_readNumber_136 : decode cX4_readNumber 136 = .ok (.iload 5, 2) := by decide +kernel
theorem dX4_readNumber_138 : decode cX4_readNumber 138 = .ok (.iastore, 1) := by decide +kernel
theorem dX4_readNumber_139 : decode cX4_readNumber 139 = .ok (.iconst 1, 1) := by decide +kernel
theorem dX4_readNumber_140 : decode cX4_readNumber 140 = .ok (.ireturn, 1) := by decide +kernel
theorem dX4_doCommand_0 : decode cX4_doCommand 0 = .ok (.aload_n 0, 1) := by decide +kernel
theorem dX4_doCommand_1 : decode cX4_doCommand 1 = .ok (.getfield 36, 3) := by decide +kernel
theorem dX4_doCommand_4 : decode cX4_doCommand 4 = .ok (.lookupswitch 145 #[(100, 69), (107, 104), (108, 128), (114, 116), (118, 52)], 52) := by decide +kernel
theorem dX4_doCommand_56 : decode cX4_doCommand 56 = .ok (.aload_n 1, 1) := by decide +kernel
theorem dX4_doCommand_57 : decode cX4_doCommand 57 = .ok (.aload_n 0, 1) := by decide +kernel
theorem dX4_doCommand_58 : decode cX4_doCommand 58 = .ok (.getfield 15, 3) := by decide +kernel
theorem dX4_doCommand_61 : decode cX4_doCommand 61 = .ok (.iconst 0, 1) := by decide +kernel
theorem dX4_doCommand_62 : decode cX4_doCommand 62 = .ok (.iaload, 1) := by decide +kernel
theorem dX4_doCommand_63 : decode cX4_doCommand 63 = .ok (.aload_n 0, 1) := by decide +kernel
theorem dX4_doCommand_64 : decode cX4_doCommand 64 = .ok (.getfield 15, 3) := by decide +kernel
theorem dX4_doCommand_67 : decode cX4_doCommand 67 = .ok (.iconst 1, 1) := by decide +kernel
theorem dX4_doCommand_68 : decode cX4_doCommand 68 = .ok (.iaload, 1) := by decide +kernel
theorem dX4_doCommand_69 : decode cX4_doCommand 69 = .ok (.invokestatic 68, 3) := by decide +kernel
theorem dX4_doCommand_72 : decode cX4_doCommand 72 = .ok (.ireturn, 1) := by decide +kernel
theorem dX4_doCommand_73 : decode cX4_doCommand 73 = .ok (.aload_n 1, 1) := by decide +kernel
theorem dX4_doCommand_74 : decode cX4_doCommand 74 = .ok (.aload_n 0, 1) := by decide +kernel
theorem dX4_doCommand_75 : decode cX4_doCommand 75 = .ok (.getfield 15, 3) := by decide +kernel
theorem dX4_doCommand_78 : decode cX4_doCommand 78 = .ok (.iconst 0, 1) := by decide +kernel
theorem dX4_doCommand_79 : decode cX4_doCommand 79 = .ok (.iaload, 1) := by decide +kernel
theorem dX4_doCommand_80 : decode cX4_doCommand 80 = .ok (.aload_n 0, 1) := by decide +kernel
theorem dX4_doCommand_81 : decode cX4_doCommand 81 = .ok (.getfield 15, 3) := by decide +kernel
theorem dX4_doCommand_84 : decode cX4_doCommand 84 = .ok (.iconst 1, 1) := by decide +kernel
theorem dX4_doCommand_85 : decode cX4_doCommand 85 = .ok (.iaload, 1) := by decide +kernel
theorem dX4_doCommand_86 : decode cX4_doCommand 86 = .ok (.aload_n 0, 1) := by decide +kernel
theorem dX4_doCommand_87 : decode cX4_doCommand 87 = .ok (.getfield 15, 3) := by decide +kernel
theorem dX4_doCommand_90 : decode cX4_doCommand 90 = .ok (.iconst 2, 1) := by decide +kernel
theorem dX4_doCommand_91 : decode cX4_doCommand 91 = .ok (.iaload, 1) := by decide +kernel
theorem dX4_doCommand_92 : decode cX4_doCommand 92 = .ok (.aload_n 0, 1) := by decide +kernel
theorem dX4_doCommand_93 : decode cX4_doCommand 93 = .ok (.getfield 15, 3) := by decide +kernel
theorem dX4_doCommand_96 : decode cX4_doCommand 96 = .ok (.iconst 3, 1) := by decide +kernel
theorem dX4_doCommand_97 : decode cX4_doCommand 97 = .ok (.iaload, 1) := by decide +kernel
theorem dX4_doCommand_98 : decode cX4_doCommand 98 = .ok (.aload_n 0, 1) := by decide +kernel
theorem dX4_doCommand_99 : decode cX4_doCommand 99 = .ok (.getfield 15, 3) := by decide +kernel
theorem dX4_doCommand_102 : decode cX4_doCommand 102 = .ok (.iconst 4, 1) := by decide +kernel
theorem dX4_doCommand_103 : decode cX4_doCommand 103 = .ok (.iaload, 1) := by decide +kernel
theorem dX4_doCommand_104 : decode cX4_doCommand 104 = .ok (.invokestatic 74, 3) := by decide +kernel
theorem dX4_doCommand_107 : decode cX4_doCommand 107 = .ok (.ireturn, 1) := by decide +kernel
theorem dX4_doCommand_108 : decode cX4_doCommand 108 = .ok (.aload_n 1, 1) := by decide +kernel
theorem dX4_doCommand_109 : decode cX4_doCommand 109 = .ok (.aload_n 0, 1) := by decide +kernel
theorem dX4_doCommand_110 : decode cX4_doCommand 110 = .ok (.getfield 15, 3) := by decide +kernel
theorem dX4_doCommand_113 : decode cX4_doCommand 113 = .ok (.iconst 0, 1) := by decide +kernel
theorem dX4_doCommand_114 : decode cX4_doCommand 114 = .ok (.iaload, 1) := by decide +kernel
theorem dX4_doCommand_115 : decode cX4_doCommand 115 = .ok (.iconst 1, 1) := by decide +kernel
theorem dX4_doCommand_116 : decode cX4_doCommand 116 = .ok (.invokestatic 78, 3) := by decide +kernel
theorem dX4_doCommand_119 : decode cX4_doCommand 119 = .ok (.ireturn, 1) := by decide +kernel
theorem dX4_doCommand_120 : decode cX4_doCommand 120 = .ok (.aload_n 1, 1) := by decide +kernel
theorem dX4_doCommand_121 : decode cX4_doCommand 121 = .ok (.aload_n 0, 1) := by decide +kernel
theorem dX4_doCommand_122 : decode cX4_doCommand 122 = .ok (.getfield 15, 3) := by decide +kernel
theorem dX4_doCommand_125 : decode cX4_doCommand 125 = .ok (.iconst 0, 1) := by decide +kernel
theorem dX4_doCommand_126 : decode cX4_doCommand 126 = .ok (.iaload, 1) := by decide +kernel
theorem dX4_doCommand_127 : decode cX4_doCommand 127 = .ok (.iconst 0, 1) := by decide +kernel
theorem dX4_doCommand_128 : decode cX4_doCommand 128 = .ok (.invokestatic 78, 3) := by decide +kernel
theorem dX4_doCommand_131 : decode cX4_doCommand 131 = .ok (.ireturn, 1) := by decide +kernel
theorem dX4_doCommand_132 : decode cX4_doCommand 132 = .ok (.aload_n 1, 1) := by decide +kernel
theorem dX4_doCommand_133 : decode cX4_doCommand 133 = .ok (.aload_n 0, 1) := by decide +kernel
theorem dX4_doCommand_134 : decode cX4_doCommand 134 = .ok (.getfield 15, 3) := by decide +kernel
theorem dX4_doCommand_137 : decode cX4_doCommand 137 = .ok (.iconst 0, 1) := by decide +kernel
theorem dX4_doCommand_138 : decode cX4_doCommand 138 = .ok (.iaload, 1) := by decide +kernel
theorem dX4_doCommand_139 : decode cX4_doCommand 139 = .ok (.aload_n 0, 1) := by decide +kernel
theorem dX4_doCommand_140 : decode cX4_doCommand 140 = .ok (.getfield 15, 3) := by decide +kernel
theorem dX4_doCommand_143 : decode cX4_doCommand 143 = .ok (.iconst 1, 1) := by decide +kernel
theorem dX4_doCommand_144 : decode cX4_doCommand 144 = .ok (.iaload, 1) := by decide +kernel
theorem dX4_doCommand_145 : decode cX4_doCommand 145 = .ok (.invokestatic 82, 3) := by decide +kernel
theorem dX4_doCommand_148 : decode cX4_doCommand 148 = .ok (.ireturn, 1) := by decide +kernel
theorem dX4_doCommand_149 : decode cX4_doCommand 149 = .ok (.aload_n 1, 1) := by decide +kernel
theorem dX4_doCommand_150 : decode cX4_doCommand 150 = .ok (.aload_n 0, 1) := by decide +kernel
theorem dX4_doCommand_151 : decode cX4_doCommand 151 = .ok (.getfield 15, 3) := by decide +kernel
theorem dX4_doCommand_154 : decode cX4_doCommand 154 = .ok (.iconst 0, 1) := by decide +kernel
theorem dX4_doCommand_155 : decode cX4_doCommand 155 = .ok (.iaload, 1) := by decide +kernel
theorem dX4_doCommand_156 : decode cX4_doCommand 156 = .ok (.invokestatic 85, 3) := by decide +kernel
theorem dX4_doCommand_159 : decode cX4_doCommand 159 = .ok (.ireturn, 1) := by decide +kernel
theorem dX5_init_0 : decode cX5_init 0 = .ok (.aload_n 0, 1) := by decide +kernel
theorem dX5_init_1 : decode cX5_init 1 = .ok (.invokespecial 1, 3) := by decide +kernel
theorem dX5_init_4 : decode cX5_init 4 = .ok (.aload_n 0, 1) := by decide +kernel
theorem dX5_init_5 : decode cX5_init 5 = .ok (.new 7, 3) := by decide +kernel
theorem dX5_init_8 : decode cX5_init 8 = .ok (.dup, 1) := by decide +kernel
theorem dX5_init_9 : decode cX5_init 9 = .ok (.invokespecial 9, 3) := by decide +kernel
theorem dX5_init_12 : decode cX5_init 12 = .ok (.putfield 10, 3) := by decide +kernel
theorem dX5_init_15 : decode cX5_init 15 = .ok (.aload_n 0, 1) := by decide +kernel
theorem dX5_init_16 : decode cX5_init 16 = .ok (.new 16, 3) := by decide +kernel
theorem dX5_init_19 : decode cX5_init 19 = .ok (.dup, 1) := by decide +kernel
theorem dX5_init_20 : decode cX5_init 20 = .ok (.invokespecial 18, 3) := by decide +kernel
theorem dX5_init_23 : decode cX5_init 23 = .ok (.putfield 19, 3) := by decide +kernel
theorem dX5_init_26 : decode cX5_init 26 = .ok (.aload_n 0, 1) := by decide +kernel
theorem dX5_init_27 : decode cX5_init 27 = .ok (.new 23, 3) := by decide +kernel
theorem dX5_init_30 : decode cX5_init 30 = .ok (.dup, 1) := by decide +kernel
theorem dX5_init_31 : decode cX5_init 31 = .ok (.invokespecial 25, 3) := by decide +kernel
theorem dX5_init_34 : decode cX5_init 34 = .ok (.putfield 26, 3) := by decide +kernel
theorem dX5_init_37 : decode cX5_init 37 = .ok (.aload_n 0, 1) := by decide +kernel
theorem dX5_init_38 : decode cX5_init 38 = .ok (.iconst 2, 1) := by decide +kernel
theorem dX5_init_39 : decode cX5_init 39 = .ok (.anewarray 16, 3) := by decide +kernel
theorem dX5_init_42 : decode cX5_init 42 = .ok (.putfield 30, 3) := by decide +kernel
theorem dX5_init_45 : decode cX5_init 45 = .ok (.aload_n 0, 1) := by decide +kernel
theorem dX5_init_46 : decode cX5_init 46 = .ok (.iconst 2, 1) := by decide +kernel
theorem dX5_init_47 : decode cX5_init 47 = .ok (.newarray .boolean, 2) := by decide +kernel
theorem dX5_init_49 : decode cX5_init 49 = .ok (.putfield 34, 3) := by decide +kernel
theorem dX5_init_52 : decode cX5_init 52 = .ok (.aload_n 0, 1) := by decide +kernel
theorem dX5_init_53 : decode cX5_init 53 = .ok (.new 16, 3) := by decide +kernel
theorem dX5_init_56 : decode cX5_init 56 = .ok (.dup, 1) := by decide +kernel
theorem dX5_init_57 : decode cX5_init 57 = .ok (.invokespecial 18, 3) := by decide +kernel
theorem dX5_init_60 : decode cX5_init 60 = .ok (.putfield 38, 3) := by decide +kernel
theorem dX5_init_63 : decode cX5_init 63 = .ok (.aload_n 0, 1) := by decide +kernel
theorem dX5_init_64 : decode cX5_init 64 = .ok (.new 16, 3) := by decide +kernel
theorem dX5_init_67 : decode cX5_init 67 = .ok (.dup, 1) := by decide +kernel
theorem dX5_init_68 : decode cX5_init 68 = .ok (.invokespecial 18, 3) := by decide +kernel
theorem dX5_init_71 : decode cX5_init 71 = .ok (.putfield 41, 3) := by decide +kernel
theorem dX5_init_74 : decode cX5_init 74 = .ok (.iconst 0, 1) := by decide +kernel
theorem dX5_init_75 : decode cX5_init 75 = .ok (.istore_n 1, 1) := by decide +kernel
theorem dX5_init_76 : decode cX5_init 76 = .ok (.iload_n 1, 1) := by decide +kernel
theorem dX5_init_77 : decode cX5_init 77 = .ok (.iconst 2, 1) := by decide +kernel
theorem dX5_init_78 : decode cX5_init 78 = .ok (.if_icmp .ge 22, 3) := by decide +kernel
theorem dX5_init_81 : decode cX5_init 81 = .ok (.aload_n 0, 1) := by decide +kernel
theorem dX5_init_82 : decode cX5_init 82 = .ok (.getfield 30, 3) := by decide +kernel
theorem dX5_init_85 : decode cX5_init 85 = .ok (.iload_n 1, 1) := by decide +kernel
theorem dX5_init_86 : decode cX5_init 86 = .ok (.new 16, 3) := by decide +kernel
theorem dX5_init_89 : decode cX5_init 89 = .ok (.dup, 1) := by decide +kernel
theorem dX5_init_90 : decode cX5_init 90 = .ok (.invokespecial 18, 3) := by decide +kernel
theorem dX5_init_93 : decode cX5_init 93 = .ok (.aastore, 1) := by decide +kernel
theorem dX5_init_94 : decode cX5_init 94 = .ok (.iinc 1 1, 3) := by decide +kernel
theorem dX5_init_97 : decode cX5_init 97 = .ok (.goto (-21), 3) := by decide +kernel
theorem dX5_init_100 : decode cX5_init 100 = .ok (.return_, 1) := by decide +kernel
theorem dX5_append_0 : decode cX5_append 0 = .ok (.iload_n 1, 1) := by decide +kernel
theorem dX5_append_1 : decode cX5_append 1 = .ok (.iconst 0, 1) := by decide +kernel
theorem dX5_append_2 : decode cX5_append 2 = .ok (.sipush 255, 3) := by decide +kernel
theorem dX5_append_5 : decode cX5_append 5 = .ok (.invokestatic 44, 3) := by decide +kernel
theorem dX5_append_8 : decode cX5_append 8 = .ok (.ifCond .ne 11, 3) := by decide +kernel
theorem dX5_append_11 : decode cX5_append 11 = .ok (.new 48, 3) := by decide +kernel
theorem dX5_append_14 : decode cX5_append 14 = .ok (.dup, 1) := by decide +kernel
theorem dX5_append_15 : decode cX5_append 15 = .ok (.invokespecial 50, 3) := by decide +kernel
theorem dX5_append_18 : decode cX5_append 18 = .ok (.athrow, 1) := by decide +kernel
theorem dX5_append_19 : decode cX5_append 19 = .ok (.aload_n 0, 1) := by decide +kernel
theorem dX5_append_20 : decode cX5_append 20 = .ok (.getfield 10, 3) := by decide +kernel
theorem dX5_append_23 : decode cX5_append 23 = .ok (.getfield 51, 3) := by decide +kernel
theorem dX5_append_26 : decode cX5_append 26 = .ok (.bipush 120, 2) := by decide +kernel
theorem dX5_append_28 : decode cX5_append 28 = .ok (.if_icmp .lt 11, 3) := by decide +kernel
theorem dX5_append_31 : decode cX5_append 31 = .ok (.new 55, 3) := by decide +kernel
theorem dX5_append_34 : decode cX5_append 34 = .ok (.dup, 1) := by decide +kernel
theorem dX5_append_35 : decode cX5_append 35 = .ok (.invokespecial 57, 3) := by decide +kernel
theorem dX5_append_38 : decode cX5_append 38 = .ok (.athrow, 1) := by decide +kernel
theorem dX5_append_39 : decode cX5_append 39 = .ok (.aload_n 0, 1) := by decide +kernel
theorem dX5_append_40 : decode cX5_append 40 = .ok (.getfield 10, 3) := by decide +kernel
theorem dX5_append_43 : decode cX5_append 43 = .ok (.getfield 58, 3) := by decide +kernel
theorem dX5_append_46 : decode cX5_append 46 = .ok (.aload_n 0, 1) := by decide +kernel
theorem dX5_append_47 : decode cX5_append 47 = .ok (.getfield 10, 3) := by decide +kernel
theorem dX5_append_50 : decode cX5_append 50 = .ok (.getfield 51, 3) := by decide +kernel
theorem dX5_append_53 : decode cX5_append 53 = .ok (.iload_n 1, 1) := by decide +kernel
theorem dX5_append_54 : decode cX5_append 54 = .ok (.i2c, 1) := by decide +kernel
theorem dX5_append_55 : decode cX5_append 55 = .ok (.castore, 1) := by decide +kernel
theorem dX5_append_56 : decode cX5_append 56 = .ok (.aload_n 0, 1) := by decide +kernel
theorem dX5_append_57 : decode cX5_append 57 = .ok (.getfield 10, 3) := by decide +kernel
theorem dX5_append_60 : decode cX5_append 60 = .ok (.dup, 1) := by decide +kernel
theorem dX5_append_61 : decode cX5_append 61 = .ok (.getfield 51, 3) := by decide +kernel
theorem dX5_append_64 : decode cX5_append 64 = .ok (.iconst 1, 1) := by decide +kernel
theorem dX5_append_65 : decode cX5_append 65 = .ok (.iadd, 1) := by decide +kernel
theorem dX5_append_66 : decode cX5_append 66 = .ok (.putfield 51, 3) := by decide +kernel
theorem dX5_append_69 : decode cX5_append 69 = .ok (.aload_n 0, 1) := by decide +kernel
theorem dX5_append_70 : decode cX5_append 70 = .ok (.getfield 10, 3) := by decide +kernel
theorem dX5_append_73 : decode cX5_append 73 = .ok (.getfield 51, 3) := by decide +kernel
theorem dX5_append_76 : decode cX5_append 76 = .ok (.ireturn, 1) := by decide +kernel
theorem dX5_load_0 : decode cX5_load 0 = .ok (.aload_n 0, 1) := by decide +kernel
theorem dX5_load_1 : decode cX5_load 1 = .ok (.getfield 10, 3) := by decide +kernel
theorem dX5_load_4 : decode cX5_load 4 = .ok (.invokevirtual 62, 3) := by decide +kernel
theorem dX5_load_7 : decode cX5_load 7 = .ok (.iconst (-1), 1) := by decide +kernel
theorem dX5_load_8 : decode cX5_load 8 = .ok (.if_icmp .eq 11, 3) := by decide +kernel
theorem dX5_load_11 : decode cX5_load 11 = .ok (.new 55, 3) := by decide +kernel
theorem dX5_load_14 : decode cX5_load 14 = .ok (.dup, 1) := by decide +kernel
theorem dX5_load_15 : decode cX5_load 15 = .ok (.invokespecial 57, 3) := by decide +kernel
theorem dX5_load_18 : decode cX5_load 18 = .ok (.athrow, 1) := by decide +kernel
theorem dX5_load_19 : decode cX5_load 19 = .ok (.aload_n 0, 1) := by decide +kernel
theorem dX5_load_20 : decode cX5_load 20 = .ok (.getfield 19, 3) := by decide +kernel
theorem dX5_load_23 : decode cX5_load 23 = .ok (.invokevirtual 66, 3) := by decide +kernel
theorem dX5_load_26 : decode cX5_load 26 = .ok (.aload_n 0, 1) := by decide +kernel
theorem dX5_load_27 : decode cX5_load 27 = .ok (.getfield 26, 3) := by decide +kernel
theorem dX5_load_30 : decode cX5_load 30 = .ok (.invokevirtual 69, 3) := by decide +kernel
theorem dX5_load_33 : decode cX5_load 33 = .ok (.aload_n 0, 1) := by decide +kernel
theorem dX5_load_34 : decode cX5_load 34 = .ok (.invokevirtual 72, 3) := by decide +kernel
theorem dX5_load_37 : decode cX5_load 37 = .ok (.iconst 0, 1) := by decide +kernel
theorem dX5_load_38 : decode cX5_load 38 = .ok (.istore_n 1, 1) := by decide +kernel
theorem dX5_load_39 : decode cX5_load 39 = .ok (.aload_n 0, 1) := by decide +kernel
theorem dX5_load_40 : decode cX5_load 40 = .ok (.getfield 10, 3) := by decide +kernel
theorem dX5_load_43 : decode cX5_load 43 = .ok (.invokevirtual 75, 3) := by decide +kernel
theorem dX5_load_46 : decode cX5_load 46 = .ok (.pop, 1) := by decide +kernel
theorem dX5_load_47 : decode cX5_load 47 = .ok (.iconst 0, 1) := by decide +kernel
theorem dX5_load_48 : decode cX5_load 48 = .ok (.istore_n 2, 1) := by decide +kernel
theorem dX5_load_49 : decode cX5_load 49 = .ok (.iload_n 2, 1) := by decide +kernel
theorem dX5_load_50 : decode cX5_load 50 = .ok (.bipush 120, 2) := by decide +kernel
theorem dX5_load_52 : decode cX5_load 52 = .ok (.if_icmp .ge 44, 3) := by decide +kernel
theorem dX5_load_55 : decode cX5_load 55 = .ok (.aload_n 0, 1) := by decide +kernel
theorem dX5_load_56 : decode cX5_load 56 = .ok (.getfield 10, 3) := by decide +kernel
theorem dX5_load_59 : decode cX5_load 59 = .ok (.invokevirtual 79, 3) := by decide +kernel
theorem dX5_load_62 : decode cX5_load 62 = .ok (.ifCond .eq 34, 3) := by decide +kernel
theorem dX5_load_65 : decode cX5_load 65 = .ok (.aload_n 0, 1) := by decide +kernel
theorem dX5_load_66 : decode cX5_load 66 = .ok (.getfield 10, 3) := by decide +kernel
theorem dX5_load_69 : decode cX5_load 69 = .ok (.invokevirtual 82, 3) := by decide +kernel
theorem dX5_load_72 : decode cX5_load 72 = .ok (.pop, 1) := by decide +kernel
theorem dX5_load_73 : decode cX5_load 73 = .ok (.aload_n 0, 1) := by decide +kernel
theorem dX5_load_74 : decode cX5_load 74 = .ok (.getfield 10, 3) := by decide +kernel
theorem dX5_load_77 : decode cX5_load 77 = .ok (.aload_n 0, 1) := by decide +kernel
theorem dX5_load_78 : decode cX5_load 78 = .ok (.getfield 19, 3) := by decide +kernel
theorem dX5_load_81 : decode cX5_load 81 = .ok (.invokevirtual 85, 3) := by decide +kernel
theorem dX5_load_84 : decode cX5_load 84 = .ok (.ifCond .ne 6, 3) := by decide +kernel
theorem dX5_load_87 : decode cX5_load 87 = .ok (.iinc 1 1, 3) := by decide +kernel
theorem dX5_load_90 : decode cX5_load 90 = .ok (.iinc 2 1, 3) := by decide +kernel
theorem dX5_load_93 : decode cX5_load 93 = .ok (.goto (-44), 3) := by decide +kernel
theorem dX5_load_96 : decode cX5_load 96 = .ok (.iload_n 1, 1) := by decide +kernel
theorem dX5_load_97 : decode cX5_load 97 = .ok (.ireturn, 1) := by decide +kernel
theorem dX5_about_0 : decode cX5_about 0 = .ok (.iload_n 1, 1) := by decide +kernel
theorem dX5_about_1 : decode cX5_about 1 = .ok (.tableswitch 99 0 6 #[43, 51, 59, 67, 75, 83, 91], 43) := by decide +kernel
theorem dX5_about_44 : decode cX5_about 44 = .ok (.aload_n 0, 1) := by decide +kernel
theorem dX5_about_45 : decode cX5_about 45 = .ok (.getfield 19, 3) := by decide +kernel
theorem dX5_about_48 : decode cX5_about 48 = .ok (.getfield 89, 3) := by decide +kernel
theorem dX5_about_51 : decode cX5_about 51 = .ok (.ireturn, 1) := by decide +kernel
theorem dX5_about_52 : decode cX5_about 52 = .ok (.aload_n 0, 1) := by decide +kernel
theorem dX5_about_53 : decode cX5_about 53 = .ok (.getfield 19, 3) := by decide +kernel
theorem dX5_about_56 : decode cX5_about 56 = .ok (.getfield 92, 3) := by decide +kernel
theorem dX5_about_59 : decode cX5_about 59 = .ok (.ireturn, 1) := by decide +kernel
theorem dX5_about_60 : decode cX5_about 60 = .ok (.aload_n 0, 1) := by decide +kernel
theorem dX5_about_61 : decode cX5_about 61 = .ok (.getfield 19, 3) := by decide +kernel
theorem dX5_about_64 : decode cX5_about 64 = .ok (.getfield 95, 3) := by decide +kernel
theorem dX5_about_67 : decode cX5_about 67 = .ok (.ireturn, 1) := by decide +kernel
theorem dX5_about_68 : decode cX5_about 68 = .ok (.aload_n 0, 1) := by decide +kernel
theorem dX5_about_69 : decode cX5_about 69 = .ok (.getfield 19, 3) := by decide +kernel
theorem dX5_about_72 : decode cX5_about 72 = .ok (.invokevirtual 98, 3) := by decide +kernel
theorem dX5_about_75 : decode cX5_about 75 = .ok (.ireturn, 1) := by decide +kernel
theorem dX5_about_76 : decode cX5_about 76 = .ok (.aload_n 0, 1) := by decide +kernel
theorem dX5_about_77 : decode cX5_about 77 = .ok (.getfield 19, 3) := by decide +kernel
theorem dX5_about_80 : decode cX5_about 80 = .ok (.invokevirtual 101, 3) := by decide +kernel
theorem dX5_about_83 : decode cX5_about 83 = .ok (.ireturn, 1) := by decide +kernel
theorem dX5_about_84 : decode cX5_about 84 = .ok (.aload_n 0, 1) := by decide +kernel
theorem dX5_about_85 : decode cX5_about 85 = .ok (.getfield 19, 3) := by decide +kernel
theorem dX5_about_88 : decode cX5_about 88 = .ok (.invokevirtual 104, 3) := by decide +kernel
theorem dX5_about_91 : decode cX5_about 91 = .ok (.ireturn, 1) := by decide +kernel
theorem dX5_about_92 : decode cX5_about 92 = .ok (.aload_n 0, 1) := by decide +kernel
theorem dX5_about_93 : decode cX5_about 93 = .ok (.getfield 19, 3) := by decide +kernel
theorem dX5_about_96 : decode cX5_about 96 = .ok (.getfield 107, 3) := by decide +kernel
theorem dX5_about_99 : decode cX5_about 99 = .ok (.ireturn, 1) := by decide +kernel
theorem dX5_about_100 : decode cX5_about 100 = .ok (.new 48, 3) := by decide +kernel
theorem dX5_about_103 : decode cX5_about 103 = .ok (.dup, 1) := by decide +kernel
theorem dX5_about_104 : decode cX5_about 104 = .ok (.invokespecial 50, 3) := by decide +kernel
theorem dX5_about_107 : decode cX5_about 107 = .ok (.athrow, 1) := by decide +kernel
theorem dX5_valveOf_0 : decode cX5_valveOf 0 = .ok (.aload_n 0, 1) := by decide +kernel
theorem dX5_valveOf_1 : decode cX5_valveOf 1 = .ok (.getfield 19, 3) := by decide +kernel
theorem dX5_valveOf_4 : decode cX5_valveOf 4 = .ok (.iload_n 1, 1) := by decide +kernel
theorem dX5_valveOf_5 : decode cX5_valveOf 5 = .ok (.invokevirtual 110, 3) := by decide +kernel
theorem dX5_valveOf_8 : decode cX5_valveOf 8 = .ok (.ifCond .ne 11, 3) := by decide +kernel
theorem dX5_valveOf_11 : decode cX5_valveOf 11 = .ok (.new 114, 3) := by decide +kernel
theorem dX5_valveOf_14 : decode cX5_valveOf 14 = .ok (.dup, 1) := by decide +kernel
theorem dX5_valveOf_15 : decode cX5_valveOf 15 = .ok (.invokespecial 116, 3) := by decide +kernel
theorem dX5_valveOf_18 : decode cX5_valveOf 18 = .ok (.athrow, 1) := by decide +kernel
theorem dX5_valveOf_19 : decode cX5_valveOf 19 = .ok (.iload_n 2, 1) := by decide +kernel
theorem dX5_valveOf_20 : decode cX5_valveOf 20 = .ok (.tableswitch 84 0 4 #[36, 46, 56, 66, 75], 36) := by decide +kernel
theorem dX5_valveOf_56 : decode cX5_valveOf 56 = .ok (.aload_n 0, 1) := by decide +kernel
theorem dX5_valveOf_57 : decode cX5_valveOf 57 = .ok (.getfield 19, 3) := by decide +kernel
theorem dX5_valveOf_60 : decode cX5_valveOf 60 = .ok (.getfield 117, 3) := by decide +kernel
theorem dX5_valveOf_63 : decode cX5_valveOf 63 = .ok (.iload_n 1, 1) := by decide +kernel
theorem dX5_valveOf_64 : decode cX5_valveOf 64 = .ok (.iaload, 1) := by decide +kernel
theorem dX5_valveOf_65 : decode cX5_valveOf 65 = .ok (.ireturn, 1) := by decide +kernel
theorem dX5_valveOf_66 : decode cX5_valveOf 66 = .ok (.aload_n 0, 1) := by decide +kernel
theorem dX5_valveOf_67 : decode cX5_valveOf 67 = .ok (.getfield 19, 3) := by decide +kernel
theorem dX5_valveOf_70 : decode cX5_valveOf 70 = .ok (.getfield 121, 3) := by decide +kernel
theorem dX5_valveOf_73 : decode cX5_valveOf 73 = .ok (.iload_n 1, 1) := by decide +kernel
theorem dX5_valveOf_74 : decode cX5_valveOf 74 = .ok (.iaload, 1) := by decide +kernel
theorem dX5_valveOf_75 : decode cX5_valveOf 75 = .ok (.ireturn, 1) := by decide +kernel
theorem dX5_valveOf_76 : decode cX5_valveOf 76 = .ok (.aload_n 0, 1) := by decide +kernel
theorem dX5_valveOf_77 : decode cX5_valveOf 77 = .ok (.getfield 19, 3) := by decide +kernel
theorem dX5_valveOf_80 : decode cX5_valveOf 80 = .ok (.getfield 124, 3) := by decide +kernel
theorem dX5_valveOf_83 : decode cX5_valveOf 83 = .ok (.iload_n 1, 1) := by decide +kernel
theorem dX5_valveOf_84 : decode cX5_valveOf 84 = .ok (.iaload, 1) := by decide +kernel
theorem dX5_valveOf_85 : decode cX5_valveOf 85 = .ok (.ireturn, 1) := by decide +kernel
theorem dX5_valveOf_86 : decode cX5_valveOf 86 = .ok (.aload_n 0, 1) := by decide +kernel
theorem dX5_valveOf_87 : decode cX5_valveOf 87 = .ok (.getfield 19, 3) := by decide +kernel
theorem dX5_valveOf_90 : decode cX5_valveOf 90 = .ok (.iload_n 1, 1) := by decide +kernel
theorem dX5_valveOf_91 : decode cX5_valveOf 91 = .ok (.invokevirtual 127, 3) := by decide +kernel
theorem dX5_valveOf_94 : decode cX5_valveOf 94 = .ok (.ireturn, 1) := by decide +kernel
theorem dX5_valveOf_95 : decode cX5_valveOf 95 = .ok (.aload_n 0, 1) := by decide +kernel
theorem dX5_valveOf_96 : decode cX5_valveOf 96 = .ok (.getfield 19, 3) := by decide +kernel
theorem dX5_valveOf_99 : decode cX5_valveOf 99 = .ok (.iload_n 1, 1) := by decide +kernel
theorem dX5_valveOf_100 : decode cX5_valveOf 100 = .ok (.invokevirtual 131, 3) := by decide +kernel
theorem dX5_valveOf_103 : decode cX5_valveOf 103 = .ok (.ireturn, 1) := by decide +kernel
theorem dX5_valveOf_104 : decode cX5_valveOf 104 = .ok (.new 48, 3) := by decide +kernel
theorem dX5_valveOf_107 : decode cX5_valveOf 107 = .ok (.dup, 1) := by decide +kernel
theorem dX5_valveOf_108 : decode cX5_valveOf 108 = .ok (.invokespecial 50, 3) := by decide +kernel
theorem dX5_valveOf_111 : decode cX5_valveOf 111 = .ok (.athrow, 1) := by decide +kernel
theorem dX5_leg_0 : decode cX5_leg 0 = .ok (.aload_n 0, 1) := by decide +kernel
theorem dX5_leg_1 : decode cX5_leg 1 = .ok (.getfield 19, 3) := by decide +kernel
theorem dX5_leg_4 : decode cX5_leg 4 = .ok (.iload_n 1, 1) := by decide +kernel
theorem dX5_leg_5 : decode cX5_leg 5 = .ok (.iload_n 2, 1) := by decide +kernel
theorem dX5_leg_6 : decode cX5_leg 6 = .ok (.invokevirtual 134, 3) := by decide +kernel
theorem dX5_leg_9 : decode cX5_leg 9 = .ok (.ifCond .ne 11, 3) := by decide +kernel
theorem dX5_leg_12 : decode cX5_leg 12 = .ok (.new 114, 3) := by decide +kernel
theorem dX5_leg_15 : decode cX5_leg 15 = .ok (.dup, 1) := by decide +kernel
theorem dX5_leg_16 : decode cX5_leg 16 = .ok (.invokespecial 116, 3) := by decide +kernel
theorem dX5_leg_19 : decode cX5_leg 19 = .ok (.athrow, 1) := by decide +kernel
theorem dX5_leg_20 : decode cX5_leg 20 = .ok (.aload_n 0, 1) := by decide +kernel
theorem dX5_leg_21 : decode cX5_leg 21 = .ok (.getfield 19, 3) := by decide +kernel
theorem dX5_leg_24 : decode cX5_leg 24 = .ok (.getfield 138, 3) := by decide +kernel
theorem dX5_leg_27 : decode cX5_leg 27 = .ok (.iload_n 1, 1) := by decide +kernel
theorem dX5_leg_28 : decode cX5_leg 28 = .ok (.iload_n 2, 1) := by decide +kernel
theorem dX5_leg_29 : decode cX5_leg 29 = .ok (.invokestatic 141, 3) := by decide +kernel
theorem dX5_leg_32 : decode cX5_leg 32 = .ok (.iaload, 1) := by decide +kernel
theorem dX5_leg_33 : decode cX5_leg 33 = .ok (.ireturn, 1) := by decide +kernel
theorem dX5_push_0 : decode cX5_push 0 = .ok (.aload_n 0, 1) := by decide +kernel
theorem dX5_push_1 : decode cX5_push 1 = .ok (.getfield 19, 3) := by decide +kernel
theorem dX5_push_4 : decode cX5_push 4 = .ok (.iload_n 1, 1) := by decide +kernel
theorem dX5_push_5 : decode cX5_push 5 = .ok (.iload_n 2, 1) := by decide +kernel
theorem dX5_push_6 : decode cX5_push 6 = .ok (.invokevirtual 134, 3) := by decide +kernel
theorem dX5_push_9 : decode cX5_push 9 = .ok (.ifCond .ne 11, 3) := by decide +kernel
theorem dX5_push_12 : decode cX5_push 12 = .ok (.new 114, 3) := by decide +kernel
theorem dX5_push_15 : decode cX5_push 15 = .ok (.dup, 1) := by decide +kernel
theorem dX5_push_16 : decode cX5_push 16 = .ok (.invokespecial 116, 3) := by decide +kernel
theorem dX5_push_19 : decode cX5_push 19 = .ok (.athrow, 1) := by decide +kernel
theorem dX5_push_20 : decode cX5_push 20 = .ok (.iload_n 3, 1) := by decide +kernel
theorem dX5_push_21 : decode cX5_push 21 = .ok (.lookupswitch 62 #[(0, 27), (1, 41)], 27) := by decide +kernel
theorem dX5_push_48 : decode cX5_push 48 = .ok (.aload_n 0, 1) := by decide +kernel
theorem dX5_push_49 : decode cX5_push 49 = .ok (.getfield 19, 3) := by decide +kernel
theorem dX5_push_52 : decode cX5_push 52 = .ok (.getfield 145, 3) := by decide +kernel
theorem dX5_push_55 : decode cX5_push 55 = .ok (.iload_n 1, 1) := by decide +kernel
theorem dX5_push_56 : decode cX5_push 56 = .ok (.iload_n 2, 1) := by decide +kernel
theorem dX5_push_57 : decode cX5_push 57 = .ok (.invokestatic 141, 3) := by decide +kernel
theorem dX5_push_60 : decode cX5_push 60 = .ok (.iaload, 1) := by decide +kernel
theorem dX5_push_61 : decode cX5_push 61 = .ok (.ireturn, 1) := by decide +kernel
theorem dX5_push_62 : decode cX5_push 62 = .ok (.aload_n 0, 1) := by decide +kernel
theorem dX5_push_63 : decode cX5_push 63 = .ok (.getfield 19, 3) := by decide +kernel
theorem dX5_push_66 : decode cX5_push 66 = .ok (.iload_n 1, 1) := by decide +kernel
theorem dX5_push_67 : decode cX5_push 67 = .ok (.iload_n 2, 1) := by decide +kernel
theorem dX5_push_68 : decode cX5_push 68 = .ok (.invokestatic 141, 3) := by decide +kernel
theorem dX5_push_71 : decode cX5_push 71 = .ok (.invokevirtual 148, 3) := by decide +kernel
theorem dX5_push_74 : decode cX5_push 74 = .ok (.ifCond .eq 7, 3) := by decide +kernel
theorem dX5_push_77 : decode cX5_push 77 = .ok (.iconst 1, 1) := by decide +kernel
theorem dX5_push_78 : decode cX5_push 78 = .ok (.goto 4, 3) := by decide +kernel
theorem dX5_push_81 : decode cX5_push 81 = .ok (.iconst 0, 1) := by decide +kernel
theorem dX5_push_82 : decode cX5_push 82 = .ok (.ireturn, 1) := by decide +kernel
theorem dX5_push_83 : decode cX5_push 83 = .ok (.new 48, 3) := by decide +kernel
theorem dX5_push_86 : decode cX5_push 86 = .ok (.dup, 1) := by decide +kernel
theorem dX5_push_87 : decode cX5_push 87 = .ok (.invokespecial 50, 3) := by decide +kernel
theorem dX5_push_90 : decode cX5_push 90 = .ok (.athrow, 1) := by decide +kernel
theorem dX5_ductOf_0 : decode cX5_ductOf 0 = .ok (.aload_n 0, 1) := by decide +kernel
theorem dX5_ductOf_1 : decode cX5_ductOf 1 = .ok (.getfield 19, 3) := by decide +kernel
theorem dX5_ductOf_4 : decode cX5_ductOf 4 = .ok (.iload_n 1, 1) := by decide +kernel
theorem dX5_ductOf_5 : decode cX5_ductOf 5 = .ok (.invokevirtual 151, 3) := by decide +kernel
theorem dX5_ductOf_8 : decode cX5_ductOf 8 = .ok (.ifCond .ne 11, 3) := by decide +kernel
theorem dX5_ductOf_11 : decode cX5_ductOf 11 = .ok (.new 114, 3) := by decide +kernel
theorem dX5_ductOf_14 : decode cX5_ductOf 14 = .ok (.dup, 1) := by decide +kernel
theorem dX5_ductOf_15 : decode cX5_ductOf 15 = .ok (.invokespecial 116, 3) := by decide +kernel
theorem dX5_ductOf_18 : decode cX5_ductOf 18 = .ok (.athrow, 1) := by decide +kernel
theorem dX5_ductOf_19 : decode cX5_ductOf 19 = .ok (.iload_n 2, 1) := by decide +kernel
theorem dX5_ductOf_20 : decode cX5_ductOf 20 = .ok (.tableswitch 134 0 7 #[48, 60, 72, 84, 96, 106, 116, 125], 48) := by decide +kernel
theorem dX5_ductOf_68 : decode cX5_ductOf 68 = .ok (.aload_n 0, 1) := by decide +kernel
theorem dX5_ductOf_69 : decode cX5_ductOf 69 = .ok (.getfield 19, 3) := by decide +kernel
theorem dX5_ductOf_72 : decode cX5_ductOf 72 = .ok (.getfield 154, 3) := by decide +kernel
theorem dX5_ductOf_75 : decode cX5_ductOf 75 = .ok (.iload_n 1, 1) := by decide +kernel
theorem dX5_ductOf_76 : decode cX5_ductOf 76 = .ok (.iaload, 1) := by decide +kernel
theorem dX5_ductOf_77 : decode cX5_ductOf 77 = .ok (.iconst 2, 1) := by decide +kernel
theorem dX5_ductOf_78 : decode cX5_ductOf 78 = .ok (.idiv, 1) := by decide +kernel
theorem dX5_ductOf_79 : decode cX5_ductOf 79 = .ok (.ireturn, 1) := by decide +kernel
theorem dX5_ductOf_80 : decode cX5_ductOf 80 = .ok (.aload_n 0, 1) := by decide +kernel
theorem dX5_ductOf_81 : decode cX5_ductOf 81 = .ok (.getfield 19, 3) := by decide +kernel
theorem dX5_ductOf_84 : decode cX5_ductOf 84 = .ok (.getfield 154, 3) := by decide +kernel
theorem dX5_ductOf_87 : decode cX5_ductOf 87 = .ok (.iload_n 1, 1) := by decide +kernel
theorem dX5_ductOf_88 : decode cX5_ductOf 88 = .ok (.iaload, 1) := by decide +kernel
theorem dX5_ductOf_89 : decode cX5_ductOf 89 = .ok (.iconst 2, 1) := by decide +kernel
theorem dX5_ductOf_90 : decode cX5_ductOf 90 = .ok (.irem, 1) := by decide +kernel
theorem dX5_ductOf_91 : decode cX5_ductOf 91 = .ok (.ireturn, 1) := by decide +kernel
theorem dX5_ductOf_92 : decode cX5_ductOf 92 = .ok (.aload_n 0, 1) := by decide +kernel
theorem dX5_ductOf_93 : decode cX5_ductOf 93 = .ok (.getfield 19, 3) := by decide +kernel
theorem dX5_ductOf_96 : decode cX5_ductOf 96 = .ok (.getfield 157, 3) := by decide +kernel
theorem dX5_ductOf_99 : decode cX5_ductOf 99 = .ok (.iload_n 1, 1) := by decide +kernel
theorem dX5_ductOf_100 : decode cX5_ductOf 100 = .ok (.iaload, 1) := by decide +kernel
theorem dX5_ductOf_101 : decode cX5_ductOf 101 = .ok (.iconst 2, 1) := by decide +kernel
theorem dX5_ductOf_102 : decode cX5_ductOf 102 = .ok (.idiv, 1) := by decide +kernel
theorem dX5_ductOf_103 : decode cX5_ductOf 103 = .ok (.ireturn, 1) := by decide +kernel
theorem dX5_ductOf_104 : decode cX5_ductOf 104 = .ok (.aload_n 0, 1) := by decide +kernel
theorem dX5_ductOf_105 : decode cX5_ductOf 105 = .ok (.getfield 19, 3) := by decide +kernel
theorem dX5_ductOf_108 : decode cX5_ductOf 108 = .ok (.getfield 157, 3) := by decide +kernel
theorem dX5_ductOf_111 : decode cX5_ductOf 111 = .ok (.iload_n 1, 1) := by decide +kernel
theorem dX5_ductOf_112 : decode cX5_ductOf 112 = .ok (.iaload, 1) := by decide +kernel
theorem dX5_ductOf_113 : decode cX5_ductOf 113 = .ok (.iconst 2, 1) := by decide +kernel
theorem dX5_ductOf_114 : decode cX5_ductOf 114 = .ok (.irem, 1) := by decide +kernel
theorem dX5_ductOf_115 : decode cX5_ductOf 115 = .ok (.ireturn, 1) := by decide +kernel
theorem dX5_ductOf_116 : decode cX5_ductOf 116 = .ok (.aload_n 0, 1) := by decide +kernel
theorem dX5_ductOf_117 : decode cX5_ductOf 117 = .ok (.getfield 19, 3) := by decide +kernel
theorem dX5_ductOf_120 : decode cX5_ductOf 120 = .ok (.getfield 160, 3) := by decide +kernel
theorem dX5_ductOf_123 : decode cX5_ductOf 123 = .ok (.iload_n 1, 1) := by decide +kernel
theorem dX5_ductOf_124 : decode cX5_ductOf 124 = .ok (.iaload, 1) := by decide +kernel
theorem dX5_ductOf_125 : decode cX5_ductOf 125 = .ok (.ireturn, 1) := by decide +kernel
theorem dX5_ductOf_126 : decode cX5_ductOf 126 = .ok (.aload_n 0, 1) := by decide +kernel
theorem dX5_ductOf_127 : decode cX5_ductOf 127 = .ok (.getfield 19, 3) := by decide +kernel
theorem dX5_ductOf_130 : decode cX5_ductOf 130 = .ok (.getfield 163, 3) := by decide +kernel
theorem dX5_ductOf_133 : decode cX5_ductOf 133 = .ok (.iload_n 1, 1) := by decide +kernel
theorem dX5_ductOf_134 : decode cX5_ductOf 134 = .ok (.iaload, 1) := by decide +kernel
theorem dX5_ductOf_135 : decode cX5_ductOf 135 = .ok (.ireturn, 1) := by decide +kernel
theorem dX5_ductOf_136 : decode cX5_ductOf 136 = .ok (.aload_n 0, 1) := by decide +kernel
theorem dX5_ductOf_137 : decode cX5_ductOf 137 = .ok (.getfield 19, 3) := by decide +kernel
theorem dX5_ductOf_140 : decode cX5_ductOf 140 = .ok (.iload_n 1, 1) := by decide +kernel
theorem dX5_ductOf_141 : decode cX5_ductOf 141 = .ok (.invokevirtual 166, 3) := by decide +kernel
theorem dX5_ductOf_144 : decode cX5_ductOf 144 = .ok (.ireturn, 1) := by decide +kernel
theorem dX5_ductOf_145 : decode cX5_ductOf 145 = .ok (.aload_n 0, 1) := by decide +kernel
theorem dX5_ductOf_146 : decode cX5_ductOf 146 = .ok (.getfield 19, 3) := by decide +kernel
theorem dX5_ductOf_149 : decode cX5_ductOf 149 = .ok (.iload_n 1, 1) := by decide +kernel
theorem dX5_ductOf_150 : decode cX5_ductOf 150 = .ok (.invokevirtual 169, 3) := by decide +kernel
theorem dX5_ductOf_153 : decode cX5_ductOf 153 = .ok (.ireturn, 1) := by decide +kernel
theorem dX5_ductOf_154 : decode cX5_ductOf 154 = .ok (.new 48, 3) := by decide +kernel
theorem dX5_ductOf_157 : decode cX5_ductOf 157 = .ok (.dup, 1) := by decide +kernel
theorem dX5_ductOf_158 : decode cX5_ductOf 158 = .ok (.invokespecial 50, 3) := by decide +kernel
theorem dX5_ductOf_161 : decode cX5_ductOf 161 = .ok (.athrow, 1) := by decide +kernel
theorem dX5_setting_0 : decode cX5_setting 0 = .ok (.iload_n 1, 1) := by decide +kernel
theorem dX5_setting_1 : decode cX5_setting 1 = .ok (.iconst 0, 1) := by decide +kernel
theorem dX5_setting_2 : decode cX5_setting 2 = .ok (.iconst 1, 1) := by decide +kernel
theorem dX5_setting_3 : decode cX5_setting 3 = .ok (.invokestatic 44, 3) := by decide +kernel
theorem dX5_setting_6 : decode cX5_setting 6 = .ok (.ifCond .ne 11, 3) := by decide +kernel
theorem dX5_setting_9 : decode cX5_setting 9 = .ok (.new 48, 3) := by decide +kernel
theorem dX5_setting_12 : decode cX5_setting 12 = .ok (.dup, 1) := by decide +kernel
theorem dX5_setting_13 : decode cX5_setting 13 = .ok (.invokespecial 50, 3) := by decide +kernel
theorem dX5_setting_16 : decode cX5_setting 16 = .ok (.athrow, 1) := by decide +kernel
theorem dX5_setting_17 : decode cX5_setting 17 = .ok (.aload_n 0, 1) := by decide +kernel
theorem dX5_setting_18 : decode cX5_setting 18 = .ok (.getfield 19, 3) := by decide +kernel
theorem dX5_setting_21 : decode cX5_setting 21 = .ok (.getfield 172, 3) := by decide +kernel
theorem dX5_setting_24 : decode cX5_setting 24 = .ok (.iload_n 1, 1) := by decide +kernel
theorem dX5_setting_25 : decode cX5_setting 25 = .ok (.iaload, 1) := by decide +kernel
theorem dX5_setting_26 : decode cX5_setting 26 = .ok (.ireturn, 1) := by decide +kernel
theorem dX5_valve_0 : decode cX5_valve 0 = .ok (.aload_n 0, 1) := by decide +kernel
theorem dX5_valve_1 : decode cX5_valve 1 = .ok (.getfield 19, 3) := by decide +kernel
theorem dX5_valve_4 : decode cX5_valve 4 = .ok (.iload_n 1, 1) := by decide +kernel
theorem dX5_valve_5 : decode cX5_valve 5 = .ok (.iload_n 2, 1) := by decide +kernel
theorem dX5_valve_6 : decode cX5_valve 6 = .ok (.invokestatic 175, 3) := by decide +kernel
theorem dX5_valve_9 : decode cX5_valve 9 = .ok (.invokestatic 181, 3) := by decide +kernel
theorem dX5_valve_12 : decode cX5_valve 12 = .ok (.aload_n 0, 1) := by decide +kernel
theorem dX5_valve_13 : decode cX5_valve 13 = .ok (.getfield 26, 3) := by decide +kernel
theorem dX5_valve_16 : decode cX5_valve 16 = .ok (.aload_n 0, 1) := by decide +kernel
theorem dX5_valve_17 : decode cX5_valve 17 = .ok (.getfield 19, 3) := by decide +kernel
theorem dX5_valve_20 : decode cX5_valve 20 = .ok (.invokevirtual 185, 3) := by decide +kernel
theorem dX5_valve_23 : decode cX5_valve 23 = .ok (.aload_n 0, 1) := by decide +kernel
theorem dX5_valve_24 : decode cX5_valve 24 = .ok (.getfield 19, 3) := by decide +kernel
theorem dX5_valve_27 : decode cX5_valve 27 = .ok (.iload_n 1, 1) := by decide +kernel
theorem dX5_valve_28 : decode cX5_valve 28 = .ok (.iload_n 2, 1) := by decide +kernel
theorem dX5_valve_29 : decode cX5_valve 29 = .ok (.invokestatic 189, 3) := by decide +kernel
theorem dX5_valve_32 : decode cX5_valve 32 = .ok (.pop, 1) := by decide +kernel
theorem dX5_valve_33 : decode cX5_valve 33 = .ok (.aload_n 0, 1) := by decide +kernel
theorem dX5_valve_34 : decode cX5_valve 34 = .ok (.getfield 19, 3) := by decide +kernel
theorem dX5_valve_37 : decode cX5_valve 37 = .ok (.getfield 89, 3) := by decide +kernel
theorem dX5_valve_40 : decode cX5_valve 40 = .ok (.iconst 1, 1) := by decide +kernel
theorem dX5_valve_41 : decode cX5_valve 41 = .ok (.isub, 1) := by decide +kernel
theorem dX5_valve_42 : decode cX5_valve 42 = .ok (.ireturn, 1) := by decide +kernel
theorem dX5_duct_0 : decode cX5_duct 0 = .ok (.aload_n 0, 1) := by decide +kernel
theorem dX5_duct_1 : decode cX5_duct 1 = .ok (.getfield 19, 3) := by decide +kernel
theorem dX5_duct_4 : decode cX5_duct 4 = .ok (.iload_n 1, 1) := by decide +kernel
theorem dX5_duct_5 : decode cX5_duct 5 = .ok (.iload_n 2, 1) := by decide +kernel
theorem dX5_duct_6 : decode cX5_duct 6 = .ok (.iload_n 3, 1) := by decide +kernel
theorem dX5_duct_7 : decode cX5_duct 7 = .ok (.iload 4, 2) := by decide +kernel
theorem dX5_duct_9 : decode cX5_duct 9 = .ok (.iload 5, 2) := by decide +kernel
theorem dX5_duct_11 : decode cX5_duct 11 = .ok (.invokestatic 193, 3) := by decide +kernel
theorem dX5_duct_14 : decode cX5_duct 14 = .ok (.invokestatic 181, 3) := by decide +kernel
theorem dX5_duct_17 : decode cX5_duct 17 = .ok (.aload_n 0, 1) := by decide +kernel
theorem dX5_duct_18 : decode cX5_duct 18 = .ok (.getfield 26, 3) := by decide +kernel
theorem dX5_duct_21 : decode cX5_duct 21 = .ok (.aload_n 0, 1) := by decide +kernel
theorem dX5_duct_22 : decode cX5_duct 22 = .ok (.getfield 19, 3) := by decide +kernel
theorem dX5_duct_25 : decode cX5_duct 25 = .ok (.invokevirtual 185, 3) := by decide +kernel
theorem dX5_duct_28 : decode cX5_duct 28 = .ok (.aload_n 0, 1) := by decide +kernel
theorem dX5_duct_29 : decode cX5_duct 29 = .ok (.getfield 19, 3) := by decide +kernel
theorem dX5_duct_32 : decode cX5_duct 32 = .ok (.iload_n 1, 1) := by decide +kernel
theorem dX5_duct_33 : decode cX5_duct 33 = .ok (.iload_n 2, 1) := by decide +kernel
theorem dX5_duct_34 : decode cX5_duct 34 = .ok (.iload_n 3, 1) := by decide +kernel
theorem dX5_duct_35 : decode cX5_duct 35 = .ok (.iload 4, 2) := by decide +kernel
theorem dX5_duct_37 : decode cX5_duct 37 = .ok (.iload 5, 2) := by decide +kernel
theorem dX5_duct_39 : decode cX5_duct 39 = .ok (.invokestatic 197, 3) := by decide +kernel
theorem dX5_duct_42 : decode cX5_duct 42 = .ok (.pop, 1) := by decide +kernel
theorem dX5_duct_43 : decode cX5_duct 43 = .ok (.aload_n 0, 1) := by decide +kernel
theorem dX5_duct_44 : decode cX5_duct 44 = .ok (.getfield 19, 3) := by decide +kernel
theorem dX5_duct_47 : decode cX5_duct 47 = .ok (.getfield 92, 3) := by decide +kernel
theorem dX5_duct_50 : decode cX5_duct 50 = .ok (.iconst 1, 1) := by decide +kernel
theorem dX5_duct_51 : decode cX5_duct 51 = .ok (.isub, 1) := by decide +kernel
theorem dX5_duct_52 : decode cX5_duct 52 = .ok (.ireturn, 1) := by decide +kernel
theorem dX5_remove_0 : decode cX5_remove 0 = .ok (.aload_n 0, 1) := by decide +kernel
theorem dX5_remove_1 : decode cX5_remove 1 = .ok (.getfield 19, 3) := by decide +kernel
theorem dX5_remove_4 : decode cX5_remove 4 = .ok (.iload_n 1, 1) := by decide +kernel
theorem dX5_remove_5 : decode cX5_remove 5 = .ok (.invokestatic 201, 3) := by decide +kernel
theorem dX5_remove_8 : decode cX5_remove 8 = .ok (.invokestatic 181, 3) := by decide +kernel
theorem dX5_remove_11 : decode cX5_remove 11 = .ok (.aload_n 0, 1) := by decide +kernel
theorem dX5_remove_12 : decode cX5_remove 12 = .ok (.getfield 26, 3) := by decide +kernel
theorem dX5_remove_15 : decode cX5_remove 15 = .ok (.aload_n 0, 1) := by decide +kernel
theorem dX5_remove_16 : decode cX5_remove 16 = .ok (.getfield 19, 3) := by decide +kernel
theorem dX5_remove_19 : decode cX5_remove 19 = .ok (.invokevirtual 185, 3) := by decide +kernel
theorem dX5_remove_22 : decode cX5_remove 22 = .ok (.aload_n 0, 1) := by decide +kernel
theorem dX5_remove_23 : decode cX5_remove 23 = .ok (.getfield 19, 3) := by decide +kernel
theorem dX5_remove_26 : decode cX5_remove 26 = .ok (.iload_n 1, 1) := by decide +kernel
theorem dX5_remove_27 : decode cX5_remove 27 = .ok (.invokestatic 205, 3) := by decide +kernel
theorem dX5_remove_30 : decode cX5_remove 30 = .ok (.pop, 1) := by decide +kernel
theorem dX5_remove_31 : decode cX5_remove 31 = .ok (.aload_n 0, 1) := by decide +kernel
theorem dX5_remove_32 : decode cX5_remove 32 = .ok (.getfield 19, 3) := by decide +kernel
theorem dX5_remove_35 : decode cX5_remove 35 = .ok (.getfield 92, 3) := by decide +kernel
theorem dX5_remove_38 : decode cX5_remove 38 = .ok (.ireturn, 1) := by decide +kernel
theorem dX5_press_0 : decode cX5_press 0 = .ok (.aload_n 0, 1) := by decide +kernel
theorem dX5_press_1 : decode cX5_press 1 = .ok (.getfield 19, 3) := by decide +kernel
theorem dX5_press_4 : decode cX5_press 4 = .ok (.iload_n 1, 1) := by decide +kernel
theorem dX5_press_5 : decode cX5_press 5 = .ok (.invokestatic 209, 3) := by decide +kernel
theorem dX5_press_8 : decode cX5_press 8 = .ok (.invokestatic 181, 3) := by decide +kernel
theorem dX5_press_11 : decode cX5_press 11 = .ok (.aload_n 0, 1) := by decide +kernel
theorem dX5_press_12 : decode cX5_press 12 = .ok (.getfield 26, 3) := by decide +kernel
theorem dX5_press_15 : decode cX5_press 15 = .ok (.aload_n 0, 1) := by decide +kernel
theorem dX5_press_16 : decode cX5_press 16 = .ok (.getfield 19, 3) := by decide +kernel
theorem dX5_press_19 : decode cX5_press 19 = .ok (.invokevirtual 185, 3) := by decide +kernel
theorem dX5_press_22 : decode cX5_press 22 = .ok (.aload_n 0, 1) := by decide +kernel
theorem dX5_press_23 : decode cX5_press 23 = .ok (.getfield 19, 3) := by decide +kernel
theorem dX5_press_26 : decode cX5_press 26 = .ok (.getfield 124, 3) := by decide +kernel
theorem dX5_press_29 : decode cX5_press 29 = .ok (.iload_n 1, 1) := by decide +kernel
theorem dX5_press_30 : decode cX5_press 30 = .ok (.iaload, 1) := by decide +kernel
theorem dX5_press_31 : decode cX5_press 31 = .ok (.istore_n 3, 1) := by decide +kernel
theorem dX5_press_32 : decode cX5_press 32 = .ok (.aload_n 0, 1) := by decide +kernel
theorem dX5_press_33 : decode cX5_press 33 = .ok (.getfield 19, 3) := by decide +kernel
theorem dX5_press_36 : decode cX5_press 36 = .ok (.iload_n 1, 1) := by decide +kernel
theorem dX5_press_37 : decode cX5_press 37 = .ok (.iload_n 2, 1) := by decide +kernel
theorem dX5_press_38 : decode cX5_press 38 = .ok (.invokestatic 212, 3) := by decide +kernel
theorem dX5_press_41 : decode cX5_press 41 = .ok (.pop, 1) := by decide +kernel
theorem dX5_press_42 : decode cX5_press 42 = .ok (.aload_n 0, 1) := by decide +kernel
theorem dX5_press_43 : decode cX5_press 43 = .ok (.getfield 19, 3) := by decide +kernel
theorem dX5_press_46 : decode cX5_press 46 = .ok (.getfield 124, 3) := by decide +kernel
theorem dX5_press_49 : decode cX5_press 49 = .ok (.iload_n 1, 1) := by decide +kernel
theorem dX5_press_50 : decode cX5_press 50 = .ok (.iaload, 1) := by decide +kernel
theorem dX5_press_51 : decode cX5_press 51 = .ok (.iload_n 3, 1) := by decide +kernel
theorem dX5_press_52 : decode cX5_press 52 = .ok (.if_icmp .ne 7, 3) := by decide +kernel
theorem dX5_press_55 : decode cX5_press 55 = .ok (.iconst 0, 1) := by decide +kernel
theorem dX5_press_56 : decode cX5_press 56 = .ok (.goto 4, 3) := by decide +kernel
theorem dX5_press_59 : decode cX5_press 59 = .ok (.iconst 1, 1) := by decide +kernel
theorem dX5_press_60 : decode cX5_press 60 = .ok (.ireturn, 1) := by decide +kernel
theorem dX5_leak_0 : decode cX5_leak 0 = .ok (.aload_n 0, 1) := by decide +kernel
theorem dX5_leak_1 : decode cX5_leak 1 = .ok (.getfield 19, 3) := by decide +kernel
theorem dX5_leak_4 : decode cX5_leak 4 = .ok (.iload_n 1, 1) := by decide +kernel
theorem dX5_leak_5 : decode cX5_leak 5 = .ok (.iload_n 2, 1) := by decide +kernel
theorem dX5_leak_6 : decode cX5_leak 6 = .ok (.invokestatic 216, 3) := by decide +kernel
theorem dX5_leak_9 : decode cX5_leak 9 = .ok (.invokestatic 181, 3) := by decide +kernel
theorem dX5_leak_12 : decode cX5_leak 12 = .ok (.aload_n 0, 1) := by decide +kernel
theorem dX5_leak_13 : decode cX5_leak 13 = .ok (.getfield 26, 3) := by decide +kernel
theorem dX5_leak_16 : decode cX5_leak 16 = .ok (.aload_n 0, 1) := by decide +kernel
theorem dX5_leak_17 : decode cX5_leak 17 = .ok (.getfield 19, 3) := by decide +kernel
theorem dX5_leak_20 : decode cX5_leak 20 = .ok (.invokevirtual 185, 3) := by decide +kernel
theorem dX5_leak_23 : decode cX5_leak 23 = .ok (.aload_n 0, 1) := by decide +kernel
theorem dX5_leak_24 : decode cX5_leak 24 = .ok (.getfield 19, 3) := by decide +kernel
theorem dX5_leak_27 : decode cX5_leak 27 = .ok (.getfield 163, 3) := by decide +kernel
theorem dX5_leak_30 : decode cX5_leak 30 = .ok (.iload_n 1, 1) := by decide +kernel
theorem dX5_leak_31 : decode cX5_leak 31 = .ok (.iaload, 1) := by decide +kernel
theorem dX5_leak_32 : decode cX5_leak 32 = .ok (.istore_n 3, 1) := by decide +kernel
theorem dX5_leak_33 : decode cX5_leak 33 = .ok (.aload_n 0, 1) := by decide +kernel
theorem dX5_leak_34 : decode cX5_leak 34 = .ok (.getfield 19, 3) := by decide +kernel
theorem dX5_leak_37 : decode cX5_leak 37 = .ok (.iload_n 1, 1) := by decide +kernel
theorem dX5_leak_38 : decode cX5_leak 38 = .ok (.iload_n 2, 1) := by decide +kernel
theorem dX5_leak_39 : decode cX5_leak 39 = .ok (.invokestatic 219, 3) := by decide +kernel
theorem dX5_leak_42 : decode cX5_leak 42 = .ok (.pop, 1) := by decide +kernel
theorem dX5_leak_43 : decode cX5_leak 43 = .ok (.iload_n 3, 1) := by decide +kernel
theorem dX5_leak_44 : decode cX5_leak 44 = .ok (.ireturn, 1) := by decide +kernel
theorem dX5_feed_0 : decode cX5_feed 0 = .ok (.aload_n 0, 1) := by decide +kernel
theorem dX5_feed_1 : decode cX5_feed 1 = .ok (.getfield 19, 3) := by decide +kernel
theorem dX5_feed_4 : decode cX5_feed 4 = .ok (.iload_n 1, 1) := by decide +kernel
theorem dX5_feed_5 : decode cX5_feed 5 = .ok (.iload_n 2, 1) := by decide +kernel
theorem dX5_feed_6 : decode cX5_feed 6 = .ok (.invokestatic 222, 3) := by decide +kernel
theorem dX5_feed_9 : decode cX5_feed 9 = .ok (.invokestatic 181, 3) := by decide +kernel
theorem dX5_feed_12 : decode cX5_feed 12 = .ok (.aload_n 0, 1) := by decide +kernel
theorem dX5_feed_13 : decode cX5_feed 13 = .ok (.getfield 26, 3) := by decide +kernel
theorem dX5_feed_16 : decode cX5_feed 16 = .ok (.aload_n 0, 1) := by decide +kernel
theorem dX5_feed_17 : decode cX5_feed 17 = .ok (.getfield 19, 3) := by decide +kernel
theorem dX5_feed_20 : decode cX5_feed 20 = .ok (.invokevirtual 185, 3) := by decide +kernel
theorem dX5_feed_23 : decode cX5_feed 23 = .ok (.aload_n 0, 1) := by decide +kernel
theorem dX5_feed_24 : decode cX5_feed 24 = .ok (.getfield 19, 3) := by decide +kernel
theorem dX5_feed_27 : decode cX5_feed 27 = .ok (.getfield 121, 3) := by decide +kernel
theorem dX5_feed_30 : decode cX5_feed 30 = .ok (.iload_n 1, 1) := by decide +kernel
theorem dX5_feed_31 : decode cX5_feed 31 = .ok (.iaload, 1) := by decide +kernel
theorem dX5_feed_32 : decode cX5_feed 32 = .ok (.istore_n 3, 1) := by decide +kernel
theorem dX5_feed_33 : decode cX5_feed 33 = .ok (.aload_n 0, 1) := by decide +kernel
theorem dX5_feed_34 : decode cX5_feed 34 = .ok (.getfield 19, 3) := by decide +kernel
theorem dX5_feed_37 : decode cX5_feed 37 = .ok (.iload_n 1, 1) := by decide +kernel
theorem dX5_feed_38 : decode cX5_feed 38 = .ok (.iload_n 2, 1) := by decide +kernel
theorem dX5_feed_39 : decode cX5_feed 39 = .ok (.invokestatic 225, 3) := by decide +kernel
theorem dX5_feed_42 : decode cX5_feed 42 = .ok (.pop, 1) := by decide +kernel
theorem dX5_feed_43 : decode cX5_feed 43 = .ok (.iload_n 3, 1) := by decide +kernel
theorem dX5_feed_44 : decode cX5_feed 44 = .ok (.ireturn, 1) := by decide +kernel
theorem dX5_set_0 : decode cX5_set 0 = .ok (.iload_n 1, 1) := by decide +kernel
theorem dX5_set_1 : decode cX5_set 1 = .ok (.iload_n 2, 1) := by decide +kernel
theorem dX5_set_2 : decode cX5_set 2 = .ok (.invokestatic 228, 3) := by decide +kernel
theorem dX5_set_5 : decode cX5_set 5 = .ok (.invokestatic 181, 3) := by decide +kernel
theorem dX5_set_8 : decode cX5_set 8 = .ok (.aload_n 0, 1) := by decide +kernel
theorem dX5_set_9 : decode cX5_set 9 = .ok (.getfield 26, 3) := by decide +kernel
theorem dX5_set_12 : decode cX5_set 12 = .ok (.aload_n 0, 1) := by decide +kernel
theorem dX5_set_13 : decode cX5_set 13 = .ok (.getfield 19, 3) := by decide +kernel
theorem dX5_set_16 : decode cX5_set 16 = .ok (.invokevirtual 185, 3) := by decide +kernel
theorem dX5_set_19 : decode cX5_set 19 = .ok (.aload_n 0, 1) := by decide +kernel
theorem dX5_set_20 : decode cX5_set 20 = .ok (.getfield 19, 3) := by decide +kernel
theorem dX5_set_23 : decode cX5_set 23 = .ok (.getfield 172, 3) := by decide +kernel
theorem dX5_set_26 : decode cX5_set 26 = .ok (.iload_n 1, 1) := by decide +kernel
theorem dX5_set_27 : decode cX5_set 27 = .ok (.iaload, 1) := by decide +kernel
theorem dX5_set_28 : decode cX5_set 28 = .ok (.istore_n 3, 1) := by decide +kernel
theorem dX5_set_29 : decode cX5_set 29 = .ok (.aload_n 0, 1) := by decide +kernel
theorem dX5_set_30 : decode cX5_set 30 = .ok (.getfield 19, 3) := by decide +kernel
theorem dX5_set_33 : decode cX5_set 33 = .ok (.iload_n 1, 1) := by decide +kernel
theorem dX5_set_34 : decode cX5_set 34 = .ok (.iload_n 2, 1) := by decide +kernel
theorem dX5_set_35 : decode cX5_set 35 = .ok (.invokestatic 231, 3) := by decide +kernel
theorem dX5_set_38 : decode cX5_set 38 = .ok (.pop, 1) := by decide +kernel
theorem dX5_set_39 : decode cX5_set 39 = .ok (.iload_n 3, 1) := by decide +kernel
theorem dX5_set_40 : decode cX5_set 40 = .ok (.ireturn, 1) := by decide +kernel
theorem dX5_ticks_0 : decode cX5_ticks 0 = .ok (.iload_n 1, 1) := by decide +kernel
theorem dX5_ticks_1 : decode cX5_ticks 1 = .ok (.invokestatic 234, 3) := by decide +kernel
theorem dX5_ticks_4 : decode cX5_ticks 4 = .ok (.invokestatic 181, 3) := by decide +kernel
theorem dX5_ticks_7 : decode cX5_ticks 7 = .ok (.aload_n 0, 1) := by decide +kernel
theorem dX5_ticks_8 : decode cX5_ticks 8 = .ok (.getfield 26, 3) := by decide +kernel
theorem dX5_ticks_11 : decode cX5_ticks 11 = .ok (.aload_n 0, 1) := by decide +kernel
theorem dX5_ticks_12 : decode cX5_ticks 12 = .ok (.getfield 19, 3) := by decide +kernel
theorem dX5_ticks_15 : decode cX5_ticks 15 = .ok (.invokevirtual 185, 3) := by decide +kernel
theorem dX5_ticks_18 : decode cX5_ticks 18 = .ok (.aload_n 0, 1) := by decide +kernel
theorem dX5_ticks_19 : decode cX5_ticks 19 = .ok (.getfield 38, 3) := by decide +kernel
theorem dX5_ticks_22 : decode cX5_ticks 22 = .ok (.aload_n 0, 1) := by decide +kernel
theorem dX5_ticks_23 : decode cX5_ticks 23 = .ok (.getfield 19, 3) := by decide +kernel
theorem dX5_ticks_26 : decode cX5_ticks 26 = .ok (.invokevirtual 237, 3) := by decide +kernel
theorem dX5_ticks_29 : decode cX5_ticks 29 = .ok (.aload_n 0, 1) := by decide +kernel
theorem dX5_ticks_30 : decode cX5_ticks 30 = .ok (.getfield 19, 3) := by decide +kernel
theorem dX5_ticks_33 : decode cX5_ticks 33 = .ok (.iload_n 1, 1) := by decide +kernel
theorem dX5_ticks_34 : decode cX5_ticks 34 = .ok (.invokestatic 240, 3) := by decide +kernel
theorem dX5_ticks_37 : decode cX5_ticks 37 = .ok (.pop, 1) := by decide +kernel
theorem dX5_ticks_38 : decode cX5_ticks 38 = .ok (.aload_n 0, 1) := by decide +kernel
theorem dX5_ticks_39 : decode cX5_ticks 39 = .ok (.getfield 19, 3) := by decide +kernel
theorem dX5_ticks_42 : decode cX5_ticks 42 = .ok (.aload_n 0, 1) := by decide +kernel
theorem dX5_ticks_43 : decode cX5_ticks 43 = .ok (.getfield 38, 3) := by decide +kernel
theorem dX5_ticks_46 : decode cX5_ticks 46 = .ok (.invokevirtual 243, 3) := by decide +kernel
theorem dX5_ticks_49 : decode cX5_ticks 49 = .ok (.ireturn, 1) := by decide +kernel
theorem dX5_undo_0 : decode cX5_undo 0 = .ok (.aload_n 0, 1) := by decide +kernel
theorem dX5_undo_1 : decode cX5_undo 1 = .ok (.getfield 26, 3) := by decide +kernel
theorem dX5_undo_4 : decode cX5_undo 4 = .ok (.getfield 247, 3) := by decide +kernel
theorem dX5_undo_7 : decode cX5_undo 7 = .ok (.ifCond .ne 11, 3) := by decide +kernel
theorem dX5_undo_10 : decode cX5_undo 10 = .ok (.new 55, 3) := by decide +kernel
theorem dX5_undo_13 : decode cX5_undo 13 = .ok (.dup, 1) := by decide +kernel
theorem dX5_undo_14 : decode cX5_undo 14 = .ok (.invokespecial 57, 3) := by decide +kernel
theorem dX5_undo_17 : decode cX5_undo 17 = .ok (.athrow, 1) := by decide +kernel
theorem dX5_undo_18 : decode cX5_undo 18 = .ok (.aload_n 0, 1) := by decide +kernel
theorem dX5_undo_19 : decode cX5_undo 19 = .ok (.getfield 26, 3) := by decide +kernel
theorem dX5_undo_22 : decode cX5_undo 22 = .ok (.aload_n 0, 1) := by decide +kernel
theorem dX5_undo_23 : decode cX5_undo 23 = .ok (.getfield 19, 3) := by decide +kernel
theorem dX5_undo_26 : decode cX5_undo 26 = .ok (.invokevirtual 250, 3) := by decide +kernel
theorem dX5_undo_29 : decode cX5_undo 29 = .ok (.aload_n 0, 1) := by decide +kernel
theorem dX5_undo_30 : decode cX5_undo 30 = .ok (.getfield 26, 3) := by decide +kernel
theorem dX5_undo_33 : decode cX5_undo 33 = .ok (.getfield 247, 3) := by decide +kernel
theorem dX5_undo_36 : decode cX5_undo 36 = .ok (.ireturn, 1) := by decide +kernel
theorem dX5_restIn_0 : decode cX5_restIn 0 = .ok (.aload_n 0, 1) := by decide +kernel
theorem dX5_restIn_1 : decode cX5_restIn 1 = .ok (.getfield 38, 3) := by decide +kernel
theorem dX5_restIn_4 : decode cX5_restIn 4 = .ok (.aload_n 0, 1) := by decide +kernel
theorem dX5_restIn_5 : decode cX5_restIn 5 = .ok (.getfield 19, 3) := by decide +kernel
theorem dX5_restIn_8 : decode cX5_restIn 8 = .ok (.invokevirtual 237, 3) := by decide +kernel
theorem dX5_restIn_11 : decode cX5_restIn 11 = .ok (.iconst 0, 1) := by decide +kernel
theorem dX5_restIn_12 : decode cX5_restIn 12 = .ok (.istore_n 1, 1) := by decide +kernel
theorem dX5_restIn_13 : decode cX5_restIn 13 = .ok (.iload_n 1, 1) := by decide +kernel
theorem dX5_restIn_14 : decode cX5_restIn 14 = .ok (.sipush 300, 3) := by decide +kernel
theorem dX5_restIn_17 : decode cX5_restIn 17 = .ok (.if_icmp .gt 21, 3) := by decide +kernel
theorem dX5_restIn_20 : decode cX5_restIn 20 = .ok (.aload_n 0, 1) := by decide +kernel
theorem dX5_restIn_21 : decode cX5_restIn 21 = .ok (.getfield 38, 3) := by decide +kernel
theorem dX5_restIn_24 : decode cX5_restIn 24 = .ok (.invokevirtual 253, 3) := by decide +kernel
theorem dX5_restIn_27 : decode cX5_restIn 27 = .ok (.ifCond .ne 5, 3) := by decide +kernel
theorem dX5_restIn_30 : decode cX5_restIn 30 = .ok (.iload_n 1, 1) := by decide +kernel
theorem dX5_restIn_31 : decode cX5_restIn 31 = .ok (.ireturn, 1) := by decide +kernel
theorem dX5_restIn_32 : decode cX5_restIn 32 = .ok (.iinc 1 1, 3) := by decide +kernel
theorem dX5_restIn_35 : decode cX5_restIn 35 = .ok (.goto (-22), 3) := by decide +kernel
theorem dX5_restIn_38 : decode cX5_restIn 38 = .ok (.iconst (-1), 1) := by decide +kernel
theorem dX5_restIn_39 : decode cX5_restIn 39 = .ok (.ireturn, 1) := by decide +kernel
theorem dX5_beat_0 : decode cX5_beat 0 = .ok (.aload_n 0, 1) := by decide +kernel
theorem dX5_beat_1 : decode cX5_beat 1 = .ok (.getfield 19, 3) := by decide +kernel
theorem dX5_beat_4 : decode cX5_beat 4 = .ok (.iload_n 1, 1) := by decide +kernel
theorem dX5_beat_5 : decode cX5_beat 5 = .ok (.invokevirtual 110, 3) := by decide +kernel
theorem dX5_beat_8 : decode cX5_beat 8 = .ok (.ifCond .ne 11, 3) := by decide +kernel
theorem dX5_beat_11 : decode cX5_beat 11 = .ok (.new 114, 3) := by decide +kernel
theorem dX5_beat_14 : decode cX5_beat 14 = .ok (.dup, 1) := by decide +kernel
theorem dX5_beat_15 : decode cX5_beat 15 = .ok (.invokespecial 116, 3) := by decide +kernel
theorem dX5_beat_18 : decode cX5_beat 18 = .ok (.athrow, 1) := by decide +kernel
theorem dX5_beat_19 : decode cX5_beat 19 = .ok (.aload_n 0, 1) := by decide +kernel
theorem dX5_beat_20 : decode cX5_beat 20 = .ok (.getfield 38, 3) := by decide +kernel
theorem dX5_beat_23 : decode cX5_beat 23 = .ok (.aload_n 0, 1) := by decide +kernel
theorem dX5_beat_24 : decode cX5_beat 24 = .ok (.getfield 19, 3) := by decide +kernel
theorem dX5_beat_27 : decode cX5_beat 27 = .ok (.invokevirtual 237, 3) := by decide +kernel
theorem dX5_beat_30 : decode cX5_beat 30 = .ok (.aload_n 0, 1) := by decide +kernel
theorem dX5_beat_31 : decode cX5_beat 31 = .ok (.getfield 38, 3) := by decide +kernel
theorem dX5_beat_34 : decode cX5_beat 34 = .ok (.iload_n 1, 1) := by decide +kernel
theorem dX5_beat_35 : decode cX5_beat 35 = .ok (.invokevirtual 256, 3) := by decide +kernel
theorem dX5_beat_38 : decode cX5_beat 38 = .ok (.ireturn, 1) := by decide +kernel
theorem dX5_rule_0 : decode cX5_rule 0 = .ok (.aload_n 0, 1) := by decide +kernel
theorem dX5_rule_1 : decode cX5_rule 1 = .ok (.getfield 19, 3) := by decide +kernel
theorem dX5_rule_4 : decode cX5_rule 4 = .ok (.iload_n 1, 1) := by decide +kernel
theorem dX5_rule_5 : decode cX5_rule 5 = .ok (.invokevirtual 110, 3) := by decide +kernel
theorem dX5_rule_8 : decode cX5_rule 8 = .ok (.ifCond .eq 25, 3) := by decide +kernel
theorem dX5_rule_11 : decode cX5_rule 11 = .ok (.aload_n 0, 1) := by decide +kernel
theorem dX5_rule_12 : decode cX5_rule 12 = .ok (.getfield 19, 3) := by decide +kernel
theorem dX5_rule_15 : decode cX5_rule 15 = .ok (.iload_n 2, 1) := by decide +kernel
theorem dX5_rule_16 : decode cX5_rule 16 = .ok (.invokevirtual 110, 3) := by decide +kernel
theorem dX5_rule_19 : decode cX5_rule 19 = .ok (.ifCond .eq 14, 3) := by decide +kernel
theorem dX5_rule_22 : decode cX5_rule 22 = .ok (.aload_n 0, 1) := by decide +kernel
theorem dX5_rule_23 : decode cX5_rule 23 = .ok (.getfield 19, 3) := by decide +kernel
theorem dX5_rule_26 : decode cX5_rule 26 = .ok (.iload_n 3, 1) := by decide +kernel
theorem dX5_rule_27 : decode cX5_rule 27 = .ok (.invokevirtual 110, 3) := by decide +kernel
theorem dX5_rule_30 : decode cX5_rule 30 = .ok (.ifCond .ne 11, 3) := by decide +kernel
theorem dX5_rule_33 : decode cX5_rule 33 = .ok (.new 114, 3) := by decide +kernel
theorem dX5_rule_36 : decode cX5_rule 36 = .ok (.dup, 1) := by decide +kernel
theorem dX5_rule_37 : decode cX5_rule 37 = .ok (.invokespecial 116, 3) := by decide +kernel
theorem dX5_rule_40 : decode cX5_rule 40 = .ok (.athrow, 1) := by decide +kernel
theorem dX5_rule_41 : decode cX5_rule 41 = .ok (.iload_n 1, 1) := by decide +kernel
theorem dX5_rule_42 : decode cX5_rule 42 = .ok (.iload_n 2, 1) := by decide +kernel
theorem dX5_rule_43 : decode cX5_rule 43 = .ok (.if_icmp .eq 27, 3) := by decide +kernel
theorem dX5_rule_46 : decode cX5_rule 46 = .ok (.aload_n 0, 1) := by decide +kernel
theorem dX5_rule_47 : decode cX5_rule 47 = .ok (.getfield 19, 3) := by decide +kernel
theorem dX5_rule_50 : decode cX5_rule 50 = .ok (.getfield 117, 3) := by decide +kernel
theorem dX5_rule_53 : decode cX5_rule 53 = .ok (.iload_n 1, 1) := by decide +kernel
theorem dX5_rule_54 : decode cX5_rule 54 = .ok (.iaload, 1) := by decide +kernel
theorem dX5_rule_55 : decode cX5_rule 55 = .ok (.ifCond .ne 15, 3) := by decide +kernel
theorem dX5_rule_58 : decode cX5_rule 58 = .ok (.aload_n 0, 1) := by decide +kernel
theorem dX5_rule_59 : decode cX5_rule 59 = .ok (.getfield 19, 3) := by decide +kernel
theorem dX5_rule_62 : decode cX5_rule 62 = .ok (.getfield 117, 3) := by decide +kernel
theorem dX5_rule_65 : decode cX5_rule 65 = .ok (.iload_n 2, 1) := by decide +kernel
theorem dX5_rule_66 : decode cX5_rule 66 = .ok (.iaload, 1) := by decide +kernel
theorem dX5_rule_67 : decode cX5_rule 67 = .ok (.ifCond .eq 11, 3) := by decide +kernel
theorem dX5_rule_70 : decode cX5_rule 70 = .ok (.new 48, 3) := by decide +kernel
theorem dX5_rule_73 : decode cX5_rule 73 = .ok (.dup, 1) := by decide +kernel
theorem dX5_rule_74 : decode cX5_rule 74 = .ok (.invokespecial 50, 3) := by decide +kernel
theorem dX5_rule_77 : decode cX5_rule 77 = .ok (.athrow, 1) := by decide +kernel
theorem dX5_rule_78 : decode cX5_rule 78 = .ok (.iconst 0, 1) := by decide +kernel
theorem dX5_rule_79 : decode cX5_rule 79 = .ok (.istore 4, 2) := by decide +kernel
theorem dX5_rule_81 : decode cX5_rule 81 = .ok (.iconst 0, 1) := by decide +kernel
theorem dX5_rule_82 : decode cX5_rule 82 = .ok (.istore 5, 2) := by decide +kernel
theorem dX5_rule_84 : decode cX5_rule 84 = .ok (.iload 5, 2) := by decide +kernel
theorem dX5_rule_86 : decode cX5_rule 86 = .ok (.iconst 4, 1) := by decide +kernel
theorem dX5_rule_87 : decode cX5_rule 87 = .ok (.if_icmp .ge 93, 3) := by decide +kernel
theorem dX5_rule_90 : decode cX5_rule 90 = .ok (.aload_n 0, 1) := by decide +kernel
theorem dX5_rule_91 : decode cX5_rule 91 = .ok (.getfield 38, 3) := by decide +kernel
theorem dX5_rule_94 : decode cX5_rule 94 = .ok (.aload_n 0, 1) := by decide +kernel
theorem dX5_rule_95 : decode cX5_rule 95 = .ok (.getfield 19, 3) := by decide +kernel
theorem dX5_rule_98 : decode cX5_rule 98 = .ok (.invokevirtual 237, 3) := by decide +kernel
theorem dX5_rule_101 : decode cX5_rule 101 = .ok (.aload_n 0, 1) := by decide +kernel
theorem dX5_rule_102 : decode cX5_rule 102 = .ok (.getfield 38, 3) := by decide +kernel
theorem dX5_rule_105 : decode cX5_rule 105 = .ok (.getfield 124, 3) := by decide +kernel
theorem dX5_rule_108 : decode cX5_rule 108 = .ok (.iload_n 1, 1) := by decide +kernel
theorem dX5_rule_109 : decode cX5_rule 109 = .ok (.iload 5, 2) := by decide +kernel
theorem dX5_rule_111 : decode cX5_rule 111 = .ok (.iconst 2, 1) := by decide +kernel
theorem dX5_rule_112 : decode cX5_rule 112 = .ok (.irem, 1) := by decide +kernel
theorem dX5_rule_113 : decode cX5_rule 113 = .ok (.iastore, 1) := by decide +kernel
theorem dX5_rule_114 : decode cX5_rule 114 = .ok (.aload_n 0, 1) := by decide +kernel
theorem dX5_rule_115 : decode cX5_rule 115 = .ok (.getfield 38, 3) := by decide +kernel
theorem dX5_rule_118 : decode cX5_rule 118 = .ok (.getfield 124, 3) := by decide +kernel
theorem dX5_rule_121 : decode cX5_rule 121 = .ok (.iload_n 2, 1) := by decide +kernel
theorem dX5_rule_122 : decode cX5_rule 122 = .ok (.iload 5, 2) := by decide +kernel
theorem dX5_rule_124 : decode cX5_rule 124 = .ok (.iconst 2, 1) := by decide +kernel
theorem dX5_rule_125 : decode cX5_rule 125 = .ok (.idiv, 1) := by decide +kernel
theorem dX5_rule_126 : decode cX5_rule 126 = .ok (.iastore, 1) := by decide +kernel
theorem dX5_rule_127 : decode cX5_rule 127 = .ok (.aload_n 0, 1) := by decide +kernel
theorem dX5_rule_128 : decode cX5_rule 128 = .ok (.getfield 38, 3) := by decide +kernel
theorem dX5_rule_131 : decode cX5_rule 131 = .ok (.bipush 60, 2) := by decide +kernel
theorem dX5_rule_133 : decode cX5_rule 133 = .ok (.invokestatic 240, 3) := by decide +kernel
theorem dX5_rule_136 : decode cX5_rule 136 = .ok (.pop, 1) := by decide +kernel
theorem dX5_rule_137 : decode cX5_rule 137 = .ok (.aload_n 0, 1) := by decide +kernel
theorem dX5_rule_138 : decode cX5_rule 138 = .ok (.getfield 38, 3) := by decide +kernel
theorem dX5_rule_141 : decode cX5_rule 141 = .ok (.getfield 138, 3) := by decide +kernel
theorem dX5_rule_144 : decode cX5_rule 144 = .ok (.iload_n 3, 1) := by decide +kernel
theorem dX5_rule_145 : decode cX5_rule 145 = .ok (.iconst 0, 1) := by decide +kernel
theorem dX5_rule_146 : decode cX5_rule 146 = .ok (.invokestatic 141, 3) := by decide +kernel
theorem dX5_rule_149 : decode cX5_rule 149 = .ok (.iaload, 1) := by decide +kernel
theorem dX5_rule_150 : decode cX5_rule 150 = .ok (.ifCond .le 12, 3) := by decide +kernel
theorem dX5_rule_153 : decode cX5_rule 153 = .ok (.iload 4, 2) := by decide +kernel
theorem dX5_rule_155 : decode cX5_rule 155 = .ok (.iconst 1, 1) := by decide +kernel
theorem dX5_rule_156 : decode cX5_rule 156 = .ok (.iload 5, 2) := by decide +kernel
theorem dX5_rule_158 : decode cX5_rule 158 = .ok (.ishl, 1) := by decide +kernel
theorem dX5_rule_159 : decode cX5_rule 159 = .ok (.ior, 1) := by decide +kernel
theorem dX5_rule_160 : decode cX5_rule 160 = .ok (.istore 4, 2) := by decide +kernel
theorem dX5_rule_162 : decode cX5_rule 162 = .ok (.aload_n 0, 1) := by decide +kernel
theorem dX5_rule_163 : decode cX5_rule 163 = .ok (.getfield 38, 3) := by decide +kernel
theorem dX5_rule_166 : decode cX5_rule 166 = .ok (.invokevirtual 253, 3) := by decide +kernel
theorem dX5_rule_169 : decode cX5_rule 169 = .ok (.ifCond .eq 5, 3) := by decide +kernel
theorem dX5_rule_172 : decode cX5_rule 172 = .ok (.iconst (-1), 1) := by decide +kernel
theorem dX5_rule_173 : decode cX5_rule 173 = .ok (.ireturn, 1) := by decide +kernel
theorem dX5_rule_174 : decode cX5_rule 174 = .ok (.iinc 5 1, 3) := by decide +kernel
theorem dX5_rule_177 : decode cX5_rule 177 = .ok (.goto (-93), 3) := by decide +kernel
theorem dX5_rule_180 : decode cX5_rule 180 = .ok (.iload 4, 2) := by decide +kernel
theorem dX5_rule_182 : decode cX5_rule 182 = .ok (.ireturn, 1) := by decide +kernel
theorem dX5_ifLeak_0 : decode cX5_ifLeak 0 = .ok (.aload_n 0, 1) := by decide +kernel
theorem dX5_ifLeak_1 : decode cX5_ifLeak 1 = .ok (.getfield 19, 3) := by decide +kernel
theorem dX5_ifLeak_4 : decode cX5_ifLeak 4 = .ok (.iload_n 1, 1) := by decide +kernel
theorem dX5_ifLeak_5 : decode cX5_ifLeak 5 = .ok (.invokevirtual 151, 3) := by decide +kernel
theorem dX5_ifLeak_8 : decode cX5_ifLeak 8 = .ok (.ifCond .eq 14, 3) := by decide +kernel
theorem dX5_ifLeak_11 : decode cX5_ifLeak 11 = .ok (.aload_n 0, 1) := by decide +kernel
theorem dX5_ifLeak_12 : decode cX5_ifLeak 12 = .ok (.getfield 19, 3) := by decide +kernel
theorem dX5_ifLeak_15 : decode cX5_ifLeak 15 = .ok (.iload_n 3, 1) := by decide +kernel
theorem dX5_ifLeak_16 : decode cX5_ifLeak 16 = .ok (.invokevirtual 110, 3) := by decide +kernel
theorem dX5_ifLeak_19 : decode cX5_ifLeak 19 = .ok (.ifCond .ne 11, 3) := by decide +kernel
theorem dX5_ifLeak_22 : decode cX5_ifLeak 22 = .ok (.new 114, 3) := by decide +kernel
theorem dX5_ifLeak_25 : decode cX5_ifLeak 25 = .ok (.dup, 1) := by decide +kernel
theorem dX5_ifLeak_26 : decode cX5_ifLeak 26 = .ok (.invokespecial 116, 3) := by decide +kernel
theorem dX5_ifLeak_29 : decode cX5_ifLeak 29 = .ok (.athrow, 1) := by decide +kernel
theorem dX5_ifLeak_30 : decode cX5_ifLeak 30 = .ok (.iload_n 2, 1) := by decide +kernel
theorem dX5_ifLeak_31 : decode cX5_ifLeak 31 = .ok (.iconst 0, 1) := by decide +kernel
theorem dX5_ifLeak_32 : decode cX5_ifLeak 32 = .ok (.bipush 30, 2) := by decide +kernel
theorem dX5_ifLeak_34 : decode cX5_ifLeak 34 = .ok (.invokestatic 44, 3) := by decide +kernel
theorem dX5_ifLeak_37 : decode cX5_ifLeak 37 = .ok (.ifCond .ne 11, 3) := by decide +kernel
theorem dX5_ifLeak_40 : decode cX5_ifLeak 40 = .ok (.new 48, 3) := by decide +kernel
theorem dX5_ifLeak_43 : decode cX5_ifLeak 43 = .ok (.dup, 1) := by decide +kernel
theorem dX5_ifLeak_44 : decode cX5_ifLeak 44 = .ok (.invokespecial 50, 3) := by decide +kernel
theorem dX5_ifLeak_47 : decode cX5_ifLeak 47 = .ok (.athrow, 1) := by decide +kernel
theorem dX5_ifLeak_48 : decode cX5_ifLeak 48 = .ok (.aload_n 0, 1) := by decide +kernel
theorem dX5_ifLeak_49 : decode cX5_ifLeak 49 = .ok (.iload_n 1, 1) := by decide +kernel
theorem dX5_ifLeak_50 : decode cX5_ifLeak 50 = .ok (.iload_n 2, 1) := by decide +kernel
theorem dX5_ifLeak_51 : decode cX5_ifLeak 51 = .ok (.iload_n 3, 1) := by decide +kernel
theorem dX5_ifLeak_52 : decode cX5_ifLeak 52 = .ok (.invokevirtual 259, 3) := by decide +kernel
theorem dX5_ifLeak_55 : decode cX5_ifLeak 55 = .ok (.ireturn, 1) := by decide +kernel
theorem dX5_suspect_0 : decode cX5_suspect 0 = .ok (.aload_n 0, 1) := by decide +kernel
theorem dX5_suspect_1 : decode cX5_suspect 1 = .ok (.getfield 19, 3) := by decide +kernel
theorem dX5_suspect_4 : decode cX5_suspect 4 = .ok (.iload_n 1, 1) := by decide +kernel
theorem dX5_suspect_5 : decode cX5_suspect 5 = .ok (.invokevirtual 110, 3) := by decide +kernel
theorem dX5_suspect_8 : decode cX5_suspect 8 = .ok (.ifCond .ne 11, 3) := by decide +kernel
theorem dX5_suspect_11 : decode cX5_suspect 11 = .ok (.new 114, 3) := by decide +kernel
theorem dX5_suspect_14 : decode cX5_suspect 14 = .ok (.dup, 1) := by decide +kernel
theorem dX5_suspect_15 : decode cX5_suspect 15 = .ok (.invokespecial 116, 3) := by decide +kernel
theorem dX5_suspect_18 : decode cX5_suspect 18 = .ok (.athrow, 1) := by decide +kernel
theorem dX5_suspect_19 : decode cX5_suspect 19 = .ok (.iload_n 2, 1) := by decide +kernel
theorem dX5_suspect_20 : decode cX5_suspect 20 = .ok (.iconst (-1), 1) := by decide +kernel
theorem dX5_suspect_21 : decode cX5_suspect 21 = .ok (.if_icmp .eq 22, 3) := by decide +kernel
theorem dX5_suspect_24 : decode cX5_suspect 24 = .ok (.iload_n 2, 1) := by decide +kernel
theorem dX5_suspect_25 : decode cX5_suspect 25 = .ok (.iconst 1, 1) := by decide +kernel
theorem dX5_suspect_26 : decode cX5_suspect 26 = .ok (.sipush 200, 3) := by decide +kernel
theorem dX5_suspect_29 : decode cX5_suspect 29 = .ok (.invokestatic 44, 3) := by decide +kernel
theorem dX5_suspect_32 : decode cX5_suspect 32 = .ok (.ifCond .ne 11, 3) := by decide +kernel
theorem dX5_suspect_35 : decode cX5_suspect 35 = .ok (.new 48, 3) := by decide +kernel
theorem dX5_suspect_38 : decode cX5_suspect 38 = .ok (.dup, 1) := by decide +kernel
theorem dX5_suspect_39 : decode cX5_suspect 39 = .ok (.invokespecial 50, 3) := by decide +kernel
theorem dX5_suspect_42 : decode cX5_suspect 42 = .ok (.athrow, 1) := by decide +kernel
theorem dX5_suspect_43 : decode cX5_suspect 43 = .ok (.iconst 0, 1) := by decide +kernel
theorem dX5_suspect_44 : decode cX5_suspect 44 = .ok (.istore_n 3, 1) := by decide +kernel
theorem dX5_suspect_45 : decode cX5_suspect 45 = .ok (.iload_n 3, 1) := by decide +kernel
theorem dX5_suspect_46 : decode cX5_suspect 46 = .ok (.aload_n 0, 1) := by decide +kernel
theorem dX5_suspect_47 : decode cX5_suspect 47 = .ok (.getfield 19, 3) := by decide +kernel
theorem dX5_suspect_50 : decode cX5_suspect 50 = .ok (.getfield 92, 3) := by decide +kernel
theorem dX5_suspect_53 : decode cX5_suspect 53 = .ok (.if_icmp .ge 51, 3) := by decide +kernel
theorem dX5_suspect_56 : decode cX5_suspect 56 = .ok (.iconst 1, 1) := by decide +kernel
theorem dX5_suspect_57 : decode cX5_suspect 57 = .ok (.istore 4, 2) := by decide +kernel
theorem dX5_suspect_59 : decode cX5_suspect 59 = .ok (.iload 4, 2) := by decide +kernel
theorem dX5_suspect_61 : decode cX5_suspect 61 = .ok (.bipush 30, 2) := by decide +kernel
theorem dX5_suspect_63 : decode cX5_suspect 63 = .ok (.if_icmp .gt 35, 3) := by decide +kernel
theorem dX5_suspect_66 : decode cX5_suspect 66 = .ok (.aload_n 0, 1) := by decide +kernel
theorem dX5_suspect_67 : decode cX5_suspect 67 = .ok (.getfield 19, 3) := by decide +kernel
theorem dX5_suspect_70 : decode cX5_suspect 70 = .ok (.getfield 163, 3) := by decide +kernel
theorem dX5_suspect_73 : decode cX5_suspect 73 = .ok (.iload_n 3, 1) := by decide +kernel
theorem dX5_suspect_74 : decode cX5_suspect 74 = .ok (.iaload, 1) := by decide +kernel
theorem dX5_suspect_75 : decode cX5_suspect 75 = .ok (.ifCond .ne 23, 3) := by decide +kernel
theorem dX5_suspect_78 : decode cX5_suspect 78 = .ok (.aload_n 0, 1) := by decide +kernel
theorem dX5_suspect_79 : decode cX5_suspect 79 = .ok (.iload_n 3, 1) := by decide +kernel
theorem dX5_suspect_80 : decode cX5_suspect 80 = .ok (.iload 4, 2) := by decide +kernel
theorem dX5_suspect_82 : decode cX5_suspect 82 = .ok (.iload_n 1, 1) := by decide +kernel
theorem dX5_suspect_83 : decode cX5_suspect 83 = .ok (.invokevirtual 259, 3) := by decide +kernel
theorem dX5_suspect_86 : decode cX5_suspect 86 = .ok (.iload_n 2, 1) := by decide +kernel
theorem dX5_suspect_87 : decode cX5_suspect 87 = .ok (.if_icmp .ne 5, 3) := by decide +kernel
theorem dX5_suspect_90 : decode cX5_suspect 90 = .ok (.iload_n 3, 1) := by decide +kernel
theorem dX5_suspect_91 : decode cX5_suspect 91 = .ok (.ireturn, 1) := by decide +kernel
theorem dX5_suspect_92 : decode cX5_suspect 92 = .ok (.iinc 4 1, 3) := by decide +kernel
theorem dX5_suspect_95 : decode cX5_suspect 95 = .ok (.goto (-36), 3) := by decide +kernel
theorem dX5_suspect_98 : decode cX5_suspect 98 = .ok (.iinc 3 1, 3) := by decide +kernel
theorem dX5_suspect_101 : decode cX5_suspect 101 = .ok (.goto (-56), 3) := by decide +kernel
theorem dX5_suspect_104 : decode cX5_suspect 104 = .ok (.iconst (-1), 1) := by decide +kernel
theorem dX5_suspect_105 : decode cX5_suspect 105 = .ok (.ireturn, 1) := by decide +kernel
theorem dX5_tightest_0 : decode cX5_tightest 0 = .ok (.iconst (-1), 1) := by decide +kernel
theorem dX5_tightest_1 : decode cX5_tightest 1 = .ok (.istore_n 1, 1) := by decide +kernel
theorem dX5_tightest_2 : decode cX5_tightest 2 = .ok (.iconst 0, 1) := by decide +kernel
theorem dX5_tightest_3 : decode cX5_tightest 3 = .ok (.istore_n 2, 1) := by decide +kernel
theorem dX5_tightest_4 : decode cX5_tightest 4 = .ok (.iconst 0, 1) := by decide +kernel
theorem dX5_tightest_5 : decode cX5_tightest 5 = .ok (.istore_n 3, 1) := by decide +kernel
theorem dX5_tightest_6 : decode cX5_tightest 6 = .ok (.iload_n 3, 1) := by decide +kernel
theorem dX5_tightest_7 : decode cX5_tightest 7 = .ok (.aload_n 0, 1) := by decide +kernel
theorem dX5_tightest_8 : decode cX5_tightest 8 = .ok (.getfield 19, 3) := by decide +kernel
theorem dX5_tightest_11 : decode cX5_tightest 11 = .ok (.getfield 92, 3) := by decide +kernel
theorem dX5_tightest_14 : decode cX5_tightest 14 = .ok (.if_icmp .ge 55, 3) := by decide +kernel
theorem dX5_tightest_17 : decode cX5_tightest 17 = .ok (.aload_n 0, 1) := by decide +kernel
theorem dX5_tightest_18 : decode cX5_tightest 18 = .ok (.getfield 19, 3) := by decide +kernel
theorem dX5_tightest_21 : decode cX5_tightest 21 = .ok (.getfield 138, 3) := by decide +kernel
theorem dX5_tightest_24 : decode cX5_tightest 24 = .ok (.aload_n 0, 1) := by decide +kernel
theorem dX5_tightest_25 : decode cX5_tightest 25 = .ok (.getfield 19, 3) := by decide +kernel
theorem dX5_tightest_28 : decode cX5_tightest 28 = .ok (.getfield 154, 3) := by decide +kernel
theorem dX5_tightest_31 : decode cX5_tightest 31 = .ok (.iload_n 3, 1) := by decide +kernel
theorem dX5_tightest_32 : decode cX5_tightest 32 = .ok (.iaload, 1) := by decide +kernel
theorem dX5_tightest_33 : decode cX5_tightest 33 = .ok (.iaload, 1) := by decide +kernel
theorem dX5_tightest_34 : decode cX5_tightest 34 = .ok (.ifCond .le 29, 3) := by decide +kernel
theorem dX5_tightest_37 : decode cX5_tightest 37 = .ok (.aload_n 0, 1) := by decide +kernel
theorem dX5_tightest_38 : decode cX5_tightest 38 = .ok (.getfield 19, 3) := by decide +kernel
theorem dX5_tightest_41 : decode cX5_tightest 41 = .ok (.iload_n 3, 1) := by decide +kernel
theorem dX5_tightest_42 : decode cX5_tightest 42 = .ok (.invokevirtual 263, 3) := by decide +kernel
theorem dX5_tightest_45 : decode cX5_tightest 45 = .ok (.istore 4, 2) := by decide +kernel
theorem dX5_tightest_47 : decode cX5_tightest 47 = .ok (.iload_n 1, 1) := by decide +kernel
theorem dX5_tightest_48 : decode cX5_tightest 48 = .ok (.iconst (-1), 1) := by decide +kernel
theorem dX5_tightest_49 : decode cX5_tightest 49 = .ok (.if_icmp .eq 9, 3) := by decide +kernel
theorem dX5_tightest_52 : decode cX5_tightest 52 = .ok (.iload 4, 2) := by decide +kernel
theorem dX5_tightest_54 : decode cX5_tightest 54 = .ok (.iload_n 2, 1) := by decide +kernel
theorem dX5_tightest_55 : decode cX5_tightest 55 = .ok (.if_icmp .ge 8, 3) := by decide +kernel
theorem dX5_tightest_58 : decode cX5_tightest 58 = .ok (.iload_n 3, 1) := by decide +kernel
theorem dX5_tightest_59 : decode cX5_tightest 59 = .ok (.istore_n 1, 1) := by decide +kernel
theorem dX5_tightest_60 : decode cX5_tightest 60 = .ok (.iload 4, 2) := by decide +kernel
theorem dX5_tightest_62 : decode cX5_tightest 62 = .ok (.istore_n 2, 1) := by decide +kernel
theorem dX5_tightest_63 : decode cX5_tightest 63 = .ok (.iinc 3 1, 3) := by decide +kernel
theorem dX5_tightest_66 : decode cX5_tightest 66 = .ok (.goto (-60), 3) := by decide +kernel
theorem dX5_tightest_69 : decode cX5_tightest 69 = .ok (.iload_n 1, 1) := by decide +kernel
theorem dX5_tightest_70 : decode cX5_tightest 70 = .ok (.ireturn, 1) := by decide +kernel
theorem dX5_runScript_0 : decode cX5_runScript 0 = .ok (.iload_n 1, 1) := by decide +kernel
theorem dX5_runScript_1 : decode cX5_runScript 1 = .ok (.iconst 1, 1) := by decide +kernel
theorem dX5_runScript_2 : decode cX5_runScript 2 = .ok (.iconst 3, 1) := by decide +kernel
theorem dX5_runScript_3 : decode cX5_runScript 3 = .ok (.invokestatic 44, 3) := by decide +kernel
theorem dX5_runScript_6 : decode cX5_runScript 6 = .ok (.ifCond .eq 19, 3) := by decide +kernel
theorem dX5_runScript_9 : decode cX5_runScript 9 = .ok (.lload_n 2, 1) := by decide +kernel
theorem dX5_runScript_10 : decode cX5_runScript 10 = .ok (.lconst 0, 1) := by decide +kernel
theorem dX5_runScript_11 : decode cX5_runScript 11 = .ok (.lcmp, 1) := by decide +kernel
theorem dX5_runScript_12 : decode cX5_runScript 12 = .ok (.ifCond .lt 13, 3) := by decide +kernel
theorem dX5_runScript_15 : decode cX5_runScript 15 = .ok (.lload_n 2, 1) := by decide +kernel
theorem dX5_runScript_16 : decode cX5_runScript 16 = .ok (.iload_n 1, 1) := by decide +kernel
theorem dX5_runScript_17 : decode cX5_runScript 17 = .ok (.invokestatic 266, 3) := by decide +kernel
theorem dX5_runScript_20 : decode cX5_runScript 20 = .ok (.lconst 0, 1) := by decide +kernel
theorem dX5_runScript_21 : decode cX5_runScript 21 = .ok (.lcmp, 1) := by decide +kernel
theorem dX5_runScript_22 : decode cX5_runScript 22 = .ok (.ifCond .eq 11, 3) := by decide +kernel
theorem dX5_runScript_25 : decode cX5_runScript 25 = .ok (.new 48, 3) := by decide +kernel
theorem dX5_runScript_28 : decode cX5_runScript 28 = .ok (.dup, 1) := by decide +kernel
theorem dX5_runScript_29 : decode cX5_runScript 29 = .ok (.invokespecial 50, 3) := by decide +kernel
theorem dX5_runScript_32 : decode cX5_runScript 32 = .ok (.athrow, 1) := by decide +kernel
theorem dX5_runScript_33 : decode cX5_runScript 33 = .ok (.aload_n 0, 1) := by decide +kernel
theorem dX5_runScript_34 : decode cX5_runScript 34 = .ok (.getfield 38, 3) := by decide +kernel
theorem dX5_runScript_37 : decode cX5_runScript 37 = .ok (.aload_n 0, 1) := by decide +kernel
theorem dX5_runScript_38 : decode cX5_runScript 38 = .ok (.getfield 19, 3) := by decide +kernel
theorem dX5_runScript_41 : decode cX5_runScript 41 = .ok (.invokevirtual 237, 3) := by decide +kernel
theorem dX5_runScript_44 : decode cX5_runScript 44 = .ok (.iconst 0, 1) := by decide +kernel
theorem dX5_runScript_45 : decode cX5_runScript 45 = .ok (.istore 4, 2) := by decide +kernel
theorem dX5_runScript_47 : decode cX5_runScript 47 = .ok (.iload 4, 2) := by decide +kernel
theorem dX5_runScript_49 : decode cX5_runScript 49 = .ok (.iload_n 1, 1) := by decide +kernel
theorem dX5_runScript_50 : decode cX5_runScript 50 = .ok (.if_icmp .ge 45, 3) := by decide +kernel
theorem dX5_runScript_53 : decode cX5_runScript 53 = .ok (.lload_n 2, 1) := by decide +kernel
theorem dX5_runScript_54 : decode cX5_runScript 54 = .ok (.iload_n 1, 1) := by decide +kernel
theorem dX5_runScript_55 : decode cX5_runScript 55 = .ok (.iconst 1, 1) := by decide +kernel
theorem dX5_runScript_56 : decode cX5_runScript 56 = .ok (.isub, 1) := by decide +kernel
theorem dX5_runScript_57 : decode cX5_runScript 57 = .ok (.iload 4, 2) := by decide +kernel
theorem dX5_runScript_59 : decode cX5_runScript 59 = .ok (.isub, 1) := by decide +kernel
theorem dX5_runScript_60 : decode cX5_runScript 60 = .ok (.invokestatic 266, 3) := by decide +kernel
theorem dX5_runScript_63 : decode cX5_runScript 63 = .ok (.ldc2_w 270, 3) := by decide +kernel
theorem dX5_runScript_66 : decode cX5_runScript 66 = .ok (.lrem, 1) := by decide +kernel
theorem dX5_runScript_67 : decode cX5_runScript 67 = .ok (.l2i, 1) := by decide +kernel
theorem dX5_runScript_68 : decode cX5_runScript 68 = .ok (.istore 5, 2) := by decide +kernel
theorem dX5_runScript_70 : decode cX5_runScript 70 = .ok (.aload_n 0, 1) := by decide +kernel
theorem dX5_runScript_71 : decode cX5_runScript 71 = .ok (.getfield 38, 3) := by decide +kernel
theorem dX5_runScript_74 : decode cX5_runScript 74 = .ok (.aload_n 0, 1) := by decide +kernel
theorem dX5_runScript_75 : decode cX5_runScript 75 = .ok (.getfield 41, 3) := by decide +kernel
theorem dX5_runScript_78 : decode cX5_runScript 78 = .ok (.iload 5, 2) := by decide +kernel
theorem dX5_runScript_80 : decode cX5_runScript 80 = .ok (.invokestatic 272, 3) := by decide +kernel
theorem dX5_runScript_83 : decode cX5_runScript 83 = .ok (.ifCond .ne 6, 3) := by decide +kernel
theorem dX5_runScript_86 : decode cX5_runScript 86 = .ok (.iload 4, 2) := by decide +kernel
theorem dX5_runScript_88 : decode cX5_runScript 88 = .ok (.ireturn, 1) := by decide +kernel
theorem dX5_runScript_89 : decode cX5_runScript 89 = .ok (.iinc 4 1, 3) := by decide +kernel
theorem dX5_runScript_92 : decode cX5_runScript 92 = .ok (.goto (-45), 3) := by decide +kernel
theorem dX5_runScript_95 : decode cX5_runScript 95 = .ok (.iconst (-1), 1) := by decide +kernel
theorem dX5_runScript_96 : decode cX5_runScript 96 = .ok (.ireturn, 1) := by decide +kernel
theorem dX5_simulate_0 : decode cX5_simulate 0 = .ok (.iload_n 3, 1) := by decide +kernel
theorem dX5_simulate_1 : decode cX5_simulate 1 = .ok (.iconst 1, 1) := by decide +kernel
theorem dX5_simulate_2 : decode cX5_simulate 2 = .ok (.bipush 60, 2) := by decide +kernel
theorem dX5_simulate_4 : decode cX5_simulate 4 = .ok (.invokestatic 44, 3) := by decide +kernel
theorem dX5_simulate_7 : decode cX5_simulate 7 = .ok (.ifCond .ne 11, 3) := by decide +kernel
theorem dX5_simulate_10 : decode cX5_simulate 10 = .ok (.new 48, 3) := by decide +kernel
theorem dX5_simulate_13 : decode cX5_simulate 13 = .ok (.dup, 1) := by decide +kernel
theorem dX5_simulate_14 : decode cX5_simulate 14 = .ok (.invokespecial 50, 3) := by decide +kernel
theorem dX5_simulate_17 : decode cX5_simulate 17 = .ok (.athrow, 1) := by decide +kernel
theorem dX5_simulate_18 : decode cX5_simulate 18 = .ok (.aload_n 0, 1) := by decide +kernel
theorem dX5_simulate_19 : decode cX5_simulate 19 = .ok (.getfield 38, 3) := by decide +kernel
theorem dX5_simulate_22 : decode cX5_simulate 22 = .ok (.aload_n 0, 1) := by decide +kernel
theorem dX5_simulate_23 : decode cX5_simulate 23 = .ok (.getfield 19, 3) := by decide +kernel
theorem dX5_simulate_26 : decode cX5_simulate 26 = .ok (.invokevirtual 237, 3) := by decide +kernel
theorem dX5_simulate_29 : decode cX5_simulate 29 = .ok (.lload_n 1, 1) := by decide +kernel
theorem dX5_simulate_30 : decode cX5_simulate 30 = .ok (.lstore 4, 2) := by decide +kernel
theorem dX5_simulate_32 : decode cX5_simulate 32 = .ok (.iconst 0, 1) := by decide +kernel
theorem dX5_simulate_33 : decode cX5_simulate 33 = .ok (.istore 6, 2) := by decide +kernel
theorem dX5_simulate_35 : decode cX5_simulate 35 = .ok (.iload 6, 2) := by decide +kernel
theorem dX5_simulate_37 : decode cX5_simulate 37 = .ok (.iload_n 3, 1) := by decide +kernel
theorem dX5_simulate_38 : decode cX5_simulate 38 = .ok (.if_icmp .ge 34, 3) := by decide +kernel
theorem dX5_simulate_41 : decode cX5_simulate 41 = .ok (.lload 4, 2) := by decide +kernel
theorem dX5_simulate_43 : decode cX5_simulate 43 = .ok (.ldc2_w 278, 3) := by decide +kernel
theorem dX5_simulate_46 : decode cX5_simulate 46 = .ok (.lmul, 1) := by decide +kernel
theorem dX5_simulate_47 : decode cX5_simulate 47 = .ok (.ldc2_w 280, 3) := by decide +kernel
theorem dX5_simulate_50 : decode cX5_simulate 50 = .ok (.ladd, 1) := by decide +kernel
theorem dX5_simulate_51 : decode cX5_simulate 51 = .ok (.lstore 4, 2) := by decide +kernel
theorem dX5_simulate_53 : decode cX5_simulate 53 = .ok (.aload_n 0, 1) := by decide +kernel
theorem dX5_simulate_54 : decode cX5_simulate 54 = .ok (.getfield 38, 3) := by decide +kernel
theorem dX5_simulate_57 : decode cX5_simulate 57 = .ok (.lload 4, 2) := by decide +kernel
theorem dX5_simulate_59 : decode cX5_simulate 59 = .ok (.bipush 33, 2) := by decide +kernel
theorem dX5_simulate_61 : decode cX5_simulate 61 = .ok (.lushr, 1) := by decide +kernel
theorem dX5_simulate_62 : decode cX5_simulate 62 = .ok (.l2i, 1) := by decide +kernel
theorem dX5_simulate_63 : decode cX5_simulate 63 = .ok (.invokestatic 282, 3) := by decide +kernel
theorem dX5_simulate_66 : decode cX5_simulate 66 = .ok (.iinc 6 1, 3) := by decide +kernel
theorem dX5_simulate_69 : decode cX5_simulate 69 = .ok (.goto (-34), 3) := by decide +kernel
theorem dX5_simulate_72 : decode cX5_simulate 72 = .ok (.sipush 1000, 3) := by decide +kernel
theorem dX5_simulate_75 : decode cX5_simulate 75 = .ok (.aload_n 0, 1) := by decide +kernel
theorem dX5_simulate_76 : decode cX5_simulate 76 = .ok (.getfield 38, 3) := by decide +kernel
theorem dX5_simulate_79 : decode cX5_simulate 79 = .ok (.invokevirtual 98, 3) := by decide +kernel
theorem dX5_simulate_82 : decode cX5_simulate 82 = .ok (.imul, 1) := by decide +kernel
theorem dX5_simulate_83 : decode cX5_simulate 83 = .ok (.aload_n 0, 1) := by decide +kernel
theorem dX5_simulate_84 : decode cX5_simulate 84 = .ok (.getfield 38, 3) := by decide +kernel
theorem dX5_simulate_87 : decode cX5_simulate 87 = .ok (.invokevirtual 101, 3) := by decide +kernel
theorem dX5_simulate_90 : decode cX5_simulate 90 = .ok (.sipush 1000, 3) := by decide +kernel
theorem dX5_simulate_93 : decode cX5_simulate 93 = .ok (.irem, 1) := by decide +kernel
theorem dX5_simulate_94 : decode cX5_simulate 94 = .ok (.iadd, 1) := by decide +kernel
theorem dX5_simulate_95 : decode cX5_simulate 95 = .ok (.ireturn, 1) := by decide +kernel
theorem dX5_save_0 : decode cX5_save 0 = .ok (.iload_n 1, 1) := by decide +kernel
theorem dX5_save_1 : decode cX5_save 1 = .ok (.iconst 0, 1) := by decide +kernel
theorem dX5_save_2 : decode cX5_save 2 = .ok (.iconst 1, 1) := by decide +kernel
theorem dX5_save_3 : decode cX5_save 3 = .ok (.invokestatic 44, 3) := by decide +kernel
theorem dX5_save_6 : decode cX5_save 6 = .ok (.ifCond .ne 11, 3) := by decide +kernel
theorem dX5_save_9 : decode cX5_save 9 = .ok (.new 114, 3) := by decide +kernel
theorem dX5_save_12 : decode cX5_save 12 = .ok (.dup, 1) := by decide +kernel
theorem dX5_save_13 : decode cX5_save 13 = .ok (.invokespecial 116, 3) := by decide +kernel
theorem dX5_save_16 : decode cX5_save 16 = .ok (.athrow, 1) := by decide +kernel
theorem dX5_save_17 : decode cX5_save 17 = .ok (.aload_n 0, 1) := by decide +kernel
theorem dX5_save_18 : decode cX5_save 18 = .ok (.getfield 30, 3) := by decide +kernel
theorem dX5_save_21 : decode cX5_save 21 = .ok (.iload_n 1, 1) := by decide +kernel
theorem dX5_save_22 : decode cX5_save 22 = .ok (.aaload, 1) := by decide +kernel
theorem dX5_save_23 : decode cX5_save 23 = .ok (.aload_n 0, 1) := by decide +kernel
theorem dX5_save_24 : decode cX5_save 24 = .ok (.getfield 19, 3) := by decide +kernel
theorem dX5_save_27 : decode cX5_save 27 = .ok (.invokevirtual 237, 3) := by decide +kernel
theorem dX5_save_30 : decode cX5_save 30 = .ok (.aload_n 0, 1) := by decide +kernel
theorem dX5_save_31 : decode cX5_save 31 = .ok (.getfield 34, 3) := by decide +kernel
theorem dX5_save_34 : decode cX5_save 34 = .ok (.iload_n 1, 1) := by decide +kernel
theorem dX5_save_35 : decode cX5_save 35 = .ok (.iconst 1, 1) := by decide +kernel
theorem dX5_save_36 : decode cX5_save 36 = .ok (.bastore, 1) := by decide +kernel
theorem dX5_save_37 : decode cX5_save 37 = .ok (.aload_n 0, 1) := by decide +kernel
theorem dX5_save_38 : decode cX5_save 38 = .ok (.getfield 19, 3) := by decide +kernel
theorem dX5_save_41 : decode cX5_save 41 = .ok (.getfield 95, 3) := by decide +kernel
theorem dX5_save_44 : decode cX5_save 44 = .ok (.ireturn, 1) := by decide +kernel
theorem dX5_restore_0 : decode cX5_restore 0 = .ok (.iload_n 1, 1) := by decide +kernel
theorem dX5_restore_1 : decode cX5_restore 1 = .ok (.iconst 0, 1) := by decide +kernel
theorem dX5_restore_2 : decode cX5_restore 2 = .ok (.iconst 1, 1) := by decide +kernel
theorem dX5_restore_3 : decode cX5_restore 3 = .ok (.invokestatic 44, 3) := by decide +kernel
theorem dX5_restore_6 : decode cX5_restore 6 = .ok (.ifCond .ne 11, 3) := by decide +kernel
theorem dX5_restore_9 : decode cX5_restore 9 = .ok (.new 114, 3) := by decide +kernel
theorem dX5_restore_12 : decode cX5_restore 12 = .ok (.dup, 1) := by decide +kernel
theorem dX5_restore_13 : decode cX5_restore 13 = .ok (.invokespecial 116, 3) := by decide +kernel
theorem dX5_restore_16 : decode cX5_restore 16 = .ok (.athrow, 1) := by decide +kernel
theorem dX5_restore_17 : decode cX5_restore 17 = .ok (.aload_n 0, 1) := by decide +kernel
theorem dX5_restore_18 : decode cX5_restore 18 = .ok (.getfield 34, 3) := by decide +kernel
theorem dX5_restore_21 : decode cX5_restore 21 = .ok (.iload_n 1, 1) := by decide +kernel
theorem dX5_restore_22 : decode cX5_restore 22 = .ok (.baload, 1) := by decide +kernel
theorem dX5_restore_23 : decode cX5_restore 23 = .ok (.ifCond .ne 11, 3) := by decide +kernel
theorem dX5_restore_26 : decode cX5_restore 26 = .ok (.new 55, 3) := by decide +kernel
theorem dX5_restore_29 : decode cX5_restore 29 = .ok (.dup, 1) := by decide +kernel
theorem dX5_restore_30 : decode cX5_restore 30 = .ok (.invokespecial 57, 3) := by decide +kernel
theorem dX5_restore_33 : decode cX5_restore 33 = .ok (.athrow, 1) := by decide +kernel
theorem dX5_restore_34 : decode cX5_restore 34 = .ok (.aload_n 0, 1) := by decide +kernel
theorem dX5_restore_35 : decode cX5_restore 35 = .ok (.getfield 19, 3) := by decide +kernel
theorem dX5_restore_38 : decode cX5_restore 38 = .ok (.aload_n 0, 1) := by decide +kernel
theorem dX5_restore_39 : decode cX5_restore 39 = .ok (.getfield 30, 3) := by decide +kernel
theorem dX5_restore_42 : decode cX5_restore 42 = .ok (.iload_n 1, 1) := by decide +kernel
theorem dX5_restore_43 : decode cX5_restore 43 = .ok (.aaload, 1) := by decide +kernel
theorem dX5_restore_44 : decode cX5_restore 44 = .ok (.invokevirtual 237, 3) := by decide +kernel
theorem dX5_restore_47 : decode cX5_restore 47 = .ok (.aload_n 0, 1) := by decide +kernel
theorem dX5_restore_48 : decode cX5_restore 48 = .ok (.getfield 26, 3) := by decide +kernel
theorem dX5_restore_51 : decode cX5_restore 51 = .ok (.invokevirtual 69, 3) := by decide +kernel
theorem dX5_restore_54 : decode cX5_restore 54 = .ok (.aload_n 0, 1) := by decide +kernel
theorem dX5_restore_55 : decode cX5_restore 55 = .ok (.getfield 19, 3) := by decide +kernel
theorem dX5_restore_58 : decode cX5_restore 58 = .ok (.getfield 95, 3) := by decide +kernel
theorem dX5_restore_61 : decode cX5_restore 61 = .ok (.ireturn, 1) := by decide +kernel
theorem dX5_isIn_0 : decode cX5_isIn 0 = .ok (.iload_n 0, 1) := by decide +kernel
theorem dX5_isIn_1 : decode cX5_isIn 1 = .ok (.iload_n 1, 1) := by decide +kernel
theorem dX5_isIn_2 : decode cX5_isIn 2 = .ok (.if_icmp .lt 12, 3) := by decide +kernel
theorem dX5_isIn_5 : decode cX5_isIn 5 = .ok (.iload_n 0, 1) := by decide +kernel
theorem dX5_isIn_6 : decode cX5_isIn 6 = .ok (.iload_n 2, 1) := by decide +kernel
theorem dX5_isIn_7 : decode cX5_isIn 7 = .ok (.if_icmp .gt 7, 3) := by decide +kernel
theorem dX5_isIn_10 : decode cX5_isIn 10 = .ok (.iconst 1, 1) := by decide +kernel
theorem dX5_isIn_11 : decode cX5_isIn 11 = .ok (.goto 4, 3) := by decide +kernel
theorem dX5_isIn_14 : decode cX5_isIn 14 = .ok (.iconst 0, 1) := by decide +kernel
theorem dX5_isIn_15 : decode cX5_isIn 15 = .ok (.ireturn, 1) := by decide +kernel
theorem dX5_endOf_0 : decode cX5_endOf 0 = .ok (.iconst 2, 1) := by decide +kernel
theorem dX5_endOf_1 : decode cX5_endOf 1 = .ok (.iload_n 0, 1) := by decide +kernel
theorem dX5_endOf_2 : decode cX5_endOf 2 = .ok (.imul, 1) := by decide +kernel
theorem dX5_endOf_3 : decode cX5_endOf 3 = .ok (.iload_n 1, 1) := by decide +kernel
theorem dX5_endOf_4 : decode cX5_endOf 4 = .ok (.iadd, 1) := by decide +kernel
theorem dX5_endOf_5 : decode cX5_endOf 5 = .ok (.ireturn, 1) := by decide +kernel
theorem dX5_refuse_0 : decode cX5_refuse 0 = .ok (.iload_n 0, 1) := by decide +kernel
theorem dX5_refuse_1 : decode cX5_refuse 1 = .ok (.iconst 1, 1) := by decide +kernel
theorem dX5_refuse_2 : decode cX5_refuse 2 = .ok (.if_icmp .ne 11, 3) := by decide +kernel
theorem dX5_refuse_5 : decode cX5_refuse 5 = .ok (.new 114, 3) := by decide +kernel
theorem dX5_refuse_8 : decode cX5_refuse 8 = .ok (.dup, 1) := by decide +kernel
theorem dX5_refuse_9 : decode cX5_refuse 9 = .ok (.invokespecial 116, 3) := by decide +kernel
theorem dX5_refuse_12 : decode cX5_refuse 12 = .ok (.athrow, 1) := by decide +kernel
theorem dX5_refuse_13 : decode cX5_refuse 13 = .ok (.iload_n 0, 1) := by decide +kernel
theorem dX5_refuse_14 : decode cX5_refuse 14 = .ok (.iconst 2, 1) := by decide +kernel
theorem dX5_refuse_15 : decode cX5_refuse 15 = .ok (.if_icmp .ne 11, 3) := by decide +kernel
theorem dX5_refuse_18 : decode cX5_refuse 18 = .ok (.new 48, 3) := by decide +kernel
theorem dX5_refuse_21 : decode cX5_refuse 21 = .ok (.dup, 1) := by decide +kernel
theorem dX5_refuse_22 : decode cX5_refuse 22 = .ok (.invokespecial 50, 3) := by decide +kernel
theorem dX5_refuse_25 : decode cX5_refuse 25 = .ok (.athrow, 1) := by decide +kernel
theorem dX5_refuse_26 : decode cX5_refuse 26 = .ok (.iload_n 0, 1) := by decide +kernel
theorem dX5_refuse_27 : decode cX5_refuse 27 = .ok (.iconst 3, 1) := by decide +kernel
theorem dX5_refuse_28 : decode cX5_refuse 28 = .ok (.if_icmp .ne 11, 3) := by decide +kernel
theorem dX5_refuse_31 : decode cX5_refuse 31 = .ok (.new 55, 3) := by decide +kernel
theorem dX5_refuse_34 : decode cX5_refuse 34 = .ok (.dup, 1) := by decide +kernel
theorem dX5_refuse_35 : decode cX5_refuse 35 = .ok (.invokespecial 57, 3) := by decide +kernel
theorem dX5_refuse_38 : decode cX5_refuse 38 = .ok (.athrow, 1) := by decide +kernel
theorem dX5_refuse_39 : decode cX5_refuse 39 = .ok (.return_, 1) := by decide +kernel
theorem dX5_emptySlots_0 : decode cX5_emptySlots 0 = .ok (.iconst 0, 1) := by decide +kernel
theorem dX5_emptySlots_1 : decode cX5_emptySlots 1 = .ok (.istore_n 1, 1) := by decide +kernel
theorem dX5_emptySlots_2 : decode cX5_emptySlots 2 = .ok (.iload_n 1, 1) := by decide +kernel
theorem dX5_emptySlots_3 : decode cX5_emptySlots 3 = .ok (.iconst 2, 1) := by decide +kernel
theorem dX5_emptySlots_4 : decode cX5_emptySlots 4 = .ok (.if_icmp .ge 16, 3) := by decide +kernel
theorem dX5_emptySlots_7 : decode cX5_emptySlots 7 = .ok (.aload_n 0, 1) := by decide +kernel
theorem dX5_emptySlots_8 : decode cX5_emptySlots 8 = .ok (.getfield 34, 3) := by decide +kernel
theorem dX5_emptySlots_11 : decode cX5_emptySlots 11 = .ok (.iload_n 1, 1) := by decide +kernel
theorem dX5_emptySlots_12 : decode cX5_emptySlots 12 = .ok (.iconst 0, 1) := by decide +kernel
theorem dX5_emptySlots_13 : decode cX5_emptySlots 13 = .ok (.bastore, 1) := by decide +kernel
theorem dX5_emptySlots_14 : decode cX5_emptySlots 14 = .ok (.iinc 1 1, 3) := by decide +kernel
theorem dX5_emptySlots_17 : decode cX5_emptySlots 17 = .ok (.goto (-15), 3) := by decide +kernel
theorem dX5_emptySlots_20 : decode cX5_emptySlots 20 = .ok (.return_, 1) := by decide +kernel
theorem dX5_withoutGroups_0 : decode cX5_withoutGroups 0 = .ok (.lload_n 0, 1) := by decide +kernel
theorem dX5_withoutGroups_1 : decode cX5_withoutGroups 1 = .ok (.lstore_n 3, 1) := by decide +kernel
theorem dX5_withoutGroups_2 : decode cX5_withoutGroups 2 = .ok (.iconst 0, 1) := by decide +kernel
theorem dX5_withoutGroups_3 : decode cX5_withoutGroups 3 = .ok (.istore 5, 2) := by decide +kernel
theorem dX5_withoutGroups_5 : decode cX5_withoutGroups 5 = .ok (.iload 5, 2) := by decide +kernel
theorem dX5_withoutGroups_7 : decode cX5_withoutGroups 7 = .ok (.iload_n 2, 1) := by decide +kernel
theorem dX5_withoutGroups_8 : decode cX5_withoutGroups 8 = .ok (.if_icmp .ge 15, 3) := by decide +kernel
theorem dX5_withoutGroups_11 : decode cX5_withoutGroups 11 = .ok (.lload_n 3, 1) := by decide +kernel
theorem dX5_withoutGroups_12 : decode cX5_withoutGroups 12 = .ok (.ldc2_w 270, 3) := by decide +kernel
theorem dX5_withoutGroups_15 : decode cX5_withoutGroups 15 = .ok (.ldiv, 1) := by decide +kernel
theorem dX5_withoutGroups_16 : decode cX5_withoutGroups 16 = .ok (.lstore_n 3, 1) := by decide +kernel
theorem dX5_withoutGroups_17 : decode cX5_withoutGroups 17 = .ok (.iinc 5 1, 3) := by decide +kernel
theorem dX5_withoutGroups_20 : decode cX5_withoutGroups 20 = .ok (.goto (-15), 3) := by decide +kernel
theorem dX5_withoutGroups_23 : decode cX5_withoutGroups 23 = .ok (.lload_n 3, 1) := by decide +kernel
theorem dX5_withoutGroups_24 : decode cX5_withoutGroups 24 = .ok (.lreturn, 1) := by decide +kernel
theorem dX5_findBeatWithLeak_0 : decode cX5_findBeatWithLeak 0 = .ok (.aload_n 0, 1) := by decide +kernel
theorem dX5_findBeatWithLeak_1 : decode cX5_findBeatWithLeak 1 = .ok (.getfield 38, 3) := by decide +kernel
theorem dX5_findBeatWithLeak_4 : decode cX5_findBeatWithLeak 4 = .ok (.aload_n 0, 1) := by decide +kernel
theorem dX5_findBeatWithLeak_5 : decode cX5_findBeatWithLeak 5 = .ok (.getfield 19, 3) := by decide +kernel
theorem dX5_findBeatWithLeak_8 : decode cX5_findBeatWithLeak 8 = .ok (.invokevirtual 237, 3) := by decide +kernel
theorem dX5_findBeatWithLeak_11 : decode cX5_findBeatWithLeak 11 = .ok (.aload_n 0, 1) := by decide +kernel
theorem dX5_findBeatWithLeak_12 : decode cX5_findBeatWithLeak 12 = .ok (.getfield 38, 3) := by decide +kernel
theorem dX5_findBeatWithLeak_15 : decode cX5_findBeatWithLeak 15 = .ok (.getfield 163, 3) := by decide +kernel
theorem dX5_findBeatWithLeak_18 : decode cX5_findBeatWithLeak 18 = .ok (.iload_n 1, 1) := by decide +kernel
theorem dX5_findBeatWithLeak_19 : decode cX5_findBeatWithLeak 19 = .ok (.iload_n 2, 1) := by decide +kernel
theorem dX5_findBeatWithLeak_20 : decode cX5_findBeatWithLeak 20 = .ok (.iastore, 1) := by decide +kernel
theorem dX5_findBeatWithLeak_21 : decode cX5_findBeatWithLeak 21 = .ok (.aload_n 0, 1) := by decide +kernel
theorem dX5_findBeatWithLeak_22 : decode cX5_findBeatWithLeak 22 = .ok (.getfield 38, 3) := by decide +kernel
theorem dX5_findBeatWithLeak_25 : decode cX5_findBeatWithLeak 25 = .ok (.iload_n 3, 1) := by decide +kernel
theorem dX5_findBeatWithLeak_26 : decode cX5_findBeatWithLeak 26 = .ok (.invokevirtual 256, 3) := by decide +kernel
theorem dX5_findBeatWithLeak_29 : decode cX5_findBeatWithLeak 29 = .ok (.ireturn, 1) := by decide +kernel
theorem dJ7_rangeCheck_23922_0 : decode cJ7_rangeCheck_23922 0 = .ok (.iload_n 1, 1) := by decide +kernel
theorem dJ7_rangeCheck_23922_1 : decode cJ7_rangeCheck_23922 1 = .ok (.iload_n 2, 1) := by decide +kernel
theorem dJ7_rangeCheck_23922_2 : decode cJ7_rangeCheck_23922 2 = .ok (.if_icmp .le 44, 3) := by decide +kernel
theorem dJ7_rangeCheck_23922_5 : decode cJ7_rangeCheck_23922 5 = .ok (.new 43, 3) := by decide +kernel
theorem dJ7_rangeCheck_23922_8 : decode cJ7_rangeCheck_23922 8 = .ok (.dup, 1) := by decide +kernel
theorem dJ7_rangeCheck_23922_9 : decode cJ7_rangeCheck_23922 9 = .ok (.new 45, 3) := by decide +kernel
theorem dJ7_rangeCheck_23922_12 : decode cJ7_rangeCheck_23922 12 = .ok (.dup, 1) := by decide +kernel
theorem dJ7_rangeCheck_23922_13 : decode cJ7_rangeCheck_23922 13 = .ok (.invokespecial 47, 3) := by decide +kernel
theorem dJ7_rangeCheck_23922_16 : decode cJ7_rangeCheck_23922 16 = .ok (.ldc 48, 2) := by decide +kernel
theorem dJ7_rangeCheck_23922_18 : decode cJ7_rangeCheck_23922 18 = .ok (.invokevirtual 50, 3) := by decide +kernel
theorem dJ7_rangeCheck_23922_21 : decode cJ7_rangeCheck_23922 21 = .ok (.iload_n 1, 1) := by decide +kernel
theorem dJ7_rangeCheck_23922_22 : decode cJ7_rangeCheck_23922 22 = .ok (.invokevirtual 54, 3) := by decide +kernel
theorem dJ7_rangeCheck_23922_25 : decode cJ7_rangeCheck_23922 25 = .ok (.ldc 57, 2) := by decide +kernel
theorem dJ7_rangeCheck_23922_27 : decode cJ7_rangeCheck_23922 27 = .ok (.invokevirtual 50, 3) := by decide +kernel
theorem dJ7_rangeCheck_23922_30 : decode cJ7_rangeCheck_23922 30 = .ok (.iload_n 2, 1) := by decide +kernel
theorem dJ7_rangeCheck_23922_31 : decode cJ7_rangeCheck_23922 31 = .ok (.invokevirtual 54, 3) := by decide +kernel
theorem dJ7_rangeCheck_23922_34 : decode cJ7_rangeCheck_23922 34 = .ok (.ldc 59, 2) := by decide +kernel
theorem dJ7_rangeCheck_23922_36 : decode cJ7_rangeCheck_23922 36 = .ok (.invokevirtual 50, 3) := by decide +kernel
theorem dJ7_rangeCheck_23922_39 : decode cJ7_rangeCheck_23922 39 = .ok (.invokevirtual 61, 3) := by decide +kernel
theorem dJ7_rangeCheck_23922_42 : decode cJ7_rangeCheck_23922 42 = .ok (.invokespecial 65, 3) := by decide +kernel
theorem dJ7_rangeCheck_23922_45 : decode cJ7_rangeCheck_23922 45 = .ok (.athrow, 1) := by decide +kernel
theorem dJ7_rangeCheck_23922_46 : decode cJ7_rangeCheck_23922 46 = .ok (.iload_n 1, 1) := by decide +kernel
theorem dJ7_rangeCheck_23922_47 : decode cJ7_rangeCheck_23922 47 = .ok (.ifCond .ge 12, 3) := by decide +kernel
theorem dJ7_rangeCheck_23922_50 : decode cJ7_rangeCheck_23922 50 = .ok (.new 68, 3) := by decide +kernel
theorem dJ7_rangeCheck_23922_53 : decode cJ7_rangeCheck_23922 53 = .ok (.dup, 1) := by decide +kernel
theorem dJ7_rangeCheck_23922_54 : decode cJ7_rangeCheck_23922 54 = .ok (.iload_n 1, 1) := by decide +kernel
theorem dJ7_rangeCheck_23922_55 : decode cJ7_rangeCheck_23922 55 = .ok (.invokespecial 70, 3) := by decide +kernel
theorem dJ7_rangeCheck_23922_58 : decode cJ7_rangeCheck_23922 58 = .ok (.athrow, 1) := by decide +kernel
theorem dJ7_rangeCheck_23922_59 : decode cJ7_rangeCheck_23922 59 = .ok (.iload_n 2, 1) := by decide +kernel
theorem dJ7_rangeCheck_23922_60 : decode cJ7_rangeCheck_23922 60 = .ok (.iload_n 0, 1) := by decide +kernel
theorem dJ7_rangeCheck_23922_61 : decode cJ7_rangeCheck_23922 61 = .ok (.if_icmp .le 12, 3) := by decide +kernel
theorem dJ7_rangeCheck_23922_64 : decode cJ7_rangeCheck_23922 64 = .ok (.new 68, 3) := by decide +kernel
theorem dJ7_rangeCheck_23922_67 : decode cJ7_rangeCheck_23922 67 = .ok (.dup, 1) := by decide +kernel
theorem dJ7_rangeCheck_23922_68 : decode cJ7_rangeCheck_23922 68 = .ok (.iload_n 2, 1) := by decide +kernel
theorem dJ7_rangeCheck_23922_69 : decode cJ7_rangeCheck_23922 69 = .ok (.invokespecial 70, 3) := by decide +kernel
theorem dJ7_rangeCheck_23922_72 : decode cJ7_rangeCheck_23922 72 = .ok (.athrow, 1) := by decide +kernel
theorem dJ7_rangeCheck_23922_73 : decode cJ7_rangeCheck_23922 73 = .ok (.return_, 1) := by decide +kernel
theorem dJ7_fill_53178_0 : decode cJ7_fill_53178 0 = .ok (.iconst 0, 1) := by decide +kernel
theorem dJ7_fill_53178_1 : decode cJ7_fill_53178 1 = .ok (.istore_n 2, 1) := by decide +kernel
theorem dJ7_fill_53178_2 : decode cJ7_fill_53178 2 = .ok (.aload_n 0, 1) := by decide +kernel
theorem dJ7_fill_53178_3 : decode cJ7_fill_53178 3 = .ok (.arraylength, 1) := by decide +kernel
theorem dJ7_fill_53178_4 : decode cJ7_fill_53178 4 = .ok (.istore_n 3, 1) := by decide +kernel
theorem dJ7_fill_53178_5 : decode cJ7_fill_53178 5 = .ok (.iload_n 2, 1) := by decide +kernel
theorem dJ7_fill_53178_6 : decode cJ7_fill_53178 6 = .ok (.iload_n 3, 1) := by decide +kernel
theorem dJ7_fill_53178_7 : decode cJ7_fill_53178 7 = .ok (.if_icmp .ge 13, 3) := by decide +kernel
theorem dJ7_fill_53178_10 : decode cJ7_fill_53178 10 = .ok (.aload_n 0, 1) := by decide +kernel
theorem dJ7_fill_53178_11 : decode cJ7_fill_53178 11 = .ok (.iload_n 2, 1) := by decide +kernel
theorem dJ7_fill_53178_12 : decode cJ7_fill_53178 12 = .ok (.iload_n 1, 1) := by decide +kernel
theorem dJ7_fill_53178_13 : decode cJ7_fill_53178 13 = .ok (.iastore, 1) := by decide +kernel
theorem dJ7_fill_53178_14 : decode cJ7_fill_53178 14 = .ok (.iinc 2 1, 3) := by decide +kernel
theorem dJ7_fill_53178_17 : decode cJ7_fill_53178 17 = .ok (.goto (-12), 3) := by decide +kernel
theorem dJ7_fill_53178_20 : decode cJ7_fill_53178 20 = .ok (.return_, 1) := by decide +kernel
theorem dJ7_fill_fda19_0 : decode cJ7_fill_fda19 0 = .ok (.aload_n 0, 1) := by decide +kernel
theorem dJ7_fill_fda19_1 : decode cJ7_fill_fda19 1 = .ok (.arraylength, 1) := by decide +kernel
theorem dJ7_fill_fda19_2 : decode cJ7_fill_fda19 2 = .ok (.iload_n 1, 1) := by decide +kernel
theorem dJ7_fill_fda19_3 : decode cJ7_fill_fda19 3 = .ok (.iload_n 2, 1) := by decide +kernel
theorem dJ7_fill_fda19_4 : decode cJ7_fill_fda19 4 = .ok (.invokestatic 13, 3) := by decide +kernel
theorem dJ7_fill_fda19_7 : decode cJ7_fill_fda19 7 = .ok (.iload_n 1, 1) := by decide +kernel
theorem dJ7_fill_fda19_8 : decode cJ7_fill_fda19 8 = .ok (.istore 4, 2) := by decide +kernel
theorem dJ7_fill_fda19_10 : decode cJ7_fill_fda19 10 = .ok (.iload 4, 2) := by decide +kernel
theorem dJ7_fill_fda19_12 : decode cJ7_fill_fda19 12 = .ok (.iload_n 2, 1) := by decide +kernel
theorem dJ7_fill_fda19_13 : decode cJ7_fill_fda19 13 = .ok (.if_icmp .ge 14, 3) := by decide +kernel
theorem dJ7_fill_fda19_16 : decode cJ7_fill_fda19 16 = .ok (.aload_n 0, 1) := by decide +kernel
theorem dJ7_fill_fda19_17 : decode cJ7_fill_fda19 17 = .ok (.iload 4, 2) := by decide +kernel
theorem dJ7_fill_fda19_19 : decode cJ7_fill_fda19 19 = .ok (.iload_n 3, 1) := by decide +kernel
theorem dJ7_fill_fda19_20 : decode cJ7_fill_fda19 20 = .ok (.iastore, 1) := by decide +kernel
theorem dJ7_fill_fda19_21 : decode cJ7_fill_fda19 21 = .ok (.iinc 4 1, 3) := by decide +kernel
theorem dJ7_fill_fda19_24 : decode cJ7_fill_fda19 24 = .ok (.goto (-14), 3) := by decide +kernel
theorem dJ7_fill_fda19_27 : decode cJ7_fill_fda19 27 = .ok (.return_, 1) := by decide +kernel
