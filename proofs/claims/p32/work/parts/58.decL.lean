theorem dL_ducts_0 : decode cL_ducts 0 = .ok (.aload_n 0, 1) := by decide +kernel
theorem dL_ducts_1 : decode cL_ducts 1 = .ok (.iload_n 1, 1) := by decide +kernel
theorem dL_ducts_2 : decode cL_ducts 2 = .ok (.iload_n 2, 1) := by decide +kernel
theorem dL_ducts_3 : decode cL_ducts 3 = .ok (.iload_n 3, 1) := by decide +kernel
theorem dL_ducts_4 : decode cL_ducts 4 = .ok (.iload 4, 2) := by decide +kernel
theorem dL_ducts_6 : decode cL_ducts 6 = .ok (.iload 5, 2) := by decide +kernel
theorem dL_ducts_8 : decode cL_ducts 8 = .ok (.invokevirtual 7, 3) := by decide +kernel
theorem dL_ducts_11 : decode cL_ducts 11 = .ok (.ireturn, 1) := by decide +kernel
theorem dL_ducts_12 : decode cL_ducts 12 = .ok (.astore 6, 2) := by decide +kernel
theorem dL_ducts_14 : decode cL_ducts 14 = .ok (.ldc 15, 2) := by decide +kernel
theorem dL_ducts_16 : decode cL_ducts 16 = .ok (.ireturn, 1) := by decide +kernel
theorem dL_ducts_17 : decode cL_ducts 17 = .ok (.astore 6, 2) := by decide +kernel
theorem dL_ducts_19 : decode cL_ducts 19 = .ok (.ldc 18, 2) := by decide +kernel
theorem dL_ducts_21 : decode cL_ducts 21 = .ok (.ireturn, 1) := by decide +kernel
theorem dL_ducts_22 : decode cL_ducts 22 = .ok (.astore 6, 2) := by decide +kernel
theorem dL_ducts_24 : decode cL_ducts 24 = .ok (.ldc 21, 2) := by decide +kernel
theorem dL_ducts_26 : decode cL_ducts 26 = .ok (.ireturn, 1) := by decide +kernel
theorem dL_keys_0 : decode cL_keys 0 = .ok (.aload_n 0, 1) := by decide +kernel
theorem dL_keys_1 : decode cL_keys 1 = .ok (.iload_n 1, 1) := by decide +kernel
theorem dL_keys_2 : decode cL_keys 2 = .ok (.iload_n 2, 1) := by decide +kernel
theorem dL_keys_3 : decode cL_keys 3 = .ok (.invokevirtual 22, 3) := by decide +kernel
theorem dL_keys_6 : decode cL_keys 6 = .ok (.ireturn, 1) := by decide +kernel
theorem dL_keys_7 : decode cL_keys 7 = .ok (.astore_n 3, 1) := by decide +kernel
theorem dL_keys_8 : decode cL_keys 8 = .ok (.ldc 15, 2) := by decide +kernel
theorem dL_keys_10 : decode cL_keys 10 = .ok (.ireturn, 1) := by decide +kernel
theorem dL_keys_11 : decode cL_keys 11 = .ok (.astore_n 3, 1) := by decide +kernel
theorem dL_keys_12 : decode cL_keys 12 = .ok (.ldc 21, 2) := by decide +kernel
theorem dL_keys_14 : decode cL_keys 14 = .ok (.ireturn, 1) := by decide +kernel
theorem dL_doScript_0 : decode cL_doScript 0 = .ok (.aload_n 0, 1) := by decide +kernel
theorem dL_doScript_1 : decode cL_doScript 1 = .ok (.iload_n 1, 1) := by decide +kernel
theorem dL_doScript_2 : decode cL_doScript 2 = .ok (.lload_n 2, 1) := by decide +kernel
theorem dL_doScript_3 : decode cL_doScript 3 = .ok (.invokevirtual 26, 3) := by decide +kernel
theorem dL_doScript_6 : decode cL_doScript 6 = .ok (.ireturn, 1) := by decide +kernel
theorem dL_doScript_7 : decode cL_doScript 7 = .ok (.astore 4, 2) := by decide +kernel
theorem dL_doScript_9 : decode cL_doScript 9 = .ok (.ldc 18, 2) := by decide +kernel
theorem dL_doScript_11 : decode cL_doScript 11 = .ok (.ireturn, 1) := by decide +kernel
theorem dL_doSimulate_0 : decode cL_doSimulate 0 = .ok (.aload_n 0, 1) := by decide +kernel
theorem dL_doSimulate_1 : decode cL_doSimulate 1 = .ok (.lload_n 1, 1) := by decide +kernel
theorem dL_doSimulate_2 : decode cL_doSimulate 2 = .ok (.iload_n 3, 1) := by decide +kernel
theorem dL_doSimulate_3 : decode cL_doSimulate 3 = .ok (.invokevirtual 30, 3) := by decide +kernel
theorem dL_doSimulate_6 : decode cL_doSimulate 6 = .ok (.ireturn, 1) := by decide +kernel
theorem dL_doSimulate_7 : decode cL_doSimulate 7 = .ok (.astore 4, 2) := by decide +kernel
theorem dL_doSimulate_9 : decode cL_doSimulate 9 = .ok (.ldc 18, 2) := by decide +kernel
theorem dL_doSimulate_11 : decode cL_doSimulate 11 = .ok (.ireturn, 1) := by decide +kernel
theorem dL_tryAppend_0 : decode cL_tryAppend 0 = .ok (.aload_n 0, 1) := by decide +kernel
theorem dL_tryAppend_1 : decode cL_tryAppend 1 = .ok (.iload_n 1, 1) := by decide +kernel
theorem dL_tryAppend_2 : decode cL_tryAppend 2 = .ok (.invokevirtual 34, 3) := by decide +kernel
theorem dL_tryAppend_5 : decode cL_tryAppend 5 = .ok (.ireturn, 1) := by decide +kernel
theorem dL_tryAppend_6 : decode cL_tryAppend 6 = .ok (.astore_n 2, 1) := by decide +kernel
theorem dL_tryAppend_7 : decode cL_tryAppend 7 = .ok (.ldc 18, 2) := by decide +kernel
theorem dL_tryAppend_9 : decode cL_tryAppend 9 = .ok (.ireturn, 1) := by decide +kernel
theorem dL_tryAppend_10 : decode cL_tryAppend 10 = .ok (.astore_n 2, 1) := by decide +kernel
theorem dL_tryAppend_11 : decode cL_tryAppend 11 = .ok (.ldc 21, 2) := by decide +kernel
theorem dL_tryAppend_13 : decode cL_tryAppend 13 = .ok (.ireturn, 1) := by decide +kernel
theorem dL_tryLoad_0 : decode cL_tryLoad 0 = .ok (.aload_n 0, 1) := by decide +kernel
theorem dL_tryLoad_1 : decode cL_tryLoad 1 = .ok (.invokevirtual 38, 3) := by decide +kernel
theorem dL_tryLoad_4 : decode cL_tryLoad 4 = .ok (.ireturn, 1) := by decide +kernel
theorem dL_tryLoad_5 : decode cL_tryLoad 5 = .ok (.astore_n 1, 1) := by decide +kernel
theorem dL_tryLoad_6 : decode cL_tryLoad 6 = .ok (.ldc 21, 2) := by decide +kernel
theorem dL_tryLoad_8 : decode cL_tryLoad 8 = .ok (.ireturn, 1) := by decide +kernel
theorem dL_tryAbout_0 : decode cL_tryAbout 0 = .ok (.aload_n 0, 1) := by decide +kernel
theorem dL_tryAbout_1 : decode cL_tryAbout 1 = .ok (.iload_n 1, 1) := by decide +kernel
theorem dL_tryAbout_2 : decode cL_tryAbout 2 = .ok (.invokevirtual 42, 3) := by decide +kernel
theorem dL_tryAbout_5 : decode cL_tryAbout 5 = .ok (.ireturn, 1) := by decide +kernel
theorem dL_tryAbout_6 : decode cL_tryAbout 6 = .ok (.astore_n 2, 1) := by decide +kernel
theorem dL_tryAbout_7 : decode cL_tryAbout 7 = .ok (.ldc 18, 2) := by decide +kernel
theorem dL_tryAbout_9 : decode cL_tryAbout 9 = .ok (.ireturn, 1) := by decide +kernel
theorem dL_tryTold_0 : decode cL_tryTold 0 = .ok (.aload_n 0, 1) := by decide +kernel
theorem dL_tryTold_1 : decode cL_tryTold 1 = .ok (.iload_n 1, 1) := by decide +kernel
theorem dL_tryTold_2 : decode cL_tryTold 2 = .ok (.iload_n 2, 1) := by decide +kernel
theorem dL_tryTold_3 : decode cL_tryTold 3 = .ok (.invokevirtual 45, 3) := by decide +kernel
theorem dL_tryTold_6 : decode cL_tryTold 6 = .ok (.ireturn, 1) := by decide +kernel
theorem dL_tryTold_7 : decode cL_tryTold 7 = .ok (.astore_n 3, 1) := by decide +kernel
theorem dL_tryTold_8 : decode cL_tryTold 8 = .ok (.ldc 15, 2) := by decide +kernel
theorem dL_tryTold_10 : decode cL_tryTold 10 = .ok (.ireturn, 1) := by decide +kernel
theorem dL_tryTold_11 : decode cL_tryTold 11 = .ok (.astore_n 3, 1) := by decide +kernel
theorem dL_tryTold_12 : decode cL_tryTold 12 = .ok (.ldc 18, 2) := by decide +kernel
theorem dL_tryTold_14 : decode cL_tryTold 14 = .ok (.ireturn, 1) := by decide +kernel
theorem dL_tryLeg_0 : decode cL_tryLeg 0 = .ok (.aload_n 0, 1) := by decide +kernel
theorem dL_tryLeg_1 : decode cL_tryLeg 1 = .ok (.iload_n 1, 1) := by decide +kernel
theorem dL_tryLeg_2 : decode cL_tryLeg 2 = .ok (.iload_n 2, 1) := by decide +kernel
theorem dL_tryLeg_3 : decode cL_tryLeg 3 = .ok (.invokevirtual 49, 3) := by decide +kernel
theorem dL_tryLeg_6 : decode cL_tryLeg 6 = .ok (.ireturn, 1) := by decide +kernel
theorem dL_tryLeg_7 : decode cL_tryLeg 7 = .ok (.astore_n 3, 1) := by decide +kernel
theorem dL_tryLeg_8 : decode cL_tryLeg 8 = .ok (.ldc 15, 2) := by decide +kernel
theorem dL_tryLeg_10 : decode cL_tryLeg 10 = .ok (.ireturn, 1) := by decide +kernel
theorem dL_tryPush_0 : decode cL_tryPush 0 = .ok (.aload_n 0, 1) := by decide +kernel
theorem dL_tryPush_1 : decode cL_tryPush 1 = .ok (.iload_n 1, 1) := by decide +kernel
theorem dL_tryPush_2 : decode cL_tryPush 2 = .ok (.iload_n 2, 1) := by decide +kernel
theorem dL_tryPush_3 : decode cL_tryPush 3 = .ok (.iload_n 3, 1) := by decide +kernel
theorem dL_tryPush_4 : decode cL_tryPush 4 = .ok (.invokevirtual 52, 3) := by decide +kernel
theorem dL_tryPush_7 : decode cL_tryPush 7 = .ok (.ireturn, 1) := by decide +kernel
theorem dL_tryPush_8 : decode cL_tryPush 8 = .ok (.astore 4, 2) := by decide +kernel
theorem dL_tryPush_10 : decode cL_tryPush 10 = .ok (.ldc 15, 2) := by decide +kernel
theorem dL_tryPush_12 : decode cL_tryPush 12 = .ok (.ireturn, 1) := by decide +kernel
theorem dL_tryPush_13 : decode cL_tryPush 13 = .ok (.astore 4, 2) := by decide +kernel
theorem dL_tryPush_15 : decode cL_tryPush 15 = .ok (.ldc 18, 2) := by decide +kernel
theorem dL_tryPush_17 : decode cL_tryPush 17 = .ok (.ireturn, 1) := by decide +kernel
theorem dL_tryPipe_0 : decode cL_tryPipe 0 = .ok (.aload_n 0, 1) := by decide +kernel
theorem dL_tryPipe_1 : decode cL_tryPipe 1 = .ok (.iload_n 1, 1) := by decide +kernel
theorem dL_tryPipe_2 : decode cL_tryPipe 2 = .ok (.iload_n 2, 1) := by decide +kernel
theorem dL_tryPipe_3 : decode cL_tryPipe 3 = .ok (.invokevirtual 56, 3) := by decide +kernel
theorem dL_tryPipe_6 : decode cL_tryPipe 6 = .ok (.ireturn, 1) := by decide +kernel
theorem dL_tryPipe_7 : decode cL_tryPipe 7 = .ok (.astore_n 3, 1) := by decide +kernel
theorem dL_tryPipe_8 : decode cL_tryPipe 8 = .ok (.ldc 15, 2) := by decide +kernel
theorem dL_tryPipe_10 : decode cL_tryPipe 10 = .ok (.ireturn, 1) := by decide +kernel
theorem dL_tryPipe_11 : decode cL_tryPipe 11 = .ok (.astore_n 3, 1) := by decide +kernel
theorem dL_tryPipe_12 : decode cL_tryPipe 12 = .ok (.ldc 18, 2) := by decide +kernel
theorem dL_tryPipe_14 : decode cL_tryPipe 14 = .ok (.ireturn, 1) := by decide +kernel
theorem dL_trySetting_0 : decode cL_trySetting 0 = .ok (.aload_n 0, 1) := by decide +kernel
theorem dL_trySetting_1 : decode cL_trySetting 1 = .ok (.iload_n 1, 1) := by decide +kernel
theorem dL_trySetting_2 : decode cL_trySetting 2 = .ok (.invokevirtual 59, 3) := by decide +kernel
theorem dL_trySetting_5 : decode cL_trySetting 5 = .ok (.ireturn, 1) := by decide +kernel
theorem dL_trySetting_6 : decode cL_trySetting 6 = .ok (.astore_n 2, 1) := by decide +kernel
theorem dL_trySetting_7 : decode cL_trySetting 7 = .ok (.ldc 18, 2) := by decide +kernel
theorem dL_trySetting_9 : decode cL_trySetting 9 = .ok (.ireturn, 1) := by decide +kernel
theorem dL_tryValve_0 : decode cL_tryValve 0 = .ok (.aload_n 0, 1) := by decide +kernel
theorem dL_tryValve_1 : decode cL_tryValve 1 = .ok (.iload_n 1, 1) := by decide +kernel
theorem dL_tryValve_2 : decode cL_tryValve 2 = .ok (.iload_n 2, 1) := by decide +kernel
theorem dL_tryValve_3 : decode cL_tryValve 3 = .ok (.invokevirtual 62, 3) := by decide +kernel
theorem dL_tryValve_6 : decode cL_tryValve 6 = .ok (.ireturn, 1) := by decide +kernel
theorem dL_tryValve_7 : decode cL_tryValve 7 = .ok (.astore_n 3, 1) := by decide +kernel
theorem dL_tryValve_8 : decode cL_tryValve 8 = .ok (.ldc 18, 2) := by decide +kernel
theorem dL_tryValve_10 : decode cL_tryValve 10 = .ok (.ireturn, 1) := by decide +kernel
theorem dL_tryValve_11 : decode cL_tryValve 11 = .ok (.astore_n 3, 1) := by decide +kernel
theorem dL_tryValve_12 : decode cL_tryValve 12 = .ok (.ldc 21, 2) := by decide +kernel
theorem dL_tryValve_14 : decode cL_tryValve 14 = .ok (.ireturn, 1) := by decide +kernel
theorem dL_tryDrop_0 : decode cL_tryDrop 0 = .ok (.aload_n 0, 1) := by decide +kernel
theorem dL_tryDrop_1 : decode cL_tryDrop 1 = .ok (.iload_n 1, 1) := by decide +kernel
theorem dL_tryDrop_2 : decode cL_tryDrop 2 = .ok (.invokevirtual 65, 3) := by decide +kernel
theorem dL_tryDrop_5 : decode cL_tryDrop 5 = .ok (.ireturn, 1) := by decide +kernel
theorem dL_tryDrop_6 : decode cL_tryDrop 6 = .ok (.astore_n 2, 1) := by decide +kernel
theorem dL_tryDrop_7 : decode cL_tryDrop 7 = .ok (.ldc 15, 2) := by decide +kernel
theorem dL_tryDrop_9 : decode cL_tryDrop 9 = .ok (.ireturn, 1) := by decide +kernel
theorem dL_tryLeak_0 : decode cL_tryLeak 0 = .ok (.aload_n 0, 1) := by decide +kernel
theorem dL_tryLeak_1 : decode cL_tryLeak 1 = .ok (.iload_n 1, 1) := by decide +kernel
theorem dL_tryLeak_2 : decode cL_tryLeak 2 = .ok (.iload_n 2, 1) := by decide +kernel
theorem dL_tryLeak_3 : decode cL_tryLeak 3 = .ok (.invokevirtual 68, 3) := by decide +kernel
theorem dL_tryLeak_6 : decode cL_tryLeak 6 = .ok (.ireturn, 1) := by decide +kernel
theorem dL_tryLeak_7 : decode cL_tryLeak 7 = .ok (.astore_n 3, 1) := by decide +kernel
theorem dL_tryLeak_8 : decode cL_tryLeak 8 = .ok (.ldc 15, 2) := by decide +kernel
theorem dL_tryLeak_10 : decode cL_tryLeak 10 = .ok (.ireturn, 1) := by decide +kernel
theorem dL_tryLeak_11 : decode cL_tryLeak 11 = .ok (.astore_n 3, 1) := by decide +kernel
theorem dL_tryLeak_12 : decode cL_tryLeak 12 = .ok (.ldc 18, 2) := by decide +kernel
theorem dL_tryLeak_14 : decode cL_tryLeak 14 = .ok (.ireturn, 1) := by decide +kernel
theorem dL_tryFeed_0 : decode cL_tryFeed 0 = .ok (.aload_n 0, 1) := by decide +kernel
theorem dL_tryFeed_1 : decode cL_tryFeed 1 = .ok (.iload_n 1, 1) := by decide +kernel
theorem dL_tryFeed_2 : decode cL_tryFeed 2 = .ok (.iload_n 2, 1) := by decide +kernel
theorem dL_tryFeed_3 : decode cL_tryFeed 3 = .ok (.invokevirtual 71, 3) := by decide +kernel
theorem dL_tryFeed_6 : decode cL_tryFeed 6 = .ok (.ireturn, 1) := by decide +kernel
theorem dL_tryFeed_7 : decode cL_tryFeed 7 = .ok (.astore_n 3, 1) := by decide +kernel
theorem dL_tryFeed_8 : decode cL_tryFeed 8 = .ok (.ldc 15, 2) := by decide +kernel
theorem dL_tryFeed_10 : decode cL_tryFeed 10 = .ok (.ireturn, 1) := by decide +kernel
theorem dL_tryFeed_11 : decode cL_tryFeed 11 = .ok (.astore_n 3, 1) := by decide +kernel
theorem dL_tryFeed_12 : decode cL_tryFeed 12 = .ok (.ldc 18, 2) := by decide +kernel
theorem dL_tryFeed_14 : decode cL_tryFeed 14 = .ok (.ireturn, 1) := by decide +kernel
theorem dL_tryLay_0 : decode cL_tryLay 0 = .ok (.aload_n 0, 1) := by decide +kernel
theorem dL_tryLay_1 : decode cL_tryLay 1 = .ok (.iload_n 1, 1) := by decide +kernel
theorem dL_tryLay_2 : decode cL_tryLay 2 = .ok (.iload_n 2, 1) := by decide +kernel
theorem dL_tryLay_3 : decode cL_tryLay 3 = .ok (.invokevirtual 74, 3) := by decide +kernel
theorem dL_tryLay_6 : decode cL_tryLay 6 = .ok (.ireturn, 1) := by decide +kernel
theorem dL_tryLay_7 : decode cL_tryLay 7 = .ok (.astore_n 3, 1) := by decide +kernel
theorem dL_tryLay_8 : decode cL_tryLay 8 = .ok (.ldc 18, 2) := by decide +kernel
theorem dL_tryLay_10 : decode cL_tryLay 10 = .ok (.ireturn, 1) := by decide +kernel
theorem dL_tryTicks_0 : decode cL_tryTicks 0 = .ok (.aload_n 0, 1) := by decide +kernel
theorem dL_tryTicks_1 : decode cL_tryTicks 1 = .ok (.iload_n 1, 1) := by decide +kernel
theorem dL_tryTicks_2 : decode cL_tryTicks 2 = .ok (.invokevirtual 77, 3) := by decide +kernel
theorem dL_tryTicks_5 : decode cL_tryTicks 5 = .ok (.ireturn, 1) := by decide +kernel
theorem dL_tryTicks_6 : decode cL_tryTicks 6 = .ok (.astore_n 2, 1) := by decide +kernel
theorem dL_tryTicks_7 : decode cL_tryTicks 7 = .ok (.ldc 18, 2) := by decide +kernel
theorem dL_tryTicks_9 : decode cL_tryTicks 9 = .ok (.ireturn, 1) := by decide +kernel
theorem dL_tryUndo_0 : decode cL_tryUndo 0 = .ok (.aload_n 0, 1) := by decide +kernel
theorem dL_tryUndo_1 : decode cL_tryUndo 1 = .ok (.invokevirtual 80, 3) := by decide +kernel
theorem dL_tryUndo_4 : decode cL_tryUndo 4 = .ok (.ireturn, 1) := by decide +kernel
theorem dL_tryUndo_5 : decode cL_tryUndo 5 = .ok (.astore_n 1, 1) := by decide +kernel
theorem dL_tryUndo_6 : decode cL_tryUndo 6 = .ok (.ldc 21, 2) := by decide +kernel
theorem dL_tryUndo_8 : decode cL_tryUndo 8 = .ok (.ireturn, 1) := by decide +kernel
theorem dL_tryBeat_0 : decode cL_tryBeat 0 = .ok (.aload_n 0, 1) := by decide +kernel
theorem dL_tryBeat_1 : decode cL_tryBeat 1 = .ok (.iload_n 1, 1) := by decide +kernel
theorem dL_tryBeat_2 : decode cL_tryBeat 2 = .ok (.invokevirtual 83, 3) := by decide +kernel
theorem dL_tryBeat_5 : decode cL_tryBeat 5 = .ok (.ireturn, 1) := by decide +kernel
theorem dL_tryBeat_6 : decode cL_tryBeat 6 = .ok (.astore_n 2, 1) := by decide +kernel
theorem dL_tryBeat_7 : decode cL_tryBeat 7 = .ok (.ldc 15, 2) := by decide +kernel
theorem dL_tryBeat_9 : decode cL_tryBeat 9 = .ok (.ireturn, 1) := by decide +kernel
theorem dL_tryRule_0 : decode cL_tryRule 0 = .ok (.aload_n 0, 1) := by decide +kernel
theorem dL_tryRule_1 : decode cL_tryRule 1 = .ok (.iload_n 1, 1) := by decide +kernel
theorem dL_tryRule_2 : decode cL_tryRule 2 = .ok (.iload_n 2, 1) := by decide +kernel
theorem dL_tryRule_3 : decode cL_tryRule 3 = .ok (.iload_n 3, 1) := by decide +kernel
theorem dL_tryRule_4 : decode cL_tryRule 4 = .ok (.invokevirtual 86, 3) := by decide +kernel
theorem dL_tryRule_7 : decode cL_tryRule 7 = .ok (.ireturn, 1) := by decide +kernel
theorem dL_tryRule_8 : decode cL_tryRule 8 = .ok (.astore 4, 2) := by decide +kernel
theorem dL_tryRule_10 : decode cL_tryRule 10 = .ok (.ldc 15, 2) := by decide +kernel
theorem dL_tryRule_12 : decode cL_tryRule 12 = .ok (.ireturn, 1) := by decide +kernel
theorem dL_tryRule_13 : decode cL_tryRule 13 = .ok (.astore 4, 2) := by decide +kernel
theorem dL_tryRule_15 : decode cL_tryRule 15 = .ok (.ldc 18, 2) := by decide +kernel
theorem dL_tryRule_17 : decode cL_tryRule 17 = .ok (.ireturn, 1) := by decide +kernel
theorem dL_tryIf_0 : decode cL_tryIf 0 = .ok (.aload_n 0, 1) := by decide +kernel
theorem dL_tryIf_1 : decode cL_tryIf 1 = .ok (.iload_n 1, 1) := by decide +kernel
theorem dL_tryIf_2 : decode cL_tryIf 2 = .ok (.iload_n 2, 1) := by decide +kernel
theorem dL_tryIf_3 : decode cL_tryIf 3 = .ok (.iload_n 3, 1) := by decide +kernel
theorem dL_tryIf_4 : decode cL_tryIf 4 = .ok (.invokevirtual 89, 3) := by decide +kernel
theorem dL_tryIf_7 : decode cL_tryIf 7 = .ok (.ireturn, 1) := by decide +kernel
theorem dL_tryIf_8 : decode cL_tryIf 8 = .ok (.astore 4, 2) := by decide +kernel
theorem dL_tryIf_10 : decode cL_tryIf 10 = .ok (.ldc 15, 2) := by decide +kernel
theorem dL_tryIf_12 : decode cL_tryIf 12 = .ok (.ireturn, 1) := by decide +kernel
theorem dL_tryIf_13 : decode cL_tryIf 13 = .ok (.astore 4, 2) := by decide +kernel
theorem dL_tryIf_15 : decode cL_tryIf 15 = .ok (.ldc 18, 2) := by decide +kernel
theorem dL_tryIf_17 : decode cL_tryIf 17 = .ok (.ireturn, 1) := by decide +kernel
theorem dL_trySuspect_0 : decode cL_trySuspect 0 = .ok (.aload_n 0, 1) := by decide +kernel
theorem dL_trySuspect_1 : decode cL_trySuspect 1 = .ok (.iload_n 1, 1) := by decide +kernel
theorem dL_trySuspect_2 : decode cL_trySuspect 2 = .ok (.iload_n 2, 1) := by decide +kernel
theorem dL_trySuspect_3 : decode cL_trySuspect 3 = .ok (.invokevirtual 92, 3) := by decide +kernel
theorem dL_trySuspect_6 : decode cL_trySuspect 6 = .ok (.ireturn, 1) := by decide +kernel
theorem dL_trySuspect_7 : decode cL_trySuspect 7 = .ok (.astore_n 3, 1) := by decide +kernel
theorem dL_trySuspect_8 : decode cL_trySuspect 8 = .ok (.ldc 15, 2) := by decide +kernel
theorem dL_trySuspect_10 : decode cL_trySuspect 10 = .ok (.ireturn, 1) := by decide +kernel
theorem dL_trySuspect_11 : decode cL_trySuspect 11 = .ok (.astore_n 3, 1) := by decide +kernel
theorem dL_trySuspect_12 : decode cL_trySuspect 12 = .ok (.ldc 18, 2) := by decide +kernel
theorem dL_trySuspect_14 : decode cL_trySuspect 14 = .ok (.ireturn, 1) := by decide +kernel
theorem dL_tryKeep_0 : decode cL_tryKeep 0 = .ok (.aload_n 0, 1) := by decide +kernel
theorem dL_tryKeep_1 : decode cL_tryKeep 1 = .ok (.iload_n 1, 1) := by decide +kernel
theorem dL_tryKeep_2 : decode cL_tryKeep 2 = .ok (.invokevirtual 95, 3) := by decide +kernel
theorem dL_tryKeep_5 : decode cL_tryKeep 5 = .ok (.ireturn, 1) := by decide +kernel
theorem dL_tryKeep_6 : decode cL_tryKeep 6 = .ok (.astore_n 2, 1) := by decide +kernel
theorem dL_tryKeep_7 : decode cL_tryKeep 7 = .ok (.ldc 15, 2) := by decide +kernel
theorem dL_tryKeep_9 : decode cL_tryKeep 9 = .ok (.ireturn, 1) := by decide +kernel
theorem dL_tryBack_0 : decode cL_tryBack 0 = .ok (.aload_n 0, 1) := by decide +kernel
theorem dL_tryBack_1 : decode cL_tryBack 1 = .ok (.iload_n 1, 1) := by decide +kernel
theorem dL_tryBack_2 : decode cL_tryBack 2 = .ok (.invokevirtual 98, 3) := by decide +kernel
theorem dL_tryBack_5 : decode cL_tryBack 5 = .ok (.ireturn, 1) := by decide +kernel
theorem dL_tryBack_6 : decode cL_tryBack 6 = .ok (.astore_n 2, 1) := by decide +kernel
theorem dL_tryBack_7 : decode cL_tryBack 7 = .ok (.ldc 15, 2) := by decide +kernel
theorem dL_tryBack_9 : decode cL_tryBack 9 = .ok (.ireturn, 1) := by decide +kernel
theorem dL_tryBack_10 : decode cL_tryBack 10 = .ok (.astore_n 2, 1) := by decide +kernel
theorem dL_tryBack_11 : decode cL_tryBack 11 = .ok (.ldc 21, 2) := by decide +kernel
theorem dL_tryBack_13 : decode cL_tryBack 13 = .ok (.ireturn, 1) := by decide +kernel
theorem dL_call_0 : decode cL_call 0 = .ok (.iload_n 1, 1) := by decide +kernel
theorem dL_call_1 : decode cL_call 1 = .ok (.tableswitch 230 0 19 #[95, 101, 106, 112, 119, 126, 135, 142, 148, 155, 161, 168, 175, 182, 188, 193, 199, 208, 217, 224], 95) := by decide +kernel
theorem dL_call_96 : decode cL_call 96 = .ok (.aload_n 0, 1) := by decide +kernel
theorem dL_call_97 : decode cL_call 97 = .ok (.iload_n 2, 1) := by decide +kernel
theorem dL_call_98 : decode cL_call 98 = .ok (.invokestatic 101, 3) := by decide +kernel
theorem dL_call_101 : decode cL_call 101 = .ok (.ireturn, 1) := by decide +kernel
theorem dL_call_102 : decode cL_call 102 = .ok (.aload_n 0, 1) := by decide +kernel
theorem dL_call_103 : decode cL_call 103 = .ok (.invokestatic 107, 3) := by decide +kernel
theorem dL_call_106 : decode cL_call 106 = .ok (.ireturn, 1) := by decide +kernel
theorem dL_call_107 : decode cL_call 107 = .ok (.aload_n 0, 1) := by decide +kernel
theorem dL_call_108 : decode cL_call 108 = .ok (.iload_n 2, 1) := by decide +kernel
theorem dL_call_109 : decode cL_call 109 = .ok (.invokestatic 111, 3) := by decide +kernel
theorem dL_call_112 : decode cL_call 112 = .ok (.ireturn, 1) := by decide +kernel
theorem dL_call_113 : decode cL_call 113 = .ok (.aload_n 0, 1) := by decide +kernel
theorem dL_call_114 : decode cL_call 114 = .ok (.iload_n 2, 1) := by decide +kernel
theorem dL_call_115 : decode cL_call 115 = .ok (.iload_n 3, 1) := by decide +kernel
theorem dL_call_116 : decode cL_call 116 = .ok (.invokestatic 114, 3) := by decide +kernel
theorem dL_call_119 : decode cL_call 119 = .ok (.ireturn, 1) := by decide +kernel
theorem dL_call_120 : decode cL_call 120 = .ok (.aload_n 0, 1) := by decide +kernel
theorem dL_call_121 : decode cL_call 121 = .ok (.iload_n 2, 1) := by decide +kernel
theorem dL_call_122 : decode cL_call 122 = .ok (.iload_n 3, 1) := by decide +kernel
theorem dL_call_123 : decode cL_call 123 = .ok (.invokestatic 118, 3) := by decide +kernel
theorem dL_call_126 : decode cL_call 126 = .ok (.ireturn, 1) := by decide +kernel
theorem dL_call_127 : decode cL_call 127 = .ok (.aload_n 0, 1) := by decide +kernel
theorem dL_call_128 : decode cL_call 128 = .ok (.iload_n 2, 1) := by decide +kernel
theorem dL_call_129 : decode cL_call 129 = .ok (.iload_n 3, 1) := by decide +kernel
theorem dL_call_130 : decode cL_call 130 = .ok (.iload 4, 2) := by decide +kernel
theorem dL_call_132 : decode cL_call 132 = .ok (.invokestatic 121, 3) := by decide +kernel
theorem dL_call_135 : decode cL_call 135 = .ok (.ireturn, 1) := by decide +kernel
theorem dL_call_136 : decode cL_call 136 = .ok (.aload_n 0, 1) := by decide +kernel
theorem dL_call_137 : decode cL_call 137 = .ok (.iload_n 2, 1) := by decide +kernel
theorem dL_call_138 : decode cL_call 138 = .ok (.iload_n 3, 1) := by decide +kernel
theorem dL_call_139 : decode cL_call 139 = .ok (.invokestatic 125, 3) := by decide +kernel
theorem dL_call_142 : decode cL_call 142 = .ok (.ireturn, 1) := by decide +kernel
theorem dL_call_143 : decode cL_call 143 = .ok (.aload_n 0, 1) := by decide +kernel
theorem dL_call_144 : decode cL_call 144 = .ok (.iload_n 2, 1) := by decide +kernel
theorem dL_call_145 : decode cL_call 145 = .ok (.invokestatic 128, 3) := by decide +kernel
theorem dL_call_148 : decode cL_call 148 = .ok (.ireturn, 1) := by decide +kernel
theorem dL_call_149 : decode cL_call 149 = .ok (.aload_n 0, 1) := by decide +kernel
theorem dL_call_150 : decode cL_call 150 = .ok (.iload_n 2, 1) := by decide +kernel
theorem dL_call_151 : decode cL_call 151 = .ok (.iload_n 3, 1) := by decide +kernel
theorem dL_call_152 : decode cL_call 152 = .ok (.invokestatic 131, 3) := by decide +kernel
theorem dL_call_155 : decode cL_call 155 = .ok (.ireturn, 1) := by decide +kernel
theorem dL_call_156 : decode cL_call 156 = .ok (.aload_n 0, 1) := by decide +kernel
theorem dL_call_157 : decode cL_call 157 = .ok (.iload_n 2, 1) := by decide +kernel
theorem dL_call_158 : decode cL_call 158 = .ok (.invokestatic 134, 3) := by decide +kernel
theorem dL_call_161 : decode cL_call 161 = .ok (.ireturn, 1) := by decide +kernel
theorem dL_call_162 : decode cL_call 162 = .ok (.aload_n 0, 1) := by decide +kernel
theorem dL_call_163 : decode cL_call 163 = .ok (.iload_n 2, 1) := by decide +kernel
theorem dL_call_164 : decode cL_call 164 = .ok (.iload_n 3, 1) := by decide +kernel
theorem dL_call_165 : decode cL_call 165 = .ok (.invokestatic 137, 3) := by decide +kernel
theorem dL_call_168 : decode cL_call 168 = .ok (.ireturn, 1) := by decide +kernel
theorem dL_call_169 : decode cL_call 169 = .ok (.aload_n 0, 1) := by decide +kernel
theorem dL_call_170 : decode cL_call 170 = .ok (.iload_n 2, 1) := by decide +kernel
theorem dL_call_171 : decode cL_call 171 = .ok (.iload_n 3, 1) := by decide +kernel
theorem dL_call_172 : decode cL_call 172 = .ok (.invokestatic 140, 3) := by decide +kernel
theorem dL_call_175 : decode cL_call 175 = .ok (.ireturn, 1) := by decide +kernel
theorem dL_call_176 : decode cL_call 176 = .ok (.aload_n 0, 1) := by decide +kernel
theorem dL_call_177 : decode cL_call 177 = .ok (.iload_n 2, 1) := by decide +kernel
theorem dL_call_178 : decode cL_call 178 = .ok (.iload_n 3, 1) := by decide +kernel
theorem dL_call_179 : decode cL_call 179 = .ok (.invokestatic 143, 3) := by decide +kernel
theorem dL_call_182 : decode cL_call 182 = .ok (.ireturn, 1) := by decide +kernel
theorem dL_call_183 : decode cL_call 183 = .ok (.aload_n 0, 1) := by decide +kernel
theorem dL_call_184 : decode cL_call 184 = .ok (.iload_n 2, 1) := by decide +kernel
theorem dL_call_185 : decode cL_call 185 = .ok (.invokestatic 146, 3) := by decide +kernel
theorem dL_call_188 : decode cL_call 188 = .ok (.ireturn, 1) := by decide +kernel
theorem dL_call_189 : decode cL_call 189 = .ok (.aload_n 0, 1) := by decide +kernel
theorem dL_call_190 : decode cL_call 190 = .ok (.invokestatic 149, 3) := by decide +kernel
theorem dL_call_193 : decode cL_call 193 = .ok (.ireturn, 1) := by decide +kernel
theorem dL_call_194 : decode cL_call 194 = .ok (.aload_n 0, 1) := by decide +kernel
theorem dL_call_195 : decode cL_call 195 = .ok (.iload_n 2, 1) := by decide +kernel
theorem dL_call_196 : decode cL_call 196 = .ok (.invokestatic 152, 3) := by decide +kernel
theorem dL_call_199 : decode cL_call 199 = .ok (.ireturn, 1) := by decide +kernel
theorem dL_call_200 : decode cL_call 200 = .ok (.aload_n 0, 1) := by decide +kernel
theorem dL_call_201 : decode cL_call 201 = .ok (.iload_n 2, 1) := by decide +kernel
theorem dL_call_202 : decode cL_call 202 = .ok (.iload_n 3, 1) := by decide +kernel
theorem dL_call_203 : decode cL_call 203 = .ok (.iload 4, 2) := by decide +kernel
theorem dL_call_205 : decode cL_call 205 = .ok (.invokestatic 155, 3) := by decide +kernel
theorem dL_call_208 : decode cL_call 208 = .ok (.ireturn, 1) := by decide +kernel
theorem dL_call_209 : decode cL_call 209 = .ok (.aload_n 0, 1) := by decide +kernel
theorem dL_call_210 : decode cL_call 210 = .ok (.iload_n 2, 1) := by decide +kernel
theorem dL_call_211 : decode cL_call 211 = .ok (.iload_n 3, 1) := by decide +kernel
theorem dL_call_212 : decode cL_call 212 = .ok (.iload 4, 2) := by decide +kernel
theorem dL_call_214 : decode cL_call 214 = .ok (.invokestatic 158, 3) := by decide +kernel
theorem dL_call_217 : decode cL_call 217 = .ok (.ireturn, 1) := by decide +kernel
theorem dL_call_218 : decode cL_call 218 = .ok (.aload_n 0, 1) := by decide +kernel
theorem dL_call_219 : decode cL_call 219 = .ok (.iload_n 2, 1) := by decide +kernel
theorem dL_call_220 : decode cL_call 220 = .ok (.iload_n 3, 1) := by decide +kernel
theorem dL_call_221 : decode cL_call 221 = .ok (.invokestatic 161, 3) := by decide +kernel
theorem dL_call_224 : decode cL_call 224 = .ok (.ireturn, 1) := by decide +kernel
theorem dL_call_225 : decode cL_call 225 = .ok (.aload_n 0, 1) := by decide +kernel
theorem dL_call_226 : decode cL_call 226 = .ok (.iload_n 2, 1) := by decide +kernel
theorem dL_call_227 : decode cL_call 227 = .ok (.invokestatic 164, 3) := by decide +kernel
theorem dL_call_230 : decode cL_call 230 = .ok (.ireturn, 1) := by decide +kernel
theorem dL_call_231 : decode cL_call 231 = .ok (.aload_n 0, 1) := by decide +kernel
theorem dL_call_232 : decode cL_call 232 = .ok (.iload_n 2, 1) := by decide +kernel
theorem dL_call_233 : decode cL_call 233 = .ok (.invokestatic 167, 3) := by decide +kernel
theorem dL_call_236 : decode cL_call 236 = .ok (.ireturn, 1) := by decide +kernel
theorem dL_cell_0 : decode cL_cell 0 = .ok (.iload_n 1, 1) := by decide +kernel
theorem dL_cell_1 : decode cL_cell 1 = .ok (.aload_n 0, 1) := by decide +kernel
theorem dL_cell_2 : decode cL_cell 2 = .ok (.arraylength, 1) := by decide +kernel
theorem dL_cell_3 : decode cL_cell 3 = .ok (.if_icmp .ge 9, 3) := by decide +kernel
theorem dL_cell_6 : decode cL_cell 6 = .ok (.aload_n 0, 1) := by decide +kernel
theorem dL_cell_7 : decode cL_cell 7 = .ok (.iload_n 1, 1) := by decide +kernel
theorem dL_cell_8 : decode cL_cell 8 = .ok (.iaload, 1) := by decide +kernel
theorem dL_cell_9 : decode cL_cell 9 = .ok (.goto 13, 3) := by decide +kernel
theorem dL_cell_12 : decode cL_cell 12 = .ok (.ldc 170, 2) := by decide +kernel
theorem dL_cell_14 : decode cL_cell 14 = .ok (.iload_n 1, 1) := by decide +kernel
theorem dL_cell_15 : decode cL_cell 15 = .ok (.iconst 3, 1) := by decide +kernel
theorem dL_cell_16 : decode cL_cell 16 = .ok (.iadd, 1) := by decide +kernel
theorem dL_cell_17 : decode cL_cell 17 = .ok (.imul, 1) := by decide +kernel
theorem dL_cell_18 : decode cL_cell 18 = .ok (.sipush 11743, 3) := by decide +kernel
theorem dL_cell_21 : decode cL_cell 21 = .ok (.iadd, 1) := by decide +kernel
theorem dL_cell_22 : decode cL_cell 22 = .ok (.ldc 171, 2) := by decide +kernel
theorem dL_cell_24 : decode cL_cell 24 = .ok (.iand, 1) := by decide +kernel
theorem dL_cell_25 : decode cL_cell 25 = .ok (.ireturn, 1) := by decide +kernel
theorem dL_thrown_0 : decode cL_thrown 0 = .ok (.iload_n 0, 1) := by decide +kernel
theorem dL_thrown_1 : decode cL_thrown 1 = .ok (.ldc 15, 2) := by decide +kernel
theorem dL_thrown_3 : decode cL_thrown 3 = .ok (.if_icmp .eq 15, 3) := by decide +kernel
theorem dL_thrown_6 : decode cL_thrown 6 = .ok (.iload_n 0, 1) := by decide +kernel
theorem dL_thrown_7 : decode cL_thrown 7 = .ok (.ldc 18, 2) := by decide +kernel
theorem dL_thrown_9 : decode cL_thrown 9 = .ok (.if_icmp .eq 9, 3) := by decide +kernel
theorem dL_thrown_12 : decode cL_thrown 12 = .ok (.iload_n 0, 1) := by decide +kernel
theorem dL_thrown_13 : decode cL_thrown 13 = .ok (.ldc 21, 2) := by decide +kernel
theorem dL_thrown_15 : decode cL_thrown 15 = .ok (.if_icmp .ne 7, 3) := by decide +kernel
theorem dL_thrown_18 : decode cL_thrown 18 = .ok (.iconst 1, 1) := by decide +kernel
theorem dL_thrown_19 : decode cL_thrown 19 = .ok (.goto 4, 3) := by decide +kernel
theorem dL_thrown_22 : decode cL_thrown 22 = .ok (.iconst 0, 1) := by decide +kernel
theorem dL_thrown_23 : decode cL_thrown 23 = .ok (.ireturn, 1) := by decide +kernel
theorem dL_refuses_0 : decode cL_refuses 0 = .ok (.aload_n 0, 1) := by decide +kernel
theorem dL_refuses_1 : decode cL_refuses 1 = .ok (.iconst 2, 1) := by decide +kernel
theorem dL_refuses_2 : decode cL_refuses 2 = .ok (.iconst 0, 1) := by decide +kernel
theorem dL_refuses_3 : decode cL_refuses 3 = .ok (.iconst 0, 1) := by decide +kernel
theorem dL_refuses_4 : decode cL_refuses 4 = .ok (.iconst 0, 1) := by decide +kernel
theorem dL_refuses_5 : decode cL_refuses 5 = .ok (.invokestatic 172, 3) := by decide +kernel
theorem dL_refuses_8 : decode cL_refuses 8 = .ok (.istore_n 2, 1) := by decide +kernel
theorem dL_refuses_9 : decode cL_refuses 9 = .ok (.aload_n 0, 1) := by decide +kernel
theorem dL_refuses_10 : decode cL_refuses 10 = .ok (.iconst 2, 1) := by decide +kernel
theorem dL_refuses_11 : decode cL_refuses 11 = .ok (.iconst 1, 1) := by decide +kernel
theorem dL_refuses_12 : decode cL_refuses 12 = .ok (.iconst 0, 1) := by decide +kernel
theorem dL_refuses_13 : decode cL_refuses 13 = .ok (.iconst 0, 1) := by decide +kernel
theorem dL_refuses_14 : decode cL_refuses 14 = .ok (.invokestatic 172, 3) := by decide +kernel
theorem dL_refuses_17 : decode cL_refuses 17 = .ok (.istore_n 3, 1) := by decide +kernel
theorem dL_refuses_18 : decode cL_refuses 18 = .ok (.iload_n 1, 1) := by decide +kernel
theorem dL_refuses_19 : decode cL_refuses 19 = .ok (.iconst 2, 1) := by decide +kernel
theorem dL_refuses_20 : decode cL_refuses 20 = .ok (.irem, 1) := by decide +kernel
theorem dL_refuses_21 : decode cL_refuses 21 = .ok (.ifCond .ne 12, 3) := by decide +kernel
theorem dL_refuses_24 : decode cL_refuses 24 = .ok (.iconst (-1), 1) := by decide +kernel
theorem dL_refuses_25 : decode cL_refuses 25 = .ok (.iload_n 1, 1) := by decide +kernel
theorem dL_refuses_26 : decode cL_refuses 26 = .ok (.bipush 99, 2) := by decide +kernel
theorem dL_refuses_28 : decode cL_refuses 28 = .ok (.irem, 1) := by decide +kernel
theorem dL_refuses_29 : decode cL_refuses 29 = .ok (.isub, 1) := by decide +kernel
theorem dL_refuses_30 : decode cL_refuses 30 = .ok (.goto 9, 3) := by decide +kernel
theorem dL_refuses_33 : decode cL_refuses 33 = .ok (.iload_n 2, 1) := by decide +kernel
theorem dL_refuses_34 : decode cL_refuses 34 = .ok (.iload_n 1, 1) := by decide +kernel
theorem dL_refuses_35 : decode cL_refuses 35 = .ok (.bipush 99, 2) := by decide +kernel
theorem dL_refuses_37 : decode cL_refuses 37 = .ok (.irem, 1) := by decide +kernel
theorem dL_refuses_38 : decode cL_refuses 38 = .ok (.iadd, 1) := by decide +kernel
theorem dL_refuses_39 : decode cL_refuses 39 = .ok (.istore 4, 2) := by decide +kernel
theorem dL_refuses_41 : decode cL_refuses 41 = .ok (.iload_n 1, 1) := by decide +kernel
theorem dL_refuses_42 : decode cL_refuses 42 = .ok (.iconst 2, 1) := by decide +kernel
theorem dL_refuses_43 : decode cL_refuses 43 = .ok (.irem, 1) := by decide +kernel
theorem dL_refuses_44 : decode cL_refuses 44 = .ok (.ifCond .ne 12, 3) := by decide +kernel
theorem dL_refuses_47 : decode cL_refuses 47 = .ok (.iconst (-1), 1) := by decide +kernel
theorem dL_refuses_48 : decode cL_refuses 48 = .ok (.iload_n 1, 1) := by decide +kernel
theorem dL_refuses_49 : decode cL_refuses 49 = .ok (.bipush 99, 2) := by decide +kernel
theorem dL_refuses_51 : decode cL_refuses 51 = .ok (.irem, 1) := by decide +kernel
theorem dL_refuses_52 : decode cL_refuses 52 = .ok (.isub, 1) := by decide +kernel
theorem dL_refuses_53 : decode cL_refuses 53 = .ok (.goto 9, 3) := by decide +kernel
theorem dL_refuses_56 : decode cL_refuses 56 = .ok (.iload_n 3, 1) := by decide +kernel
theorem dL_refuses_57 : decode cL_refuses 57 = .ok (.iload_n 1, 1) := by decide +kernel
theorem dL_refuses_58 : decode cL_refuses 58 = .ok (.bipush 99, 2) := by decide +kernel
theorem dL_refuses_60 : decode cL_refuses 60 = .ok (.irem, 1) := by decide +kernel
theorem dL_refuses_61 : decode cL_refuses 61 = .ok (.iadd, 1) := by decide +kernel
theorem dL_refuses_62 : decode cL_refuses 62 = .ok (.istore 5, 2) := by decide +kernel
theorem dL_refuses_64 : decode cL_refuses 64 = .ok (.iload_n 1, 1) := by decide +kernel
theorem dL_refuses_65 : decode cL_refuses 65 = .ok (.iconst 2, 1) := by decide +kernel
theorem dL_refuses_66 : decode cL_refuses 66 = .ok (.irem, 1) := by decide +kernel
theorem dL_refuses_67 : decode cL_refuses 67 = .ok (.ifCond .ne 12, 3) := by decide +kernel
theorem dL_refuses_70 : decode cL_refuses 70 = .ok (.iconst (-1), 1) := by decide +kernel
theorem dL_refuses_71 : decode cL_refuses 71 = .ok (.iload_n 1, 1) := by decide +kernel
theorem dL_refuses_72 : decode cL_refuses 72 = .ok (.bipush 9, 2) := by decide +kernel
theorem dL_refuses_74 : decode cL_refuses 74 = .ok (.irem, 1) := by decide +kernel
theorem dL_refuses_75 : decode cL_refuses 75 = .ok (.isub, 1) := by decide +kernel
theorem dL_refuses_76 : decode cL_refuses 76 = .ok (.goto 9, 3) := by decide +kernel
theorem dL_refuses_79 : decode cL_refuses 79 = .ok (.iconst 2, 1) := by decide +kernel
theorem dL_refuses_80 : decode cL_refuses 80 = .ok (.iload_n 1, 1) := by decide +kernel
theorem dL_refuses_81 : decode cL_refuses 81 = .ok (.bipush 9, 2) := by decide +kernel
theorem dL_refuses_83 : decode cL_refuses 83 = .ok (.irem, 1) := by decide +kernel
theorem dL_refuses_84 : decode cL_refuses 84 = .ok (.iadd, 1) := by decide +kernel
theorem dL_refuses_85 : decode cL_refuses 85 = .ok (.istore 6, 2) := by decide +kernel
theorem dL_refuses_87 : decode cL_refuses 87 = .ok (.aload_n 0, 1) := by decide +kernel
theorem dL_refuses_88 : decode cL_refuses 88 = .ok (.iconst 0, 1) := by decide +kernel
theorem dL_refuses_89 : decode cL_refuses 89 = .ok (.iload_n 1, 1) := by decide +kernel
theorem dL_refuses_90 : decode cL_refuses 90 = .ok (.iconst 2, 1) := by decide +kernel
theorem dL_refuses_91 : decode cL_refuses 91 = .ok (.irem, 1) := by decide +kernel
theorem dL_refuses_92 : decode cL_refuses 92 = .ok (.ifCond .ne 12, 3) := by decide +kernel
theorem dL_refuses_95 : decode cL_refuses 95 = .ok (.iconst (-1), 1) := by decide +kernel
theorem dL_refuses_96 : decode cL_refuses 96 = .ok (.iload_n 1, 1) := by decide +kernel
theorem dL_refuses_97 : decode cL_refuses 97 = .ok (.bipush 9, 2) := by decide +kernel
theorem dL_refuses_99 : decode cL_refuses 99 = .ok (.irem, 1) := by decide +kernel
theorem dL_refuses_100 : decode cL_refuses 100 = .ok (.isub, 1) := by decide +kernel
theorem dL_refuses_101 : decode cL_refuses 101 = .ok (.goto 11, 3) := by decide +kernel
theorem dL_refuses_104 : decode cL_refuses 104 = .ok (.sipush 256, 3) := by decide +kernel
theorem dL_refuses_107 : decode cL_refuses 107 = .ok (.iload_n 1, 1) := by decide +kernel
theorem dL_refuses_108 : decode cL_refuses 108 = .ok (.bipush 9, 2) := by decide +kernel
theorem dL_refuses_110 : decode cL_refuses 110 = .ok (.irem, 1) := by decide +kernel
theorem dL_refuses_111 : decode cL_refuses 111 = .ok (.iadd, 1) := by decide +kernel
theorem dL_refuses_112 : decode cL_refuses 112 = .ok (.iconst 0, 1) := by decide +kernel
theorem dL_refuses_113 : decode cL_refuses 113 = .ok (.iconst 0, 1) := by decide +kernel
theorem dL_refuses_114 : decode cL_refuses 114 = .ok (.invokestatic 172, 3) := by decide +kernel
theorem dL_refuses_117 : decode cL_refuses 117 = .ok (.ldc 18, 2) := by decide +kernel
theorem dL_refuses_119 : decode cL_refuses 119 = .ok (.if_icmp .ne 597, 3) := by decide +kernel
theorem dL_refuses_122 : decode cL_refuses 122 = .ok (.aload_n 0, 1) := by decide +kernel
theorem dL_refuses_123 : decode cL_refuses 123 = .ok (.iconst 2, 1) := by decide +kernel
theorem dL_refuses_124 : decode cL_refuses 124 = .ok (.bipush 7, 2) := by decide +kernel
theorem dL_refuses_126 : decode cL_refuses 126 = .ok (.iload_n 1, 1) := by decide +kernel
theorem dL_refuses_127 : decode cL_refuses 127 = .ok (.bipush 50, 2) := by decide +kernel
theorem dL_refuses_129 : decode cL_refuses 129 = .ok (.irem, 1) := by decide +kernel
theorem dL_refuses_130 : decode cL_refuses 130 = .ok (.iadd, 1) := by decide +kernel
theorem dL_refuses_131 : decode cL_refuses 131 = .ok (.iconst 0, 1) := by decide +kernel
theorem dL_refuses_132 : decode cL_refuses 132 = .ok (.iconst 0, 1) := by decide +kernel
theorem dL_refuses_133 : decode cL_refuses 133 = .ok (.invokestatic 172, 3) := by decide +kernel
theorem dL_refuses_136 : decode cL_refuses 136 = .ok (.ldc 18, 2) := by decide +kernel
theorem dL_refuses_138 : decode cL_refuses 138 = .ok (.if_icmp .ne 578, 3) := by decide +kernel
theorem dL_refuses_141 : decode cL_refuses 141 = .ok (.aload_n 0, 1) := by decide +kernel
theorem dL_refuses_142 : decode cL_refuses 142 = .ok (.iconst 3, 1) := by decide +kernel
theorem dL_refuses_143 : decode cL_refuses 143 = .ok (.iload 4, 2) := by decide +kernel
theorem dL_refuses_145 : decode cL_refuses 145 = .ok (.bipush 99, 2) := by decide +kernel
theorem dL_refuses_147 : decode cL_refuses 147 = .ok (.iconst 0, 1) := by decide +kernel
theorem dL_refuses_148 : decode cL_refuses 148 = .ok (.invokestatic 172, 3) := by decide +kernel
theorem dL_refuses_151 : decode cL_refuses 151 = .ok (.ldc 15, 2) := by decide +kernel
theorem dL_refuses_153 : decode cL_refuses 153 = .ok (.if_icmp .ne 563, 3) := by decide +kernel
theorem dL_refuses_156 : decode cL_refuses 156 = .ok (.aload_n 0, 1) := by decide +kernel
theorem dL_refuses_157 : decode cL_refuses 157 = .ok (.iconst 4, 1) := by decide +kernel
theorem dL_refuses_158 : decode cL_refuses 158 = .ok (.iload 4, 2) := by decide +kernel
theorem dL_refuses_160 : decode cL_refuses 160 = .ok (.iconst 0, 1) := by decide +kernel
theorem dL_refuses_161 : decode cL_refuses 161 = .ok (.iconst 0, 1) := by decide +kernel
theorem dL_refuses_162 : decode cL_refuses 162 = .ok (.invokestatic 172, 3) := by decide +kernel
theorem dL_refuses_165 : decode cL_refuses 165 = .ok (.ldc 15, 2) := by decide +kernel
theorem dL_refuses_167 : decode cL_refuses 167 = .ok (.if_icmp .ne 549, 3) := by decide +kernel
theorem dL_refuses_170 : decode cL_refuses 170 = .ok (.aload_n 0, 1) := by decide +kernel
theorem dL_refuses_171 : decode cL_refuses 171 = .ok (.iconst 4, 1) := by decide +kernel
theorem dL_refuses_172 : decode cL_refuses 172 = .ok (.iconst 0, 1) := by decide +kernel
theorem dL_refuses_173 : decode cL_refuses 173 = .ok (.iload 6, 2) := by decide +kernel
theorem dL_refuses_175 : decode cL_refuses 175 = .ok (.iconst 0, 1) := by decide +kernel
theorem dL_refuses_176 : decode cL_refuses 176 = .ok (.invokestatic 172, 3) := by decide +kernel
theorem dL_refuses_179 : decode cL_refuses 179 = .ok (.ldc 15, 2) := by decide +kernel
theorem dL_refuses_181 : decode cL_refuses 181 = .ok (.if_icmp .ne 535, 3) := by decide +kernel
theorem dL_refuses_184 : decode cL_refuses 184 = .ok (.aload_n 0, 1) := by decide +kernel
theorem dL_refuses_185 : decode cL_refuses 185 = .ok (.iconst 5, 1) := by decide +kernel
theorem dL_refuses_186 : decode cL_refuses 186 = .ok (.iload 4, 2) := by decide +kernel
theorem dL_refuses_188 : decode cL_refuses 188 = .ok (.iconst 0, 1) := by decide +kernel
theorem dL_refuses_189 : decode cL_refuses 189 = .ok (.bipush 9, 2) := by decide +kernel
theorem dL_refuses_191 : decode cL_refuses 191 = .ok (.invokestatic 172, 3) := by decide +kernel
theorem dL_refuses_194 : decode cL_refuses 194 = .ok (.ldc 15, 2) := by decide +kernel
theorem dL_refuses_196 : decode cL_refuses 196 = .ok (.if_icmp .ne 520, 3) := by decide +kernel
theorem dL_refuses_199 : decode cL_refuses 199 = .ok (.aload_n 0, 1) := by decide +kernel
theorem dL_refuses_200 : decode cL_refuses 200 = .ok (.iconst 5, 1) := by decide +kernel
theorem dL_refuses_201 : decode cL_refuses 201 = .ok (.iconst 0, 1) := by decide +kernel
theorem dL_refuses_202 : decode cL_refuses 202 = .ok (.iload 6, 2) := by decide +kernel
theorem dL_refuses_204 : decode cL_refuses 204 = .ok (.bipush 9, 2) := by decide +kernel
theorem dL_refuses_206 : decode cL_refuses 206 = .ok (.invokestatic 172, 3) := by decide +kernel
theorem dL_refuses_209 : decode cL_refuses 209 = .ok (.ldc 15, 2) := by decide +kernel
theorem dL_refuses_211 : decode cL_refuses 211 = .ok (.if_icmp .ne 505, 3) := by decide +kernel
theorem dL_refuses_214 : decode cL_refuses 214 = .ok (.aload_n 0, 1) := by decide +kernel
theorem dL_refuses_215 : decode cL_refuses 215 = .ok (.bipush 6, 2) := by decide +kernel
theorem dL_refuses_217 : decode cL_refuses 217 = .ok (.iload 5, 2) := by decide +kernel
theorem dL_refuses_219 : decode cL_refuses 219 = .ok (.bipush 99, 2) := by decide +kernel
theorem dL_refuses_221 : decode cL_refuses 221 = .ok (.iconst 0, 1) := by decide +kernel
theorem dL_refuses_222 : decode cL_refuses 222 = .ok (.invokestatic 172, 3) := by decide +kernel
theorem dL_refuses_225 : decode cL_refuses 225 = .ok (.ldc 15, 2) := by decide +kernel
theorem dL_refuses_227 : decode cL_refuses 227 = .ok (.if_icmp .ne 489, 3) := by decide +kernel
theorem dL_refuses_230 : decode cL_refuses 230 = .ok (.aload_n 0, 1) := by decide +kernel
theorem dL_refuses_231 : decode cL_refuses 231 = .ok (.bipush 7, 2) := by decide +kernel
theorem dL_refuses_233 : decode cL_refuses 233 = .ok (.iconst 2, 1) := by decide +kernel
theorem dL_refuses_234 : decode cL_refuses 234 = .ok (.iload_n 1, 1) := by decide +kernel
theorem dL_refuses_235 : decode cL_refuses 235 = .ok (.bipush 9, 2) := by decide +kernel
theorem dL_refuses_237 : decode cL_refuses 237 = .ok (.irem, 1) := by decide +kernel
theorem dL_refuses_238 : decode cL_refuses 238 = .ok (.iadd, 1) := by decide +kernel
theorem dL_refuses_239 : decode cL_refuses 239 = .ok (.iconst 0, 1) := by decide +kernel
theorem dL_refuses_240 : decode cL_refuses 240 = .ok (.iconst 0, 1) := by decide +kernel
theorem dL_refuses_241 : decode cL_refuses 241 = .ok (.invokestatic 172, 3) := by decide +kernel
theorem dL_refuses_244 : decode cL_refuses 244 = .ok (.ldc 18, 2) := by decide +kernel
theorem dL_refuses_246 : decode cL_refuses 246 = .ok (.if_icmp .ne 470, 3) := by decide +kernel
theorem dL_refuses_249 : decode cL_refuses 249 = .ok (.aload_n 0, 1) := by decide +kernel
theorem dL_refuses_250 : decode cL_refuses 250 = .ok (.bipush 8, 2) := by decide +kernel
theorem dL_refuses_252 : decode cL_refuses 252 = .ok (.iload_n 1, 1) := by decide +kernel
theorem dL_refuses_253 : decode cL_refuses 253 = .ok (.iconst 2, 1) := by decide +kernel
theorem dL_refuses_254 : decode cL_refuses 254 = .ok (.irem, 1) := by decide +kernel
theorem dL_refuses_255 : decode cL_refuses 255 = .ok (.ifCond .ne 7, 3) := by decide +kernel
theorem dL_refuses_258 : decode cL_refuses 258 = .ok (.iconst (-1), 1) := by decide +kernel
theorem dL_refuses_259 : decode cL_refuses 259 = .ok (.goto 9, 3) := by decide +kernel
theorem dL_refuses_262 : decode cL_refuses 262 = .ok (.iconst 5, 1) := by decide +kernel
theorem dL_refuses_263 : decode cL_refuses 263 = .ok (.iload_n 1, 1) := by decide +kernel
theorem dL_refuses_264 : decode cL_refuses 264 = .ok (.bipush 9, 2) := by decide +kernel
theorem dL_refuses_266 : decode cL_refuses 266 = .ok (.irem, 1) := by decide +kernel
theorem dL_refuses_267 : decode cL_refuses 267 = .ok (.iadd, 1) := by decide +kernel
theorem dL_refuses_268 : decode cL_refuses 268 = .ok (.bipush 50, 2) := by decide +kernel
theorem dL_refuses_270 : decode cL_refuses 270 = .ok (.iconst 0, 1) := by decide +kernel
theorem dL_refuses_271 : decode cL_refuses 271 = .ok (.invokestatic 172, 3) := by decide +kernel
theorem dL_refuses_274 : decode cL_refuses 274 = .ok (.ldc 18, 2) := by decide +kernel
theorem dL_refuses_276 : decode cL_refuses 276 = .ok (.if_icmp .ne 440, 3) := by decide +kernel
theorem dL_refuses_279 : decode cL_refuses 279 = .ok (.aload_n 0, 1) := by decide +kernel
theorem dL_refuses_280 : decode cL_refuses 280 = .ok (.bipush 8, 2) := by decide +kernel
theorem dL_refuses_282 : decode cL_refuses 282 = .ok (.iconst 0, 1) := by decide +kernel
theorem dL_refuses_283 : decode cL_refuses 283 = .ok (.iload_n 1, 1) := by decide +kernel
theorem dL_refuses_284 : decode cL_refuses 284 = .ok (.iconst 2, 1) := by decide +kernel
theorem dL_refuses_285 : decode cL_refuses 285 = .ok (.irem, 1) := by decide +kernel
theorem dL_refuses_286 : decode cL_refuses 286 = .ok (.ifCond .ne 8, 3) := by decide +kernel
theorem dL_refuses_289 : decode cL_refuses 289 = .ok (.bipush 9, 2) := by decide +kernel
theorem dL_refuses_291 : decode cL_refuses 291 = .ok (.goto 10, 3) := by decide +kernel
theorem dL_refuses_294 : decode cL_refuses 294 = .ok (.bipush 100, 2) := by decide +kernel
theorem dL_refuses_296 : decode cL_refuses 296 = .ok (.iload_n 1, 1) := by decide +kernel
theorem dL_refuses_297 : decode cL_refuses 297 = .ok (.bipush 9, 2) := by decide +kernel
theorem dL_refuses_299 : decode cL_refuses 299 = .ok (.irem, 1) := by decide +kernel
theorem dL_refuses_300 : decode cL_refuses 300 = .ok (.iadd, 1) := by decide +kernel
theorem dL_refuses_301 : decode cL_refuses 301 = .ok (.iconst 0, 1) := by decide +kernel
theorem dL_refuses_302 : decode cL_refuses 302 = .ok (.invokestatic 172, 3) := by decide +kernel
theorem dL_refuses_305 : decode cL_refuses 305 = .ok (.ldc 18, 2) := by decide +kernel
theorem dL_refuses_307 : decode cL_refuses 307 = .ok (.if_icmp .ne 409, 3) := by decide +kernel
theorem dL_refuses_310 : decode cL_refuses 310 = .ok (.aload_n 0, 1) := by decide +kernel
theorem dL_refuses_311 : decode cL_refuses 311 = .ok (.iload 4, 2) := by decide +kernel
theorem dL_refuses_313 : decode cL_refuses 313 = .ok (.iconst 0, 1) := by decide +kernel
theorem dL_refuses_314 : decode cL_refuses 314 = .ok (.iconst 0, 1) := by decide +kernel
theorem dL_refuses_315 : decode cL_refuses 315 = .ok (.iconst 0, 1) := by decide +kernel
theorem dL_refuses_316 : decode cL_refuses 316 = .ok (.iconst 1, 1) := by decide +kernel
theorem dL_refuses_317 : decode cL_refuses 317 = .ok (.invokestatic 176, 3) := by decide +kernel
theorem dL_refuses_320 : decode cL_refuses 320 = .ok (.ldc 15, 2) := by decide +kernel
theorem dL_refuses_322 : decode cL_refuses 322 = .ok (.if_icmp .ne 394, 3) := by decide +kernel
theorem dL_refuses_325 : decode cL_refuses 325 = .ok (.aload_n 0, 1) := by decide +kernel
theorem dL_refuses_326 : decode cL_refuses 326 = .ok (.iconst 0, 1) := by decide +kernel
theorem dL_refuses_327 : decode cL_refuses 327 = .ok (.iload 6, 2) := by decide +kernel
theorem dL_refuses_329 : decode cL_refuses 329 = .ok (.iconst 0, 1) := by decide +kernel
theorem dL_refuses_330 : decode cL_refuses 330 = .ok (.iconst 0, 1) := by decide +kernel
theorem dL_refuses_331 : decode cL_refuses 331 = .ok (.bipush 9, 2) := by decide +kernel
theorem dL_refuses_333 : decode cL_refuses 333 = .ok (.invokestatic 176, 3) := by decide +kernel
theorem dL_refuses_336 : decode cL_refuses 336 = .ok (.ldc 15, 2) := by decide +kernel
theorem dL_refuses_338 : decode cL_refuses 338 = .ok (.if_icmp .ne 378, 3) := by decide +kernel
theorem dL_refuses_341 : decode cL_refuses 341 = .ok (.aload_n 0, 1) := by decide +kernel
theorem dL_refuses_342 : decode cL_refuses 342 = .ok (.iconst 0, 1) := by decide +kernel
theorem dL_refuses_343 : decode cL_refuses 343 = .ok (.iconst 0, 1) := by decide +kernel
theorem dL_refuses_344 : decode cL_refuses 344 = .ok (.iload 4, 2) := by decide +kernel
theorem dL_refuses_346 : decode cL_refuses 346 = .ok (.iconst 0, 1) := by decide +kernel
theorem dL_refuses_347 : decode cL_refuses 347 = .ok (.iconst 1, 1) := by decide +kernel
theorem dL_refuses_348 : decode cL_refuses 348 = .ok (.invokestatic 176, 3) := by decide +kernel
theorem dL_refuses_351 : decode cL_refuses 351 = .ok (.ldc 15, 2) := by decide +kernel
theorem dL_refuses_353 : decode cL_refuses 353 = .ok (.if_icmp .ne 363, 3) := by decide +kernel
theorem dL_refuses_356 : decode cL_refuses 356 = .ok (.aload_n 0, 1) := by decide +kernel
theorem dL_refuses_357 : decode cL_refuses 357 = .ok (.iconst 0, 1) := by decide +kernel
theorem dL_refuses_358 : decode cL_refuses 358 = .ok (.iconst 0, 1) := by decide +kernel
theorem dL_refuses_359 : decode cL_refuses 359 = .ok (.iconst 0, 1) := by decide +kernel
theorem dL_refuses_360 : decode cL_refuses 360 = .ok (.iload 6, 2) := by decide +kernel
theorem dL_refuses_362 : decode cL_refuses 362 = .ok (.iconst 1, 1) := by decide +kernel
theorem dL_refuses_363 : decode cL_refuses 363 = .ok (.invokestatic 176, 3) := by decide +kernel
theorem dL_refuses_366 : decode cL_refuses 366 = .ok (.ldc 15, 2) := by decide +kernel
theorem dL_refuses_368 : decode cL_refuses 368 = .ok (.if_icmp .ne 348, 3) := by decide +kernel
theorem dL_refuses_371 : decode cL_refuses 371 = .ok (.aload_n 0, 1) := by decide +kernel
theorem dL_refuses_372 : decode cL_refuses 372 = .ok (.bipush 9, 2) := by decide +kernel
theorem dL_refuses_374 : decode cL_refuses 374 = .ok (.iload 5, 2) := by decide +kernel
theorem dL_refuses_376 : decode cL_refuses 376 = .ok (.iconst 0, 1) := by decide +kernel
theorem dL_refuses_377 : decode cL_refuses 377 = .ok (.iconst 0, 1) := by decide +kernel
theorem dL_refuses_378 : decode cL_refuses 378 = .ok (.invokestatic 172, 3) := by decide +kernel
theorem dL_refuses_381 : decode cL_refuses 381 = .ok (.ldc 15, 2) := by decide +kernel
theorem dL_refuses_383 : decode cL_refuses 383 = .ok (.if_icmp .ne 333, 3) := by decide +kernel
theorem dL_refuses_386 : decode cL_refuses 386 = .ok (.aload_n 0, 1) := by decide +kernel
theorem dL_refuses_387 : decode cL_refuses 387 = .ok (.iload 4, 2) := by decide +kernel
theorem dL_refuses_389 : decode cL_refuses 389 = .ok (.iconst 1, 1) := by decide +kernel
theorem dL_refuses_390 : decode cL_refuses 390 = .ok (.invokestatic 180, 3) := by decide +kernel
theorem dL_refuses_393 : decode cL_refuses 393 = .ok (.ldc 15, 2) := by decide +kernel
theorem dL_refuses_395 : decode cL_refuses 395 = .ok (.if_icmp .ne 321, 3) := by decide +kernel
theorem dL_refuses_398 : decode cL_refuses 398 = .ok (.aload_n 0, 1) := by decide +kernel
theorem dL_refuses_399 : decode cL_refuses 399 = .ok (.bipush 10, 2) := by decide +kernel
theorem dL_refuses_401 : decode cL_refuses 401 = .ok (.iload 5, 2) := by decide +kernel
theorem dL_refuses_403 : decode cL_refuses 403 = .ok (.bipush 99, 2) := by decide +kernel
theorem dL_refuses_405 : decode cL_refuses 405 = .ok (.iconst 0, 1) := by decide +kernel
theorem dL_refuses_406 : decode cL_refuses 406 = .ok (.invokestatic 172, 3) := by decide +kernel
theorem dL_refuses_409 : decode cL_refuses 409 = .ok (.ldc 15, 2) := by decide +kernel
theorem dL_refuses_411 : decode cL_refuses 411 = .ok (.if_icmp .ne 305, 3) := by decide +kernel
theorem dL_refuses_414 : decode cL_refuses 414 = .ok (.aload_n 0, 1) := by decide +kernel
theorem dL_refuses_415 : decode cL_refuses 415 = .ok (.bipush 11, 2) := by decide +kernel
theorem dL_refuses_417 : decode cL_refuses 417 = .ok (.iload 4, 2) := by decide +kernel
theorem dL_refuses_419 : decode cL_refuses 419 = .ok (.iconst 0, 1) := by decide +kernel
theorem dL_refuses_420 : decode cL_refuses 420 = .ok (.iconst 0, 1) := by decide +kernel
theorem dL_refuses_421 : decode cL_refuses 421 = .ok (.invokestatic 172, 3) := by decide +kernel
theorem dL_refuses_424 : decode cL_refuses 424 = .ok (.ldc 15, 2) := by decide +kernel
theorem dL_refuses_426 : decode cL_refuses 426 = .ok (.if_icmp .ne 290, 3) := by decide +kernel
theorem dL_refuses_429 : decode cL_refuses 429 = .ok (.aload_n 0, 1) := by decide +kernel
theorem dL_refuses_430 : decode cL_refuses 430 = .ok (.bipush 12, 2) := by decide +kernel
theorem dL_refuses_432 : decode cL_refuses 432 = .ok (.iconst 0, 1) := by decide +kernel
theorem dL_refuses_433 : decode cL_refuses 433 = .ok (.iload_n 1, 1) := by decide +kernel
theorem dL_refuses_434 : decode cL_refuses 434 = .ok (.iconst 2, 1) := by decide +kernel
theorem dL_refuses_435 : decode cL_refuses 435 = .ok (.irem, 1) := by decide +kernel
theorem dL_refuses_436 : decode cL_refuses 436 = .ok (.ifCond .ne 7, 3) := by decide +kernel
theorem dL_refuses_439 : decode cL_refuses 439 = .ok (.iconst (-1), 1) := by decide +kernel
theorem dL_refuses_440 : decode cL_refuses 440 = .ok (.goto 10, 3) := by decide +kernel
theorem dL_refuses_443 : decode cL_refuses 443 = .ok (.bipush 10, 2) := by decide +kernel
theorem dL_refuses_445 : decode cL_refuses 445 = .ok (.iload_n 1, 1) := by decide +kernel
theorem dL_refuses_446 : decode cL_refuses 446 = .ok (.bipush 9, 2) := by decide +kernel
theorem dL_refuses_448 : decode cL_refuses 448 = .ok (.irem, 1) := by decide +kernel
theorem dL_refuses_449 : decode cL_refuses 449 = .ok (.iadd, 1) := by decide +kernel
theorem dL_refuses_450 : decode cL_refuses 450 = .ok (.iconst 0, 1) := by decide +kernel
theorem dL_refuses_451 : decode cL_refuses 451 = .ok (.invokestatic 172, 3) := by decide +kernel
theorem dL_refuses_454 : decode cL_refuses 454 = .ok (.ldc 18, 2) := by decide +kernel
theorem dL_refuses_456 : decode cL_refuses 456 = .ok (.if_icmp .ne 260, 3) := by decide +kernel
theorem dL_refuses_459 : decode cL_refuses 459 = .ok (.aload_n 0, 1) := by decide +kernel
theorem dL_refuses_460 : decode cL_refuses 460 = .ok (.bipush 12, 2) := by decide +kernel
theorem dL_refuses_462 : decode cL_refuses 462 = .ok (.iconst 1, 1) := by decide +kernel
theorem dL_refuses_463 : decode cL_refuses 463 = .ok (.iload_n 1, 1) := by decide +kernel
theorem dL_refuses_464 : decode cL_refuses 464 = .ok (.iconst 2, 1) := by decide +kernel
theorem dL_refuses_465 : decode cL_refuses 465 = .ok (.irem, 1) := by decide +kernel
theorem dL_refuses_466 : decode cL_refuses 466 = .ok (.ifCond .ne 7, 3) := by decide +kernel
theorem dL_refuses_469 : decode cL_refuses 469 = .ok (.iconst 4, 1) := by decide +kernel
theorem dL_refuses_470 : decode cL_refuses 470 = .ok (.goto 10, 3) := by decide +kernel
theorem dL_refuses_473 : decode cL_refuses 473 = .ok (.bipush 91, 2) := by decide +kernel
theorem dL_refuses_475 : decode cL_refuses 475 = .ok (.iload_n 1, 1) := by decide +kernel
theorem dL_refuses_476 : decode cL_refuses 476 = .ok (.bipush 9, 2) := by decide +kernel
theorem dL_refuses_478 : decode cL_refuses 478 = .ok (.irem, 1) := by decide +kernel
theorem dL_refuses_479 : decode cL_refuses 479 = .ok (.iadd, 1) := by decide +kernel
theorem dL_refuses_480 : decode cL_refuses 480 = .ok (.iconst 0, 1) := by decide +kernel
theorem dL_refuses_481 : decode cL_refuses 481 = .ok (.invokestatic 172, 3) := by decide +kernel
theorem dL_refuses_484 : decode cL_refuses 484 = .ok (.ldc 18, 2) := by decide +kernel
theorem dL_refuses_486 : decode cL_refuses 486 = .ok (.if_icmp .ne 230, 3) := by decide +kernel
theorem dL_refuses_489 : decode cL_refuses 489 = .ok (.aload_n 0, 1) := by decide +kernel
theorem dL_refuses_490 : decode cL_refuses 490 = .ok (.bipush 12, 2) := by decide +kernel
theorem dL_refuses_492 : decode cL_refuses 492 = .ok (.iconst 2, 1) := by decide +kernel
theorem dL_refuses_493 : decode cL_refuses 493 = .ok (.iload_n 1, 1) := by decide +kernel
theorem dL_refuses_494 : decode cL_refuses 494 = .ok (.bipush 9, 2) := by decide +kernel
theorem dL_refuses_496 : decode cL_refuses 496 = .ok (.irem, 1) := by decide +kernel
theorem dL_refuses_497 : decode cL_refuses 497 = .ok (.iadd, 1) := by decide +kernel
theorem dL_refuses_498 : decode cL_refuses 498 = .ok (.iconst 5, 1) := by decide +kernel
theorem dL_refuses_499 : decode cL_refuses 499 = .ok (.iconst 0, 1) := by decide +kernel
theorem dL_refuses_500 : decode cL_refuses 500 = .ok (.invokestatic 172, 3) := by decide +kernel
theorem dL_refuses_503 : decode cL_refuses 503 = .ok (.ldc 18, 2) := by decide +kernel
theorem dL_refuses_505 : decode cL_refuses 505 = .ok (.if_icmp .ne 211, 3) := by decide +kernel
theorem dL_refuses_508 : decode cL_refuses 508 = .ok (.aload_n 0, 1) := by decide +kernel
theorem dL_refuses_509 : decode cL_refuses 509 = .ok (.bipush 13, 2) := by decide +kernel
theorem dL_refuses_511 : decode cL_refuses 511 = .ok (.iload_n 1, 1) := by decide +kernel
theorem dL_refuses_512 : decode cL_refuses 512 = .ok (.iconst 2, 1) := by decide +kernel
theorem dL_refuses_513 : decode cL_refuses 513 = .ok (.irem, 1) := by decide +kernel
theorem dL_refuses_514 : decode cL_refuses 514 = .ok (.ifCond .ne 7, 3) := by decide +kernel
theorem dL_refuses_517 : decode cL_refuses 517 = .ok (.iconst 0, 1) := by decide +kernel
theorem dL_refuses_518 : decode cL_refuses 518 = .ok (.goto 10, 3) := by decide +kernel
theorem dL_refuses_521 : decode cL_refuses 521 = .ok (.bipush 100, 2) := by decide +kernel
theorem dL_refuses_523 : decode cL_refuses 523 = .ok (.iload_n 1, 1) := by decide +kernel
theorem dL_refuses_524 : decode cL_refuses 524 = .ok (.bipush 9, 2) := by decide +kernel
theorem dL_refuses_526 : decode cL_refuses 526 = .ok (.irem, 1) := by decide +kernel
theorem dL_refuses_527 : decode cL_refuses 527 = .ok (.iadd, 1) := by decide +kernel
theorem dL_refuses_528 : decode cL_refuses 528 = .ok (.iconst 0, 1) := by decide +kernel
theorem dL_refuses_529 : decode cL_refuses 529 = .ok (.iconst 0, 1) := by decide +kernel
theorem dL_refuses_530 : decode cL_refuses 530 = .ok (.invokestatic 172, 3) := by decide +kernel
theorem dL_refuses_533 : decode cL_refuses 533 = .ok (.ldc 18, 2) := by decide +kernel
theorem dL_refuses_535 : decode cL_refuses 535 = .ok (.if_icmp .ne 181, 3) := by decide +kernel
theorem dL_refuses_538 : decode cL_refuses 538 = .ok (.aload_n 0, 1) := by decide +kernel
theorem dL_refuses_539 : decode cL_refuses 539 = .ok (.bipush 15, 2) := by decide +kernel
theorem dL_refuses_541 : decode cL_refuses 541 = .ok (.iload 4, 2) := by decide +kernel
theorem dL_refuses_543 : decode cL_refuses 543 = .ok (.iconst 0, 1) := by decide +kernel
theorem dL_refuses_544 : decode cL_refuses 544 = .ok (.iconst 0, 1) := by decide +kernel
theorem dL_refuses_545 : decode cL_refuses 545 = .ok (.invokestatic 172, 3) := by decide +kernel
theorem dL_refuses_548 : decode cL_refuses 548 = .ok (.ldc 15, 2) := by decide +kernel
theorem dL_refuses_550 : decode cL_refuses 550 = .ok (.if_icmp .ne 166, 3) := by decide +kernel
theorem dL_refuses_553 : decode cL_refuses 553 = .ok (.aload_n 0, 1) := by decide +kernel
theorem dL_refuses_554 : decode cL_refuses 554 = .ok (.bipush 16, 2) := by decide +kernel
theorem dL_refuses_556 : decode cL_refuses 556 = .ok (.iload 4, 2) := by decide +kernel
theorem dL_refuses_558 : decode cL_refuses 558 = .ok (.iconst 0, 1) := by decide +kernel
theorem dL_refuses_559 : decode cL_refuses 559 = .ok (.iconst 0, 1) := by decide +kernel
theorem dL_refuses_560 : decode cL_refuses 560 = .ok (.invokestatic 172, 3) := by decide +kernel
theorem dL_refuses_563 : decode cL_refuses 563 = .ok (.ldc 15, 2) := by decide +kernel
theorem dL_refuses_565 : decode cL_refuses 565 = .ok (.if_icmp .ne 151, 3) := by decide +kernel
theorem dL_refuses_568 : decode cL_refuses 568 = .ok (.aload_n 0, 1) := by decide +kernel
theorem dL_refuses_569 : decode cL_refuses 569 = .ok (.bipush 16, 2) := by decide +kernel
theorem dL_refuses_571 : decode cL_refuses 571 = .ok (.iconst 0, 1) := by decide +kernel
theorem dL_refuses_572 : decode cL_refuses 572 = .ok (.iload 4, 2) := by decide +kernel
theorem dL_refuses_574 : decode cL_refuses 574 = .ok (.iconst 0, 1) := by decide +kernel
theorem dL_refuses_575 : decode cL_refuses 575 = .ok (.invokestatic 172, 3) := by decide +kernel
theorem dL_refuses_578 : decode cL_refuses 578 = .ok (.ldc 15, 2) := by decide +kernel
theorem dL_refuses_580 : decode cL_refuses 580 = .ok (.if_icmp .ne 136, 3) := by decide +kernel
theorem dL_refuses_583 : decode cL_refuses 583 = .ok (.aload_n 0, 1) := by decide +kernel
theorem dL_refuses_584 : decode cL_refuses 584 = .ok (.bipush 16, 2) := by decide +kernel
theorem dL_refuses_586 : decode cL_refuses 586 = .ok (.iconst 0, 1) := by decide +kernel
theorem dL_refuses_587 : decode cL_refuses 587 = .ok (.iconst 0, 1) := by decide +kernel
theorem dL_refuses_588 : decode cL_refuses 588 = .ok (.iload 4, 2) := by decide +kernel
theorem dL_refuses_590 : decode cL_refuses 590 = .ok (.invokestatic 172, 3) := by decide +kernel
theorem dL_refuses_593 : decode cL_refuses 593 = .ok (.ldc 15, 2) := by decide +kernel
theorem dL_refuses_595 : decode cL_refuses 595 = .ok (.if_icmp .ne 121, 3) := by decide +kernel
theorem dL_refuses_598 : decode cL_refuses 598 = .ok (.aload_n 0, 1) := by decide +kernel
theorem dL_refuses_599 : decode cL_refuses 599 = .ok (.bipush 17, 2) := by decide +kernel
theorem dL_refuses_601 : decode cL_refuses 601 = .ok (.iload 5, 2) := by decide +kernel
theorem dL_refuses_603 : decode cL_refuses 603 = .ok (.bipush 99, 2) := by decide +kernel
theorem dL_refuses_605 : decode cL_refuses 605 = .ok (.iconst 0, 1) := by decide +kernel
theorem dL_refuses_606 : decode cL_refuses 606 = .ok (.invokestatic 172, 3) := by decide +kernel
theorem dL_refuses_609 : decode cL_refuses 609 = .ok (.ldc 15, 2) := by decide +kernel
theorem dL_refuses_611 : decode cL_refuses 611 = .ok (.if_icmp .ne 105, 3) := by decide +kernel
theorem dL_refuses_614 : decode cL_refuses 614 = .ok (.aload_n 0, 1) := by decide +kernel
theorem dL_refuses_615 : decode cL_refuses 615 = .ok (.bipush 18, 2) := by decide +kernel
theorem dL_refuses_617 : decode cL_refuses 617 = .ok (.iload 4, 2) := by decide +kernel
theorem dL_refuses_619 : decode cL_refuses 619 = .ok (.iconst 0, 1) := by decide +kernel
theorem dL_refuses_620 : decode cL_refuses 620 = .ok (.iconst 0, 1) := by decide +kernel
theorem dL_refuses_621 : decode cL_refuses 621 = .ok (.invokestatic 172, 3) := by decide +kernel
theorem dL_refuses_624 : decode cL_refuses 624 = .ok (.ldc 15, 2) := by decide +kernel
theorem dL_refuses_626 : decode cL_refuses 626 = .ok (.if_icmp .ne 90, 3) := by decide +kernel
theorem dL_refuses_629 : decode cL_refuses 629 = .ok (.aload_n 0, 1) := by decide +kernel
theorem dL_refuses_630 : decode cL_refuses 630 = .ok (.bipush 19, 2) := by decide +kernel
theorem dL_refuses_632 : decode cL_refuses 632 = .ok (.iconst 2, 1) := by decide +kernel
theorem dL_refuses_633 : decode cL_refuses 633 = .ok (.iload_n 1, 1) := by decide +kernel
theorem dL_refuses_634 : decode cL_refuses 634 = .ok (.bipush 50, 2) := by decide +kernel
theorem dL_refuses_636 : decode cL_refuses 636 = .ok (.irem, 1) := by decide +kernel
theorem dL_refuses_637 : decode cL_refuses 637 = .ok (.iadd, 1) := by decide +kernel
theorem dL_refuses_638 : decode cL_refuses 638 = .ok (.iconst 0, 1) := by decide +kernel
theorem dL_refuses_639 : decode cL_refuses 639 = .ok (.iconst 0, 1) := by decide +kernel
theorem dL_refuses_640 : decode cL_refuses 640 = .ok (.invokestatic 172, 3) := by decide +kernel
theorem dL_refuses_643 : decode cL_refuses 643 = .ok (.ldc 15, 2) := by decide +kernel
theorem dL_refuses_645 : decode cL_refuses 645 = .ok (.if_icmp .ne 71, 3) := by decide +kernel
theorem dL_refuses_648 : decode cL_refuses 648 = .ok (.aload_n 0, 1) := by decide +kernel
theorem dL_refuses_649 : decode cL_refuses 649 = .ok (.bipush 20, 2) := by decide +kernel
theorem dL_refuses_651 : decode cL_refuses 651 = .ok (.iconst (-1), 1) := by decide +kernel
theorem dL_refuses_652 : decode cL_refuses 652 = .ok (.iload_n 1, 1) := by decide +kernel
theorem dL_refuses_653 : decode cL_refuses 653 = .ok (.bipush 9, 2) := by decide +kernel
theorem dL_refuses_655 : decode cL_refuses 655 = .ok (.irem, 1) := by decide +kernel
theorem dL_refuses_656 : decode cL_refuses 656 = .ok (.isub, 1) := by decide +kernel
theorem dL_refuses_657 : decode cL_refuses 657 = .ok (.iconst 0, 1) := by decide +kernel
theorem dL_refuses_658 : decode cL_refuses 658 = .ok (.iconst 0, 1) := by decide +kernel
theorem dL_refuses_659 : decode cL_refuses 659 = .ok (.invokestatic 172, 3) := by decide +kernel
theorem dL_refuses_662 : decode cL_refuses 662 = .ok (.ldc 15, 2) := by decide +kernel
theorem dL_refuses_664 : decode cL_refuses 664 = .ok (.if_icmp .ne 52, 3) := by decide +kernel
theorem dL_refuses_667 : decode cL_refuses 667 = .ok (.aload_n 0, 1) := by decide +kernel
theorem dL_refuses_668 : decode cL_refuses 668 = .ok (.iconst 0, 1) := by decide +kernel
theorem dL_refuses_669 : decode cL_refuses 669 = .ok (.lconst 0, 1) := by decide +kernel
theorem dL_refuses_670 : decode cL_refuses 670 = .ok (.invokestatic 184, 3) := by decide +kernel
theorem dL_refuses_673 : decode cL_refuses 673 = .ok (.ldc 18, 2) := by decide +kernel
theorem dL_refuses_675 : decode cL_refuses 675 = .ok (.if_icmp .ne 41, 3) := by decide +kernel
theorem dL_refuses_678 : decode cL_refuses 678 = .ok (.aload_n 0, 1) := by decide +kernel
theorem dL_refuses_679 : decode cL_refuses 679 = .ok (.iconst 1, 1) := by decide +kernel
theorem dL_refuses_680 : decode cL_refuses 680 = .ok (.ldc2_w 188, 3) := by decide +kernel
theorem dL_refuses_683 : decode cL_refuses 683 = .ok (.iload_n 1, 1) := by decide +kernel
theorem dL_refuses_684 : decode cL_refuses 684 = .ok (.i2l, 1) := by decide +kernel
theorem dL_refuses_685 : decode cL_refuses 685 = .ok (.ladd, 1) := by decide +kernel
theorem dL_refuses_686 : decode cL_refuses 686 = .ok (.invokestatic 184, 3) := by decide +kernel
theorem dL_refuses_689 : decode cL_refuses 689 = .ok (.ldc 18, 2) := by decide +kernel
theorem dL_refuses_691 : decode cL_refuses 691 = .ok (.if_icmp .ne 25, 3) := by decide +kernel
theorem dL_refuses_694 : decode cL_refuses 694 = .ok (.aload_n 0, 1) := by decide +kernel
theorem dL_refuses_695 : decode cL_refuses 695 = .ok (.iload_n 1, 1) := by decide +kernel
theorem dL_refuses_696 : decode cL_refuses 696 = .ok (.i2l, 1) := by decide +kernel
theorem dL_refuses_697 : decode cL_refuses 697 = .ok (.bipush 61, 2) := by decide +kernel
theorem dL_refuses_699 : decode cL_refuses 699 = .ok (.iload_n 1, 1) := by decide +kernel
theorem dL_refuses_700 : decode cL_refuses 700 = .ok (.bipush 9, 2) := by decide +kernel
theorem dL_refuses_702 : decode cL_refuses 702 = .ok (.irem, 1) := by decide +kernel
theorem dL_refuses_703 : decode cL_refuses 703 = .ok (.iadd, 1) := by decide +kernel
theorem dL_refuses_704 : decode cL_refuses 704 = .ok (.invokestatic 190, 3) := by decide +kernel
theorem dL_refuses_707 : decode cL_refuses 707 = .ok (.ldc 18, 2) := by decide +kernel
theorem dL_refuses_709 : decode cL_refuses 709 = .ok (.if_icmp .ne 7, 3) := by decide +kernel
theorem dL_refuses_712 : decode cL_refuses 712 = .ok (.iconst 1, 1) := by decide +kernel
theorem dL_refuses_713 : decode cL_refuses 713 = .ok (.goto 4, 3) := by decide +kernel
theorem dL_refuses_716 : decode cL_refuses 716 = .ok (.iconst 0, 1) := by decide +kernel
theorem dL_refuses_717 : decode cL_refuses 717 = .ok (.istore 7, 2) := by decide +kernel
theorem dL_refuses_719 : decode cL_refuses 719 = .ok (.iload_n 1, 1) := by decide +kernel
theorem dL_refuses_720 : decode cL_refuses 720 = .ok (.iload_n 2, 1) := by decide +kernel
theorem dL_refuses_721 : decode cL_refuses 721 = .ok (.irem, 1) := by decide +kernel
theorem dL_refuses_722 : decode cL_refuses 722 = .ok (.istore 8, 2) := by decide +kernel
theorem dL_refuses_724 : decode cL_refuses 724 = .ok (.iload 7, 2) := by decide +kernel
theorem dL_refuses_726 : decode cL_refuses 726 = .ok (.ifCond .eq 183, 3) := by decide +kernel
theorem dL_refuses_729 : decode cL_refuses 729 = .ok (.aload_n 0, 1) := by decide +kernel
theorem dL_refuses_730 : decode cL_refuses 730 = .ok (.iconst 3, 1) := by decide +kernel
theorem dL_refuses_731 : decode cL_refuses 731 = .ok (.iload 8, 2) := by decide +kernel
theorem dL_refuses_733 : decode cL_refuses 733 = .ok (.iconst 5, 1) := by decide +kernel
theorem dL_refuses_734 : decode cL_refuses 734 = .ok (.iload_n 1, 1) := by decide +kernel
theorem dL_refuses_735 : decode cL_refuses 735 = .ok (.bipush 9, 2) := by decide +kernel
theorem dL_refuses_737 : decode cL_refuses 737 = .ok (.irem, 1) := by decide +kernel
theorem dL_refuses_738 : decode cL_refuses 738 = .ok (.iadd, 1) := by decide +kernel
theorem dL_refuses_739 : decode cL_refuses 739 = .ok (.iconst 0, 1) := by decide +kernel
theorem dL_refuses_740 : decode cL_refuses 740 = .ok (.invokestatic 172, 3) := by decide +kernel
theorem dL_refuses_743 : decode cL_refuses 743 = .ok (.ldc 18, 2) := by decide +kernel
theorem dL_refuses_745 : decode cL_refuses 745 = .ok (.if_icmp .ne 164, 3) := by decide +kernel
theorem dL_refuses_748 : decode cL_refuses 748 = .ok (.aload_n 0, 1) := by decide +kernel
theorem dL_refuses_749 : decode cL_refuses 749 = .ok (.iconst 5, 1) := by decide +kernel
theorem dL_refuses_750 : decode cL_refuses 750 = .ok (.iload 8, 2) := by decide +kernel
theorem dL_refuses_752 : decode cL_refuses 752 = .ok (.iload_n 1, 1) := by decide +kernel
theorem dL_refuses_753 : decode cL_refuses 753 = .ok (.iconst 2, 1) := by decide +kernel
theorem dL_refuses_754 : decode cL_refuses 754 = .ok (.irem, 1) := by decide +kernel
theorem dL_refuses_755 : decode cL_refuses 755 = .ok (.iconst 2, 1) := by decide +kernel
theorem dL_refuses_756 : decode cL_refuses 756 = .ok (.iload_n 1, 1) := by decide +kernel
theorem dL_refuses_757 : decode cL_refuses 757 = .ok (.bipush 9, 2) := by decide +kernel
theorem dL_refuses_759 : decode cL_refuses 759 = .ok (.irem, 1) := by decide +kernel
theorem dL_refuses_760 : decode cL_refuses 760 = .ok (.iadd, 1) := by decide +kernel
theorem dL_refuses_761 : decode cL_refuses 761 = .ok (.invokestatic 172, 3) := by decide +kernel
theorem dL_refuses_764 : decode cL_refuses 764 = .ok (.ldc 18, 2) := by decide +kernel
theorem dL_refuses_766 : decode cL_refuses 766 = .ok (.if_icmp .ne 143, 3) := by decide +kernel
theorem dL_refuses_769 : decode cL_refuses 769 = .ok (.aload_n 0, 1) := by decide +kernel
theorem dL_refuses_770 : decode cL_refuses 770 = .ok (.iload 8, 2) := by decide +kernel
theorem dL_refuses_772 : decode cL_refuses 772 = .ok (.iconst 0, 1) := by decide +kernel
theorem dL_refuses_773 : decode cL_refuses 773 = .ok (.iload 8, 2) := by decide +kernel
theorem dL_refuses_775 : decode cL_refuses 775 = .ok (.iconst 1, 1) := by decide +kernel
theorem dL_refuses_776 : decode cL_refuses 776 = .ok (.iload_n 1, 1) := by decide +kernel
theorem dL_refuses_777 : decode cL_refuses 777 = .ok (.iconst 2, 1) := by decide +kernel
theorem dL_refuses_778 : decode cL_refuses 778 = .ok (.irem, 1) := by decide +kernel
theorem dL_refuses_779 : decode cL_refuses 779 = .ok (.ifCond .ne 7, 3) := by decide +kernel
theorem dL_refuses_782 : decode cL_refuses 782 = .ok (.iconst 0, 1) := by decide +kernel
theorem dL_refuses_783 : decode cL_refuses 783 = .ok (.goto 10, 3) := by decide +kernel
theorem dL_refuses_786 : decode cL_refuses 786 = .ok (.bipush 7, 2) := by decide +kernel
theorem dL_refuses_788 : decode cL_refuses 788 = .ok (.iload_n 1, 1) := by decide +kernel
theorem dL_refuses_789 : decode cL_refuses 789 = .ok (.bipush 9, 2) := by decide +kernel
theorem dL_refuses_791 : decode cL_refuses 791 = .ok (.irem, 1) := by decide +kernel
theorem dL_refuses_792 : decode cL_refuses 792 = .ok (.iadd, 1) := by decide +kernel
theorem dL_refuses_793 : decode cL_refuses 793 = .ok (.invokestatic 176, 3) := by decide +kernel
theorem dL_refuses_796 : decode cL_refuses 796 = .ok (.ldc 18, 2) := by decide +kernel
theorem dL_refuses_798 : decode cL_refuses 798 = .ok (.if_icmp .ne 111, 3) := by decide +kernel
theorem dL_refuses_801 : decode cL_refuses 801 = .ok (.aload_n 0, 1) := by decide +kernel
theorem dL_refuses_802 : decode cL_refuses 802 = .ok (.bipush 11, 2) := by decide +kernel
theorem dL_refuses_804 : decode cL_refuses 804 = .ok (.iload 8, 2) := by decide +kernel
theorem dL_refuses_806 : decode cL_refuses 806 = .ok (.iload_n 1, 1) := by decide +kernel
theorem dL_refuses_807 : decode cL_refuses 807 = .ok (.iconst 2, 1) := by decide +kernel
theorem dL_refuses_808 : decode cL_refuses 808 = .ok (.irem, 1) := by decide +kernel
theorem dL_refuses_809 : decode cL_refuses 809 = .ok (.ifCond .ne 8, 3) := by decide +kernel
theorem dL_refuses_812 : decode cL_refuses 812 = .ok (.bipush 9, 2) := by decide +kernel
theorem dL_refuses_814 : decode cL_refuses 814 = .ok (.goto 10, 3) := by decide +kernel
theorem dL_refuses_817 : decode cL_refuses 817 = .ok (.bipush 100, 2) := by decide +kernel
theorem dL_refuses_819 : decode cL_refuses 819 = .ok (.iload_n 1, 1) := by decide +kernel
theorem dL_refuses_820 : decode cL_refuses 820 = .ok (.bipush 9, 2) := by decide +kernel
theorem dL_refuses_822 : decode cL_refuses 822 = .ok (.irem, 1) := by decide +kernel
theorem dL_refuses_823 : decode cL_refuses 823 = .ok (.iadd, 1) := by decide +kernel
theorem dL_refuses_824 : decode cL_refuses 824 = .ok (.iconst 0, 1) := by decide +kernel
theorem dL_refuses_825 : decode cL_refuses 825 = .ok (.invokestatic 172, 3) := by decide +kernel
theorem dL_refuses_828 : decode cL_refuses 828 = .ok (.ldc 18, 2) := by decide +kernel
theorem dL_refuses_830 : decode cL_refuses 830 = .ok (.if_icmp .ne 79, 3) := by decide +kernel
theorem dL_refuses_833 : decode cL_refuses 833 = .ok (.aload_n 0, 1) := by decide +kernel
theorem dL_refuses_834 : decode cL_refuses 834 = .ok (.bipush 16, 2) := by decide +kernel
theorem dL_refuses_836 : decode cL_refuses 836 = .ok (.iload 8, 2) := by decide +kernel
theorem dL_refuses_838 : decode cL_refuses 838 = .ok (.iload 8, 2) := by decide +kernel
theorem dL_refuses_840 : decode cL_refuses 840 = .ok (.iconst 0, 1) := by decide +kernel
theorem dL_refuses_841 : decode cL_refuses 841 = .ok (.invokestatic 172, 3) := by decide +kernel
theorem dL_refuses_844 : decode cL_refuses 844 = .ok (.ldc 18, 2) := by decide +kernel
theorem dL_refuses_846 : decode cL_refuses 846 = .ok (.if_icmp .ne 63, 3) := by decide +kernel
theorem dL_refuses_849 : decode cL_refuses 849 = .ok (.aload_n 0, 1) := by decide +kernel
theorem dL_refuses_850 : decode cL_refuses 850 = .ok (.bipush 18, 2) := by decide +kernel
theorem dL_refuses_852 : decode cL_refuses 852 = .ok (.iload 8, 2) := by decide +kernel
theorem dL_refuses_854 : decode cL_refuses 854 = .ok (.iload_n 1, 1) := by decide +kernel
theorem dL_refuses_855 : decode cL_refuses 855 = .ok (.iconst 2, 1) := by decide +kernel
theorem dL_refuses_856 : decode cL_refuses 856 = .ok (.irem, 1) := by decide +kernel
theorem dL_refuses_857 : decode cL_refuses 857 = .ok (.ifCond .ne 7, 3) := by decide +kernel
theorem dL_refuses_860 : decode cL_refuses 860 = .ok (.iconst 0, 1) := by decide +kernel
theorem dL_refuses_861 : decode cL_refuses 861 = .ok (.goto 11, 3) := by decide +kernel
theorem dL_refuses_864 : decode cL_refuses 864 = .ok (.sipush 201, 3) := by decide +kernel
theorem dL_refuses_867 : decode cL_refuses 867 = .ok (.iload_n 1, 1) := by decide +kernel
theorem dL_refuses_868 : decode cL_refuses 868 = .ok (.bipush 9, 2) := by decide +kernel
theorem dL_refuses_870 : decode cL_refuses 870 = .ok (.irem, 1) := by decide +kernel
theorem dL_refuses_871 : decode cL_refuses 871 = .ok (.iadd, 1) := by decide +kernel
theorem dL_refuses_872 : decode cL_refuses 872 = .ok (.iconst 0, 1) := by decide +kernel
theorem dL_refuses_873 : decode cL_refuses 873 = .ok (.invokestatic 172, 3) := by decide +kernel
theorem dL_refuses_876 : decode cL_refuses 876 = .ok (.ldc 18, 2) := by decide +kernel
theorem dL_refuses_878 : decode cL_refuses 878 = .ok (.if_icmp .ne 31, 3) := by decide +kernel
theorem dL_refuses_881 : decode cL_refuses 881 = .ok (.aload_n 0, 1) := by decide +kernel
theorem dL_refuses_882 : decode cL_refuses 882 = .ok (.iconst 3, 1) := by decide +kernel
theorem dL_refuses_883 : decode cL_refuses 883 = .ok (.iload 8, 2) := by decide +kernel
theorem dL_refuses_885 : decode cL_refuses 885 = .ok (.iconst 0, 1) := by decide +kernel
theorem dL_refuses_886 : decode cL_refuses 886 = .ok (.iconst 0, 1) := by decide +kernel
theorem dL_refuses_887 : decode cL_refuses 887 = .ok (.invokestatic 172, 3) := by decide +kernel
theorem dL_refuses_890 : decode cL_refuses 890 = .ok (.ifCond .eq 15, 3) := by decide +kernel
theorem dL_refuses_893 : decode cL_refuses 893 = .ok (.aload_n 0, 1) := by decide +kernel
theorem dL_refuses_894 : decode cL_refuses 894 = .ok (.iload 8, 2) := by decide +kernel
theorem dL_refuses_896 : decode cL_refuses 896 = .ok (.iconst 1, 1) := by decide +kernel
theorem dL_refuses_897 : decode cL_refuses 897 = .ok (.invokestatic 180, 3) := by decide +kernel
theorem dL_refuses_900 : decode cL_refuses 900 = .ok (.ldc 21, 2) := by decide +kernel
theorem dL_refuses_902 : decode cL_refuses 902 = .ok (.if_icmp .ne 7, 3) := by decide +kernel
theorem dL_refuses_905 : decode cL_refuses 905 = .ok (.iconst 1, 1) := by decide +kernel
theorem dL_refuses_906 : decode cL_refuses 906 = .ok (.goto 4, 3) := by decide +kernel
theorem dL_refuses_909 : decode cL_refuses 909 = .ok (.iconst 0, 1) := by decide +kernel
theorem dL_refuses_910 : decode cL_refuses 910 = .ok (.istore 7, 2) := by decide +kernel
theorem dL_refuses_912 : decode cL_refuses 912 = .ok (.iload 7, 2) := by decide +kernel
theorem dL_refuses_914 : decode cL_refuses 914 = .ok (.ifCond .eq 86, 3) := by decide +kernel
theorem dL_refuses_917 : decode cL_refuses 917 = .ok (.iload_n 3, 1) := by decide +kernel
theorem dL_refuses_918 : decode cL_refuses 918 = .ok (.ifCond .eq 78, 3) := by decide +kernel
theorem dL_refuses_921 : decode cL_refuses 921 = .ok (.aload_n 0, 1) := by decide +kernel
theorem dL_refuses_922 : decode cL_refuses 922 = .ok (.bipush 6, 2) := by decide +kernel
theorem dL_refuses_924 : decode cL_refuses 924 = .ok (.iconst 0, 1) := by decide +kernel
theorem dL_refuses_925 : decode cL_refuses 925 = .ok (.bipush 8, 2) := by decide +kernel
theorem dL_refuses_927 : decode cL_refuses 927 = .ok (.iload_n 1, 1) := by decide +kernel
theorem dL_refuses_928 : decode cL_refuses 928 = .ok (.bipush 9, 2) := by decide +kernel
theorem dL_refuses_930 : decode cL_refuses 930 = .ok (.irem, 1) := by decide +kernel
theorem dL_refuses_931 : decode cL_refuses 931 = .ok (.iadd, 1) := by decide +kernel
theorem dL_refuses_932 : decode cL_refuses 932 = .ok (.iconst 0, 1) := by decide +kernel
theorem dL_refuses_933 : decode cL_refuses 933 = .ok (.invokestatic 172, 3) := by decide +kernel
theorem dL_refuses_936 : decode cL_refuses 936 = .ok (.ldc 18, 2) := by decide +kernel
theorem dL_refuses_938 : decode cL_refuses 938 = .ok (.if_icmp .ne 62, 3) := by decide +kernel
theorem dL_refuses_941 : decode cL_refuses 941 = .ok (.aload_n 0, 1) := by decide +kernel
theorem dL_refuses_942 : decode cL_refuses 942 = .ok (.bipush 10, 2) := by decide +kernel
theorem dL_refuses_944 : decode cL_refuses 944 = .ok (.iconst 0, 1) := by decide +kernel
theorem dL_refuses_945 : decode cL_refuses 945 = .ok (.bipush 31, 2) := by decide +kernel
theorem dL_refuses_947 : decode cL_refuses 947 = .ok (.iload_n 1, 1) := by decide +kernel
theorem dL_refuses_948 : decode cL_refuses 948 = .ok (.bipush 9, 2) := by decide +kernel
theorem dL_refuses_950 : decode cL_refuses 950 = .ok (.irem, 1) := by decide +kernel
theorem dL_refuses_951 : decode cL_refuses 951 = .ok (.iadd, 1) := by decide +kernel
theorem dL_refuses_952 : decode cL_refuses 952 = .ok (.iconst 0, 1) := by decide +kernel
theorem dL_refuses_953 : decode cL_refuses 953 = .ok (.invokestatic 172, 3) := by decide +kernel
theorem dL_refuses_956 : decode cL_refuses 956 = .ok (.ldc 18, 2) := by decide +kernel
theorem dL_refuses_958 : decode cL_refuses 958 = .ok (.if_icmp .ne 42, 3) := by decide +kernel
theorem dL_refuses_961 : decode cL_refuses 961 = .ok (.aload_n 0, 1) := by decide +kernel
theorem dL_refuses_962 : decode cL_refuses 962 = .ok (.bipush 17, 2) := by decide +kernel
theorem dL_refuses_964 : decode cL_refuses 964 = .ok (.iconst 0, 1) := by decide +kernel
theorem dL_refuses_965 : decode cL_refuses 965 = .ok (.bipush 31, 2) := by decide +kernel
theorem dL_refuses_967 : decode cL_refuses 967 = .ok (.iload_n 1, 1) := by decide +kernel
theorem dL_refuses_968 : decode cL_refuses 968 = .ok (.bipush 9, 2) := by decide +kernel
theorem dL_refuses_970 : decode cL_refuses 970 = .ok (.irem, 1) := by decide +kernel
theorem dL_refuses_971 : decode cL_refuses 971 = .ok (.iadd, 1) := by decide +kernel
theorem dL_refuses_972 : decode cL_refuses 972 = .ok (.iconst 0, 1) := by decide +kernel
theorem dL_refuses_973 : decode cL_refuses 973 = .ok (.invokestatic 172, 3) := by decide +kernel
theorem dL_refuses_976 : decode cL_refuses 976 = .ok (.ldc 18, 2) := by decide +kernel
theorem dL_refuses_978 : decode cL_refuses 978 = .ok (.if_icmp .ne 22, 3) := by decide +kernel
theorem dL_refuses_981 : decode cL_refuses 981 = .ok (.aload_n 0, 1) := by decide +kernel
theorem dL_refuses_982 : decode cL_refuses 982 = .ok (.bipush 17, 2) := by decide +kernel
theorem dL_refuses_984 : decode cL_refuses 984 = .ok (.iconst 0, 1) := by decide +kernel
theorem dL_refuses_985 : decode cL_refuses 985 = .ok (.iconst 0, 1) := by decide +kernel
theorem dL_refuses_986 : decode cL_refuses 986 = .ok (.iload 4, 2) := by decide +kernel
theorem dL_refuses_988 : decode cL_refuses 988 = .ok (.invokestatic 172, 3) := by decide +kernel
theorem dL_refuses_991 : decode cL_refuses 991 = .ok (.ldc 15, 2) := by decide +kernel
theorem dL_refuses_993 : decode cL_refuses 993 = .ok (.if_icmp .ne 7, 3) := by decide +kernel
theorem dL_refuses_996 : decode cL_refuses 996 = .ok (.iconst 1, 1) := by decide +kernel
theorem dL_refuses_997 : decode cL_refuses 997 = .ok (.goto 4, 3) := by decide +kernel
theorem dL_refuses_1000 : decode cL_refuses 1000 = .ok (.iconst 0, 1) := by decide +kernel
theorem dL_refuses_1001 : decode cL_refuses 1001 = .ok (.ireturn, 1) := by decide +kernel
theorem dL_holds_0 : decode cL_holds 0 = .ok (.aload_n 0, 1) := by decide +kernel
theorem dL_holds_1 : decode cL_holds 1 = .ok (.iconst 2, 1) := by decide +kernel
theorem dL_holds_2 : decode cL_holds 2 = .ok (.iconst 0, 1) := by decide +kernel
theorem dL_holds_3 : decode cL_holds 3 = .ok (.iconst 0, 1) := by decide +kernel
theorem dL_holds_4 : decode cL_holds 4 = .ok (.iconst 0, 1) := by decide +kernel
theorem dL_holds_5 : decode cL_holds 5 = .ok (.invokestatic 172, 3) := by decide +kernel
theorem dL_holds_8 : decode cL_holds 8 = .ok (.istore_n 2, 1) := by decide +kernel
theorem dL_holds_9 : decode cL_holds 9 = .ok (.aload_n 0, 1) := by decide +kernel
theorem dL_holds_10 : decode cL_holds 10 = .ok (.iconst 2, 1) := by decide +kernel
theorem dL_holds_11 : decode cL_holds 11 = .ok (.iconst 1, 1) := by decide +kernel
theorem dL_holds_12 : decode cL_holds 12 = .ok (.iconst 0, 1) := by decide +kernel
theorem dL_holds_13 : decode cL_holds 13 = .ok (.iconst 0, 1) := by decide +kernel
theorem dL_holds_14 : decode cL_holds 14 = .ok (.invokestatic 172, 3) := by decide +kernel
theorem dL_holds_17 : decode cL_holds 17 = .ok (.istore_n 3, 1) := by decide +kernel
theorem dL_holds_18 : decode cL_holds 18 = .ok (.iconst 0, 1) := by decide +kernel
theorem dL_holds_19 : decode cL_holds 19 = .ok (.istore 4, 2) := by decide +kernel
theorem dL_holds_21 : decode cL_holds 21 = .ok (.iconst 0, 1) := by decide +kernel
theorem dL_holds_22 : decode cL_holds 22 = .ok (.istore 5, 2) := by decide +kernel
theorem dL_holds_24 : decode cL_holds 24 = .ok (.iconst 0, 1) := by decide +kernel
theorem dL_holds_25 : decode cL_holds 25 = .ok (.istore 6, 2) := by decide +kernel
theorem dL_holds_27 : decode cL_holds 27 = .ok (.iconst 0, 1) := by decide +kernel
theorem dL_holds_28 : decode cL_holds 28 = .ok (.istore 7, 2) := by decide +kernel
theorem dL_holds_30 : decode cL_holds 30 = .ok (.iconst 0, 1) := by decide +kernel
theorem dL_holds_31 : decode cL_holds 31 = .ok (.istore 8, 2) := by decide +kernel
theorem dL_holds_33 : decode cL_holds 33 = .ok (.iload_n 2, 1) := by decide +kernel
theorem dL_holds_34 : decode cL_holds 34 = .ok (.bipush 10, 2) := by decide +kernel
theorem dL_holds_36 : decode cL_holds 36 = .ok (.if_icmp .gt 13, 3) := by decide +kernel
theorem dL_holds_39 : decode cL_holds 39 = .ok (.iload_n 3, 1) := by decide +kernel
theorem dL_holds_40 : decode cL_holds 40 = .ok (.bipush 16, 2) := by decide +kernel
theorem dL_holds_42 : decode cL_holds 42 = .ok (.if_icmp .gt 7, 3) := by decide +kernel
theorem dL_holds_45 : decode cL_holds 45 = .ok (.iconst 1, 1) := by decide +kernel
theorem dL_holds_46 : decode cL_holds 46 = .ok (.goto 4, 3) := by decide +kernel
theorem dL_holds_49 : decode cL_holds 49 = .ok (.iconst 0, 1) := by decide +kernel
theorem dL_holds_50 : decode cL_holds 50 = .ok (.istore 9, 2) := by decide +kernel
theorem dL_holds_52 : decode cL_holds 52 = .ok (.iconst 0, 1) := by decide +kernel
theorem dL_holds_53 : decode cL_holds 53 = .ok (.istore 10, 2) := by decide +kernel
theorem dL_holds_55 : decode cL_holds 55 = .ok (.iload 10, 2) := by decide +kernel
theorem dL_holds_57 : decode cL_holds 57 = .ok (.iload_n 2, 1) := by decide +kernel
theorem dL_holds_58 : decode cL_holds 58 = .ok (.if_icmp .ge 601, 3) := by decide +kernel
theorem dL_holds_61 : decode cL_holds 61 = .ok (.iload 9, 2) := by decide +kernel
theorem dL_holds_63 : decode cL_holds 63 = .ok (.ifCond .eq 596, 3) := by decide +kernel
theorem dL_holds_66 : decode cL_holds 66 = .ok (.aload_n 0, 1) := by decide +kernel
theorem dL_holds_67 : decode cL_holds 67 = .ok (.iconst 3, 1) := by decide +kernel
theorem dL_holds_68 : decode cL_holds 68 = .ok (.iload 10, 2) := by decide +kernel
theorem dL_holds_70 : decode cL_holds 70 = .ok (.iconst 0, 1) := by decide +kernel
theorem dL_holds_71 : decode cL_holds 71 = .ok (.iconst 0, 1) := by decide +kernel
theorem dL_holds_72 : decode cL_holds 72 = .ok (.invokestatic 172, 3) := by decide +kernel
theorem dL_holds_75 : decode cL_holds 75 = .ok (.istore 11, 2) := by decide +kernel
theorem dL_holds_77 : decode cL_holds 77 = .ok (.aload_n 0, 1) := by decide +kernel
theorem dL_holds_78 : decode cL_holds 78 = .ok (.iconst 3, 1) := by decide +kernel
theorem dL_holds_79 : decode cL_holds 79 = .ok (.iload 10, 2) := by decide +kernel
theorem dL_holds_81 : decode cL_holds 81 = .ok (.iconst 1, 1) := by decide +kernel
theorem dL_holds_82 : decode cL_holds 82 = .ok (.iconst 0, 1) := by decide +kernel
theorem dL_holds_83 : decode cL_holds 83 = .ok (.invokestatic 172, 3) := by decide +kernel
theorem dL_holds_86 : decode cL_holds 86 = .ok (.istore 12, 2) := by decide +kernel
theorem dL_holds_88 : decode cL_holds 88 = .ok (.aload_n 0, 1) := by decide +kernel
theorem dL_holds_89 : decode cL_holds 89 = .ok (.iconst 3, 1) := by decide +kernel
theorem dL_holds_90 : decode cL_holds 90 = .ok (.iload 10, 2) := by decide +kernel
theorem dL_holds_92 : decode cL_holds 92 = .ok (.iconst 2, 1) := by decide +kernel
theorem dL_holds_93 : decode cL_holds 93 = .ok (.iconst 0, 1) := by decide +kernel
theorem dL_holds_94 : decode cL_holds 94 = .ok (.invokestatic 172, 3) := by decide +kernel
theorem dL_holds_97 : decode cL_holds 97 = .ok (.istore 13, 2) := by decide +kernel
theorem dL_holds_99 : decode cL_holds 99 = .ok (.aload_n 0, 1) := by decide +kernel
theorem dL_holds_100 : decode cL_holds 100 = .ok (.iconst 4, 1) := by decide +kernel
theorem dL_holds_101 : decode cL_holds 101 = .ok (.iload 10, 2) := by decide +kernel
theorem dL_holds_103 : decode cL_holds 103 = .ok (.iconst 0, 1) := by decide +kernel
theorem dL_holds_104 : decode cL_holds 104 = .ok (.iconst 0, 1) := by decide +kernel
theorem dL_holds_105 : decode cL_holds 105 = .ok (.invokestatic 172, 3) := by decide +kernel
theorem dL_holds_108 : decode cL_holds 108 = .ok (.istore 14, 2) := by decide +kernel
theorem dL_holds_110 : decode cL_holds 110 = .ok (.aload_n 0, 1) := by decide +kernel
theorem dL_holds_111 : decode cL_holds 111 = .ok (.iconst 4, 1) := by decide +kernel
theorem dL_holds_112 : decode cL_holds 112 = .ok (.iload 10, 2) := by decide +kernel
theorem dL_holds_114 : decode cL_holds 114 = .ok (.iconst 1, 1) := by decide +kernel
theorem dL_holds_115 : decode cL_holds 115 = .ok (.iconst 0, 1) := by decide +kernel
theorem dL_holds_116 : decode cL_holds 116 = .ok (.invokestatic 172, 3) := by decide +kernel
theorem dL_holds_119 : decode cL_holds 119 = .ok (.istore 15, 2) := by decide +kernel
theorem dL_holds_121 : decode cL_holds 121 = .ok (.aload_n 0, 1) := by decide +kernel
theorem dL_holds_122 : decode cL_holds 122 = .ok (.iconst 5, 1) := by decide +kernel
theorem dL_holds_123 : decode cL_holds 123 = .ok (.iload 10, 2) := by decide +kernel
theorem dL_holds_125 : decode cL_holds 125 = .ok (.iconst 0, 1) := by decide +kernel
theorem dL_holds_126 : decode cL_holds 126 = .ok (.iconst 0, 1) := by decide +kernel
theorem dL_holds_127 : decode cL_holds 127 = .ok (.invokestatic 172, 3) := by decide +kernel
theorem dL_holds_130 : decode cL_holds 130 = .ok (.istore 16, 2) := by decide +kernel
theorem dL_holds_132 : decode cL_holds 132 = .ok (.aload_n 0, 1) := by decide +kernel
theorem dL_holds_133 : decode cL_holds 133 = .ok (.iconst 5, 1) := by decide +kernel
theorem dL_holds_134 : decode cL_holds 134 = .ok (.iload 10, 2) := by decide +kernel
theorem dL_holds_136 : decode cL_holds 136 = .ok (.iconst 1, 1) := by decide +kernel
theorem dL_holds_137 : decode cL_holds 137 = .ok (.iconst 0, 1) := by decide +kernel
theorem dL_holds_138 : decode cL_holds 138 = .ok (.invokestatic 172, 3) := by decide +kernel
theorem dL_holds_141 : decode cL_holds 141 = .ok (.istore 17, 2) := by decide +kernel
theorem dL_holds_143 : decode cL_holds 143 = .ok (.aload_n 0, 1) := by decide +kernel
theorem dL_holds_144 : decode cL_holds 144 = .ok (.iconst 5, 1) := by decide +kernel
theorem dL_holds_145 : decode cL_holds 145 = .ok (.iload 10, 2) := by decide +kernel
theorem dL_holds_147 : decode cL_holds 147 = .ok (.iconst 0, 1) := by decide +kernel
theorem dL_holds_148 : decode cL_holds 148 = .ok (.iconst 1, 1) := by decide +kernel
theorem dL_holds_149 : decode cL_holds 149 = .ok (.invokestatic 172, 3) := by decide +kernel
theorem dL_holds_152 : decode cL_holds 152 = .ok (.iconst 1, 1) := by decide +kernel
theorem dL_holds_153 : decode cL_holds 153 = .ok (.if_icmp .ne 7, 3) := by decide +kernel
theorem dL_holds_156 : decode cL_holds 156 = .ok (.iconst 1, 1) := by decide +kernel
theorem dL_holds_157 : decode cL_holds 157 = .ok (.goto 4, 3) := by decide +kernel
theorem dL_holds_160 : decode cL_holds 160 = .ok (.iconst 0, 1) := by decide +kernel
theorem dL_holds_161 : decode cL_holds 161 = .ok (.istore 18, 2) := by decide +kernel
theorem dL_holds_163 : decode cL_holds 163 = .ok (.aload_n 0, 1) := by decide +kernel
theorem dL_holds_164 : decode cL_holds 164 = .ok (.iconst 5, 1) := by decide +kernel
theorem dL_holds_165 : decode cL_holds 165 = .ok (.iload 10, 2) := by decide +kernel
theorem dL_holds_167 : decode cL_holds 167 = .ok (.iconst 1, 1) := by decide +kernel
theorem dL_holds_168 : decode cL_holds 168 = .ok (.iconst 1, 1) := by decide +kernel
theorem dL_holds_169 : decode cL_holds 169 = .ok (.invokestatic 172, 3) := by decide +kernel
theorem dL_holds_172 : decode cL_holds 172 = .ok (.iconst 1, 1) := by decide +kernel
theorem dL_holds_173 : decode cL_holds 173 = .ok (.if_icmp .ne 7, 3) := by decide +kernel
theorem dL_holds_176 : decode cL_holds 176 = .ok (.iconst 1, 1) := by decide +kernel
theorem dL_holds_177 : decode cL_holds 177 = .ok (.goto 4, 3) := by decide +kernel
theorem dL_holds_180 : decode cL_holds 180 = .ok (.iconst 0, 1) := by decide +kernel
theorem dL_holds_181 : decode cL_holds 181 = .ok (.istore 19, 2) := by decide +kernel
theorem dL_holds_183 : decode cL_holds 183 = .ok (.aload_n 0, 1) := by decide +kernel
theorem dL_holds_184 : decode cL_holds 184 = .ok (.bipush 7, 2) := by decide +kernel
theorem dL_holds_186 : decode cL_holds 186 = .ok (.iconst 1, 1) := by decide +kernel
theorem dL_holds_187 : decode cL_holds 187 = .ok (.iconst 0, 1) := by decide +kernel
theorem dL_holds_188 : decode cL_holds 188 = .ok (.iconst 0, 1) := by decide +kernel
theorem dL_holds_189 : decode cL_holds 189 = .ok (.invokestatic 172, 3) := by decide +kernel
theorem dL_holds_192 : decode cL_holds 192 = .ok (.istore 20, 2) := by decide +kernel
theorem dL_holds_194 : decode cL_holds 194 = .ok (.iload 4, 2) := by decide +kernel
theorem dL_holds_196 : decode cL_holds 196 = .ok (.iload 14, 2) := by decide +kernel
theorem dL_holds_198 : decode cL_holds 198 = .ok (.ifCond .le 7, 3) := by decide +kernel
theorem dL_holds_201 : decode cL_holds 201 = .ok (.iconst 1, 1) := by decide +kernel
theorem dL_holds_202 : decode cL_holds 202 = .ok (.goto 4, 3) := by decide +kernel
theorem dL_holds_205 : decode cL_holds 205 = .ok (.iconst 0, 1) := by decide +kernel
theorem dL_holds_206 : decode cL_holds 206 = .ok (.iload 15, 2) := by decide +kernel
theorem dL_holds_208 : decode cL_holds 208 = .ok (.ifCond .le 7, 3) := by decide +kernel
theorem dL_holds_211 : decode cL_holds 211 = .ok (.iconst 1, 1) := by decide +kernel
theorem dL_holds_212 : decode cL_holds 212 = .ok (.goto 4, 3) := by decide +kernel
theorem dL_holds_215 : decode cL_holds 215 = .ok (.iconst 0, 1) := by decide +kernel
theorem dL_holds_216 : decode cL_holds 216 = .ok (.iadd, 1) := by decide +kernel
theorem dL_holds_217 : decode cL_holds 217 = .ok (.iadd, 1) := by decide +kernel
theorem dL_holds_218 : decode cL_holds 218 = .ok (.istore 4, 2) := by decide +kernel
theorem dL_holds_220 : decode cL_holds 220 = .ok (.iload 5, 2) := by decide +kernel
theorem dL_holds_222 : decode cL_holds 222 = .ok (.iload 14, 2) := by decide +kernel
theorem dL_holds_224 : decode cL_holds 224 = .ok (.iload 15, 2) := by decide +kernel
theorem dL_holds_226 : decode cL_holds 226 = .ok (.iadd, 1) := by decide +kernel
theorem dL_holds_227 : decode cL_holds 227 = .ok (.iadd, 1) := by decide +kernel
theorem dL_holds_228 : decode cL_holds 228 = .ok (.istore 5, 2) := by decide +kernel
theorem dL_holds_230 : decode cL_holds 230 = .ok (.iload 6, 2) := by decide +kernel
theorem dL_holds_232 : decode cL_holds 232 = .ok (.iload 11, 2) := by decide +kernel
theorem dL_holds_234 : decode cL_holds 234 = .ok (.ifCond .ne 16, 3) := by decide +kernel
theorem dL_holds_237 : decode cL_holds 237 = .ok (.iload 13, 2) := by decide +kernel
theorem dL_holds_239 : decode cL_holds 239 = .ok (.iconst 1, 1) := by decide +kernel
theorem dL_holds_240 : decode cL_holds 240 = .ok (.if_icmp .ne 10, 3) := by decide +kernel
theorem dL_holds_243 : decode cL_holds 243 = .ok (.iconst 1, 1) := by decide +kernel
theorem dL_holds_244 : decode cL_holds 244 = .ok (.iload 10, 2) := by decide +kernel
theorem dL_holds_246 : decode cL_holds 246 = .ok (.ishl, 1) := by decide +kernel
theorem dL_holds_247 : decode cL_holds 247 = .ok (.goto 4, 3) := by decide +kernel
theorem dL_holds_250 : decode cL_holds 250 = .ok (.iconst 0, 1) := by decide +kernel
theorem dL_holds_251 : decode cL_holds 251 = .ok (.ior, 1) := by decide +kernel
theorem dL_holds_252 : decode cL_holds 252 = .ok (.istore 6, 2) := by decide +kernel
theorem dL_holds_254 : decode cL_holds 254 = .ok (.iload 7, 2) := by decide +kernel
theorem dL_holds_256 : decode cL_holds 256 = .ok (.aload_n 0, 1) := by decide +kernel
theorem dL_holds_257 : decode cL_holds 257 = .ok (.iconst 3, 1) := by decide +kernel
theorem dL_holds_258 : decode cL_holds 258 = .ok (.iload 10, 2) := by decide +kernel
theorem dL_holds_260 : decode cL_holds 260 = .ok (.iconst 3, 1) := by decide +kernel
theorem dL_holds_261 : decode cL_holds 261 = .ok (.iconst 0, 1) := by decide +kernel
theorem dL_holds_262 : decode cL_holds 262 = .ok (.invokestatic 172, 3) := by decide +kernel
theorem dL_holds_265 : decode cL_holds 265 = .ok (.iadd, 1) := by decide +kernel
theorem dL_holds_266 : decode cL_holds 266 = .ok (.istore 7, 2) := by decide +kernel
theorem dL_holds_268 : decode cL_holds 268 = .ok (.iload 8, 2) := by decide +kernel
theorem dL_holds_270 : decode cL_holds 270 = .ok (.aload_n 0, 1) := by decide +kernel
theorem dL_holds_271 : decode cL_holds 271 = .ok (.iconst 3, 1) := by decide +kernel
theorem dL_holds_272 : decode cL_holds 272 = .ok (.iload 10, 2) := by decide +kernel
theorem dL_holds_274 : decode cL_holds 274 = .ok (.iconst 4, 1) := by decide +kernel
theorem dL_holds_275 : decode cL_holds 275 = .ok (.iconst 0, 1) := by decide +kernel
theorem dL_holds_276 : decode cL_holds 276 = .ok (.invokestatic 172, 3) := by decide +kernel
theorem dL_holds_279 : decode cL_holds 279 = .ok (.iadd, 1) := by decide +kernel
theorem dL_holds_280 : decode cL_holds 280 = .ok (.istore 8, 2) := by decide +kernel
theorem dL_holds_282 : decode cL_holds 282 = .ok (.iload 11, 2) := by decide +kernel
theorem dL_holds_284 : decode cL_holds 284 = .ok (.ifCond .lt 168, 3) := by decide +kernel
theorem dL_holds_287 : decode cL_holds 287 = .ok (.iload 11, 2) := by decide +kernel
theorem dL_holds_289 : decode cL_holds 289 = .ok (.iconst 5, 1) := by decide +kernel
theorem dL_holds_290 : decode cL_holds 290 = .ok (.if_icmp .ge 162, 3) := by decide +kernel
theorem dL_holds_293 : decode cL_holds 293 = .ok (.iload 12, 2) := by decide +kernel
theorem dL_holds_295 : decode cL_holds 295 = .ok (.bipush 9, 2) := by decide +kernel
theorem dL_holds_297 : decode cL_holds 297 = .ok (.if_icmp .le 155, 3) := by decide +kernel
theorem dL_holds_300 : decode cL_holds 300 = .ok (.iload 12, 2) := by decide +kernel
theorem dL_holds_302 : decode cL_holds 302 = .ok (.bipush 100, 2) := by decide +kernel
theorem dL_holds_304 : decode cL_holds 304 = .ok (.if_icmp .ge 148, 3) := by decide +kernel
theorem dL_holds_307 : decode cL_holds 307 = .ok (.iload 13, 2) := by decide +kernel
theorem dL_holds_309 : decode cL_holds 309 = .ok (.ifCond .lt 143, 3) := by decide +kernel
theorem dL_holds_312 : decode cL_holds 312 = .ok (.iload 13, 2) := by decide +kernel
theorem dL_holds_314 : decode cL_holds 314 = .ok (.iconst 2, 1) := by decide +kernel
theorem dL_holds_315 : decode cL_holds 315 = .ok (.if_icmp .ge 137, 3) := by decide +kernel
theorem dL_holds_318 : decode cL_holds 318 = .ok (.iload 11, 2) := by decide +kernel
theorem dL_holds_320 : decode cL_holds 320 = .ok (.ifCond .eq 14, 3) := by decide +kernel
theorem dL_holds_323 : decode cL_holds 323 = .ok (.iload 11, 2) := by decide +kernel
theorem dL_holds_325 : decode cL_holds 325 = .ok (.iconst 2, 1) := by decide +kernel
theorem dL_holds_326 : decode cL_holds 326 = .ok (.if_icmp .eq 8, 3) := by decide +kernel
theorem dL_holds_329 : decode cL_holds 329 = .ok (.iload 13, 2) := by decide +kernel
theorem dL_holds_331 : decode cL_holds 331 = .ok (.ifCond .ne 121, 3) := by decide +kernel
theorem dL_holds_334 : decode cL_holds 334 = .ok (.iload 14, 2) := by decide +kernel
theorem dL_holds_336 : decode cL_holds 336 = .ok (.ifCond .lt 116, 3) := by decide +kernel
theorem dL_holds_339 : decode cL_holds 339 = .ok (.iload 14, 2) := by decide +kernel
theorem dL_holds_341 : decode cL_holds 341 = .ok (.bipush 100, 2) := by decide +kernel
theorem dL_holds_343 : decode cL_holds 343 = .ok (.if_icmp .ge 109, 3) := by decide +kernel
theorem dL_holds_346 : decode cL_holds 346 = .ok (.iload 15, 2) := by decide +kernel
theorem dL_holds_348 : decode cL_holds 348 = .ok (.ifCond .lt 104, 3) := by decide +kernel
theorem dL_holds_351 : decode cL_holds 351 = .ok (.iload 15, 2) := by decide +kernel
theorem dL_holds_353 : decode cL_holds 353 = .ok (.bipush 100, 2) := by decide +kernel
theorem dL_holds_355 : decode cL_holds 355 = .ok (.if_icmp .ge 97, 3) := by decide +kernel
theorem dL_holds_358 : decode cL_holds 358 = .ok (.iload 14, 2) := by decide +kernel
theorem dL_holds_360 : decode cL_holds 360 = .ok (.ifCond .eq 8, 3) := by decide +kernel
theorem dL_holds_363 : decode cL_holds 363 = .ok (.iload 15, 2) := by decide +kernel
theorem dL_holds_365 : decode cL_holds 365 = .ok (.ifCond .ne 87, 3) := by decide +kernel
theorem dL_holds_368 : decode cL_holds 368 = .ok (.iload 16, 2) := by decide +kernel
theorem dL_holds_370 : decode cL_holds 370 = .ok (.ifCond .lt 82, 3) := by decide +kernel
theorem dL_holds_373 : decode cL_holds 373 = .ok (.iload 16, 2) := by decide +kernel
theorem dL_holds_375 : decode cL_holds 375 = .ok (.bipush 100, 2) := by decide +kernel
theorem dL_holds_377 : decode cL_holds 377 = .ok (.if_icmp .ge 75, 3) := by decide +kernel
theorem dL_holds_380 : decode cL_holds 380 = .ok (.iload 17, 2) := by decide +kernel
theorem dL_holds_382 : decode cL_holds 382 = .ok (.ifCond .lt 70, 3) := by decide +kernel
theorem dL_holds_385 : decode cL_holds 385 = .ok (.iload 17, 2) := by decide +kernel
theorem dL_holds_387 : decode cL_holds 387 = .ok (.bipush 100, 2) := by decide +kernel
theorem dL_holds_389 : decode cL_holds 389 = .ok (.if_icmp .ge 63, 3) := by decide +kernel
theorem dL_holds_392 : decode cL_holds 392 = .ok (.iload 18, 2) := by decide +kernel
theorem dL_holds_394 : decode cL_holds 394 = .ok (.iload 16, 2) := by decide +kernel
theorem dL_holds_396 : decode cL_holds 396 = .ok (.ifCond .le 20, 3) := by decide +kernel
theorem dL_holds_399 : decode cL_holds 399 = .ok (.bipush 100, 2) := by decide +kernel
theorem dL_holds_401 : decode cL_holds 401 = .ok (.iload 16, 2) := by decide +kernel
theorem dL_holds_403 : decode cL_holds 403 = .ok (.imul, 1) := by decide +kernel
theorem dL_holds_404 : decode cL_holds 404 = .ok (.iload 12, 2) := by decide +kernel
theorem dL_holds_406 : decode cL_holds 406 = .ok (.iload 20, 2) := by decide +kernel
theorem dL_holds_408 : decode cL_holds 408 = .ok (.imul, 1) := by decide +kernel
theorem dL_holds_409 : decode cL_holds 409 = .ok (.if_icmp .lt 7, 3) := by decide +kernel
theorem dL_holds_412 : decode cL_holds 412 = .ok (.iconst 1, 1) := by decide +kernel
theorem dL_holds_413 : decode cL_holds 413 = .ok (.goto 4, 3) := by decide +kernel
theorem dL_holds_416 : decode cL_holds 416 = .ok (.iconst 0, 1) := by decide +kernel
theorem dL_holds_417 : decode cL_holds 417 = .ok (.if_icmp .ne 35, 3) := by decide +kernel
theorem dL_holds_420 : decode cL_holds 420 = .ok (.iload 19, 2) := by decide +kernel
theorem dL_holds_422 : decode cL_holds 422 = .ok (.iload 17, 2) := by decide +kernel
theorem dL_holds_424 : decode cL_holds 424 = .ok (.ifCond .le 20, 3) := by decide +kernel
theorem dL_holds_427 : decode cL_holds 427 = .ok (.bipush 100, 2) := by decide +kernel
theorem dL_holds_429 : decode cL_holds 429 = .ok (.iload 17, 2) := by decide +kernel
theorem dL_holds_431 : decode cL_holds 431 = .ok (.imul, 1) := by decide +kernel
theorem dL_holds_432 : decode cL_holds 432 = .ok (.iload 12, 2) := by decide +kernel
theorem dL_holds_434 : decode cL_holds 434 = .ok (.iload 20, 2) := by decide +kernel
theorem dL_holds_436 : decode cL_holds 436 = .ok (.imul, 1) := by decide +kernel
theorem dL_holds_437 : decode cL_holds 437 = .ok (.if_icmp .lt 7, 3) := by decide +kernel
theorem dL_holds_440 : decode cL_holds 440 = .ok (.iconst 1, 1) := by decide +kernel
theorem dL_holds_441 : decode cL_holds 441 = .ok (.goto 4, 3) := by decide +kernel
theorem dL_holds_444 : decode cL_holds 444 = .ok (.iconst 0, 1) := by decide +kernel
theorem dL_holds_445 : decode cL_holds 445 = .ok (.if_icmp .ne 7, 3) := by decide +kernel
theorem dL_holds_448 : decode cL_holds 448 = .ok (.iconst 1, 1) := by decide +kernel
theorem dL_holds_449 : decode cL_holds 449 = .ok (.goto 4, 3) := by decide +kernel
theorem dL_holds_452 : decode cL_holds 452 = .ok (.iconst 0, 1) := by decide +kernel
theorem dL_holds_453 : decode cL_holds 453 = .ok (.istore 9, 2) := by decide +kernel
theorem dL_holds_455 : decode cL_holds 455 = .ok (.iload_n 1, 1) := by decide +kernel
theorem dL_holds_456 : decode cL_holds 456 = .ok (.ifCond .eq 197, 3) := by decide +kernel
theorem dL_holds_459 : decode cL_holds 459 = .ok (.iload 9, 2) := by decide +kernel
theorem dL_holds_461 : decode cL_holds 461 = .ok (.ifCond .eq 192, 3) := by decide +kernel
theorem dL_holds_464 : decode cL_holds 464 = .ok (.iload 11, 2) := by decide +kernel
theorem dL_holds_466 : decode cL_holds 466 = .ok (.ifCond .ne 10, 3) := by decide +kernel
theorem dL_holds_469 : decode cL_holds 469 = .ok (.iconst 1, 1) := by decide +kernel
theorem dL_holds_470 : decode cL_holds 470 = .ok (.iload 13, 2) := by decide +kernel
theorem dL_holds_472 : decode cL_holds 472 = .ok (.isub, 1) := by decide +kernel
theorem dL_holds_473 : decode cL_holds 473 = .ok (.goto 55, 3) := by decide +kernel
theorem dL_holds_476 : decode cL_holds 476 = .ok (.iload 11, 2) := by decide +kernel
theorem dL_holds_478 : decode cL_holds 478 = .ok (.iconst 1, 1) := by decide +kernel
theorem dL_holds_479 : decode cL_holds 479 = .ok (.if_icmp .ne 21, 3) := by decide +kernel
theorem dL_holds_482 : decode cL_holds 482 = .ok (.iload 18, 2) := by decide +kernel
theorem dL_holds_484 : decode cL_holds 484 = .ok (.ifCond .ne 8, 3) := by decide +kernel
theorem dL_holds_487 : decode cL_holds 487 = .ok (.iload 19, 2) := by decide +kernel
theorem dL_holds_489 : decode cL_holds 489 = .ok (.ifCond .eq 7, 3) := by decide +kernel
theorem dL_holds_492 : decode cL_holds 492 = .ok (.iconst 1, 1) := by decide +kernel
theorem dL_holds_493 : decode cL_holds 493 = .ok (.goto 35, 3) := by decide +kernel
theorem dL_holds_496 : decode cL_holds 496 = .ok (.iconst 0, 1) := by decide +kernel
theorem dL_holds_497 : decode cL_holds 497 = .ok (.goto 31, 3) := by decide +kernel
theorem dL_holds_500 : decode cL_holds 500 = .ok (.iload 11, 2) := by decide +kernel
theorem dL_holds_502 : decode cL_holds 502 = .ok (.iconst 2, 1) := by decide +kernel
theorem dL_holds_503 : decode cL_holds 503 = .ok (.if_icmp .ne 8, 3) := by decide +kernel
theorem dL_holds_506 : decode cL_holds 506 = .ok (.iload 13, 2) := by decide +kernel
theorem dL_holds_508 : decode cL_holds 508 = .ok (.goto 20, 3) := by decide +kernel
theorem dL_holds_511 : decode cL_holds 511 = .ok (.iload 16, 2) := by decide +kernel
theorem dL_holds_513 : decode cL_holds 513 = .ok (.iconst 5, 1) := by decide +kernel
theorem dL_holds_514 : decode cL_holds 514 = .ok (.if_icmp .ge 9, 3) := by decide +kernel
theorem dL_holds_517 : decode cL_holds 517 = .ok (.iload 17, 2) := by decide +kernel
theorem dL_holds_519 : decode cL_holds 519 = .ok (.iconst 5, 1) := by decide +kernel
theorem dL_holds_520 : decode cL_holds 520 = .ok (.if_icmp .lt 7, 3) := by decide +kernel
theorem dL_holds_523 : decode cL_holds 523 = .ok (.iconst 0, 1) := by decide +kernel
theorem dL_holds_524 : decode cL_holds 524 = .ok (.goto 4, 3) := by decide +kernel
theorem dL_holds_527 : decode cL_holds 527 = .ok (.iconst 1, 1) := by decide +kernel
theorem dL_holds_528 : decode cL_holds 528 = .ok (.istore 21, 2) := by decide +kernel
theorem dL_holds_530 : decode cL_holds 530 = .ok (.iload 16, 2) := by decide +kernel
theorem dL_holds_532 : decode cL_holds 532 = .ok (.iload 17, 2) := by decide +kernel
theorem dL_holds_534 : decode cL_holds 534 = .ok (.if_icmp .ge 8, 3) := by decide +kernel
theorem dL_holds_537 : decode cL_holds 537 = .ok (.iload 16, 2) := by decide +kernel
theorem dL_holds_539 : decode cL_holds 539 = .ok (.goto 5, 3) := by decide +kernel
theorem dL_holds_542 : decode cL_holds 542 = .ok (.iload 17, 2) := by decide +kernel
theorem dL_holds_544 : decode cL_holds 544 = .ok (.istore 22, 2) := by decide +kernel
theorem dL_holds_546 : decode cL_holds 546 = .ok (.iload 11, 2) := by decide +kernel
theorem dL_holds_548 : decode cL_holds 548 = .ok (.iconst 3, 1) := by decide +kernel
theorem dL_holds_549 : decode cL_holds 549 = .ok (.if_icmp .ne 37, 3) := by decide +kernel
theorem dL_holds_552 : decode cL_holds 552 = .ok (.iload 14, 2) := by decide +kernel
theorem dL_holds_554 : decode cL_holds 554 = .ok (.iload 22, 2) := by decide +kernel
theorem dL_holds_556 : decode cL_holds 556 = .ok (.if_icmp .ne 26, 3) := by decide +kernel
theorem dL_holds_559 : decode cL_holds 559 = .ok (.iload 15, 2) := by decide +kernel
theorem dL_holds_561 : decode cL_holds 561 = .ok (.iload 22, 2) := by decide +kernel
theorem dL_holds_563 : decode cL_holds 563 = .ok (.ifCond .ne 11, 3) := by decide +kernel
theorem dL_holds_566 : decode cL_holds 566 = .ok (.iload 16, 2) := by decide +kernel
theorem dL_holds_568 : decode cL_holds 568 = .ok (.iload 17, 2) := by decide +kernel
theorem dL_holds_570 : decode cL_holds 570 = .ok (.iadd, 1) := by decide +kernel
theorem dL_holds_571 : decode cL_holds 571 = .ok (.goto 4, 3) := by decide +kernel
theorem dL_holds_574 : decode cL_holds 574 = .ok (.iconst 0, 1) := by decide +kernel
theorem dL_holds_575 : decode cL_holds 575 = .ok (.if_icmp .ne 7, 3) := by decide +kernel
theorem dL_holds_578 : decode cL_holds 578 = .ok (.iconst 1, 1) := by decide +kernel
theorem dL_holds_579 : decode cL_holds 579 = .ok (.goto 72, 3) := by decide +kernel
theorem dL_holds_582 : decode cL_holds 582 = .ok (.iconst 0, 1) := by decide +kernel
theorem dL_holds_583 : decode cL_holds 583 = .ok (.goto 68, 3) := by decide +kernel
theorem dL_holds_586 : decode cL_holds 586 = .ok (.iload 21, 2) := by decide +kernel
theorem dL_holds_588 : decode cL_holds 588 = .ok (.ifCond .ne 8, 3) := by decide +kernel
theorem dL_holds_591 : decode cL_holds 591 = .ok (.iload 14, 2) := by decide +kernel
theorem dL_holds_593 : decode cL_holds 593 = .ok (.goto 5, 3) := by decide +kernel
theorem dL_holds_596 : decode cL_holds 596 = .ok (.iload 15, 2) := by decide +kernel
theorem dL_holds_598 : decode cL_holds 598 = .ok (.iload 12, 2) := by decide +kernel
theorem dL_holds_600 : decode cL_holds 600 = .ok (.if_icmp .ne 50, 3) := by decide +kernel
theorem dL_holds_603 : decode cL_holds 603 = .ok (.iload 21, 2) := by decide +kernel
theorem dL_holds_605 : decode cL_holds 605 = .ok (.ifCond .ne 8, 3) := by decide +kernel
theorem dL_holds_608 : decode cL_holds 608 = .ok (.iload 15, 2) := by decide +kernel
theorem dL_holds_610 : decode cL_holds 610 = .ok (.goto 5, 3) := by decide +kernel
theorem dL_holds_613 : decode cL_holds 613 = .ok (.iload 14, 2) := by decide +kernel
theorem dL_holds_615 : decode cL_holds 615 = .ok (.ifCond .ne 35, 3) := by decide +kernel
theorem dL_holds_618 : decode cL_holds 618 = .ok (.iload 11, 2) := by decide +kernel
theorem dL_holds_620 : decode cL_holds 620 = .ok (.iconst 2, 1) := by decide +kernel
theorem dL_holds_621 : decode cL_holds 621 = .ok (.if_icmp .ne 25, 3) := by decide +kernel
theorem dL_holds_624 : decode cL_holds 624 = .ok (.iload 18, 2) := by decide +kernel
theorem dL_holds_626 : decode cL_holds 626 = .ok (.iload 19, 2) := by decide +kernel
theorem dL_holds_628 : decode cL_holds 628 = .ok (.if_icmp .eq 18, 3) := by decide +kernel
theorem dL_holds_631 : decode cL_holds 631 = .ok (.iload 13, 2) := by decide +kernel
theorem dL_holds_633 : decode cL_holds 633 = .ok (.iload 18, 2) := by decide +kernel
theorem dL_holds_635 : decode cL_holds 635 = .ok (.ifCond .eq 7, 3) := by decide +kernel
theorem dL_holds_638 : decode cL_holds 638 = .ok (.iconst 1, 1) := by decide +kernel
theorem dL_holds_639 : decode cL_holds 639 = .ok (.goto 4, 3) := by decide +kernel
theorem dL_holds_642 : decode cL_holds 642 = .ok (.iconst 0, 1) := by decide +kernel
theorem dL_holds_643 : decode cL_holds 643 = .ok (.if_icmp .ne 7, 3) := by decide +kernel
theorem dL_holds_646 : decode cL_holds 646 = .ok (.iconst 1, 1) := by decide +kernel
theorem dL_holds_647 : decode cL_holds 647 = .ok (.goto 4, 3) := by decide +kernel
theorem dL_holds_650 : decode cL_holds 650 = .ok (.iconst 0, 1) := by decide +kernel
theorem dL_holds_651 : decode cL_holds 651 = .ok (.istore 9, 2) := by decide +kernel
theorem dL_holds_653 : decode cL_holds 653 = .ok (.iinc 10 1, 3) := by decide +kernel
theorem dL_holds_656 : decode cL_holds 656 = .ok (.goto (-601), 3) := by decide +kernel
theorem dL_holds_659 : decode cL_holds 659 = .ok (.iconst 0, 1) := by decide +kernel
theorem dL_holds_660 : decode cL_holds 660 = .ok (.istore 10, 2) := by decide +kernel
theorem dL_holds_662 : decode cL_holds 662 = .ok (.iload 10, 2) := by decide +kernel
theorem dL_holds_664 : decode cL_holds 664 = .ok (.iload_n 3, 1) := by decide +kernel
theorem dL_holds_665 : decode cL_holds 665 = .ok (.if_icmp .ge 208, 3) := by decide +kernel
theorem dL_holds_668 : decode cL_holds 668 = .ok (.iload 9, 2) := by decide +kernel
theorem dL_holds_670 : decode cL_holds 670 = .ok (.ifCond .eq 203, 3) := by decide +kernel
theorem dL_holds_673 : decode cL_holds 673 = .ok (.aload_n 0, 1) := by decide +kernel
theorem dL_holds_674 : decode cL_holds 674 = .ok (.bipush 6, 2) := by decide +kernel
theorem dL_holds_676 : decode cL_holds 676 = .ok (.iload 10, 2) := by decide +kernel
theorem dL_holds_678 : decode cL_holds 678 = .ok (.bipush 7, 2) := by decide +kernel
theorem dL_holds_680 : decode cL_holds 680 = .ok (.iconst 0, 1) := by decide +kernel
theorem dL_holds_681 : decode cL_holds 681 = .ok (.invokestatic 172, 3) := by decide +kernel
theorem dL_holds_684 : decode cL_holds 684 = .ok (.istore 11, 2) := by decide +kernel
theorem dL_holds_686 : decode cL_holds 686 = .ok (.aload_n 0, 1) := by decide +kernel
theorem dL_holds_687 : decode cL_holds 687 = .ok (.bipush 6, 2) := by decide +kernel
theorem dL_holds_689 : decode cL_holds 689 = .ok (.iload 10, 2) := by decide +kernel
theorem dL_holds_691 : decode cL_holds 691 = .ok (.iconst 4, 1) := by decide +kernel
theorem dL_holds_692 : decode cL_holds 692 = .ok (.iconst 0, 1) := by decide +kernel
theorem dL_holds_693 : decode cL_holds 693 = .ok (.invokestatic 172, 3) := by decide +kernel
theorem dL_holds_696 : decode cL_holds 696 = .ok (.aload_n 0, 1) := by decide +kernel
theorem dL_holds_697 : decode cL_holds 697 = .ok (.bipush 7, 2) := by decide +kernel
theorem dL_holds_699 : decode cL_holds 699 = .ok (.iconst 0, 1) := by decide +kernel
