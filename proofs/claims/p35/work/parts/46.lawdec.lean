theorem dL_tryAppend_0 : decode cL_tryAppend 0 = .ok (.aload_n 0, 1) := by decide +kernel
theorem dL_tryAppend_1 : decode cL_tryAppend 1 = .ok (.iload_n 1, 1) := by decide +kernel
theorem dL_tryAppend_2 : decode cL_tryAppend 2 = .ok (.invokevirtual 7, 3) := by decide +kernel
theorem dL_tryAppend_5 : decode cL_tryAppend 5 = .ok (.ireturn, 1) := by decide +kernel
theorem dL_tryAppend_6 : decode cL_tryAppend 6 = .ok (.astore_n 2, 1) := by decide +kernel
theorem dL_tryAppend_7 : decode cL_tryAppend 7 = .ok (.sipush (-1002), 3) := by decide +kernel
theorem dL_tryAppend_10 : decode cL_tryAppend 10 = .ok (.ireturn, 1) := by decide +kernel
theorem dL_tryAppend_11 : decode cL_tryAppend 11 = .ok (.astore_n 2, 1) := by decide +kernel
theorem dL_tryAppend_12 : decode cL_tryAppend 12 = .ok (.sipush (-1003), 3) := by decide +kernel
theorem dL_tryAppend_15 : decode cL_tryAppend 15 = .ok (.ireturn, 1) := by decide +kernel
theorem dL_tryLoad_0 : decode cL_tryLoad 0 = .ok (.aload_n 0, 1) := by decide +kernel
theorem dL_tryLoad_1 : decode cL_tryLoad 1 = .ok (.invokevirtual 17, 3) := by decide +kernel
theorem dL_tryLoad_4 : decode cL_tryLoad 4 = .ok (.ireturn, 1) := by decide +kernel
theorem dL_tryLoad_5 : decode cL_tryLoad 5 = .ok (.astore_n 1, 1) := by decide +kernel
theorem dL_tryLoad_6 : decode cL_tryLoad 6 = .ok (.sipush (-1003), 3) := by decide +kernel
theorem dL_tryLoad_9 : decode cL_tryLoad 9 = .ok (.ireturn, 1) := by decide +kernel
theorem dL_tryAbout_0 : decode cL_tryAbout 0 = .ok (.aload_n 0, 1) := by decide +kernel
theorem dL_tryAbout_1 : decode cL_tryAbout 1 = .ok (.iload_n 1, 1) := by decide +kernel
theorem dL_tryAbout_2 : decode cL_tryAbout 2 = .ok (.invokevirtual 21, 3) := by decide +kernel
theorem dL_tryAbout_5 : decode cL_tryAbout 5 = .ok (.ireturn, 1) := by decide +kernel
theorem dL_tryAbout_6 : decode cL_tryAbout 6 = .ok (.astore_n 2, 1) := by decide +kernel
theorem dL_tryAbout_7 : decode cL_tryAbout 7 = .ok (.sipush (-1002), 3) := by decide +kernel
theorem dL_tryAbout_10 : decode cL_tryAbout 10 = .ok (.ireturn, 1) := by decide +kernel
theorem dL_tryNumber_0 : decode cL_tryNumber 0 = .ok (.aload_n 0, 1) := by decide +kernel
theorem dL_tryNumber_1 : decode cL_tryNumber 1 = .ok (.iload_n 1, 1) := by decide +kernel
theorem dL_tryNumber_2 : decode cL_tryNumber 2 = .ok (.iload_n 2, 1) := by decide +kernel
theorem dL_tryNumber_3 : decode cL_tryNumber 3 = .ok (.iload_n 3, 1) := by decide +kernel
theorem dL_tryNumber_4 : decode cL_tryNumber 4 = .ok (.invokevirtual 24, 3) := by decide +kernel
theorem dL_tryNumber_7 : decode cL_tryNumber 7 = .ok (.ireturn, 1) := by decide +kernel
theorem dL_tryNumber_8 : decode cL_tryNumber 8 = .ok (.astore 4, 2) := by decide +kernel
theorem dL_tryNumber_10 : decode cL_tryNumber 10 = .ok (.sipush (-1001), 3) := by decide +kernel
theorem dL_tryNumber_13 : decode cL_tryNumber 13 = .ok (.ireturn, 1) := by decide +kernel
theorem dL_tryNumber_14 : decode cL_tryNumber 14 = .ok (.astore 4, 2) := by decide +kernel
theorem dL_tryNumber_16 : decode cL_tryNumber 16 = .ok (.sipush (-1002), 3) := by decide +kernel
theorem dL_tryNumber_19 : decode cL_tryNumber 19 = .ok (.ireturn, 1) := by decide +kernel
theorem dL_tryState_0 : decode cL_tryState 0 = .ok (.aload_n 0, 1) := by decide +kernel
theorem dL_tryState_1 : decode cL_tryState 1 = .ok (.iload_n 1, 1) := by decide +kernel
theorem dL_tryState_2 : decode cL_tryState 2 = .ok (.iload_n 2, 1) := by decide +kernel
theorem dL_tryState_3 : decode cL_tryState 3 = .ok (.invokevirtual 30, 3) := by decide +kernel
theorem dL_tryState_6 : decode cL_tryState 6 = .ok (.ireturn, 1) := by decide +kernel
theorem dL_tryState_7 : decode cL_tryState 7 = .ok (.astore_n 3, 1) := by decide +kernel
theorem dL_tryState_8 : decode cL_tryState 8 = .ok (.sipush (-1001), 3) := by decide +kernel
theorem dL_tryState_11 : decode cL_tryState 11 = .ok (.ireturn, 1) := by decide +kernel
theorem dL_tryState_12 : decode cL_tryState 12 = .ok (.astore_n 3, 1) := by decide +kernel
theorem dL_tryState_13 : decode cL_tryState 13 = .ok (.sipush (-1002), 3) := by decide +kernel
theorem dL_tryState_16 : decode cL_tryState 16 = .ok (.ireturn, 1) := by decide +kernel
theorem dL_tryOutput_0 : decode cL_tryOutput 0 = .ok (.aload_n 0, 1) := by decide +kernel
theorem dL_tryOutput_1 : decode cL_tryOutput 1 = .ok (.iload_n 1, 1) := by decide +kernel
theorem dL_tryOutput_2 : decode cL_tryOutput 2 = .ok (.iload_n 2, 1) := by decide +kernel
theorem dL_tryOutput_3 : decode cL_tryOutput 3 = .ok (.invokevirtual 34, 3) := by decide +kernel
theorem dL_tryOutput_6 : decode cL_tryOutput 6 = .ok (.ireturn, 1) := by decide +kernel
theorem dL_tryOutput_7 : decode cL_tryOutput 7 = .ok (.astore_n 3, 1) := by decide +kernel
theorem dL_tryOutput_8 : decode cL_tryOutput 8 = .ok (.sipush (-1001), 3) := by decide +kernel
theorem dL_tryOutput_11 : decode cL_tryOutput 11 = .ok (.ireturn, 1) := by decide +kernel
theorem dL_tryOutput_12 : decode cL_tryOutput 12 = .ok (.astore_n 3, 1) := by decide +kernel
theorem dL_tryOutput_13 : decode cL_tryOutput 13 = .ok (.sipush (-1002), 3) := by decide +kernel
theorem dL_tryOutput_16 : decode cL_tryOutput 16 = .ok (.ireturn, 1) := by decide +kernel
theorem dL_tryOutput_17 : decode cL_tryOutput 17 = .ok (.astore_n 3, 1) := by decide +kernel
theorem dL_tryOutput_18 : decode cL_tryOutput 18 = .ok (.sipush (-1003), 3) := by decide +kernel
theorem dL_tryOutput_21 : decode cL_tryOutput 21 = .ok (.ireturn, 1) := by decide +kernel
theorem dL_tryPlace_0 : decode cL_tryPlace 0 = .ok (.aload_n 0, 1) := by decide +kernel
theorem dL_tryPlace_1 : decode cL_tryPlace 1 = .ok (.iload_n 1, 1) := by decide +kernel
theorem dL_tryPlace_2 : decode cL_tryPlace 2 = .ok (.iload_n 2, 1) := by decide +kernel
theorem dL_tryPlace_3 : decode cL_tryPlace 3 = .ok (.invokevirtual 37, 3) := by decide +kernel
theorem dL_tryPlace_6 : decode cL_tryPlace 6 = .ok (.ireturn, 1) := by decide +kernel
theorem dL_tryPlace_7 : decode cL_tryPlace 7 = .ok (.astore_n 3, 1) := by decide +kernel
theorem dL_tryPlace_8 : decode cL_tryPlace 8 = .ok (.sipush (-1001), 3) := by decide +kernel
theorem dL_tryPlace_11 : decode cL_tryPlace 11 = .ok (.ireturn, 1) := by decide +kernel
theorem dL_tryPlace_12 : decode cL_tryPlace 12 = .ok (.astore_n 3, 1) := by decide +kernel
theorem dL_tryPlace_13 : decode cL_tryPlace 13 = .ok (.sipush (-1003), 3) := by decide +kernel
theorem dL_tryPlace_16 : decode cL_tryPlace 16 = .ok (.ireturn, 1) := by decide +kernel
theorem dL_tryStep_0 : decode cL_tryStep 0 = .ok (.aload_n 0, 1) := by decide +kernel
theorem dL_tryStep_1 : decode cL_tryStep 1 = .ok (.iload_n 1, 1) := by decide +kernel
theorem dL_tryStep_2 : decode cL_tryStep 2 = .ok (.iload_n 2, 1) := by decide +kernel
theorem dL_tryStep_3 : decode cL_tryStep 3 = .ok (.invokevirtual 40, 3) := by decide +kernel
theorem dL_tryStep_6 : decode cL_tryStep 6 = .ok (.ireturn, 1) := by decide +kernel
theorem dL_tryStep_7 : decode cL_tryStep 7 = .ok (.astore_n 3, 1) := by decide +kernel
theorem dL_tryStep_8 : decode cL_tryStep 8 = .ok (.sipush (-1002), 3) := by decide +kernel
theorem dL_tryStep_11 : decode cL_tryStep 11 = .ok (.ireturn, 1) := by decide +kernel
theorem dL_tryRead_0 : decode cL_tryRead 0 = .ok (.aload_n 0, 1) := by decide +kernel
theorem dL_tryRead_1 : decode cL_tryRead 1 = .ok (.iload_n 1, 1) := by decide +kernel
theorem dL_tryRead_2 : decode cL_tryRead 2 = .ok (.invokevirtual 43, 3) := by decide +kernel
theorem dL_tryRead_5 : decode cL_tryRead 5 = .ok (.ireturn, 1) := by decide +kernel
theorem dL_tryRead_6 : decode cL_tryRead 6 = .ok (.astore_n 2, 1) := by decide +kernel
theorem dL_tryRead_7 : decode cL_tryRead 7 = .ok (.sipush (-1001), 3) := by decide +kernel
theorem dL_tryRead_10 : decode cL_tryRead 10 = .ok (.ireturn, 1) := by decide +kernel
theorem dL_tryShave_0 : decode cL_tryShave 0 = .ok (.aload_n 0, 1) := by decide +kernel
theorem dL_tryShave_1 : decode cL_tryShave 1 = .ok (.iload_n 1, 1) := by decide +kernel
theorem dL_tryShave_2 : decode cL_tryShave 2 = .ok (.iload_n 2, 1) := by decide +kernel
theorem dL_tryShave_3 : decode cL_tryShave 3 = .ok (.invokevirtual 46, 3) := by decide +kernel
theorem dL_tryShave_6 : decode cL_tryShave 6 = .ok (.ireturn, 1) := by decide +kernel
theorem dL_tryShave_7 : decode cL_tryShave 7 = .ok (.astore_n 3, 1) := by decide +kernel
theorem dL_tryShave_8 : decode cL_tryShave 8 = .ok (.sipush (-1001), 3) := by decide +kernel
theorem dL_tryShave_11 : decode cL_tryShave 11 = .ok (.ireturn, 1) := by decide +kernel
theorem dL_tryShave_12 : decode cL_tryShave 12 = .ok (.astore_n 3, 1) := by decide +kernel
theorem dL_tryShave_13 : decode cL_tryShave 13 = .ok (.sipush (-1002), 3) := by decide +kernel
theorem dL_tryShave_16 : decode cL_tryShave 16 = .ok (.ireturn, 1) := by decide +kernel
theorem dL_trySetGain_0 : decode cL_trySetGain 0 = .ok (.aload_n 0, 1) := by decide +kernel
theorem dL_trySetGain_1 : decode cL_trySetGain 1 = .ok (.iload_n 1, 1) := by decide +kernel
theorem dL_trySetGain_2 : decode cL_trySetGain 2 = .ok (.iload_n 2, 1) := by decide +kernel
theorem dL_trySetGain_3 : decode cL_trySetGain 3 = .ok (.iload_n 3, 1) := by decide +kernel
theorem dL_trySetGain_4 : decode cL_trySetGain 4 = .ok (.invokevirtual 49, 3) := by decide +kernel
theorem dL_trySetGain_7 : decode cL_trySetGain 7 = .ok (.ireturn, 1) := by decide +kernel
theorem dL_trySetGain_8 : decode cL_trySetGain 8 = .ok (.astore 4, 2) := by decide +kernel
theorem dL_trySetGain_10 : decode cL_trySetGain 10 = .ok (.sipush (-1001), 3) := by decide +kernel
theorem dL_trySetGain_13 : decode cL_trySetGain 13 = .ok (.ireturn, 1) := by decide +kernel
theorem dL_trySetGain_14 : decode cL_trySetGain 14 = .ok (.astore 4, 2) := by decide +kernel
theorem dL_trySetGain_16 : decode cL_trySetGain 16 = .ok (.sipush (-1002), 3) := by decide +kernel
theorem dL_trySetGain_19 : decode cL_trySetGain 19 = .ok (.ireturn, 1) := by decide +kernel
theorem dL_trySetHold_0 : decode cL_trySetHold 0 = .ok (.aload_n 0, 1) := by decide +kernel
theorem dL_trySetHold_1 : decode cL_trySetHold 1 = .ok (.iload_n 1, 1) := by decide +kernel
theorem dL_trySetHold_2 : decode cL_trySetHold 2 = .ok (.invokevirtual 52, 3) := by decide +kernel
theorem dL_trySetHold_5 : decode cL_trySetHold 5 = .ok (.ireturn, 1) := by decide +kernel
theorem dL_trySetHold_6 : decode cL_trySetHold 6 = .ok (.astore_n 2, 1) := by decide +kernel
theorem dL_trySetHold_7 : decode cL_trySetHold 7 = .ok (.sipush (-1002), 3) := by decide +kernel
theorem dL_trySetHold_10 : decode cL_trySetHold 10 = .ok (.ireturn, 1) := by decide +kernel
theorem dL_trySetBound_0 : decode cL_trySetBound 0 = .ok (.aload_n 0, 1) := by decide +kernel
theorem dL_trySetBound_1 : decode cL_trySetBound 1 = .ok (.iload_n 1, 1) := by decide +kernel
theorem dL_trySetBound_2 : decode cL_trySetBound 2 = .ok (.invokevirtual 55, 3) := by decide +kernel
theorem dL_trySetBound_5 : decode cL_trySetBound 5 = .ok (.ireturn, 1) := by decide +kernel
theorem dL_trySetBound_6 : decode cL_trySetBound 6 = .ok (.astore_n 2, 1) := by decide +kernel
theorem dL_trySetBound_7 : decode cL_trySetBound 7 = .ok (.sipush (-1002), 3) := by decide +kernel
theorem dL_trySetBound_10 : decode cL_trySetBound 10 = .ok (.ireturn, 1) := by decide +kernel
theorem dL_tryUndo_0 : decode cL_tryUndo 0 = .ok (.aload_n 0, 1) := by decide +kernel
theorem dL_tryUndo_1 : decode cL_tryUndo 1 = .ok (.invokevirtual 58, 3) := by decide +kernel
theorem dL_tryUndo_4 : decode cL_tryUndo 4 = .ok (.ireturn, 1) := by decide +kernel
theorem dL_tryUndo_5 : decode cL_tryUndo 5 = .ok (.astore_n 1, 1) := by decide +kernel
theorem dL_tryUndo_6 : decode cL_tryUndo 6 = .ok (.sipush (-1003), 3) := by decide +kernel
theorem dL_tryUndo_9 : decode cL_tryUndo 9 = .ok (.ireturn, 1) := by decide +kernel
theorem dL_tryCanBe_0 : decode cL_tryCanBe 0 = .ok (.aload_n 0, 1) := by decide +kernel
theorem dL_tryCanBe_1 : decode cL_tryCanBe 1 = .ok (.iload_n 1, 1) := by decide +kernel
theorem dL_tryCanBe_2 : decode cL_tryCanBe 2 = .ok (.iload_n 2, 1) := by decide +kernel
theorem dL_tryCanBe_3 : decode cL_tryCanBe 3 = .ok (.iload_n 3, 1) := by decide +kernel
theorem dL_tryCanBe_4 : decode cL_tryCanBe 4 = .ok (.iload 4, 2) := by decide +kernel
theorem dL_tryCanBe_6 : decode cL_tryCanBe 6 = .ok (.invokevirtual 61, 3) := by decide +kernel
theorem dL_tryCanBe_9 : decode cL_tryCanBe 9 = .ok (.ifCond .eq 7, 3) := by decide +kernel
theorem dL_tryCanBe_12 : decode cL_tryCanBe 12 = .ok (.iconst 1, 1) := by decide +kernel
theorem dL_tryCanBe_13 : decode cL_tryCanBe 13 = .ok (.goto 4, 3) := by decide +kernel
theorem dL_tryCanBe_16 : decode cL_tryCanBe 16 = .ok (.iconst 0, 1) := by decide +kernel
theorem dL_tryCanBe_17 : decode cL_tryCanBe 17 = .ok (.ireturn, 1) := by decide +kernel
theorem dL_tryCanBe_18 : decode cL_tryCanBe 18 = .ok (.astore 5, 2) := by decide +kernel
theorem dL_tryCanBe_20 : decode cL_tryCanBe 20 = .ok (.sipush (-1002), 3) := by decide +kernel
theorem dL_tryCanBe_23 : decode cL_tryCanBe 23 = .ok (.ireturn, 1) := by decide +kernel
theorem dL_tryWidthIf_0 : decode cL_tryWidthIf 0 = .ok (.aload_n 0, 1) := by decide +kernel
theorem dL_tryWidthIf_1 : decode cL_tryWidthIf 1 = .ok (.iload_n 1, 1) := by decide +kernel
theorem dL_tryWidthIf_2 : decode cL_tryWidthIf 2 = .ok (.iload_n 2, 1) := by decide +kernel
theorem dL_tryWidthIf_3 : decode cL_tryWidthIf 3 = .ok (.invokevirtual 65, 3) := by decide +kernel
theorem dL_tryWidthIf_6 : decode cL_tryWidthIf 6 = .ok (.ireturn, 1) := by decide +kernel
theorem dL_tryWidthIf_7 : decode cL_tryWidthIf 7 = .ok (.astore_n 3, 1) := by decide +kernel
theorem dL_tryWidthIf_8 : decode cL_tryWidthIf 8 = .ok (.sipush (-1001), 3) := by decide +kernel
theorem dL_tryWidthIf_11 : decode cL_tryWidthIf 11 = .ok (.ireturn, 1) := by decide +kernel
theorem dL_tryWidthIf_12 : decode cL_tryWidthIf 12 = .ok (.astore_n 3, 1) := by decide +kernel
theorem dL_tryWidthIf_13 : decode cL_tryWidthIf 13 = .ok (.sipush (-1002), 3) := by decide +kernel
theorem dL_tryWidthIf_16 : decode cL_tryWidthIf 16 = .ok (.ireturn, 1) := by decide +kernel
theorem dL_tryAhead_0 : decode cL_tryAhead 0 = .ok (.aload_n 0, 1) := by decide +kernel
theorem dL_tryAhead_1 : decode cL_tryAhead 1 = .ok (.iload_n 1, 1) := by decide +kernel
theorem dL_tryAhead_2 : decode cL_tryAhead 2 = .ok (.iload_n 2, 1) := by decide +kernel
theorem dL_tryAhead_3 : decode cL_tryAhead 3 = .ok (.iload_n 3, 1) := by decide +kernel
theorem dL_tryAhead_4 : decode cL_tryAhead 4 = .ok (.iload 4, 2) := by decide +kernel
theorem dL_tryAhead_6 : decode cL_tryAhead 6 = .ok (.invokevirtual 68, 3) := by decide +kernel
theorem dL_tryAhead_9 : decode cL_tryAhead 9 = .ok (.ireturn, 1) := by decide +kernel
theorem dL_tryAhead_10 : decode cL_tryAhead 10 = .ok (.astore 5, 2) := by decide +kernel
theorem dL_tryAhead_12 : decode cL_tryAhead 12 = .ok (.sipush (-1001), 3) := by decide +kernel
theorem dL_tryAhead_15 : decode cL_tryAhead 15 = .ok (.ireturn, 1) := by decide +kernel
theorem dL_tryAhead_16 : decode cL_tryAhead 16 = .ok (.astore 5, 2) := by decide +kernel
theorem dL_tryAhead_18 : decode cL_tryAhead 18 = .ok (.sipush (-1002), 3) := by decide +kernel
theorem dL_tryAhead_21 : decode cL_tryAhead 21 = .ok (.ireturn, 1) := by decide +kernel
theorem dL_tryEarliest_0 : decode cL_tryEarliest 0 = .ok (.aload_n 0, 1) := by decide +kernel
theorem dL_tryEarliest_1 : decode cL_tryEarliest 1 = .ok (.iload_n 1, 1) := by decide +kernel
theorem dL_tryEarliest_2 : decode cL_tryEarliest 2 = .ok (.iload_n 2, 1) := by decide +kernel
theorem dL_tryEarliest_3 : decode cL_tryEarliest 3 = .ok (.iload_n 3, 1) := by decide +kernel
theorem dL_tryEarliest_4 : decode cL_tryEarliest 4 = .ok (.iload 4, 2) := by decide +kernel
theorem dL_tryEarliest_6 : decode cL_tryEarliest 6 = .ok (.invokevirtual 72, 3) := by decide +kernel
theorem dL_tryEarliest_9 : decode cL_tryEarliest 9 = .ok (.ireturn, 1) := by decide +kernel
theorem dL_tryEarliest_10 : decode cL_tryEarliest 10 = .ok (.astore 5, 2) := by decide +kernel
theorem dL_tryEarliest_12 : decode cL_tryEarliest 12 = .ok (.sipush (-1001), 3) := by decide +kernel
theorem dL_tryEarliest_15 : decode cL_tryEarliest 15 = .ok (.ireturn, 1) := by decide +kernel
theorem dL_tryEarliest_16 : decode cL_tryEarliest 16 = .ok (.astore 5, 2) := by decide +kernel
theorem dL_tryEarliest_18 : decode cL_tryEarliest 18 = .ok (.sipush (-1002), 3) := by decide +kernel
theorem dL_tryEarliest_21 : decode cL_tryEarliest 21 = .ok (.ireturn, 1) := by decide +kernel
theorem dL_tryUnknown_0 : decode cL_tryUnknown 0 = .ok (.aload_n 0, 1) := by decide +kernel
theorem dL_tryUnknown_1 : decode cL_tryUnknown 1 = .ok (.iload_n 1, 1) := by decide +kernel
theorem dL_tryUnknown_2 : decode cL_tryUnknown 2 = .ok (.invokevirtual 75, 3) := by decide +kernel
theorem dL_tryUnknown_5 : decode cL_tryUnknown 5 = .ok (.ireturn, 1) := by decide +kernel
theorem dL_tryUnknown_6 : decode cL_tryUnknown 6 = .ok (.astore_n 2, 1) := by decide +kernel
theorem dL_tryUnknown_7 : decode cL_tryUnknown 7 = .ok (.sipush (-1003), 3) := by decide +kernel
theorem dL_tryUnknown_10 : decode cL_tryUnknown 10 = .ok (.ireturn, 1) := by decide +kernel
theorem dL_tryRank_0 : decode cL_tryRank 0 = .ok (.aload_n 0, 1) := by decide +kernel
theorem dL_tryRank_1 : decode cL_tryRank 1 = .ok (.iload_n 1, 1) := by decide +kernel
theorem dL_tryRank_2 : decode cL_tryRank 2 = .ok (.invokevirtual 79, 3) := by decide +kernel
theorem dL_tryRank_5 : decode cL_tryRank 5 = .ok (.ireturn, 1) := by decide +kernel
theorem dL_tryRank_6 : decode cL_tryRank 6 = .ok (.astore_n 2, 1) := by decide +kernel
theorem dL_tryRank_7 : decode cL_tryRank 7 = .ok (.sipush (-1002), 3) := by decide +kernel
theorem dL_tryRank_10 : decode cL_tryRank 10 = .ok (.ireturn, 1) := by decide +kernel
theorem dL_tryHidden_0 : decode cL_tryHidden 0 = .ok (.aload_n 0, 1) := by decide +kernel
theorem dL_tryHidden_1 : decode cL_tryHidden 1 = .ok (.iload_n 1, 1) := by decide +kernel
theorem dL_tryHidden_2 : decode cL_tryHidden 2 = .ok (.invokevirtual 82, 3) := by decide +kernel
theorem dL_tryHidden_5 : decode cL_tryHidden 5 = .ok (.ireturn, 1) := by decide +kernel
theorem dL_tryHidden_6 : decode cL_tryHidden 6 = .ok (.astore_n 2, 1) := by decide +kernel
theorem dL_tryHidden_7 : decode cL_tryHidden 7 = .ok (.sipush (-1002), 3) := by decide +kernel
theorem dL_tryHidden_10 : decode cL_tryHidden 10 = .ok (.ireturn, 1) := by decide +kernel
theorem dL_tryFree_0 : decode cL_tryFree 0 = .ok (.aload_n 0, 1) := by decide +kernel
theorem dL_tryFree_1 : decode cL_tryFree 1 = .ok (.iload_n 1, 1) := by decide +kernel
theorem dL_tryFree_2 : decode cL_tryFree 2 = .ok (.iload_n 2, 1) := by decide +kernel
theorem dL_tryFree_3 : decode cL_tryFree 3 = .ok (.invokevirtual 85, 3) := by decide +kernel
theorem dL_tryFree_6 : decode cL_tryFree 6 = .ok (.ireturn, 1) := by decide +kernel
theorem dL_tryFree_7 : decode cL_tryFree 7 = .ok (.astore_n 3, 1) := by decide +kernel
theorem dL_tryFree_8 : decode cL_tryFree 8 = .ok (.sipush (-1001), 3) := by decide +kernel
theorem dL_tryFree_11 : decode cL_tryFree 11 = .ok (.ireturn, 1) := by decide +kernel
theorem dL_tryFreeRange_0 : decode cL_tryFreeRange 0 = .ok (.aload_n 0, 1) := by decide +kernel
theorem dL_tryFreeRange_1 : decode cL_tryFreeRange 1 = .ok (.iload_n 1, 1) := by decide +kernel
theorem dL_tryFreeRange_2 : decode cL_tryFreeRange 2 = .ok (.iload_n 2, 1) := by decide +kernel
theorem dL_tryFreeRange_3 : decode cL_tryFreeRange 3 = .ok (.invokevirtual 88, 3) := by decide +kernel
theorem dL_tryFreeRange_6 : decode cL_tryFreeRange 6 = .ok (.ireturn, 1) := by decide +kernel
theorem dL_tryFreeRange_7 : decode cL_tryFreeRange 7 = .ok (.astore_n 3, 1) := by decide +kernel
theorem dL_tryFreeRange_8 : decode cL_tryFreeRange 8 = .ok (.sipush (-1001), 3) := by decide +kernel
theorem dL_tryFreeRange_11 : decode cL_tryFreeRange 11 = .ok (.ireturn, 1) := by decide +kernel
theorem dL_tryScript_0 : decode cL_tryScript 0 = .ok (.aload_n 0, 1) := by decide +kernel
theorem dL_tryScript_1 : decode cL_tryScript 1 = .ok (.iload_n 1, 1) := by decide +kernel
theorem dL_tryScript_2 : decode cL_tryScript 2 = .ok (.lload_n 2, 1) := by decide +kernel
theorem dL_tryScript_3 : decode cL_tryScript 3 = .ok (.invokevirtual 92, 3) := by decide +kernel
theorem dL_tryScript_6 : decode cL_tryScript 6 = .ok (.ireturn, 1) := by decide +kernel
theorem dL_tryScript_7 : decode cL_tryScript 7 = .ok (.astore 4, 2) := by decide +kernel
theorem dL_tryScript_9 : decode cL_tryScript 9 = .ok (.sipush (-1002), 3) := by decide +kernel
theorem dL_tryScript_12 : decode cL_tryScript 12 = .ok (.ireturn, 1) := by decide +kernel
theorem dL_trySave_0 : decode cL_trySave 0 = .ok (.aload_n 0, 1) := by decide +kernel
theorem dL_trySave_1 : decode cL_trySave 1 = .ok (.iload_n 1, 1) := by decide +kernel
theorem dL_trySave_2 : decode cL_trySave 2 = .ok (.invokevirtual 96, 3) := by decide +kernel
theorem dL_trySave_5 : decode cL_trySave 5 = .ok (.ireturn, 1) := by decide +kernel
theorem dL_trySave_6 : decode cL_trySave 6 = .ok (.astore_n 2, 1) := by decide +kernel
theorem dL_trySave_7 : decode cL_trySave 7 = .ok (.sipush (-1001), 3) := by decide +kernel
theorem dL_trySave_10 : decode cL_trySave 10 = .ok (.ireturn, 1) := by decide +kernel
theorem dL_tryRestore_0 : decode cL_tryRestore 0 = .ok (.aload_n 0, 1) := by decide +kernel
theorem dL_tryRestore_1 : decode cL_tryRestore 1 = .ok (.iload_n 1, 1) := by decide +kernel
theorem dL_tryRestore_2 : decode cL_tryRestore 2 = .ok (.invokevirtual 99, 3) := by decide +kernel
theorem dL_tryRestore_5 : decode cL_tryRestore 5 = .ok (.ireturn, 1) := by decide +kernel
theorem dL_tryRestore_6 : decode cL_tryRestore 6 = .ok (.astore_n 2, 1) := by decide +kernel
theorem dL_tryRestore_7 : decode cL_tryRestore 7 = .ok (.sipush (-1001), 3) := by decide +kernel
theorem dL_tryRestore_10 : decode cL_tryRestore 10 = .ok (.ireturn, 1) := by decide +kernel
theorem dL_tryRestore_11 : decode cL_tryRestore 11 = .ok (.astore_n 2, 1) := by decide +kernel
theorem dL_tryRestore_12 : decode cL_tryRestore 12 = .ok (.sipush (-1003), 3) := by decide +kernel
theorem dL_tryRestore_15 : decode cL_tryRestore 15 = .ok (.ireturn, 1) := by decide +kernel
theorem dL_trySimulate_0 : decode cL_trySimulate 0 = .ok (.aload_n 0, 1) := by decide +kernel
theorem dL_trySimulate_1 : decode cL_trySimulate 1 = .ok (.lload_n 1, 1) := by decide +kernel
theorem dL_trySimulate_2 : decode cL_trySimulate 2 = .ok (.iload_n 3, 1) := by decide +kernel
theorem dL_trySimulate_3 : decode cL_trySimulate 3 = .ok (.invokevirtual 102, 3) := by decide +kernel
theorem dL_trySimulate_6 : decode cL_trySimulate 6 = .ok (.lreturn, 1) := by decide +kernel
theorem dL_trySimulate_7 : decode cL_trySimulate 7 = .ok (.astore 4, 2) := by decide +kernel
theorem dL_trySimulate_9 : decode cL_trySimulate 9 = .ok (.ldc2_w 106, 3) := by decide +kernel
theorem dL_trySimulate_12 : decode cL_trySimulate 12 = .ok (.lreturn, 1) := by decide +kernel
theorem dL_cell_0 : decode cL_cell 0 = .ok (.iload_n 1, 1) := by decide +kernel
theorem dL_cell_1 : decode cL_cell 1 = .ok (.aload_n 0, 1) := by decide +kernel
theorem dL_cell_2 : decode cL_cell 2 = .ok (.arraylength, 1) := by decide +kernel
theorem dL_cell_3 : decode cL_cell 3 = .ok (.if_icmp .ge 9, 3) := by decide +kernel
theorem dL_cell_6 : decode cL_cell 6 = .ok (.aload_n 0, 1) := by decide +kernel
theorem dL_cell_7 : decode cL_cell 7 = .ok (.iload_n 1, 1) := by decide +kernel
theorem dL_cell_8 : decode cL_cell 8 = .ok (.iaload, 1) := by decide +kernel
theorem dL_cell_9 : decode cL_cell 9 = .ok (.goto 13, 3) := by decide +kernel
theorem dL_cell_12 : decode cL_cell 12 = .ok (.ldc 108, 2) := by decide +kernel
theorem dL_cell_14 : decode cL_cell 14 = .ok (.iload_n 1, 1) := by decide +kernel
theorem dL_cell_15 : decode cL_cell 15 = .ok (.iconst 5, 1) := by decide +kernel
theorem dL_cell_16 : decode cL_cell 16 = .ok (.iadd, 1) := by decide +kernel
theorem dL_cell_17 : decode cL_cell 17 = .ok (.imul, 1) := by decide +kernel
theorem dL_cell_18 : decode cL_cell 18 = .ok (.sipush 9623, 3) := by decide +kernel
theorem dL_cell_21 : decode cL_cell 21 = .ok (.iadd, 1) := by decide +kernel
theorem dL_cell_22 : decode cL_cell 22 = .ok (.ldc 109, 2) := by decide +kernel
theorem dL_cell_24 : decode cL_cell 24 = .ok (.iand, 1) := by decide +kernel
theorem dL_cell_25 : decode cL_cell 25 = .ok (.ireturn, 1) := by decide +kernel
theorem dL_down_0 : decode cL_down 0 = .ok (.lload_n 0, 1) := by decide +kernel
theorem dL_down_1 : decode cL_down 1 = .ok (.lload_n 2, 1) := by decide +kernel
theorem dL_down_2 : decode cL_down 2 = .ok (.lrem, 1) := by decide +kernel
theorem dL_down_3 : decode cL_down 3 = .ok (.lconst 0, 1) := by decide +kernel
theorem dL_down_4 : decode cL_down 4 = .ok (.lcmp, 1) := by decide +kernel
theorem dL_down_5 : decode cL_down 5 = .ok (.ifCond .ge 11, 3) := by decide +kernel
theorem dL_down_8 : decode cL_down 8 = .ok (.lload_n 0, 1) := by decide +kernel
theorem dL_down_9 : decode cL_down 9 = .ok (.lload_n 2, 1) := by decide +kernel
theorem dL_down_10 : decode cL_down 10 = .ok (.ldiv, 1) := by decide +kernel
theorem dL_down_11 : decode cL_down 11 = .ok (.lconst 1, 1) := by decide +kernel
theorem dL_down_12 : decode cL_down 12 = .ok (.lsub, 1) := by decide +kernel
theorem dL_down_13 : decode cL_down 13 = .ok (.goto 6, 3) := by decide +kernel
theorem dL_down_16 : decode cL_down 16 = .ok (.lload_n 0, 1) := by decide +kernel
theorem dL_down_17 : decode cL_down 17 = .ok (.lload_n 2, 1) := by decide +kernel
theorem dL_down_18 : decode cL_down 18 = .ok (.ldiv, 1) := by decide +kernel
theorem dL_down_19 : decode cL_down 19 = .ok (.lreturn, 1) := by decide +kernel
theorem dL_put_0 : decode cL_put 0 = .ok (.aload_n 0, 1) := by decide +kernel
theorem dL_put_1 : decode cL_put 1 = .ok (.iload_n 2, 1) := by decide +kernel
theorem dL_put_2 : decode cL_put 2 = .ok (.invokestatic 110, 3) := by decide +kernel
theorem dL_put_5 : decode cL_put 5 = .ok (.ifCond .le 15, 3) := by decide +kernel
theorem dL_put_8 : decode cL_put 8 = .ok (.aload_n 1, 1) := by decide +kernel
theorem dL_put_9 : decode cL_put 9 = .ok (.iload_n 2, 1) := by decide +kernel
theorem dL_put_10 : decode cL_put 10 = .ok (.invokestatic 110, 3) := by decide +kernel
theorem dL_put_13 : decode cL_put 13 = .ok (.ifCond .le 7, 3) := by decide +kernel
theorem dL_put_16 : decode cL_put 16 = .ok (.iconst 1, 1) := by decide +kernel
theorem dL_put_17 : decode cL_put 17 = .ok (.goto 4, 3) := by decide +kernel
theorem dL_put_20 : decode cL_put 20 = .ok (.iconst 0, 1) := by decide +kernel
theorem dL_put_21 : decode cL_put 21 = .ok (.ireturn, 1) := by decide +kernel
theorem dL_signed_0 : decode cL_signed 0 = .ok (.iload_n 2, 1) := by decide +kernel
theorem dL_signed_1 : decode cL_signed 1 = .ok (.ifCond .ge 8, 3) := by decide +kernel
theorem dL_signed_4 : decode cL_signed 4 = .ok (.iload_n 2, 1) := by decide +kernel
theorem dL_signed_5 : decode cL_signed 5 = .ok (.ineg, 1) := by decide +kernel
theorem dL_signed_6 : decode cL_signed 6 = .ok (.goto 4, 3) := by decide +kernel
theorem dL_signed_9 : decode cL_signed 9 = .ok (.iload_n 2, 1) := by decide +kernel
theorem dL_signed_10 : decode cL_signed 10 = .ok (.istore_n 3, 1) := by decide +kernel
theorem dL_signed_11 : decode cL_signed 11 = .ok (.aload_n 0, 1) := by decide +kernel
theorem dL_signed_12 : decode cL_signed 12 = .ok (.aload_n 1, 1) := by decide +kernel
theorem dL_signed_13 : decode cL_signed 13 = .ok (.iload_n 2, 1) := by decide +kernel
theorem dL_signed_14 : decode cL_signed 14 = .ok (.ifCond .ge 8, 3) := by decide +kernel
theorem dL_signed_17 : decode cL_signed 17 = .ok (.bipush 45, 2) := by decide +kernel
theorem dL_signed_19 : decode cL_signed 19 = .ok (.goto 5, 3) := by decide +kernel
theorem dL_signed_22 : decode cL_signed 22 = .ok (.bipush 43, 2) := by decide +kernel
theorem dL_signed_24 : decode cL_signed 24 = .ok (.invokestatic 116, 3) := by decide +kernel
theorem dL_signed_27 : decode cL_signed 27 = .ok (.ifCond .eq 37, 3) := by decide +kernel
theorem dL_signed_30 : decode cL_signed 30 = .ok (.aload_n 0, 1) := by decide +kernel
theorem dL_signed_31 : decode cL_signed 31 = .ok (.aload_n 1, 1) := by decide +kernel
theorem dL_signed_32 : decode cL_signed 32 = .ok (.bipush 48, 2) := by decide +kernel
theorem dL_signed_34 : decode cL_signed 34 = .ok (.iload_n 3, 1) := by decide +kernel
theorem dL_signed_35 : decode cL_signed 35 = .ok (.bipush 10, 2) := by decide +kernel
theorem dL_signed_37 : decode cL_signed 37 = .ok (.idiv, 1) := by decide +kernel
theorem dL_signed_38 : decode cL_signed 38 = .ok (.iadd, 1) := by decide +kernel
theorem dL_signed_39 : decode cL_signed 39 = .ok (.invokestatic 116, 3) := by decide +kernel
theorem dL_signed_42 : decode cL_signed 42 = .ok (.ifCond .eq 22, 3) := by decide +kernel
theorem dL_signed_45 : decode cL_signed 45 = .ok (.aload_n 0, 1) := by decide +kernel
theorem dL_signed_46 : decode cL_signed 46 = .ok (.aload_n 1, 1) := by decide +kernel
theorem dL_signed_47 : decode cL_signed 47 = .ok (.bipush 48, 2) := by decide +kernel
theorem dL_signed_49 : decode cL_signed 49 = .ok (.iload_n 3, 1) := by decide +kernel
theorem dL_signed_50 : decode cL_signed 50 = .ok (.bipush 10, 2) := by decide +kernel
theorem dL_signed_52 : decode cL_signed 52 = .ok (.irem, 1) := by decide +kernel
theorem dL_signed_53 : decode cL_signed 53 = .ok (.iadd, 1) := by decide +kernel
theorem dL_signed_54 : decode cL_signed 54 = .ok (.invokestatic 116, 3) := by decide +kernel
theorem dL_signed_57 : decode cL_signed 57 = .ok (.ifCond .eq 7, 3) := by decide +kernel
theorem dL_signed_60 : decode cL_signed 60 = .ok (.iconst 1, 1) := by decide +kernel
theorem dL_signed_61 : decode cL_signed 61 = .ok (.goto 4, 3) := by decide +kernel
theorem dL_signed_64 : decode cL_signed 64 = .ok (.iconst 0, 1) := by decide +kernel
theorem dL_signed_65 : decode cL_signed 65 = .ok (.ireturn, 1) := by decide +kernel
theorem dL_told_0 : decode cL_told 0 = .ok (.aload_n 2, 1) := by decide +kernel
theorem dL_told_1 : decode cL_told 1 = .ok (.iload_n 3, 1) := by decide +kernel
theorem dL_told_2 : decode cL_told 2 = .ok (.invokestatic 120, 3) := by decide +kernel
theorem dL_told_5 : decode cL_told 5 = .ok (.istore 4, 2) := by decide +kernel
theorem dL_told_7 : decode cL_told 7 = .ok (.iconst 1, 1) := by decide +kernel
theorem dL_told_8 : decode cL_told 8 = .ok (.iload 4, 2) := by decide +kernel
theorem dL_told_10 : decode cL_told 10 = .ok (.iconst 4, 1) := by decide +kernel
theorem dL_told_11 : decode cL_told 11 = .ok (.irem, 1) := by decide +kernel
theorem dL_told_12 : decode cL_told 12 = .ok (.iadd, 1) := by decide +kernel
theorem dL_told_13 : decode cL_told 13 = .ok (.istore 5, 2) := by decide +kernel
theorem dL_told_15 : decode cL_told 15 = .ok (.iconst 1, 1) := by decide +kernel
theorem dL_told_16 : decode cL_told 16 = .ok (.iload 4, 2) := by decide +kernel
theorem dL_told_18 : decode cL_told 18 = .ok (.iconst 4, 1) := by decide +kernel
theorem dL_told_19 : decode cL_told 19 = .ok (.idiv, 1) := by decide +kernel
theorem dL_told_20 : decode cL_told 20 = .ok (.iconst 3, 1) := by decide +kernel
theorem dL_told_21 : decode cL_told 21 = .ok (.irem, 1) := by decide +kernel
theorem dL_told_22 : decode cL_told 22 = .ok (.iadd, 1) := by decide +kernel
theorem dL_told_23 : decode cL_told 23 = .ok (.istore 6, 2) := by decide +kernel
theorem dL_told_25 : decode cL_told 25 = .ok (.aload_n 0, 1) := by decide +kernel
theorem dL_told_26 : decode cL_told 26 = .ok (.invokevirtual 124, 3) := by decide +kernel
theorem dL_told_29 : decode cL_told 29 = .ok (.aload_n 1, 1) := by decide +kernel
theorem dL_told_30 : decode cL_told 30 = .ok (.invokevirtual 124, 3) := by decide +kernel
theorem dL_told_33 : decode cL_told 33 = .ok (.if_icmp .ne 89, 3) := by decide +kernel
theorem dL_told_36 : decode cL_told 36 = .ok (.aload_n 0, 1) := by decide +kernel
theorem dL_told_37 : decode cL_told 37 = .ok (.aload_n 1, 1) := by decide +kernel
theorem dL_told_38 : decode cL_told 38 = .ok (.bipush 78, 2) := by decide +kernel
theorem dL_told_40 : decode cL_told 40 = .ok (.invokestatic 116, 3) := by decide +kernel
theorem dL_told_43 : decode cL_told 43 = .ok (.ifCond .eq 79, 3) := by decide +kernel
theorem dL_told_46 : decode cL_told 46 = .ok (.aload_n 0, 1) := by decide +kernel
theorem dL_told_47 : decode cL_told 47 = .ok (.aload_n 1, 1) := by decide +kernel
theorem dL_told_48 : decode cL_told 48 = .ok (.bipush 48, 2) := by decide +kernel
theorem dL_told_50 : decode cL_told 50 = .ok (.iload 5, 2) := by decide +kernel
theorem dL_told_52 : decode cL_told 52 = .ok (.iadd, 1) := by decide +kernel
theorem dL_told_53 : decode cL_told 53 = .ok (.invokestatic 116, 3) := by decide +kernel
theorem dL_told_56 : decode cL_told 56 = .ok (.ifCond .eq 66, 3) := by decide +kernel
theorem dL_told_59 : decode cL_told 59 = .ok (.aload_n 0, 1) := by decide +kernel
theorem dL_told_60 : decode cL_told 60 = .ok (.aload_n 1, 1) := by decide +kernel
theorem dL_told_61 : decode cL_told 61 = .ok (.bipush 48, 2) := by decide +kernel
theorem dL_told_63 : decode cL_told 63 = .ok (.iload 6, 2) := by decide +kernel
theorem dL_told_65 : decode cL_told 65 = .ok (.iadd, 1) := by decide +kernel
theorem dL_told_66 : decode cL_told 66 = .ok (.invokestatic 116, 3) := by decide +kernel
theorem dL_told_69 : decode cL_told 69 = .ok (.ifCond .eq 53, 3) := by decide +kernel
theorem dL_told_72 : decode cL_told 72 = .ok (.aload_n 0, 1) := by decide +kernel
theorem dL_told_73 : decode cL_told 73 = .ok (.aload_n 1, 1) := by decide +kernel
theorem dL_told_74 : decode cL_told 74 = .ok (.bipush 48, 2) := by decide +kernel
theorem dL_told_76 : decode cL_told 76 = .ok (.invokestatic 116, 3) := by decide +kernel
theorem dL_told_79 : decode cL_told 79 = .ok (.ifCond .eq 43, 3) := by decide +kernel
theorem dL_told_82 : decode cL_told 82 = .ok (.aload_n 0, 1) := by decide +kernel
theorem dL_told_83 : decode cL_told 83 = .ok (.aload_n 1, 1) := by decide +kernel
theorem dL_told_84 : decode cL_told 84 = .ok (.bipush 48, 2) := by decide +kernel
theorem dL_told_86 : decode cL_told 86 = .ok (.iload 4, 2) := by decide +kernel
theorem dL_told_88 : decode cL_told 88 = .ok (.bipush 12, 2) := by decide +kernel
theorem dL_told_90 : decode cL_told 90 = .ok (.idiv, 1) := by decide +kernel
theorem dL_told_91 : decode cL_told 91 = .ok (.iconst 4, 1) := by decide +kernel
theorem dL_told_92 : decode cL_told 92 = .ok (.irem, 1) := by decide +kernel
theorem dL_told_93 : decode cL_told 93 = .ok (.iadd, 1) := by decide +kernel
theorem dL_told_94 : decode cL_told 94 = .ok (.invokestatic 116, 3) := by decide +kernel
theorem dL_told_97 : decode cL_told 97 = .ok (.ifCond .eq 25, 3) := by decide +kernel
theorem dL_told_100 : decode cL_told 100 = .ok (.aload_n 0, 1) := by decide +kernel
theorem dL_told_101 : decode cL_told 101 = .ok (.aload_n 1, 1) := by decide +kernel
theorem dL_told_102 : decode cL_told 102 = .ok (.bipush 48, 2) := by decide +kernel
theorem dL_told_104 : decode cL_told 104 = .ok (.iload 4, 2) := by decide +kernel
theorem dL_told_106 : decode cL_told 106 = .ok (.bipush 48, 2) := by decide +kernel
theorem dL_told_108 : decode cL_told 108 = .ok (.idiv, 1) := by decide +kernel
theorem dL_told_109 : decode cL_told 109 = .ok (.iconst 3, 1) := by decide +kernel
theorem dL_told_110 : decode cL_told 110 = .ok (.irem, 1) := by decide +kernel
theorem dL_told_111 : decode cL_told 111 = .ok (.iadd, 1) := by decide +kernel
theorem dL_told_112 : decode cL_told 112 = .ok (.invokestatic 116, 3) := by decide +kernel
theorem dL_told_115 : decode cL_told 115 = .ok (.ifCond .eq 7, 3) := by decide +kernel
theorem dL_told_118 : decode cL_told 118 = .ok (.iconst 1, 1) := by decide +kernel
theorem dL_told_119 : decode cL_told 119 = .ok (.goto 4, 3) := by decide +kernel
theorem dL_told_122 : decode cL_told 122 = .ok (.iconst 0, 1) := by decide +kernel
theorem dL_told_123 : decode cL_told 123 = .ok (.istore 7, 2) := by decide +kernel
theorem dL_told_125 : decode cL_told 125 = .ok (.iconst 0, 1) := by decide +kernel
theorem dL_told_126 : decode cL_told 126 = .ok (.istore 8, 2) := by decide +kernel
theorem dL_told_128 : decode cL_told 128 = .ok (.iload 8, 2) := by decide +kernel
theorem dL_told_130 : decode cL_told 130 = .ok (.iload 5, 2) := by decide +kernel
theorem dL_told_132 : decode cL_told 132 = .ok (.if_icmp .ge 172, 3) := by decide +kernel
theorem dL_told_135 : decode cL_told 135 = .ok (.iload 7, 2) := by decide +kernel
theorem dL_told_137 : decode cL_told 137 = .ok (.ifCond .eq 167, 3) := by decide +kernel
theorem dL_told_140 : decode cL_told 140 = .ok (.aload_n 0, 1) := by decide +kernel
theorem dL_told_141 : decode cL_told 141 = .ok (.invokevirtual 127, 3) := by decide +kernel
theorem dL_told_144 : decode cL_told 144 = .ok (.bipush 6, 2) := by decide +kernel
theorem dL_told_146 : decode cL_told 146 = .ok (.if_icmp .lt 17, 3) := by decide +kernel
theorem dL_told_149 : decode cL_told 149 = .ok (.aload_n 0, 1) := by decide +kernel
theorem dL_told_150 : decode cL_told 150 = .ok (.aload_n 1, 1) := by decide +kernel
theorem dL_told_151 : decode cL_told 151 = .ok (.bipush 114, 2) := by decide +kernel
theorem dL_told_153 : decode cL_told 153 = .ok (.invokestatic 116, 3) := by decide +kernel
theorem dL_told_156 : decode cL_told 156 = .ok (.ifCond .eq 7, 3) := by decide +kernel
theorem dL_told_159 : decode cL_told 159 = .ok (.iconst 1, 1) := by decide +kernel
theorem dL_told_160 : decode cL_told 160 = .ok (.goto 4, 3) := by decide +kernel
theorem dL_told_163 : decode cL_told 163 = .ok (.iconst 0, 1) := by decide +kernel
theorem dL_told_164 : decode cL_told 164 = .ok (.istore 7, 2) := by decide +kernel
theorem dL_told_166 : decode cL_told 166 = .ok (.iconst 0, 1) := by decide +kernel
theorem dL_told_167 : decode cL_told 167 = .ok (.istore 9, 2) := by decide +kernel
theorem dL_told_169 : decode cL_told 169 = .ok (.iload 9, 2) := by decide +kernel
theorem dL_told_171 : decode cL_told 171 = .ok (.iload 5, 2) := by decide +kernel
theorem dL_told_173 : decode cL_told 173 = .ok (.iconst 2, 1) := by decide +kernel
theorem dL_told_174 : decode cL_told 174 = .ok (.iadd, 1) := by decide +kernel
theorem dL_told_175 : decode cL_told 175 = .ok (.if_icmp .ge 123, 3) := by decide +kernel
theorem dL_told_178 : decode cL_told 178 = .ok (.iload 7, 2) := by decide +kernel
theorem dL_told_180 : decode cL_told 180 = .ok (.ifCond .eq 118, 3) := by decide +kernel
theorem dL_told_183 : decode cL_told 183 = .ok (.aload_n 2, 1) := by decide +kernel
theorem dL_told_184 : decode cL_told 184 = .ok (.iload_n 3, 1) := by decide +kernel
theorem dL_told_185 : decode cL_told 185 = .ok (.iconst 1, 1) := by decide +kernel
theorem dL_told_186 : decode cL_told 186 = .ok (.iadd, 1) := by decide +kernel
theorem dL_told_187 : decode cL_told 187 = .ok (.bipush 6, 2) := by decide +kernel
theorem dL_told_189 : decode cL_told 189 = .ok (.iload 8, 2) := by decide +kernel
theorem dL_told_191 : decode cL_told 191 = .ok (.imul, 1) := by decide +kernel
theorem dL_told_192 : decode cL_told 192 = .ok (.iadd, 1) := by decide +kernel
theorem dL_told_193 : decode cL_told 193 = .ok (.iload 9, 2) := by decide +kernel
theorem dL_told_195 : decode cL_told 195 = .ok (.iadd, 1) := by decide +kernel
theorem dL_told_196 : decode cL_told 196 = .ok (.invokestatic 120, 3) := by decide +kernel
theorem dL_told_199 : decode cL_told 199 = .ok (.istore 10, 2) := by decide +kernel
theorem dL_told_201 : decode cL_told 201 = .ok (.iload 9, 2) := by decide +kernel
theorem dL_told_203 : decode cL_told 203 = .ok (.iload 8, 2) := by decide +kernel
theorem dL_told_205 : decode cL_told 205 = .ok (.if_icmp .ne 14, 3) := by decide +kernel
theorem dL_told_208 : decode cL_told 208 = .ok (.iload 10, 2) := by decide +kernel
theorem dL_told_210 : decode cL_told 210 = .ok (.bipush 33, 2) := by decide +kernel
theorem dL_told_212 : decode cL_told 212 = .ok (.irem, 1) := by decide +kernel
theorem dL_told_213 : decode cL_told 213 = .ok (.bipush 16, 2) := by decide +kernel
theorem dL_told_215 : decode cL_told 215 = .ok (.isub, 1) := by decide +kernel
theorem dL_told_216 : decode cL_told 216 = .ok (.goto 65, 3) := by decide +kernel
theorem dL_told_219 : decode cL_told 219 = .ok (.iload 9, 2) := by decide +kernel
theorem dL_told_221 : decode cL_told 221 = .ok (.iload 5, 2) := by decide +kernel
theorem dL_told_223 : decode cL_told 223 = .ok (.if_icmp .ge 27, 3) := by decide +kernel
theorem dL_told_226 : decode cL_told 226 = .ok (.iload 10, 2) := by decide +kernel
theorem dL_told_228 : decode cL_told 228 = .ok (.iconst 3, 1) := by decide +kernel
theorem dL_told_229 : decode cL_told 229 = .ok (.irem, 1) := by decide +kernel
theorem dL_told_230 : decode cL_told 230 = .ok (.ifCond .ne 16, 3) := by decide +kernel
theorem dL_told_233 : decode cL_told 233 = .ok (.iload 10, 2) := by decide +kernel
theorem dL_told_235 : decode cL_told 235 = .ok (.iconst 3, 1) := by decide +kernel
theorem dL_told_236 : decode cL_told 236 = .ok (.idiv, 1) := by decide +kernel
theorem dL_told_237 : decode cL_told 237 = .ok (.bipush 17, 2) := by decide +kernel
theorem dL_told_239 : decode cL_told 239 = .ok (.irem, 1) := by decide +kernel
theorem dL_told_240 : decode cL_told 240 = .ok (.bipush 8, 2) := by decide +kernel
theorem dL_told_242 : decode cL_told 242 = .ok (.isub, 1) := by decide +kernel
theorem dL_told_243 : decode cL_told 243 = .ok (.goto 38, 3) := by decide +kernel
theorem dL_told_246 : decode cL_told 246 = .ok (.iconst 0, 1) := by decide +kernel
theorem dL_told_247 : decode cL_told 247 = .ok (.goto 34, 3) := by decide +kernel
theorem dL_told_250 : decode cL_told 250 = .ok (.iload 9, 2) := by decide +kernel
theorem dL_told_252 : decode cL_told 252 = .ok (.iload 5, 2) := by decide +kernel
theorem dL_told_254 : decode cL_told 254 = .ok (.if_icmp .ne 13, 3) := by decide +kernel
theorem dL_told_257 : decode cL_told 257 = .ok (.iload 10, 2) := by decide +kernel
theorem dL_told_259 : decode cL_told 259 = .ok (.bipush 7, 2) := by decide +kernel
theorem dL_told_261 : decode cL_told 261 = .ok (.irem, 1) := by decide +kernel
theorem dL_told_262 : decode cL_told 262 = .ok (.iconst 3, 1) := by decide +kernel
theorem dL_told_263 : decode cL_told 263 = .ok (.isub, 1) := by decide +kernel
theorem dL_told_264 : decode cL_told 264 = .ok (.goto 17, 3) := by decide +kernel
theorem dL_told_267 : decode cL_told 267 = .ok (.iload 10, 2) := by decide +kernel
theorem dL_told_269 : decode cL_told 269 = .ok (.iconst 2, 1) := by decide +kernel
theorem dL_told_270 : decode cL_told 270 = .ok (.irem, 1) := by decide +kernel
theorem dL_told_271 : decode cL_told 271 = .ok (.iload 10, 2) := by decide +kernel
theorem dL_told_273 : decode cL_told 273 = .ok (.iconst 2, 1) := by decide +kernel
theorem dL_told_274 : decode cL_told 274 = .ok (.idiv, 1) := by decide +kernel
theorem dL_told_275 : decode cL_told 275 = .ok (.bipush 7, 2) := by decide +kernel
theorem dL_told_277 : decode cL_told 277 = .ok (.irem, 1) := by decide +kernel
theorem dL_told_278 : decode cL_told 278 = .ok (.iconst 3, 1) := by decide +kernel
theorem dL_told_279 : decode cL_told 279 = .ok (.isub, 1) := by decide +kernel
theorem dL_told_280 : decode cL_told 280 = .ok (.imul, 1) := by decide +kernel
theorem dL_told_281 : decode cL_told 281 = .ok (.istore 11, 2) := by decide +kernel
theorem dL_told_283 : decode cL_told 283 = .ok (.aload_n 0, 1) := by decide +kernel
theorem dL_told_284 : decode cL_told 284 = .ok (.aload_n 1, 1) := by decide +kernel
theorem dL_told_285 : decode cL_told 285 = .ok (.iload 11, 2) := by decide +kernel
theorem dL_told_287 : decode cL_told 287 = .ok (.invokestatic 130, 3) := by decide +kernel
theorem dL_told_290 : decode cL_told 290 = .ok (.istore 7, 2) := by decide +kernel
theorem dL_told_292 : decode cL_told 292 = .ok (.iinc 9 1, 3) := by decide +kernel
theorem dL_told_295 : decode cL_told 295 = .ok (.goto (-126), 3) := by decide +kernel
theorem dL_told_298 : decode cL_told 298 = .ok (.iinc 8 1, 3) := by decide +kernel
theorem dL_told_301 : decode cL_told 301 = .ok (.goto (-173), 3) := by decide +kernel
theorem dL_told_304 : decode cL_told 304 = .ok (.iconst 0, 1) := by decide +kernel
theorem dL_told_305 : decode cL_told 305 = .ok (.istore 8, 2) := by decide +kernel
theorem dL_told_307 : decode cL_told 307 = .ok (.iload 8, 2) := by decide +kernel
theorem dL_told_309 : decode cL_told 309 = .ok (.iload 6, 2) := by decide +kernel
theorem dL_told_311 : decode cL_told 311 = .ok (.if_icmp .ge 149, 3) := by decide +kernel
theorem dL_told_314 : decode cL_told 314 = .ok (.iload 7, 2) := by decide +kernel
theorem dL_told_316 : decode cL_told 316 = .ok (.ifCond .eq 144, 3) := by decide +kernel
theorem dL_told_319 : decode cL_told 319 = .ok (.aload_n 0, 1) := by decide +kernel
theorem dL_told_320 : decode cL_told 320 = .ok (.aload_n 1, 1) := by decide +kernel
theorem dL_told_321 : decode cL_told 321 = .ok (.bipush 111, 2) := by decide +kernel
theorem dL_told_323 : decode cL_told 323 = .ok (.invokestatic 116, 3) := by decide +kernel
theorem dL_told_326 : decode cL_told 326 = .ok (.istore 7, 2) := by decide +kernel
theorem dL_told_328 : decode cL_told 328 = .ok (.iconst 0, 1) := by decide +kernel
theorem dL_told_329 : decode cL_told 329 = .ok (.istore 9, 2) := by decide +kernel
theorem dL_told_331 : decode cL_told 331 = .ok (.iload 9, 2) := by decide +kernel
theorem dL_told_333 : decode cL_told 333 = .ok (.iload 5, 2) := by decide +kernel
theorem dL_told_335 : decode cL_told 335 = .ok (.if_icmp .ge 59, 3) := by decide +kernel
theorem dL_told_338 : decode cL_told 338 = .ok (.iload 7, 2) := by decide +kernel
theorem dL_told_340 : decode cL_told 340 = .ok (.ifCond .eq 54, 3) := by decide +kernel
theorem dL_told_343 : decode cL_told 343 = .ok (.aload_n 2, 1) := by decide +kernel
theorem dL_told_344 : decode cL_told 344 = .ok (.iload_n 3, 1) := by decide +kernel
theorem dL_told_345 : decode cL_told 345 = .ok (.bipush 25, 2) := by decide +kernel
theorem dL_told_347 : decode cL_told 347 = .ok (.iadd, 1) := by decide +kernel
theorem dL_told_348 : decode cL_told 348 = .ok (.iconst 5, 1) := by decide +kernel
theorem dL_told_349 : decode cL_told 349 = .ok (.iload 8, 2) := by decide +kernel
theorem dL_told_351 : decode cL_told 351 = .ok (.imul, 1) := by decide +kernel
theorem dL_told_352 : decode cL_told 352 = .ok (.iadd, 1) := by decide +kernel
theorem dL_told_353 : decode cL_told 353 = .ok (.iload 9, 2) := by decide +kernel
theorem dL_told_355 : decode cL_told 355 = .ok (.iadd, 1) := by decide +kernel
theorem dL_told_356 : decode cL_told 356 = .ok (.invokestatic 120, 3) := by decide +kernel
theorem dL_told_359 : decode cL_told 359 = .ok (.istore 10, 2) := by decide +kernel
theorem dL_told_361 : decode cL_told 361 = .ok (.aload_n 0, 1) := by decide +kernel
theorem dL_told_362 : decode cL_told 362 = .ok (.aload_n 1, 1) := by decide +kernel
theorem dL_told_363 : decode cL_told 363 = .ok (.iload 10, 2) := by decide +kernel
theorem dL_told_365 : decode cL_told 365 = .ok (.iconst 3, 1) := by decide +kernel
theorem dL_told_366 : decode cL_told 366 = .ok (.irem, 1) := by decide +kernel
theorem dL_told_367 : decode cL_told 367 = .ok (.ifCond .ne 7, 3) := by decide +kernel
theorem dL_told_370 : decode cL_told 370 = .ok (.iconst 0, 1) := by decide +kernel
theorem dL_told_371 : decode cL_told 371 = .ok (.goto 12, 3) := by decide +kernel
theorem dL_told_374 : decode cL_told 374 = .ok (.iload 10, 2) := by decide +kernel
theorem dL_told_376 : decode cL_told 376 = .ok (.iconst 3, 1) := by decide +kernel
theorem dL_told_377 : decode cL_told 377 = .ok (.idiv, 1) := by decide +kernel
theorem dL_told_378 : decode cL_told 378 = .ok (.bipush 9, 2) := by decide +kernel
theorem dL_told_380 : decode cL_told 380 = .ok (.irem, 1) := by decide +kernel
theorem dL_told_381 : decode cL_told 381 = .ok (.iconst 4, 1) := by decide +kernel
theorem dL_told_382 : decode cL_told 382 = .ok (.isub, 1) := by decide +kernel
theorem dL_told_383 : decode cL_told 383 = .ok (.invokestatic 130, 3) := by decide +kernel
theorem dL_told_386 : decode cL_told 386 = .ok (.istore 7, 2) := by decide +kernel
theorem dL_told_388 : decode cL_told 388 = .ok (.iinc 9 1, 3) := by decide +kernel
theorem dL_told_391 : decode cL_told 391 = .ok (.goto (-60), 3) := by decide +kernel
theorem dL_told_394 : decode cL_told 394 = .ok (.aload_n 2, 1) := by decide +kernel
theorem dL_told_395 : decode cL_told 395 = .ok (.iload_n 3, 1) := by decide +kernel
theorem dL_told_396 : decode cL_told 396 = .ok (.bipush 29, 2) := by decide +kernel
theorem dL_told_398 : decode cL_told 398 = .ok (.iadd, 1) := by decide +kernel
theorem dL_told_399 : decode cL_told 399 = .ok (.iconst 5, 1) := by decide +kernel
theorem dL_told_400 : decode cL_told 400 = .ok (.iload 8, 2) := by decide +kernel
theorem dL_told_402 : decode cL_told 402 = .ok (.imul, 1) := by decide +kernel
theorem dL_told_403 : decode cL_told 403 = .ok (.iadd, 1) := by decide +kernel
theorem dL_told_404 : decode cL_told 404 = .ok (.invokestatic 120, 3) := by decide +kernel
theorem dL_told_407 : decode cL_told 407 = .ok (.istore 9, 2) := by decide +kernel
theorem dL_told_409 : decode cL_told 409 = .ok (.iload 7, 2) := by decide +kernel
theorem dL_told_411 : decode cL_told 411 = .ok (.ifCond .eq 40, 3) := by decide +kernel
theorem dL_told_414 : decode cL_told 414 = .ok (.aload_n 0, 1) := by decide +kernel
theorem dL_told_415 : decode cL_told 415 = .ok (.aload_n 1, 1) := by decide +kernel
theorem dL_told_416 : decode cL_told 416 = .ok (.bipush 48, 2) := by decide +kernel
theorem dL_told_418 : decode cL_told 418 = .ok (.iload 9, 2) := by decide +kernel
theorem dL_told_420 : decode cL_told 420 = .ok (.iconst 2, 1) := by decide +kernel
theorem dL_told_421 : decode cL_told 421 = .ok (.irem, 1) := by decide +kernel
theorem dL_told_422 : decode cL_told 422 = .ok (.iadd, 1) := by decide +kernel
theorem dL_told_423 : decode cL_told 423 = .ok (.invokestatic 116, 3) := by decide +kernel
theorem dL_told_426 : decode cL_told 426 = .ok (.ifCond .eq 25, 3) := by decide +kernel
theorem dL_told_429 : decode cL_told 429 = .ok (.aload_n 0, 1) := by decide +kernel
theorem dL_told_430 : decode cL_told 430 = .ok (.aload_n 1, 1) := by decide +kernel
theorem dL_told_431 : decode cL_told 431 = .ok (.bipush 49, 2) := by decide +kernel
theorem dL_told_433 : decode cL_told 433 = .ok (.iload 9, 2) := by decide +kernel
theorem dL_told_435 : decode cL_told 435 = .ok (.iconst 2, 1) := by decide +kernel
theorem dL_told_436 : decode cL_told 436 = .ok (.idiv, 1) := by decide +kernel
theorem dL_told_437 : decode cL_told 437 = .ok (.bipush 9, 2) := by decide +kernel
theorem dL_told_439 : decode cL_told 439 = .ok (.irem, 1) := by decide +kernel
theorem dL_told_440 : decode cL_told 440 = .ok (.iadd, 1) := by decide +kernel
theorem dL_told_441 : decode cL_told 441 = .ok (.invokestatic 116, 3) := by decide +kernel
theorem dL_told_444 : decode cL_told 444 = .ok (.ifCond .eq 7, 3) := by decide +kernel
theorem dL_told_447 : decode cL_told 447 = .ok (.iconst 1, 1) := by decide +kernel
theorem dL_told_448 : decode cL_told 448 = .ok (.goto 4, 3) := by decide +kernel
theorem dL_told_451 : decode cL_told 451 = .ok (.iconst 0, 1) := by decide +kernel
theorem dL_told_452 : decode cL_told 452 = .ok (.istore 7, 2) := by decide +kernel
theorem dL_told_454 : decode cL_told 454 = .ok (.iinc 8 1, 3) := by decide +kernel
theorem dL_told_457 : decode cL_told 457 = .ok (.goto (-150), 3) := by decide +kernel
theorem dL_told_460 : decode cL_told 460 = .ok (.iload 7, 2) := by decide +kernel
theorem dL_told_462 : decode cL_told 462 = .ok (.ifCond .eq 66, 3) := by decide +kernel
theorem dL_told_465 : decode cL_told 465 = .ok (.aload_n 0, 1) := by decide +kernel
theorem dL_told_466 : decode cL_told 466 = .ok (.invokevirtual 127, 3) := by decide +kernel
theorem dL_told_469 : decode cL_told 469 = .ok (.bipush (-9), 2) := by decide +kernel
theorem dL_told_471 : decode cL_told 471 = .ok (.if_icmp .ne 57, 3) := by decide +kernel
theorem dL_told_474 : decode cL_told 474 = .ok (.aload_n 0, 1) := by decide +kernel
theorem dL_told_475 : decode cL_told 475 = .ok (.aload_n 1, 1) := by decide +kernel
theorem dL_told_476 : decode cL_told 476 = .ok (.bipush 103, 2) := by decide +kernel
theorem dL_told_478 : decode cL_told 478 = .ok (.invokestatic 116, 3) := by decide +kernel
theorem dL_told_481 : decode cL_told 481 = .ok (.ifCond .eq 47, 3) := by decide +kernel
theorem dL_told_484 : decode cL_told 484 = .ok (.aload_n 0, 1) := by decide +kernel
theorem dL_told_485 : decode cL_told 485 = .ok (.aload_n 1, 1) := by decide +kernel
theorem dL_told_486 : decode cL_told 486 = .ok (.bipush 48, 2) := by decide +kernel
theorem dL_told_488 : decode cL_told 488 = .ok (.invokestatic 116, 3) := by decide +kernel
theorem dL_told_491 : decode cL_told 491 = .ok (.ifCond .eq 37, 3) := by decide +kernel
theorem dL_told_494 : decode cL_told 494 = .ok (.aload_n 0, 1) := by decide +kernel
theorem dL_told_495 : decode cL_told 495 = .ok (.aload_n 1, 1) := by decide +kernel
theorem dL_told_496 : decode cL_told 496 = .ok (.bipush 48, 2) := by decide +kernel
theorem dL_told_498 : decode cL_told 498 = .ok (.invokestatic 116, 3) := by decide +kernel
theorem dL_told_501 : decode cL_told 501 = .ok (.ifCond .eq 27, 3) := by decide +kernel
theorem dL_told_504 : decode cL_told 504 = .ok (.aload_n 0, 1) := by decide +kernel
theorem dL_told_505 : decode cL_told 505 = .ok (.aload_n 1, 1) := by decide +kernel
theorem dL_told_506 : decode cL_told 506 = .ok (.iload 4, 2) := by decide +kernel
theorem dL_told_508 : decode cL_told 508 = .ok (.sipush 144, 3) := by decide +kernel
theorem dL_told_511 : decode cL_told 511 = .ok (.idiv, 1) := by decide +kernel
theorem dL_told_512 : decode cL_told 512 = .ok (.bipush 41, 2) := by decide +kernel
theorem dL_told_514 : decode cL_told 514 = .ok (.irem, 1) := by decide +kernel
theorem dL_told_515 : decode cL_told 515 = .ok (.bipush 20, 2) := by decide +kernel
theorem dL_told_517 : decode cL_told 517 = .ok (.isub, 1) := by decide +kernel
theorem dL_told_518 : decode cL_told 518 = .ok (.invokestatic 130, 3) := by decide +kernel
theorem dL_told_521 : decode cL_told 521 = .ok (.ifCond .eq 7, 3) := by decide +kernel
theorem dL_told_524 : decode cL_told 524 = .ok (.iconst 1, 1) := by decide +kernel
theorem dL_told_525 : decode cL_told 525 = .ok (.goto 4, 3) := by decide +kernel
theorem dL_told_528 : decode cL_told 528 = .ok (.iconst 0, 1) := by decide +kernel
theorem dL_told_529 : decode cL_told 529 = .ok (.istore 7, 2) := by decide +kernel
theorem dL_told_531 : decode cL_told 531 = .ok (.iload 7, 2) := by decide +kernel
theorem dL_told_533 : decode cL_told 533 = .ok (.ifCond .eq 81, 3) := by decide +kernel
theorem dL_told_536 : decode cL_told 536 = .ok (.aload_n 0, 1) := by decide +kernel
theorem dL_told_537 : decode cL_told 537 = .ok (.invokestatic 133, 3) := by decide +kernel
theorem dL_told_540 : decode cL_told 540 = .ok (.iload 5, 2) := by decide +kernel
theorem dL_told_542 : decode cL_told 542 = .ok (.if_icmp .ne 72, 3) := by decide +kernel
theorem dL_told_545 : decode cL_told 545 = .ok (.aload_n 1, 1) := by decide +kernel
theorem dL_told_546 : decode cL_told 546 = .ok (.invokestatic 133, 3) := by decide +kernel
theorem dL_told_549 : decode cL_told 549 = .ok (.iload 5, 2) := by decide +kernel
theorem dL_told_551 : decode cL_told 551 = .ok (.if_icmp .ne 63, 3) := by decide +kernel
theorem dL_told_554 : decode cL_told 554 = .ok (.aload_n 0, 1) := by decide +kernel
theorem dL_told_555 : decode cL_told 555 = .ok (.iconst 5, 1) := by decide +kernel
theorem dL_told_556 : decode cL_told 556 = .ok (.iconst 0, 1) := by decide +kernel
theorem dL_told_557 : decode cL_told 557 = .ok (.iconst 0, 1) := by decide +kernel
theorem dL_told_558 : decode cL_told 558 = .ok (.invokestatic 137, 3) := by decide +kernel
theorem dL_told_561 : decode cL_told 561 = .ok (.iload 4, 2) := by decide +kernel
theorem dL_told_563 : decode cL_told 563 = .ok (.sipush 144, 3) := by decide +kernel
theorem dL_told_566 : decode cL_told 566 = .ok (.idiv, 1) := by decide +kernel
theorem dL_told_567 : decode cL_told 567 = .ok (.bipush 41, 2) := by decide +kernel
theorem dL_told_569 : decode cL_told 569 = .ok (.irem, 1) := by decide +kernel
theorem dL_told_570 : decode cL_told 570 = .ok (.bipush 20, 2) := by decide +kernel
theorem dL_told_572 : decode cL_told 572 = .ok (.isub, 1) := by decide +kernel
theorem dL_told_573 : decode cL_told 573 = .ok (.if_icmp .ne 41, 3) := by decide +kernel
theorem dL_told_576 : decode cL_told 576 = .ok (.aload_n 0, 1) := by decide +kernel
theorem dL_told_577 : decode cL_told 577 = .ok (.invokestatic 141, 3) := by decide +kernel
theorem dL_told_580 : decode cL_told 580 = .ok (.sipush (-1003), 3) := by decide +kernel
theorem dL_told_583 : decode cL_told 583 = .ok (.if_icmp .ne 31, 3) := by decide +kernel
theorem dL_told_586 : decode cL_told 586 = .ok (.aload_n 1, 1) := by decide +kernel
theorem dL_told_587 : decode cL_told 587 = .ok (.iconst 1, 1) := by decide +kernel
theorem dL_told_588 : decode cL_told 588 = .ok (.invokestatic 144, 3) := by decide +kernel
theorem dL_told_591 : decode cL_told 591 = .ok (.sipush (-1003), 3) := by decide +kernel
theorem dL_told_594 : decode cL_told 594 = .ok (.if_icmp .ne 20, 3) := by decide +kernel
theorem dL_told_597 : decode cL_told 597 = .ok (.aload_n 0, 1) := by decide +kernel
theorem dL_told_598 : decode cL_told 598 = .ok (.iconst 1, 1) := by decide +kernel
theorem dL_told_599 : decode cL_told 599 = .ok (.invokestatic 147, 3) := by decide +kernel
theorem dL_told_602 : decode cL_told 602 = .ok (.aload_n 1, 1) := by decide +kernel
theorem dL_told_603 : decode cL_told 603 = .ok (.iconst 1, 1) := by decide +kernel
theorem dL_told_604 : decode cL_told 604 = .ok (.invokestatic 147, 3) := by decide +kernel
theorem dL_told_607 : decode cL_told 607 = .ok (.if_icmp .ne 7, 3) := by decide +kernel
theorem dL_told_610 : decode cL_told 610 = .ok (.iconst 1, 1) := by decide +kernel
theorem dL_told_611 : decode cL_told 611 = .ok (.goto 4, 3) := by decide +kernel
theorem dL_told_614 : decode cL_told 614 = .ok (.iconst 0, 1) := by decide +kernel
theorem dL_told_615 : decode cL_told 615 = .ok (.ireturn, 1) := by decide +kernel
theorem dL_alike_0 : decode cL_alike 0 = .ok (.aload_n 0, 1) := by decide +kernel
theorem dL_alike_1 : decode cL_alike 1 = .ok (.invokevirtual 150, 3) := by decide +kernel
theorem dL_alike_4 : decode cL_alike 4 = .ok (.aload_n 1, 1) := by decide +kernel
theorem dL_alike_5 : decode cL_alike 5 = .ok (.invokevirtual 150, 3) := by decide +kernel
theorem dL_alike_8 : decode cL_alike 8 = .ok (.if_icmp .ne 33, 3) := by decide +kernel
theorem dL_alike_11 : decode cL_alike 11 = .ok (.aload_n 0, 1) := by decide +kernel
theorem dL_alike_12 : decode cL_alike 12 = .ok (.iconst 1, 1) := by decide +kernel
theorem dL_alike_13 : decode cL_alike 13 = .ok (.invokestatic 153, 3) := by decide +kernel
theorem dL_alike_16 : decode cL_alike 16 = .ok (.aload_n 1, 1) := by decide +kernel
theorem dL_alike_17 : decode cL_alike 17 = .ok (.iconst 1, 1) := by decide +kernel
theorem dL_alike_18 : decode cL_alike 18 = .ok (.invokestatic 153, 3) := by decide +kernel
theorem dL_alike_21 : decode cL_alike 21 = .ok (.if_icmp .ne 20, 3) := by decide +kernel
theorem dL_alike_24 : decode cL_alike 24 = .ok (.aload_n 0, 1) := by decide +kernel
theorem dL_alike_25 : decode cL_alike 25 = .ok (.iconst 0, 1) := by decide +kernel
theorem dL_alike_26 : decode cL_alike 26 = .ok (.invokestatic 153, 3) := by decide +kernel
theorem dL_alike_29 : decode cL_alike 29 = .ok (.aload_n 1, 1) := by decide +kernel
theorem dL_alike_30 : decode cL_alike 30 = .ok (.iconst 0, 1) := by decide +kernel
theorem dL_alike_31 : decode cL_alike 31 = .ok (.invokestatic 153, 3) := by decide +kernel
theorem dL_alike_34 : decode cL_alike 34 = .ok (.if_icmp .ne 7, 3) := by decide +kernel
theorem dL_alike_37 : decode cL_alike 37 = .ok (.iconst 1, 1) := by decide +kernel
theorem dL_alike_38 : decode cL_alike 38 = .ok (.goto 4, 3) := by decide +kernel
theorem dL_alike_41 : decode cL_alike 41 = .ok (.iconst 0, 1) := by decide +kernel
theorem dL_alike_42 : decode cL_alike 42 = .ok (.istore_n 2, 1) := by decide +kernel
theorem dL_alike_43 : decode cL_alike 43 = .ok (.iconst 0, 1) := by decide +kernel
theorem dL_alike_44 : decode cL_alike 44 = .ok (.istore_n 3, 1) := by decide +kernel
theorem dL_alike_45 : decode cL_alike 45 = .ok (.iload_n 3, 1) := by decide +kernel
theorem dL_alike_46 : decode cL_alike 46 = .ok (.iconst 5, 1) := by decide +kernel
theorem dL_alike_47 : decode cL_alike 47 = .ok (.if_icmp .ge 74, 3) := by decide +kernel
theorem dL_alike_50 : decode cL_alike 50 = .ok (.iload_n 2, 1) := by decide +kernel
theorem dL_alike_51 : decode cL_alike 51 = .ok (.ifCond .eq 20, 3) := by decide +kernel
theorem dL_alike_54 : decode cL_alike 54 = .ok (.aload_n 0, 1) := by decide +kernel
theorem dL_alike_55 : decode cL_alike 55 = .ok (.iload_n 3, 1) := by decide +kernel
theorem dL_alike_56 : decode cL_alike 56 = .ok (.invokestatic 157, 3) := by decide +kernel
theorem dL_alike_59 : decode cL_alike 59 = .ok (.aload_n 1, 1) := by decide +kernel
theorem dL_alike_60 : decode cL_alike 60 = .ok (.iload_n 3, 1) := by decide +kernel
theorem dL_alike_61 : decode cL_alike 61 = .ok (.invokestatic 157, 3) := by decide +kernel
theorem dL_alike_64 : decode cL_alike 64 = .ok (.if_icmp .ne 7, 3) := by decide +kernel
theorem dL_alike_67 : decode cL_alike 67 = .ok (.iconst 1, 1) := by decide +kernel
theorem dL_alike_68 : decode cL_alike 68 = .ok (.goto 4, 3) := by decide +kernel
theorem dL_alike_71 : decode cL_alike 71 = .ok (.iconst 0, 1) := by decide +kernel
theorem dL_alike_72 : decode cL_alike 72 = .ok (.istore_n 2, 1) := by decide +kernel
theorem dL_alike_73 : decode cL_alike 73 = .ok (.iconst 0, 1) := by decide +kernel
theorem dL_alike_74 : decode cL_alike 74 = .ok (.istore 4, 2) := by decide +kernel
theorem dL_alike_76 : decode cL_alike 76 = .ok (.iload 4, 2) := by decide +kernel
theorem dL_alike_78 : decode cL_alike 78 = .ok (.iconst 4, 1) := by decide +kernel
theorem dL_alike_79 : decode cL_alike 79 = .ok (.if_icmp .ge 36, 3) := by decide +kernel
theorem dL_alike_82 : decode cL_alike 82 = .ok (.iload_n 2, 1) := by decide +kernel
theorem dL_alike_83 : decode cL_alike 83 = .ok (.ifCond .eq 24, 3) := by decide +kernel
theorem dL_alike_86 : decode cL_alike 86 = .ok (.aload_n 0, 1) := by decide +kernel
theorem dL_alike_87 : decode cL_alike 87 = .ok (.iload 4, 2) := by decide +kernel
theorem dL_alike_89 : decode cL_alike 89 = .ok (.iload_n 3, 1) := by decide +kernel
theorem dL_alike_90 : decode cL_alike 90 = .ok (.invokestatic 160, 3) := by decide +kernel
theorem dL_alike_93 : decode cL_alike 93 = .ok (.aload_n 1, 1) := by decide +kernel
theorem dL_alike_94 : decode cL_alike 94 = .ok (.iload 4, 2) := by decide +kernel
theorem dL_alike_96 : decode cL_alike 96 = .ok (.iload_n 3, 1) := by decide +kernel
theorem dL_alike_97 : decode cL_alike 97 = .ok (.invokestatic 160, 3) := by decide +kernel
theorem dL_alike_100 : decode cL_alike 100 = .ok (.if_icmp .ne 7, 3) := by decide +kernel
theorem dL_alike_103 : decode cL_alike 103 = .ok (.iconst 1, 1) := by decide +kernel
theorem dL_alike_104 : decode cL_alike 104 = .ok (.goto 4, 3) := by decide +kernel
theorem dL_alike_107 : decode cL_alike 107 = .ok (.iconst 0, 1) := by decide +kernel
theorem dL_alike_108 : decode cL_alike 108 = .ok (.istore_n 2, 1) := by decide +kernel
theorem dL_alike_109 : decode cL_alike 109 = .ok (.iinc 4 1, 3) := by decide +kernel
theorem dL_alike_112 : decode cL_alike 112 = .ok (.goto (-36), 3) := by decide +kernel
theorem dL_alike_115 : decode cL_alike 115 = .ok (.iinc 3 1, 3) := by decide +kernel
theorem dL_alike_118 : decode cL_alike 118 = .ok (.goto (-73), 3) := by decide +kernel
theorem dL_alike_121 : decode cL_alike 121 = .ok (.iconst 0, 1) := by decide +kernel
theorem dL_alike_122 : decode cL_alike 122 = .ok (.istore_n 3, 1) := by decide +kernel
theorem dL_alike_123 : decode cL_alike 123 = .ok (.iload_n 3, 1) := by decide +kernel
theorem dL_alike_124 : decode cL_alike 124 = .ok (.iconst 3, 1) := by decide +kernel
theorem dL_alike_125 : decode cL_alike 125 = .ok (.if_icmp .ge 80, 3) := by decide +kernel
theorem dL_alike_128 : decode cL_alike 128 = .ok (.iconst 0, 1) := by decide +kernel
theorem dL_alike_129 : decode cL_alike 129 = .ok (.istore 4, 2) := by decide +kernel
theorem dL_alike_131 : decode cL_alike 131 = .ok (.iload 4, 2) := by decide +kernel
theorem dL_alike_133 : decode cL_alike 133 = .ok (.iconst 4, 1) := by decide +kernel
theorem dL_alike_134 : decode cL_alike 134 = .ok (.if_icmp .ge 65, 3) := by decide +kernel
theorem dL_alike_137 : decode cL_alike 137 = .ok (.iload_n 2, 1) := by decide +kernel
theorem dL_alike_138 : decode cL_alike 138 = .ok (.ifCond .eq 24, 3) := by decide +kernel
theorem dL_alike_141 : decode cL_alike 141 = .ok (.aload_n 0, 1) := by decide +kernel
theorem dL_alike_142 : decode cL_alike 142 = .ok (.iload_n 3, 1) := by decide +kernel
theorem dL_alike_143 : decode cL_alike 143 = .ok (.iload 4, 2) := by decide +kernel
theorem dL_alike_145 : decode cL_alike 145 = .ok (.invokestatic 164, 3) := by decide +kernel
theorem dL_alike_148 : decode cL_alike 148 = .ok (.aload_n 1, 1) := by decide +kernel
theorem dL_alike_149 : decode cL_alike 149 = .ok (.iload_n 3, 1) := by decide +kernel
theorem dL_alike_150 : decode cL_alike 150 = .ok (.iload 4, 2) := by decide +kernel
theorem dL_alike_152 : decode cL_alike 152 = .ok (.invokestatic 164, 3) := by decide +kernel
theorem dL_alike_155 : decode cL_alike 155 = .ok (.if_icmp .ne 7, 3) := by decide +kernel
theorem dL_alike_158 : decode cL_alike 158 = .ok (.iconst 1, 1) := by decide +kernel
theorem dL_alike_159 : decode cL_alike 159 = .ok (.goto 4, 3) := by decide +kernel
theorem dL_alike_162 : decode cL_alike 162 = .ok (.iconst 0, 1) := by decide +kernel
theorem dL_alike_163 : decode cL_alike 163 = .ok (.istore_n 2, 1) := by decide +kernel
theorem dL_alike_164 : decode cL_alike 164 = .ok (.iload_n 2, 1) := by decide +kernel
theorem dL_alike_165 : decode cL_alike 165 = .ok (.ifCond .eq 26, 3) := by decide +kernel
theorem dL_alike_168 : decode cL_alike 168 = .ok (.aload_n 0, 1) := by decide +kernel
theorem dL_alike_169 : decode cL_alike 169 = .ok (.iconst 5, 1) := by decide +kernel
theorem dL_alike_170 : decode cL_alike 170 = .ok (.iload 4, 2) := by decide +kernel
theorem dL_alike_172 : decode cL_alike 172 = .ok (.iload_n 3, 1) := by decide +kernel
theorem dL_alike_173 : decode cL_alike 173 = .ok (.invokestatic 137, 3) := by decide +kernel
theorem dL_alike_176 : decode cL_alike 176 = .ok (.aload_n 1, 1) := by decide +kernel
theorem dL_alike_177 : decode cL_alike 177 = .ok (.iconst 5, 1) := by decide +kernel
theorem dL_alike_178 : decode cL_alike 178 = .ok (.iload 4, 2) := by decide +kernel
theorem dL_alike_180 : decode cL_alike 180 = .ok (.iload_n 3, 1) := by decide +kernel
theorem dL_alike_181 : decode cL_alike 181 = .ok (.invokestatic 137, 3) := by decide +kernel
theorem dL_alike_184 : decode cL_alike 184 = .ok (.if_icmp .ne 7, 3) := by decide +kernel
theorem dL_alike_187 : decode cL_alike 187 = .ok (.iconst 1, 1) := by decide +kernel
theorem dL_alike_188 : decode cL_alike 188 = .ok (.goto 4, 3) := by decide +kernel
theorem dL_alike_191 : decode cL_alike 191 = .ok (.iconst 0, 1) := by decide +kernel
theorem dL_alike_192 : decode cL_alike 192 = .ok (.istore_n 2, 1) := by decide +kernel
theorem dL_alike_193 : decode cL_alike 193 = .ok (.iinc 4 1, 3) := by decide +kernel
theorem dL_alike_196 : decode cL_alike 196 = .ok (.goto (-65), 3) := by decide +kernel
theorem dL_alike_199 : decode cL_alike 199 = .ok (.iinc 3 1, 3) := by decide +kernel
theorem dL_alike_202 : decode cL_alike 202 = .ok (.goto (-79), 3) := by decide +kernel
theorem dL_alike_205 : decode cL_alike 205 = .ok (.iload_n 2, 1) := by decide +kernel
theorem dL_alike_206 : decode cL_alike 206 = .ok (.ireturn, 1) := by decide +kernel
theorem dL_refuses_0 : decode cL_refuses 0 = .ok (.aload_n 0, 1) := by decide +kernel
theorem dL_refuses_1 : decode cL_refuses 1 = .ok (.iconst 0, 1) := by decide +kernel
theorem dL_refuses_2 : decode cL_refuses 2 = .ok (.invokestatic 157, 3) := by decide +kernel
theorem dL_refuses_5 : decode cL_refuses 5 = .ok (.istore_n 1, 1) := by decide +kernel
theorem dL_refuses_6 : decode cL_refuses 6 = .ok (.aload_n 0, 1) := by decide +kernel
theorem dL_refuses_7 : decode cL_refuses 7 = .ok (.iconst 1, 1) := by decide +kernel
theorem dL_refuses_8 : decode cL_refuses 8 = .ok (.invokestatic 157, 3) := by decide +kernel
theorem dL_refuses_11 : decode cL_refuses 11 = .ok (.istore_n 2, 1) := by decide +kernel
theorem dL_refuses_12 : decode cL_refuses 12 = .ok (.aload_n 0, 1) := by decide +kernel
theorem dL_refuses_13 : decode cL_refuses 13 = .ok (.iconst 2, 1) := by decide +kernel
theorem dL_refuses_14 : decode cL_refuses 14 = .ok (.invokestatic 157, 3) := by decide +kernel
theorem dL_refuses_17 : decode cL_refuses 17 = .ok (.istore_n 3, 1) := by decide +kernel
theorem dL_refuses_18 : decode cL_refuses 18 = .ok (.aload_n 0, 1) := by decide +kernel
theorem dL_refuses_19 : decode cL_refuses 19 = .ok (.iconst 5, 1) := by decide +kernel
theorem dL_refuses_20 : decode cL_refuses 20 = .ok (.invokestatic 157, 3) := by decide +kernel
theorem dL_refuses_23 : decode cL_refuses 23 = .ok (.sipush (-1002), 3) := by decide +kernel
theorem dL_refuses_26 : decode cL_refuses 26 = .ok (.if_icmp .ne 136, 3) := by decide +kernel
theorem dL_refuses_29 : decode cL_refuses 29 = .ok (.aload_n 0, 1) := by decide +kernel
theorem dL_refuses_30 : decode cL_refuses 30 = .ok (.iconst 0, 1) := by decide +kernel
theorem dL_refuses_31 : decode cL_refuses 31 = .ok (.iload_n 1, 1) := by decide +kernel
theorem dL_refuses_32 : decode cL_refuses 32 = .ok (.iconst 0, 1) := by decide +kernel
theorem dL_refuses_33 : decode cL_refuses 33 = .ok (.invokestatic 137, 3) := by decide +kernel
theorem dL_refuses_36 : decode cL_refuses 36 = .ok (.sipush (-1001), 3) := by decide +kernel
theorem dL_refuses_39 : decode cL_refuses 39 = .ok (.if_icmp .ne 123, 3) := by decide +kernel
theorem dL_refuses_42 : decode cL_refuses 42 = .ok (.aload_n 0, 1) := by decide +kernel
theorem dL_refuses_43 : decode cL_refuses 43 = .ok (.iconst 1, 1) := by decide +kernel
theorem dL_refuses_44 : decode cL_refuses 44 = .ok (.iconst 0, 1) := by decide +kernel
theorem dL_refuses_45 : decode cL_refuses 45 = .ok (.iconst 1, 1) := by decide +kernel
theorem dL_refuses_46 : decode cL_refuses 46 = .ok (.invokestatic 137, 3) := by decide +kernel
theorem dL_refuses_49 : decode cL_refuses 49 = .ok (.sipush (-1001), 3) := by decide +kernel
theorem dL_refuses_52 : decode cL_refuses 52 = .ok (.if_icmp .ne 110, 3) := by decide +kernel
theorem dL_refuses_55 : decode cL_refuses 55 = .ok (.aload_n 0, 1) := by decide +kernel
theorem dL_refuses_56 : decode cL_refuses 56 = .ok (.iconst 3, 1) := by decide +kernel
theorem dL_refuses_57 : decode cL_refuses 57 = .ok (.iload_n 2, 1) := by decide +kernel
theorem dL_refuses_58 : decode cL_refuses 58 = .ok (.iconst 0, 1) := by decide +kernel
theorem dL_refuses_59 : decode cL_refuses 59 = .ok (.invokestatic 137, 3) := by decide +kernel
theorem dL_refuses_62 : decode cL_refuses 62 = .ok (.sipush (-1001), 3) := by decide +kernel
theorem dL_refuses_65 : decode cL_refuses 65 = .ok (.if_icmp .ne 97, 3) := by decide +kernel
theorem dL_refuses_68 : decode cL_refuses 68 = .ok (.aload_n 0, 1) := by decide +kernel
theorem dL_refuses_69 : decode cL_refuses 69 = .ok (.iconst 4, 1) := by decide +kernel
theorem dL_refuses_70 : decode cL_refuses 70 = .ok (.iconst 0, 1) := by decide +kernel
theorem dL_refuses_71 : decode cL_refuses 71 = .ok (.iconst (-1), 1) := by decide +kernel
theorem dL_refuses_72 : decode cL_refuses 72 = .ok (.invokestatic 137, 3) := by decide +kernel
theorem dL_refuses_75 : decode cL_refuses 75 = .ok (.sipush (-1001), 3) := by decide +kernel
theorem dL_refuses_78 : decode cL_refuses 78 = .ok (.if_icmp .ne 84, 3) := by decide +kernel
theorem dL_refuses_81 : decode cL_refuses 81 = .ok (.aload_n 0, 1) := by decide +kernel
theorem dL_refuses_82 : decode cL_refuses 82 = .ok (.iconst 5, 1) := by decide +kernel
theorem dL_refuses_83 : decode cL_refuses 83 = .ok (.iconst 0, 1) := by decide +kernel
theorem dL_refuses_84 : decode cL_refuses 84 = .ok (.iload_n 2, 1) := by decide +kernel
theorem dL_refuses_85 : decode cL_refuses 85 = .ok (.invokestatic 137, 3) := by decide +kernel
theorem dL_refuses_88 : decode cL_refuses 88 = .ok (.sipush (-1001), 3) := by decide +kernel
theorem dL_refuses_91 : decode cL_refuses 91 = .ok (.if_icmp .ne 71, 3) := by decide +kernel
theorem dL_refuses_94 : decode cL_refuses 94 = .ok (.aload_n 0, 1) := by decide +kernel
theorem dL_refuses_95 : decode cL_refuses 95 = .ok (.bipush 6, 2) := by decide +kernel
theorem dL_refuses_97 : decode cL_refuses 97 = .ok (.bipush 9, 2) := by decide +kernel
theorem dL_refuses_99 : decode cL_refuses 99 = .ok (.bipush 9, 2) := by decide +kernel
theorem dL_refuses_101 : decode cL_refuses 101 = .ok (.invokestatic 137, 3) := by decide +kernel
theorem dL_refuses_104 : decode cL_refuses 104 = .ok (.sipush (-1002), 3) := by decide +kernel
theorem dL_refuses_107 : decode cL_refuses 107 = .ok (.if_icmp .ne 55, 3) := by decide +kernel
theorem dL_refuses_110 : decode cL_refuses 110 = .ok (.aload_n 0, 1) := by decide +kernel
theorem dL_refuses_111 : decode cL_refuses 111 = .ok (.iload_n 1, 1) := by decide +kernel
theorem dL_refuses_112 : decode cL_refuses 112 = .ok (.iconst 5, 1) := by decide +kernel
theorem dL_refuses_113 : decode cL_refuses 113 = .ok (.invokestatic 160, 3) := by decide +kernel
theorem dL_refuses_116 : decode cL_refuses 116 = .ok (.sipush (-1001), 3) := by decide +kernel
theorem dL_refuses_119 : decode cL_refuses 119 = .ok (.if_icmp .ne 43, 3) := by decide +kernel
theorem dL_refuses_122 : decode cL_refuses 122 = .ok (.aload_n 0, 1) := by decide +kernel
theorem dL_refuses_123 : decode cL_refuses 123 = .ok (.iconst 0, 1) := by decide +kernel
theorem dL_refuses_124 : decode cL_refuses 124 = .ok (.iconst 5, 1) := by decide +kernel
theorem dL_refuses_125 : decode cL_refuses 125 = .ok (.invokestatic 160, 3) := by decide +kernel
theorem dL_refuses_128 : decode cL_refuses 128 = .ok (.sipush (-1002), 3) := by decide +kernel
theorem dL_refuses_131 : decode cL_refuses 131 = .ok (.if_icmp .ne 31, 3) := by decide +kernel
theorem dL_refuses_134 : decode cL_refuses 134 = .ok (.aload_n 0, 1) := by decide +kernel
theorem dL_refuses_135 : decode cL_refuses 135 = .ok (.iload_n 2, 1) := by decide +kernel
theorem dL_refuses_136 : decode cL_refuses 136 = .ok (.iconst 4, 1) := by decide +kernel
theorem dL_refuses_137 : decode cL_refuses 137 = .ok (.invokestatic 164, 3) := by decide +kernel
theorem dL_refuses_140 : decode cL_refuses 140 = .ok (.sipush (-1001), 3) := by decide +kernel
theorem dL_refuses_143 : decode cL_refuses 143 = .ok (.if_icmp .ne 19, 3) := by decide +kernel
theorem dL_refuses_146 : decode cL_refuses 146 = .ok (.aload_n 0, 1) := by decide +kernel
theorem dL_refuses_147 : decode cL_refuses 147 = .ok (.iconst 0, 1) := by decide +kernel
theorem dL_refuses_148 : decode cL_refuses 148 = .ok (.iconst (-1), 1) := by decide +kernel
theorem dL_refuses_149 : decode cL_refuses 149 = .ok (.invokestatic 164, 3) := by decide +kernel
theorem dL_refuses_152 : decode cL_refuses 152 = .ok (.sipush (-1002), 3) := by decide +kernel
theorem dL_refuses_155 : decode cL_refuses 155 = .ok (.if_icmp .ne 7, 3) := by decide +kernel
theorem dL_refuses_158 : decode cL_refuses 158 = .ok (.iconst 1, 1) := by decide +kernel
theorem dL_refuses_159 : decode cL_refuses 159 = .ok (.goto 4, 3) := by decide +kernel
theorem dL_refuses_162 : decode cL_refuses 162 = .ok (.iconst 0, 1) := by decide +kernel
theorem dL_refuses_163 : decode cL_refuses 163 = .ok (.istore 4, 2) := by decide +kernel
theorem dL_refuses_165 : decode cL_refuses 165 = .ok (.iload 4, 2) := by decide +kernel
theorem dL_refuses_167 : decode cL_refuses 167 = .ok (.ifCond .eq 202, 3) := by decide +kernel
theorem dL_refuses_170 : decode cL_refuses 170 = .ok (.aload_n 0, 1) := by decide +kernel
theorem dL_refuses_171 : decode cL_refuses 171 = .ok (.iload_n 1, 1) := by decide +kernel
theorem dL_refuses_172 : decode cL_refuses 172 = .ok (.iconst 0, 1) := by decide +kernel
theorem dL_refuses_173 : decode cL_refuses 173 = .ok (.invokestatic 167, 3) := by decide +kernel
theorem dL_refuses_176 : decode cL_refuses 176 = .ok (.sipush (-1001), 3) := by decide +kernel
theorem dL_refuses_179 : decode cL_refuses 179 = .ok (.if_icmp .ne 190, 3) := by decide +kernel
theorem dL_refuses_182 : decode cL_refuses 182 = .ok (.aload_n 0, 1) := by decide +kernel
theorem dL_refuses_183 : decode cL_refuses 183 = .ok (.iconst 0, 1) := by decide +kernel
theorem dL_refuses_184 : decode cL_refuses 184 = .ok (.aload_n 0, 1) := by decide +kernel
theorem dL_refuses_185 : decode cL_refuses 185 = .ok (.iconst 0, 1) := by decide +kernel
theorem dL_refuses_186 : decode cL_refuses 186 = .ok (.iconst 2, 1) := by decide +kernel
theorem dL_refuses_187 : decode cL_refuses 187 = .ok (.invokestatic 160, 3) := by decide +kernel
theorem dL_refuses_190 : decode cL_refuses 190 = .ok (.iconst 1, 1) := by decide +kernel
theorem dL_refuses_191 : decode cL_refuses 191 = .ok (.iadd, 1) := by decide +kernel
theorem dL_refuses_192 : decode cL_refuses 192 = .ok (.invokestatic 167, 3) := by decide +kernel
theorem dL_refuses_195 : decode cL_refuses 195 = .ok (.sipush (-1003), 3) := by decide +kernel
theorem dL_refuses_198 : decode cL_refuses 198 = .ok (.if_icmp .ne 171, 3) := by decide +kernel
theorem dL_refuses_201 : decode cL_refuses 201 = .ok (.aload_n 0, 1) := by decide +kernel
theorem dL_refuses_202 : decode cL_refuses 202 = .ok (.iload_n 1, 1) := by decide +kernel
theorem dL_refuses_203 : decode cL_refuses 203 = .ok (.iconst 1, 1) := by decide +kernel
theorem dL_refuses_204 : decode cL_refuses 204 = .ok (.isub, 1) := by decide +kernel
theorem dL_refuses_205 : decode cL_refuses 205 = .ok (.aload_n 0, 1) := by decide +kernel
theorem dL_refuses_206 : decode cL_refuses 206 = .ok (.iload_n 1, 1) := by decide +kernel
theorem dL_refuses_207 : decode cL_refuses 207 = .ok (.iconst 1, 1) := by decide +kernel
theorem dL_refuses_208 : decode cL_refuses 208 = .ok (.isub, 1) := by decide +kernel
theorem dL_refuses_209 : decode cL_refuses 209 = .ok (.iconst 1, 1) := by decide +kernel
theorem dL_refuses_210 : decode cL_refuses 210 = .ok (.invokestatic 160, 3) := by decide +kernel
theorem dL_refuses_213 : decode cL_refuses 213 = .ok (.iconst 1, 1) := by decide +kernel
theorem dL_refuses_214 : decode cL_refuses 214 = .ok (.isub, 1) := by decide +kernel
theorem dL_refuses_215 : decode cL_refuses 215 = .ok (.invokestatic 167, 3) := by decide +kernel
theorem dL_refuses_218 : decode cL_refuses 218 = .ok (.sipush (-1003), 3) := by decide +kernel
theorem dL_refuses_221 : decode cL_refuses 221 = .ok (.if_icmp .ne 148, 3) := by decide +kernel
theorem dL_refuses_224 : decode cL_refuses 224 = .ok (.aload_n 0, 1) := by decide +kernel
theorem dL_refuses_225 : decode cL_refuses 225 = .ok (.bipush 100, 2) := by decide +kernel
theorem dL_refuses_227 : decode cL_refuses 227 = .ok (.iconst 0, 1) := by decide +kernel
theorem dL_refuses_228 : decode cL_refuses 228 = .ok (.invokestatic 170, 3) := by decide +kernel
theorem dL_refuses_231 : decode cL_refuses 231 = .ok (.sipush (-1002), 3) := by decide +kernel
theorem dL_refuses_234 : decode cL_refuses 234 = .ok (.if_icmp .ne 135, 3) := by decide +kernel
theorem dL_refuses_237 : decode cL_refuses 237 = .ok (.aload_n 0, 1) := by decide +kernel
theorem dL_refuses_238 : decode cL_refuses 238 = .ok (.iconst 0, 1) := by decide +kernel
theorem dL_refuses_239 : decode cL_refuses 239 = .ok (.iload_n 3, 1) := by decide +kernel
theorem dL_refuses_240 : decode cL_refuses 240 = .ok (.iconst 1, 1) := by decide +kernel
theorem dL_refuses_241 : decode cL_refuses 241 = .ok (.iadd, 1) := by decide +kernel
theorem dL_refuses_242 : decode cL_refuses 242 = .ok (.invokestatic 170, 3) := by decide +kernel
theorem dL_refuses_245 : decode cL_refuses 245 = .ok (.sipush (-1002), 3) := by decide +kernel
theorem dL_refuses_248 : decode cL_refuses 248 = .ok (.if_icmp .ne 121, 3) := by decide +kernel
theorem dL_refuses_251 : decode cL_refuses 251 = .ok (.aload_n 0, 1) := by decide +kernel
theorem dL_refuses_252 : decode cL_refuses 252 = .ok (.iconst 0, 1) := by decide +kernel
theorem dL_refuses_253 : decode cL_refuses 253 = .ok (.iload_n 3, 1) := by decide +kernel
theorem dL_refuses_254 : decode cL_refuses 254 = .ok (.ineg, 1) := by decide +kernel
theorem dL_refuses_255 : decode cL_refuses 255 = .ok (.iconst 1, 1) := by decide +kernel
theorem dL_refuses_256 : decode cL_refuses 256 = .ok (.isub, 1) := by decide +kernel
theorem dL_refuses_257 : decode cL_refuses 257 = .ok (.invokestatic 170, 3) := by decide +kernel
theorem dL_refuses_260 : decode cL_refuses 260 = .ok (.sipush (-1002), 3) := by decide +kernel
theorem dL_refuses_263 : decode cL_refuses 263 = .ok (.if_icmp .ne 106, 3) := by decide +kernel
theorem dL_refuses_266 : decode cL_refuses 266 = .ok (.aload_n 0, 1) := by decide +kernel
theorem dL_refuses_267 : decode cL_refuses 267 = .ok (.iload_n 2, 1) := by decide +kernel
theorem dL_refuses_268 : decode cL_refuses 268 = .ok (.invokestatic 173, 3) := by decide +kernel
theorem dL_refuses_271 : decode cL_refuses 271 = .ok (.sipush (-1001), 3) := by decide +kernel
theorem dL_refuses_274 : decode cL_refuses 274 = .ok (.if_icmp .ne 95, 3) := by decide +kernel
theorem dL_refuses_277 : decode cL_refuses 277 = .ok (.aload_n 0, 1) := by decide +kernel
theorem dL_refuses_278 : decode cL_refuses 278 = .ok (.iconst (-1), 1) := by decide +kernel
theorem dL_refuses_279 : decode cL_refuses 279 = .ok (.invokestatic 173, 3) := by decide +kernel
theorem dL_refuses_282 : decode cL_refuses 282 = .ok (.sipush (-1001), 3) := by decide +kernel
theorem dL_refuses_285 : decode cL_refuses 285 = .ok (.if_icmp .ne 84, 3) := by decide +kernel
theorem dL_refuses_288 : decode cL_refuses 288 = .ok (.aload_n 0, 1) := by decide +kernel
theorem dL_refuses_289 : decode cL_refuses 289 = .ok (.iload_n 1, 1) := by decide +kernel
theorem dL_refuses_290 : decode cL_refuses 290 = .ok (.iconst 0, 1) := by decide +kernel
theorem dL_refuses_291 : decode cL_refuses 291 = .ok (.invokestatic 176, 3) := by decide +kernel
theorem dL_refuses_294 : decode cL_refuses 294 = .ok (.sipush (-1001), 3) := by decide +kernel
theorem dL_refuses_297 : decode cL_refuses 297 = .ok (.if_icmp .ne 72, 3) := by decide +kernel
theorem dL_refuses_300 : decode cL_refuses 300 = .ok (.aload_n 0, 1) := by decide +kernel
theorem dL_refuses_301 : decode cL_refuses 301 = .ok (.iconst 0, 1) := by decide +kernel
theorem dL_refuses_302 : decode cL_refuses 302 = .ok (.bipush 101, 2) := by decide +kernel
theorem dL_refuses_304 : decode cL_refuses 304 = .ok (.invokestatic 176, 3) := by decide +kernel
theorem dL_refuses_307 : decode cL_refuses 307 = .ok (.sipush (-1002), 3) := by decide +kernel
theorem dL_refuses_310 : decode cL_refuses 310 = .ok (.if_icmp .ne 59, 3) := by decide +kernel
theorem dL_refuses_313 : decode cL_refuses 313 = .ok (.aload_n 0, 1) := by decide +kernel
theorem dL_refuses_314 : decode cL_refuses 314 = .ok (.iconst 0, 1) := by decide +kernel
theorem dL_refuses_315 : decode cL_refuses 315 = .ok (.iload_n 2, 1) := by decide +kernel
theorem dL_refuses_316 : decode cL_refuses 316 = .ok (.bipush 100, 2) := by decide +kernel
theorem dL_refuses_318 : decode cL_refuses 318 = .ok (.invokestatic 179, 3) := by decide +kernel
theorem dL_refuses_321 : decode cL_refuses 321 = .ok (.sipush (-1001), 3) := by decide +kernel
theorem dL_refuses_324 : decode cL_refuses 324 = .ok (.if_icmp .ne 45, 3) := by decide +kernel
theorem dL_refuses_327 : decode cL_refuses 327 = .ok (.aload_n 0, 1) := by decide +kernel
theorem dL_refuses_328 : decode cL_refuses 328 = .ok (.iconst 0, 1) := by decide +kernel
theorem dL_refuses_329 : decode cL_refuses 329 = .ok (.iconst 0, 1) := by decide +kernel
theorem dL_refuses_330 : decode cL_refuses 330 = .ok (.bipush 100, 2) := by decide +kernel
theorem dL_refuses_332 : decode cL_refuses 332 = .ok (.invokestatic 179, 3) := by decide +kernel
theorem dL_refuses_335 : decode cL_refuses 335 = .ok (.sipush (-1002), 3) := by decide +kernel
theorem dL_refuses_338 : decode cL_refuses 338 = .ok (.if_icmp .ne 31, 3) := by decide +kernel
theorem dL_refuses_341 : decode cL_refuses 341 = .ok (.aload_n 0, 1) := by decide +kernel
theorem dL_refuses_342 : decode cL_refuses 342 = .ok (.bipush 10, 2) := by decide +kernel
theorem dL_refuses_344 : decode cL_refuses 344 = .ok (.invokestatic 182, 3) := by decide +kernel
theorem dL_refuses_347 : decode cL_refuses 347 = .ok (.sipush (-1002), 3) := by decide +kernel
theorem dL_refuses_350 : decode cL_refuses 350 = .ok (.if_icmp .ne 19, 3) := by decide +kernel
theorem dL_refuses_353 : decode cL_refuses 353 = .ok (.aload_n 0, 1) := by decide +kernel
theorem dL_refuses_354 : decode cL_refuses 354 = .ok (.bipush 100, 2) := by decide +kernel
theorem dL_refuses_356 : decode cL_refuses 356 = .ok (.invokestatic 185, 3) := by decide +kernel
theorem dL_refuses_359 : decode cL_refuses 359 = .ok (.sipush (-1002), 3) := by decide +kernel
theorem dL_refuses_362 : decode cL_refuses 362 = .ok (.if_icmp .ne 7, 3) := by decide +kernel
theorem dL_refuses_365 : decode cL_refuses 365 = .ok (.iconst 1, 1) := by decide +kernel
theorem dL_refuses_366 : decode cL_refuses 366 = .ok (.goto 4, 3) := by decide +kernel
theorem dL_refuses_369 : decode cL_refuses 369 = .ok (.iconst 0, 1) := by decide +kernel
theorem dL_refuses_370 : decode cL_refuses 370 = .ok (.istore 4, 2) := by decide +kernel
theorem dL_refuses_372 : decode cL_refuses 372 = .ok (.iload 4, 2) := by decide +kernel
theorem dL_refuses_374 : decode cL_refuses 374 = .ok (.ifCond .eq 221, 3) := by decide +kernel
theorem dL_refuses_377 : decode cL_refuses 377 = .ok (.iload_n 1, 1) := by decide +kernel
theorem dL_refuses_378 : decode cL_refuses 378 = .ok (.iconst 4, 1) := by decide +kernel
theorem dL_refuses_379 : decode cL_refuses 379 = .ok (.if_icmp .eq 44, 3) := by decide +kernel
theorem dL_refuses_382 : decode cL_refuses 382 = .ok (.aload_n 0, 1) := by decide +kernel
theorem dL_refuses_383 : decode cL_refuses 383 = .ok (.iconst 0, 1) := by decide +kernel
theorem dL_refuses_384 : decode cL_refuses 384 = .ok (.iload_n 1, 1) := by decide +kernel
theorem dL_refuses_385 : decode cL_refuses 385 = .ok (.iconst 2, 1) := by decide +kernel
theorem dL_refuses_386 : decode cL_refuses 386 = .ok (.if_icmp .ge 7, 3) := by decide +kernel
theorem dL_refuses_389 : decode cL_refuses 389 = .ok (.iconst 1, 1) := by decide +kernel
theorem dL_refuses_390 : decode cL_refuses 390 = .ok (.goto 4, 3) := by decide +kernel
theorem dL_refuses_393 : decode cL_refuses 393 = .ok (.iconst 0, 1) := by decide +kernel
theorem dL_refuses_394 : decode cL_refuses 394 = .ok (.iload_n 1, 1) := by decide +kernel
theorem dL_refuses_395 : decode cL_refuses 395 = .ok (.iconst 2, 1) := by decide +kernel
theorem dL_refuses_396 : decode cL_refuses 396 = .ok (.if_icmp .ne 7, 3) := by decide +kernel
theorem dL_refuses_399 : decode cL_refuses 399 = .ok (.iconst 1, 1) := by decide +kernel
theorem dL_refuses_400 : decode cL_refuses 400 = .ok (.goto 4, 3) := by decide +kernel
theorem dL_refuses_403 : decode cL_refuses 403 = .ok (.iconst 0, 1) := by decide +kernel
theorem dL_refuses_404 : decode cL_refuses 404 = .ok (.iload_n 1, 1) := by decide +kernel
theorem dL_refuses_405 : decode cL_refuses 405 = .ok (.iconst 3, 1) := by decide +kernel
theorem dL_refuses_406 : decode cL_refuses 406 = .ok (.if_icmp .ne 7, 3) := by decide +kernel
theorem dL_refuses_409 : decode cL_refuses 409 = .ok (.iconst 1, 1) := by decide +kernel
theorem dL_refuses_410 : decode cL_refuses 410 = .ok (.goto 4, 3) := by decide +kernel
theorem dL_refuses_413 : decode cL_refuses 413 = .ok (.iconst 0, 1) := by decide +kernel
theorem dL_refuses_414 : decode cL_refuses 414 = .ok (.invokestatic 188, 3) := by decide +kernel
theorem dL_refuses_417 : decode cL_refuses 417 = .ok (.sipush (-1002), 3) := by decide +kernel
theorem dL_refuses_420 : decode cL_refuses 420 = .ok (.if_icmp .ne 175, 3) := by decide +kernel
theorem dL_refuses_423 : decode cL_refuses 423 = .ok (.aload_n 0, 1) := by decide +kernel
theorem dL_refuses_424 : decode cL_refuses 424 = .ok (.iload_n 2, 1) := by decide +kernel
theorem dL_refuses_425 : decode cL_refuses 425 = .ok (.ldc 192, 2) := by decide +kernel
theorem dL_refuses_427 : decode cL_refuses 427 = .ok (.invokestatic 193, 3) := by decide +kernel
theorem dL_refuses_430 : decode cL_refuses 430 = .ok (.sipush (-1001), 3) := by decide +kernel
theorem dL_refuses_433 : decode cL_refuses 433 = .ok (.if_icmp .ne 162, 3) := by decide +kernel
theorem dL_refuses_436 : decode cL_refuses 436 = .ok (.aload_n 0, 1) := by decide +kernel
theorem dL_refuses_437 : decode cL_refuses 437 = .ok (.iconst 0, 1) := by decide +kernel
theorem dL_refuses_438 : decode cL_refuses 438 = .ok (.ldc 192, 2) := by decide +kernel
theorem dL_refuses_440 : decode cL_refuses 440 = .ok (.invokestatic 193, 3) := by decide +kernel
theorem dL_refuses_443 : decode cL_refuses 443 = .ok (.sipush (-1002), 3) := by decide +kernel
theorem dL_refuses_446 : decode cL_refuses 446 = .ok (.if_icmp .ne 149, 3) := by decide +kernel
theorem dL_refuses_449 : decode cL_refuses 449 = .ok (.aload_n 0, 1) := by decide +kernel
theorem dL_refuses_450 : decode cL_refuses 450 = .ok (.bipush 61, 2) := by decide +kernel
theorem dL_refuses_452 : decode cL_refuses 452 = .ok (.iconst 0, 1) := by decide +kernel
theorem dL_refuses_453 : decode cL_refuses 453 = .ok (.iload_n 1, 1) := by decide +kernel
theorem dL_refuses_454 : decode cL_refuses 454 = .ok (.iconst 1, 1) := by decide +kernel
theorem dL_refuses_455 : decode cL_refuses 455 = .ok (.invokestatic 196, 3) := by decide +kernel
theorem dL_refuses_458 : decode cL_refuses 458 = .ok (.sipush (-1001), 3) := by decide +kernel
theorem dL_refuses_461 : decode cL_refuses 461 = .ok (.if_icmp .ne 134, 3) := by decide +kernel
theorem dL_refuses_464 : decode cL_refuses 464 = .ok (.aload_n 0, 1) := by decide +kernel
theorem dL_refuses_465 : decode cL_refuses 465 = .ok (.bipush 61, 2) := by decide +kernel
theorem dL_refuses_467 : decode cL_refuses 467 = .ok (.iconst 0, 1) := by decide +kernel
theorem dL_refuses_468 : decode cL_refuses 468 = .ok (.iconst 0, 1) := by decide +kernel
theorem dL_refuses_469 : decode cL_refuses 469 = .ok (.iconst 1, 1) := by decide +kernel
theorem dL_refuses_470 : decode cL_refuses 470 = .ok (.invokestatic 196, 3) := by decide +kernel
theorem dL_refuses_473 : decode cL_refuses 473 = .ok (.sipush (-1002), 3) := by decide +kernel
theorem dL_refuses_476 : decode cL_refuses 476 = .ok (.if_icmp .ne 119, 3) := by decide +kernel
theorem dL_refuses_479 : decode cL_refuses 479 = .ok (.aload_n 0, 1) := by decide +kernel
theorem dL_refuses_480 : decode cL_refuses 480 = .ok (.iload_n 1, 1) := by decide +kernel
theorem dL_refuses_481 : decode cL_refuses 481 = .ok (.iconst 0, 1) := by decide +kernel
theorem dL_refuses_482 : decode cL_refuses 482 = .ok (.bipush 100, 2) := by decide +kernel
theorem dL_refuses_484 : decode cL_refuses 484 = .ok (.iconst 1, 1) := by decide +kernel
theorem dL_refuses_485 : decode cL_refuses 485 = .ok (.invokestatic 200, 3) := by decide +kernel
theorem dL_refuses_488 : decode cL_refuses 488 = .ok (.sipush (-1001), 3) := by decide +kernel
theorem dL_refuses_491 : decode cL_refuses 491 = .ok (.if_icmp .ne 104, 3) := by decide +kernel
theorem dL_refuses_494 : decode cL_refuses 494 = .ok (.aload_n 0, 1) := by decide +kernel
theorem dL_refuses_495 : decode cL_refuses 495 = .ok (.iconst 0, 1) := by decide +kernel
theorem dL_refuses_496 : decode cL_refuses 496 = .ok (.iconst 0, 1) := by decide +kernel
theorem dL_refuses_497 : decode cL_refuses 497 = .ok (.bipush (-100), 2) := by decide +kernel
theorem dL_refuses_499 : decode cL_refuses 499 = .ok (.iconst 0, 1) := by decide +kernel
theorem dL_refuses_500 : decode cL_refuses 500 = .ok (.invokestatic 200, 3) := by decide +kernel
theorem dL_refuses_503 : decode cL_refuses 503 = .ok (.sipush (-1002), 3) := by decide +kernel
theorem dL_refuses_506 : decode cL_refuses 506 = .ok (.if_icmp .ne 89, 3) := by decide +kernel
theorem dL_refuses_509 : decode cL_refuses 509 = .ok (.aload_n 0, 1) := by decide +kernel
theorem dL_refuses_510 : decode cL_refuses 510 = .ok (.iconst 0, 1) := by decide +kernel
theorem dL_refuses_511 : decode cL_refuses 511 = .ok (.invokestatic 147, 3) := by decide +kernel
theorem dL_refuses_514 : decode cL_refuses 514 = .ok (.sipush (-1002), 3) := by decide +kernel
theorem dL_refuses_517 : decode cL_refuses 517 = .ok (.if_icmp .ne 78, 3) := by decide +kernel
theorem dL_refuses_520 : decode cL_refuses 520 = .ok (.aload_n 0, 1) := by decide +kernel
theorem dL_refuses_521 : decode cL_refuses 521 = .ok (.bipush 9, 2) := by decide +kernel
theorem dL_refuses_523 : decode cL_refuses 523 = .ok (.invokestatic 147, 3) := by decide +kernel
theorem dL_refuses_526 : decode cL_refuses 526 = .ok (.sipush (-1002), 3) := by decide +kernel
theorem dL_refuses_529 : decode cL_refuses 529 = .ok (.if_icmp .ne 66, 3) := by decide +kernel
theorem dL_refuses_532 : decode cL_refuses 532 = .ok (.aload_n 0, 1) := by decide +kernel
theorem dL_refuses_533 : decode cL_refuses 533 = .ok (.iconst (-1), 1) := by decide +kernel
theorem dL_refuses_534 : decode cL_refuses 534 = .ok (.invokestatic 203, 3) := by decide +kernel
theorem dL_refuses_537 : decode cL_refuses 537 = .ok (.sipush (-1002), 3) := by decide +kernel
theorem dL_refuses_540 : decode cL_refuses 540 = .ok (.if_icmp .ne 55, 3) := by decide +kernel
theorem dL_refuses_543 : decode cL_refuses 543 = .ok (.aload_n 0, 1) := by decide +kernel
theorem dL_refuses_544 : decode cL_refuses 544 = .ok (.bipush 9, 2) := by decide +kernel
theorem dL_refuses_546 : decode cL_refuses 546 = .ok (.invokestatic 203, 3) := by decide +kernel
theorem dL_refuses_549 : decode cL_refuses 549 = .ok (.sipush (-1002), 3) := by decide +kernel
theorem dL_refuses_552 : decode cL_refuses 552 = .ok (.if_icmp .ne 43, 3) := by decide +kernel
theorem dL_refuses_555 : decode cL_refuses 555 = .ok (.aload_n 0, 1) := by decide +kernel
theorem dL_refuses_556 : decode cL_refuses 556 = .ok (.iconst (-1), 1) := by decide +kernel
theorem dL_refuses_557 : decode cL_refuses 557 = .ok (.iconst 0, 1) := by decide +kernel
theorem dL_refuses_558 : decode cL_refuses 558 = .ok (.invokestatic 206, 3) := by decide +kernel
theorem dL_refuses_561 : decode cL_refuses 561 = .ok (.sipush (-1001), 3) := by decide +kernel
theorem dL_refuses_564 : decode cL_refuses 564 = .ok (.if_icmp .ne 31, 3) := by decide +kernel
theorem dL_refuses_567 : decode cL_refuses 567 = .ok (.aload_n 0, 1) := by decide +kernel
theorem dL_refuses_568 : decode cL_refuses 568 = .ok (.iload_n 1, 1) := by decide +kernel
theorem dL_refuses_569 : decode cL_refuses 569 = .ok (.iconst 0, 1) := by decide +kernel
theorem dL_refuses_570 : decode cL_refuses 570 = .ok (.invokestatic 206, 3) := by decide +kernel
theorem dL_refuses_573 : decode cL_refuses 573 = .ok (.sipush (-1001), 3) := by decide +kernel
theorem dL_refuses_576 : decode cL_refuses 576 = .ok (.if_icmp .ne 19, 3) := by decide +kernel
theorem dL_refuses_579 : decode cL_refuses 579 = .ok (.aload_n 0, 1) := by decide +kernel
theorem dL_refuses_580 : decode cL_refuses 580 = .ok (.iload_n 1, 1) := by decide +kernel
theorem dL_refuses_581 : decode cL_refuses 581 = .ok (.iconst 1, 1) := by decide +kernel
theorem dL_refuses_582 : decode cL_refuses 582 = .ok (.invokestatic 209, 3) := by decide +kernel
theorem dL_refuses_585 : decode cL_refuses 585 = .ok (.sipush (-1001), 3) := by decide +kernel
theorem dL_refuses_588 : decode cL_refuses 588 = .ok (.if_icmp .ne 7, 3) := by decide +kernel
theorem dL_refuses_591 : decode cL_refuses 591 = .ok (.iconst 1, 1) := by decide +kernel
theorem dL_refuses_592 : decode cL_refuses 592 = .ok (.goto 4, 3) := by decide +kernel
theorem dL_refuses_595 : decode cL_refuses 595 = .ok (.iconst 0, 1) := by decide +kernel
theorem dL_refuses_596 : decode cL_refuses 596 = .ok (.istore 4, 2) := by decide +kernel
theorem dL_refuses_598 : decode cL_refuses 598 = .ok (.iload 4, 2) := by decide +kernel
theorem dL_refuses_600 : decode cL_refuses 600 = .ok (.ifCond .eq 96, 3) := by decide +kernel
theorem dL_refuses_603 : decode cL_refuses 603 = .ok (.aload_n 0, 1) := by decide +kernel
theorem dL_refuses_604 : decode cL_refuses 604 = .ok (.iconst 0, 1) := by decide +kernel
theorem dL_refuses_605 : decode cL_refuses 605 = .ok (.lconst 0, 1) := by decide +kernel
theorem dL_refuses_606 : decode cL_refuses 606 = .ok (.invokestatic 213, 3) := by decide +kernel
theorem dL_refuses_609 : decode cL_refuses 609 = .ok (.sipush (-1002), 3) := by decide +kernel
theorem dL_refuses_612 : decode cL_refuses 612 = .ok (.if_icmp .ne 84, 3) := by decide +kernel
theorem dL_refuses_615 : decode cL_refuses 615 = .ok (.aload_n 0, 1) := by decide +kernel
theorem dL_refuses_616 : decode cL_refuses 616 = .ok (.iconst 1, 1) := by decide +kernel
theorem dL_refuses_617 : decode cL_refuses 617 = .ok (.ldc2_w 217, 3) := by decide +kernel
theorem dL_refuses_620 : decode cL_refuses 620 = .ok (.invokestatic 213, 3) := by decide +kernel
theorem dL_refuses_623 : decode cL_refuses 623 = .ok (.sipush (-1002), 3) := by decide +kernel
theorem dL_refuses_626 : decode cL_refuses 626 = .ok (.if_icmp .ne 70, 3) := by decide +kernel
theorem dL_refuses_629 : decode cL_refuses 629 = .ok (.aload_n 0, 1) := by decide +kernel
theorem dL_refuses_630 : decode cL_refuses 630 = .ok (.iconst 4, 1) := by decide +kernel
theorem dL_refuses_631 : decode cL_refuses 631 = .ok (.ldc2_w 219, 3) := by decide +kernel
theorem dL_refuses_634 : decode cL_refuses 634 = .ok (.invokestatic 213, 3) := by decide +kernel
theorem dL_refuses_637 : decode cL_refuses 637 = .ok (.sipush (-1002), 3) := by decide +kernel
theorem dL_refuses_640 : decode cL_refuses 640 = .ok (.if_icmp .ne 56, 3) := by decide +kernel
theorem dL_refuses_643 : decode cL_refuses 643 = .ok (.aload_n 0, 1) := by decide +kernel
theorem dL_refuses_644 : decode cL_refuses 644 = .ok (.ldc2_w 221, 3) := by decide +kernel
theorem dL_refuses_647 : decode cL_refuses 647 = .ok (.bipush 101, 2) := by decide +kernel
theorem dL_refuses_649 : decode cL_refuses 649 = .ok (.invokestatic 223, 3) := by decide +kernel
theorem dL_refuses_652 : decode cL_refuses 652 = .ok (.ldc2_w 106, 3) := by decide +kernel
theorem dL_refuses_655 : decode cL_refuses 655 = .ok (.lcmp, 1) := by decide +kernel
theorem dL_refuses_656 : decode cL_refuses 656 = .ok (.ifCond .ne 40, 3) := by decide +kernel
theorem dL_refuses_659 : decode cL_refuses 659 = .ok (.aload_n 0, 1) := by decide +kernel
theorem dL_refuses_660 : decode cL_refuses 660 = .ok (.iconst 2, 1) := by decide +kernel
theorem dL_refuses_661 : decode cL_refuses 661 = .ok (.invokestatic 227, 3) := by decide +kernel
theorem dL_refuses_664 : decode cL_refuses 664 = .ok (.sipush (-1001), 3) := by decide +kernel
theorem dL_refuses_667 : decode cL_refuses 667 = .ok (.if_icmp .ne 29, 3) := by decide +kernel
theorem dL_refuses_670 : decode cL_refuses 670 = .ok (.aload_n 0, 1) := by decide +kernel
theorem dL_refuses_671 : decode cL_refuses 671 = .ok (.iconst (-1), 1) := by decide +kernel
theorem dL_refuses_672 : decode cL_refuses 672 = .ok (.invokestatic 144, 3) := by decide +kernel
theorem dL_refuses_675 : decode cL_refuses 675 = .ok (.sipush (-1001), 3) := by decide +kernel
theorem dL_refuses_678 : decode cL_refuses 678 = .ok (.if_icmp .ne 18, 3) := by decide +kernel
theorem dL_refuses_681 : decode cL_refuses 681 = .ok (.aload_n 0, 1) := by decide +kernel
theorem dL_refuses_682 : decode cL_refuses 682 = .ok (.iconst (-1), 1) := by decide +kernel
theorem dL_refuses_683 : decode cL_refuses 683 = .ok (.invokestatic 110, 3) := by decide +kernel
theorem dL_refuses_686 : decode cL_refuses 686 = .ok (.sipush (-1002), 3) := by decide +kernel
theorem dL_refuses_689 : decode cL_refuses 689 = .ok (.if_icmp .ne 7, 3) := by decide +kernel
theorem dL_refuses_692 : decode cL_refuses 692 = .ok (.iconst 1, 1) := by decide +kernel
theorem dL_refuses_693 : decode cL_refuses 693 = .ok (.goto 4, 3) := by decide +kernel
theorem dL_refuses_696 : decode cL_refuses 696 = .ok (.iconst 0, 1) := by decide +kernel
theorem dL_refuses_697 : decode cL_refuses 697 = .ok (.ireturn, 1) := by decide +kernel
theorem dL_contained_0 : decode cL_contained 0 = .ok (.aload_n 0, 1) := by decide +kernel
theorem dL_contained_1 : decode cL_contained 1 = .ok (.iconst 0, 1) := by decide +kernel
theorem dL_contained_2 : decode cL_contained 2 = .ok (.invokestatic 157, 3) := by decide +kernel
theorem dL_contained_5 : decode cL_contained 5 = .ok (.istore_n 1, 1) := by decide +kernel
theorem dL_contained_6 : decode cL_contained 6 = .ok (.aload_n 0, 1) := by decide +kernel
theorem dL_contained_7 : decode cL_contained 7 = .ok (.iconst 1, 1) := by decide +kernel
theorem dL_contained_8 : decode cL_contained 8 = .ok (.invokestatic 157, 3) := by decide +kernel
theorem dL_contained_11 : decode cL_contained 11 = .ok (.istore_n 2, 1) := by decide +kernel
theorem dL_contained_12 : decode cL_contained 12 = .ok (.iconst 0, 1) := by decide +kernel
theorem dL_contained_13 : decode cL_contained 13 = .ok (.istore_n 3, 1) := by decide +kernel
theorem dL_contained_14 : decode cL_contained 14 = .ok (.iconst 1, 1) := by decide +kernel
theorem dL_contained_15 : decode cL_contained 15 = .ok (.istore 4, 2) := by decide +kernel
theorem dL_contained_17 : decode cL_contained 17 = .ok (.iconst 0, 1) := by decide +kernel
theorem dL_contained_18 : decode cL_contained 18 = .ok (.istore 5, 2) := by decide +kernel
theorem dL_contained_20 : decode cL_contained 20 = .ok (.iload 5, 2) := by decide +kernel
theorem dL_contained_22 : decode cL_contained 22 = .ok (.iload_n 1, 1) := by decide +kernel
theorem dL_contained_23 : decode cL_contained 23 = .ok (.if_icmp .ge 155, 3) := by decide +kernel
theorem dL_contained_26 : decode cL_contained 26 = .ok (.iload 4, 2) := by decide +kernel
theorem dL_contained_28 : decode cL_contained 28 = .ok (.ifCond .eq 150, 3) := by decide +kernel
theorem dL_contained_31 : decode cL_contained 31 = .ok (.aload_n 0, 1) := by decide +kernel
theorem dL_contained_32 : decode cL_contained 32 = .ok (.iload 5, 2) := by decide +kernel
theorem dL_contained_34 : decode cL_contained 34 = .ok (.iconst 0, 1) := by decide +kernel
theorem dL_contained_35 : decode cL_contained 35 = .ok (.invokestatic 160, 3) := by decide +kernel
theorem dL_contained_38 : decode cL_contained 38 = .ok (.istore 6, 2) := by decide +kernel
theorem dL_contained_40 : decode cL_contained 40 = .ok (.aload_n 0, 1) := by decide +kernel
theorem dL_contained_41 : decode cL_contained 41 = .ok (.iload 5, 2) := by decide +kernel
theorem dL_contained_43 : decode cL_contained 43 = .ok (.iconst 1, 1) := by decide +kernel
theorem dL_contained_44 : decode cL_contained 44 = .ok (.invokestatic 160, 3) := by decide +kernel
theorem dL_contained_47 : decode cL_contained 47 = .ok (.istore 7, 2) := by decide +kernel
theorem dL_contained_49 : decode cL_contained 49 = .ok (.aload_n 0, 1) := by decide +kernel
theorem dL_contained_50 : decode cL_contained 50 = .ok (.iload 5, 2) := by decide +kernel
theorem dL_contained_52 : decode cL_contained 52 = .ok (.iconst 2, 1) := by decide +kernel
theorem dL_contained_53 : decode cL_contained 53 = .ok (.invokestatic 160, 3) := by decide +kernel
theorem dL_contained_56 : decode cL_contained 56 = .ok (.istore 8, 2) := by decide +kernel
theorem dL_contained_58 : decode cL_contained 58 = .ok (.aload_n 0, 1) := by decide +kernel
theorem dL_contained_59 : decode cL_contained 59 = .ok (.iload 5, 2) := by decide +kernel
theorem dL_contained_61 : decode cL_contained 61 = .ok (.iconst 3, 1) := by decide +kernel
theorem dL_contained_62 : decode cL_contained 62 = .ok (.invokestatic 160, 3) := by decide +kernel
theorem dL_contained_65 : decode cL_contained 65 = .ok (.istore 9, 2) := by decide +kernel
theorem dL_contained_67 : decode cL_contained 67 = .ok (.iload_n 3, 1) := by decide +kernel
theorem dL_contained_68 : decode cL_contained 68 = .ok (.iload 8, 2) := by decide +kernel
theorem dL_contained_70 : decode cL_contained 70 = .ok (.iload 7, 2) := by decide +kernel
theorem dL_contained_72 : decode cL_contained 72 = .ok (.isub, 1) := by decide +kernel
theorem dL_contained_73 : decode cL_contained 73 = .ok (.iadd, 1) := by decide +kernel
theorem dL_contained_74 : decode cL_contained 74 = .ok (.istore_n 3, 1) := by decide +kernel
theorem dL_contained_75 : decode cL_contained 75 = .ok (.iload 6, 2) := by decide +kernel
theorem dL_contained_77 : decode cL_contained 77 = .ok (.iload 7, 2) := by decide +kernel
theorem dL_contained_79 : decode cL_contained 79 = .ok (.if_icmp .lt 90, 3) := by decide +kernel
theorem dL_contained_82 : decode cL_contained 82 = .ok (.iload 6, 2) := by decide +kernel
theorem dL_contained_84 : decode cL_contained 84 = .ok (.iload 8, 2) := by decide +kernel
theorem dL_contained_86 : decode cL_contained 86 = .ok (.if_icmp .gt 83, 3) := by decide +kernel
theorem dL_contained_89 : decode cL_contained 89 = .ok (.iload 7, 2) := by decide +kernel
theorem dL_contained_91 : decode cL_contained 91 = .ok (.ldc 230, 2) := by decide +kernel
theorem dL_contained_93 : decode cL_contained 93 = .ok (.if_icmp .lt 76, 3) := by decide +kernel
theorem dL_contained_96 : decode cL_contained 96 = .ok (.iload 8, 2) := by decide +kernel
theorem dL_contained_98 : decode cL_contained 98 = .ok (.ldc 231, 2) := by decide +kernel
theorem dL_contained_100 : decode cL_contained 100 = .ok (.if_icmp .gt 69, 3) := by decide +kernel
theorem dL_contained_103 : decode cL_contained 103 = .ok (.iload 9, 2) := by decide +kernel
theorem dL_contained_105 : decode cL_contained 105 = .ok (.ldc 232, 2) := by decide +kernel
theorem dL_contained_107 : decode cL_contained 107 = .ok (.if_icmp .lt 62, 3) := by decide +kernel
theorem dL_contained_110 : decode cL_contained 110 = .ok (.iload 9, 2) := by decide +kernel
theorem dL_contained_112 : decode cL_contained 112 = .ok (.ldc 233, 2) := by decide +kernel
theorem dL_contained_114 : decode cL_contained 114 = .ok (.if_icmp .gt 55, 3) := by decide +kernel
theorem dL_contained_117 : decode cL_contained 117 = .ok (.aload_n 0, 1) := by decide +kernel
theorem dL_contained_118 : decode cL_contained 118 = .ok (.iload 5, 2) := by decide +kernel
theorem dL_contained_120 : decode cL_contained 120 = .ok (.iconst 4, 1) := by decide +kernel
theorem dL_contained_121 : decode cL_contained 121 = .ok (.invokestatic 160, 3) := by decide +kernel
theorem dL_contained_124 : decode cL_contained 124 = .ok (.iload 9, 2) := by decide +kernel
theorem dL_contained_126 : decode cL_contained 126 = .ok (.bipush 16, 2) := by decide +kernel
theorem dL_contained_128 : decode cL_contained 128 = .ok (.iload 7, 2) := by decide +kernel
theorem dL_contained_130 : decode cL_contained 130 = .ok (.imul, 1) := by decide +kernel
theorem dL_contained_131 : decode cL_contained 131 = .ok (.if_icmp .ge 11, 3) := by decide +kernel
theorem dL_contained_134 : decode cL_contained 134 = .ok (.bipush 16, 2) := by decide +kernel
theorem dL_contained_136 : decode cL_contained 136 = .ok (.iload 7, 2) := by decide +kernel
theorem dL_contained_138 : decode cL_contained 138 = .ok (.imul, 1) := by decide +kernel
theorem dL_contained_139 : decode cL_contained 139 = .ok (.goto 23, 3) := by decide +kernel
theorem dL_contained_142 : decode cL_contained 142 = .ok (.iload 9, 2) := by decide +kernel
theorem dL_contained_144 : decode cL_contained 144 = .ok (.bipush 16, 2) := by decide +kernel
theorem dL_contained_146 : decode cL_contained 146 = .ok (.iload 8, 2) := by decide +kernel
theorem dL_contained_148 : decode cL_contained 148 = .ok (.imul, 1) := by decide +kernel
theorem dL_contained_149 : decode cL_contained 149 = .ok (.if_icmp .le 11, 3) := by decide +kernel
theorem dL_contained_152 : decode cL_contained 152 = .ok (.bipush 16, 2) := by decide +kernel
theorem dL_contained_154 : decode cL_contained 154 = .ok (.iload 8, 2) := by decide +kernel
theorem dL_contained_156 : decode cL_contained 156 = .ok (.imul, 1) := by decide +kernel
theorem dL_contained_157 : decode cL_contained 157 = .ok (.goto 5, 3) := by decide +kernel
theorem dL_contained_160 : decode cL_contained 160 = .ok (.iload 9, 2) := by decide +kernel
theorem dL_contained_162 : decode cL_contained 162 = .ok (.if_icmp .ne 7, 3) := by decide +kernel
theorem dL_contained_165 : decode cL_contained 165 = .ok (.iconst 1, 1) := by decide +kernel
theorem dL_contained_166 : decode cL_contained 166 = .ok (.goto 4, 3) := by decide +kernel
theorem dL_contained_169 : decode cL_contained 169 = .ok (.iconst 0, 1) := by decide +kernel
theorem dL_contained_170 : decode cL_contained 170 = .ok (.istore 4, 2) := by decide +kernel
theorem dL_contained_172 : decode cL_contained 172 = .ok (.iinc 5 1, 3) := by decide +kernel
theorem dL_contained_175 : decode cL_contained 175 = .ok (.goto (-155), 3) := by decide +kernel
theorem dL_contained_178 : decode cL_contained 178 = .ok (.iload 4, 2) := by decide +kernel
theorem dL_contained_180 : decode cL_contained 180 = .ok (.ifCond .eq 106, 3) := by decide +kernel
theorem dL_contained_183 : decode cL_contained 183 = .ok (.iload_n 3, 1) := by decide +kernel
theorem dL_contained_184 : decode cL_contained 184 = .ok (.aload_n 0, 1) := by decide +kernel
theorem dL_contained_185 : decode cL_contained 185 = .ok (.invokevirtual 150, 3) := by decide +kernel
theorem dL_contained_188 : decode cL_contained 188 = .ok (.if_icmp .ne 98, 3) := by decide +kernel
theorem dL_contained_191 : decode cL_contained 191 = .ok (.aload_n 0, 1) := by decide +kernel
theorem dL_contained_192 : decode cL_contained 192 = .ok (.aload_n 0, 1) := by decide +kernel
theorem dL_contained_193 : decode cL_contained 193 = .ok (.iconst 0, 1) := by decide +kernel
theorem dL_contained_194 : decode cL_contained 194 = .ok (.iconst 0, 1) := by decide +kernel
theorem dL_contained_195 : decode cL_contained 195 = .ok (.invokestatic 160, 3) := by decide +kernel
theorem dL_contained_198 : decode cL_contained 198 = .ok (.iload_n 1, 1) := by decide +kernel
theorem dL_contained_199 : decode cL_contained 199 = .ok (.iconst 1, 1) := by decide +kernel
theorem dL_contained_200 : decode cL_contained 200 = .ok (.if_icmp .le 12, 3) := by decide +kernel
theorem dL_contained_203 : decode cL_contained 203 = .ok (.aload_n 0, 1) := by decide +kernel
theorem dL_contained_204 : decode cL_contained 204 = .ok (.iconst 1, 1) := by decide +kernel
theorem dL_contained_205 : decode cL_contained 205 = .ok (.iconst 0, 1) := by decide +kernel
theorem dL_contained_206 : decode cL_contained 206 = .ok (.invokestatic 160, 3) := by decide +kernel
theorem dL_contained_209 : decode cL_contained 209 = .ok (.goto 4, 3) := by decide +kernel
theorem dL_contained_212 : decode cL_contained 212 = .ok (.iconst 0, 1) := by decide +kernel
theorem dL_contained_213 : decode cL_contained 213 = .ok (.iload_n 1, 1) := by decide +kernel
theorem dL_contained_214 : decode cL_contained 214 = .ok (.iconst 2, 1) := by decide +kernel
theorem dL_contained_215 : decode cL_contained 215 = .ok (.if_icmp .le 12, 3) := by decide +kernel
theorem dL_contained_218 : decode cL_contained 218 = .ok (.aload_n 0, 1) := by decide +kernel
theorem dL_contained_219 : decode cL_contained 219 = .ok (.iconst 2, 1) := by decide +kernel
theorem dL_contained_220 : decode cL_contained 220 = .ok (.iconst 0, 1) := by decide +kernel
theorem dL_contained_221 : decode cL_contained 221 = .ok (.invokestatic 160, 3) := by decide +kernel
theorem dL_contained_224 : decode cL_contained 224 = .ok (.goto 4, 3) := by decide +kernel
theorem dL_contained_227 : decode cL_contained 227 = .ok (.iconst 0, 1) := by decide +kernel
theorem dL_contained_228 : decode cL_contained 228 = .ok (.iload_n 1, 1) := by decide +kernel
theorem dL_contained_229 : decode cL_contained 229 = .ok (.iconst 3, 1) := by decide +kernel
theorem dL_contained_230 : decode cL_contained 230 = .ok (.if_icmp .le 12, 3) := by decide +kernel
theorem dL_contained_233 : decode cL_contained 233 = .ok (.aload_n 0, 1) := by decide +kernel
theorem dL_contained_234 : decode cL_contained 234 = .ok (.iconst 3, 1) := by decide +kernel
theorem dL_contained_235 : decode cL_contained 235 = .ok (.iconst 0, 1) := by decide +kernel
theorem dL_contained_236 : decode cL_contained 236 = .ok (.invokestatic 160, 3) := by decide +kernel
theorem dL_contained_239 : decode cL_contained 239 = .ok (.goto 4, 3) := by decide +kernel
theorem dL_contained_242 : decode cL_contained 242 = .ok (.iconst 0, 1) := by decide +kernel
theorem dL_contained_243 : decode cL_contained 243 = .ok (.invokestatic 188, 3) := by decide +kernel
theorem dL_contained_246 : decode cL_contained 246 = .ok (.iconst 1, 1) := by decide +kernel
theorem dL_contained_247 : decode cL_contained 247 = .ok (.if_icmp .ne 39, 3) := by decide +kernel
theorem dL_contained_250 : decode cL_contained 250 = .ok (.aload_n 0, 1) := by decide +kernel
theorem dL_contained_251 : decode cL_contained 251 = .ok (.aload_n 0, 1) := by decide +kernel
theorem dL_contained_252 : decode cL_contained 252 = .ok (.iconst 0, 1) := by decide +kernel
theorem dL_contained_253 : decode cL_contained 253 = .ok (.iconst 2, 1) := by decide +kernel
theorem dL_contained_254 : decode cL_contained 254 = .ok (.invokestatic 160, 3) := by decide +kernel
theorem dL_contained_257 : decode cL_contained 257 = .ok (.iconst 1, 1) := by decide +kernel
theorem dL_contained_258 : decode cL_contained 258 = .ok (.iadd, 1) := by decide +kernel
theorem dL_contained_259 : decode cL_contained 259 = .ok (.iload_n 1, 1) := by decide +kernel
theorem dL_contained_260 : decode cL_contained 260 = .ok (.iconst 1, 1) := by decide +kernel
theorem dL_contained_261 : decode cL_contained 261 = .ok (.if_icmp .le 12, 3) := by decide +kernel
theorem dL_contained_264 : decode cL_contained 264 = .ok (.aload_n 0, 1) := by decide +kernel
theorem dL_contained_265 : decode cL_contained 265 = .ok (.iconst 1, 1) := by decide +kernel
theorem dL_contained_266 : decode cL_contained 266 = .ok (.iconst 0, 1) := by decide +kernel
theorem dL_contained_267 : decode cL_contained 267 = .ok (.invokestatic 160, 3) := by decide +kernel
theorem dL_contained_270 : decode cL_contained 270 = .ok (.goto 4, 3) := by decide +kernel
theorem dL_contained_273 : decode cL_contained 273 = .ok (.iconst 0, 1) := by decide +kernel
theorem dL_contained_274 : decode cL_contained 274 = .ok (.iconst 0, 1) := by decide +kernel
theorem dL_contained_275 : decode cL_contained 275 = .ok (.iconst 0, 1) := by decide +kernel
theorem dL_contained_276 : decode cL_contained 276 = .ok (.invokestatic 188, 3) := by decide +kernel
theorem dL_contained_279 : decode cL_contained 279 = .ok (.ifCond .ne 7, 3) := by decide +kernel
theorem dL_contained_282 : decode cL_contained 282 = .ok (.iconst 1, 1) := by decide +kernel
theorem dL_contained_283 : decode cL_contained 283 = .ok (.goto 4, 3) := by decide +kernel
theorem dL_contained_286 : decode cL_contained 286 = .ok (.iconst 0, 1) := by decide +kernel
theorem dL_contained_287 : decode cL_contained 287 = .ok (.istore 4, 2) := by decide +kernel
theorem dL_contained_289 : decode cL_contained 289 = .ok (.iconst 0, 1) := by decide +kernel
theorem dL_contained_290 : decode cL_contained 290 = .ok (.istore 5, 2) := by decide +kernel
theorem dL_contained_292 : decode cL_contained 292 = .ok (.iconst 0, 1) := by decide +kernel
theorem dL_contained_293 : decode cL_contained 293 = .ok (.istore 6, 2) := by decide +kernel
theorem dL_contained_295 : decode cL_contained 295 = .ok (.iload 6, 2) := by decide +kernel
theorem dL_contained_297 : decode cL_contained 297 = .ok (.iload_n 2, 1) := by decide +kernel
theorem dL_contained_298 : decode cL_contained 298 = .ok (.if_icmp .ge 330, 3) := by decide +kernel
theorem dL_contained_301 : decode cL_contained 301 = .ok (.iload 4, 2) := by decide +kernel
theorem dL_contained_303 : decode cL_contained 303 = .ok (.ifCond .eq 325, 3) := by decide +kernel
theorem dL_contained_306 : decode cL_contained 306 = .ok (.lconst 0, 1) := by decide +kernel
theorem dL_contained_307 : decode cL_contained 307 = .ok (.lstore 7, 2) := by decide +kernel
theorem dL_contained_309 : decode cL_contained 309 = .ok (.iconst 0, 1) := by decide +kernel
theorem dL_contained_310 : decode cL_contained 310 = .ok (.istore 9, 2) := by decide +kernel
theorem dL_contained_312 : decode cL_contained 312 = .ok (.iconst 0, 1) := by decide +kernel
theorem dL_contained_313 : decode cL_contained 313 = .ok (.istore 10, 2) := by decide +kernel
theorem dL_contained_315 : decode cL_contained 315 = .ok (.iconst 0, 1) := by decide +kernel
theorem dL_contained_316 : decode cL_contained 316 = .ok (.istore 11, 2) := by decide +kernel
theorem dL_contained_318 : decode cL_contained 318 = .ok (.iload 11, 2) := by decide +kernel
theorem dL_contained_320 : decode cL_contained 320 = .ok (.iload_n 1, 1) := by decide +kernel
theorem dL_contained_321 : decode cL_contained 321 = .ok (.if_icmp .ge 80, 3) := by decide +kernel
theorem dL_contained_324 : decode cL_contained 324 = .ok (.iload 10, 2) := by decide +kernel
theorem dL_contained_326 : decode cL_contained 326 = .ok (.ifCond .ne 15, 3) := by decide +kernel
theorem dL_contained_329 : decode cL_contained 329 = .ok (.aload_n 0, 1) := by decide +kernel
theorem dL_contained_330 : decode cL_contained 330 = .ok (.iconst 3, 1) := by decide +kernel
theorem dL_contained_331 : decode cL_contained 331 = .ok (.iload 6, 2) := by decide +kernel
theorem dL_contained_333 : decode cL_contained 333 = .ok (.iload 11, 2) := by decide +kernel
theorem dL_contained_335 : decode cL_contained 335 = .ok (.invokestatic 137, 3) := by decide +kernel
theorem dL_contained_338 : decode cL_contained 338 = .ok (.ifCond .eq 7, 3) := by decide +kernel
theorem dL_contained_341 : decode cL_contained 341 = .ok (.iconst 1, 1) := by decide +kernel
theorem dL_contained_342 : decode cL_contained 342 = .ok (.goto 4, 3) := by decide +kernel
theorem dL_contained_345 : decode cL_contained 345 = .ok (.iconst 0, 1) := by decide +kernel
theorem dL_contained_346 : decode cL_contained 346 = .ok (.istore 10, 2) := by decide +kernel
theorem dL_contained_348 : decode cL_contained 348 = .ok (.lload 7, 2) := by decide +kernel
theorem dL_contained_350 : decode cL_contained 350 = .ok (.aload_n 0, 1) := by decide +kernel
theorem dL_contained_351 : decode cL_contained 351 = .ok (.iconst 3, 1) := by decide +kernel
theorem dL_contained_352 : decode cL_contained 352 = .ok (.iload 6, 2) := by decide +kernel
theorem dL_contained_354 : decode cL_contained 354 = .ok (.iload 11, 2) := by decide +kernel
theorem dL_contained_356 : decode cL_contained 356 = .ok (.invokestatic 137, 3) := by decide +kernel
theorem dL_contained_359 : decode cL_contained 359 = .ok (.i2l, 1) := by decide +kernel
theorem dL_contained_360 : decode cL_contained 360 = .ok (.aload_n 0, 1) := by decide +kernel
theorem dL_contained_361 : decode cL_contained 361 = .ok (.iload 11, 2) := by decide +kernel
theorem dL_contained_363 : decode cL_contained 363 = .ok (.iconst 0, 1) := by decide +kernel
theorem dL_contained_364 : decode cL_contained 364 = .ok (.invokestatic 160, 3) := by decide +kernel
theorem dL_contained_367 : decode cL_contained 367 = .ok (.i2l, 1) := by decide +kernel
theorem dL_contained_368 : decode cL_contained 368 = .ok (.lmul, 1) := by decide +kernel
theorem dL_contained_369 : decode cL_contained 369 = .ok (.ladd, 1) := by decide +kernel
theorem dL_contained_370 : decode cL_contained 370 = .ok (.lstore 7, 2) := by decide +kernel
theorem dL_contained_372 : decode cL_contained 372 = .ok (.iload 9, 2) := by decide +kernel
theorem dL_contained_374 : decode cL_contained 374 = .ok (.aload_n 0, 1) := by decide +kernel
theorem dL_contained_375 : decode cL_contained 375 = .ok (.iconst 3, 1) := by decide +kernel
theorem dL_contained_376 : decode cL_contained 376 = .ok (.iload 6, 2) := by decide +kernel
theorem dL_contained_378 : decode cL_contained 378 = .ok (.iload 11, 2) := by decide +kernel
theorem dL_contained_380 : decode cL_contained 380 = .ok (.invokestatic 137, 3) := by decide +kernel
theorem dL_contained_383 : decode cL_contained 383 = .ok (.aload_n 0, 1) := by decide +kernel
theorem dL_contained_384 : decode cL_contained 384 = .ok (.iconst 2, 1) := by decide +kernel
theorem dL_contained_385 : decode cL_contained 385 = .ok (.iload 11, 2) := by decide +kernel
theorem dL_contained_387 : decode cL_contained 387 = .ok (.iconst 0, 1) := by decide +kernel
theorem dL_contained_388 : decode cL_contained 388 = .ok (.invokestatic 137, 3) := by decide +kernel
theorem dL_contained_391 : decode cL_contained 391 = .ok (.imul, 1) := by decide +kernel
theorem dL_contained_392 : decode cL_contained 392 = .ok (.iadd, 1) := by decide +kernel
theorem dL_contained_393 : decode cL_contained 393 = .ok (.istore 9, 2) := by decide +kernel
theorem dL_contained_395 : decode cL_contained 395 = .ok (.iinc 11 1, 3) := by decide +kernel
theorem dL_contained_398 : decode cL_contained 398 = .ok (.goto (-80), 3) := by decide +kernel
theorem dL_contained_401 : decode cL_contained 401 = .ok (.lload 7, 2) := by decide +kernel
theorem dL_contained_403 : decode cL_contained 403 = .ok (.aload_n 0, 1) := by decide +kernel
theorem dL_contained_404 : decode cL_contained 404 = .ok (.iconst 4, 1) := by decide +kernel
theorem dL_contained_405 : decode cL_contained 405 = .ok (.iload 6, 2) := by decide +kernel
theorem dL_contained_407 : decode cL_contained 407 = .ok (.iconst 0, 1) := by decide +kernel
theorem dL_contained_408 : decode cL_contained 408 = .ok (.invokestatic 137, 3) := by decide +kernel
theorem dL_contained_411 : decode cL_contained 411 = .ok (.i2l, 1) := by decide +kernel
theorem dL_contained_412 : decode cL_contained 412 = .ok (.invokestatic 234, 3) := by decide +kernel
theorem dL_contained_415 : decode cL_contained 415 = .ok (.lstore 11, 2) := by decide +kernel
theorem dL_contained_417 : decode cL_contained 417 = .ok (.iload 5, 2) := by decide +kernel
theorem dL_contained_419 : decode cL_contained 419 = .ok (.iload 9, 2) := by decide +kernel
theorem dL_contained_421 : decode cL_contained 421 = .ok (.ifCond .eq 10, 3) := by decide +kernel
theorem dL_contained_424 : decode cL_contained 424 = .ok (.iconst 1, 1) := by decide +kernel
theorem dL_contained_425 : decode cL_contained 425 = .ok (.iload 6, 2) := by decide +kernel
theorem dL_contained_427 : decode cL_contained 427 = .ok (.ishl, 1) := by decide +kernel
theorem dL_contained_428 : decode cL_contained 428 = .ok (.goto 4, 3) := by decide +kernel
theorem dL_contained_431 : decode cL_contained 431 = .ok (.iconst 0, 1) := by decide +kernel
theorem dL_contained_432 : decode cL_contained 432 = .ok (.ior, 1) := by decide +kernel
theorem dL_contained_433 : decode cL_contained 433 = .ok (.istore 5, 2) := by decide +kernel
theorem dL_contained_435 : decode cL_contained 435 = .ok (.aload_n 0, 1) := by decide +kernel
theorem dL_contained_436 : decode cL_contained 436 = .ok (.iload 6, 2) := by decide +kernel
theorem dL_contained_438 : decode cL_contained 438 = .ok (.iconst 2, 1) := by decide +kernel
theorem dL_contained_439 : decode cL_contained 439 = .ok (.invokestatic 164, 3) := by decide +kernel
theorem dL_contained_442 : decode cL_contained 442 = .ok (.istore 13, 2) := by decide +kernel
theorem dL_contained_444 : decode cL_contained 444 = .ok (.aload_n 0, 1) := by decide +kernel
theorem dL_contained_445 : decode cL_contained 445 = .ok (.iload 6, 2) := by decide +kernel
theorem dL_contained_447 : decode cL_contained 447 = .ok (.iconst 3, 1) := by decide +kernel
theorem dL_contained_448 : decode cL_contained 448 = .ok (.invokestatic 164, 3) := by decide +kernel
theorem dL_contained_451 : decode cL_contained 451 = .ok (.istore 14, 2) := by decide +kernel
theorem dL_contained_453 : decode cL_contained 453 = .ok (.iload 13, 2) := by decide +kernel
theorem dL_contained_455 : decode cL_contained 455 = .ok (.i2l, 1) := by decide +kernel
theorem dL_contained_456 : decode cL_contained 456 = .ok (.lload 11, 2) := by decide +kernel
theorem dL_contained_458 : decode cL_contained 458 = .ok (.lcmp, 1) := by decide +kernel
theorem dL_contained_459 : decode cL_contained 459 = .ok (.ifCond .gt 40, 3) := by decide +kernel
theorem dL_contained_462 : decode cL_contained 462 = .ok (.lload 11, 2) := by decide +kernel
theorem dL_contained_464 : decode cL_contained 464 = .ok (.iload 14, 2) := by decide +kernel
theorem dL_contained_466 : decode cL_contained 466 = .ok (.i2l, 1) := by decide +kernel
theorem dL_contained_467 : decode cL_contained 467 = .ok (.lcmp, 1) := by decide +kernel
theorem dL_contained_468 : decode cL_contained 468 = .ok (.ifCond .gt 31, 3) := by decide +kernel
theorem dL_contained_471 : decode cL_contained 471 = .ok (.aload_n 0, 1) := by decide +kernel
theorem dL_contained_472 : decode cL_contained 472 = .ok (.iload 6, 2) := by decide +kernel
theorem dL_contained_474 : decode cL_contained 474 = .ok (.iconst 1, 1) := by decide +kernel
theorem dL_contained_475 : decode cL_contained 475 = .ok (.invokestatic 164, 3) := by decide +kernel
theorem dL_contained_478 : decode cL_contained 478 = .ok (.ifCond .ne 17, 3) := by decide +kernel
theorem dL_contained_481 : decode cL_contained 481 = .ok (.aload_n 0, 1) := by decide +kernel
theorem dL_contained_482 : decode cL_contained 482 = .ok (.iload 6, 2) := by decide +kernel
theorem dL_contained_484 : decode cL_contained 484 = .ok (.iconst 0, 1) := by decide +kernel
theorem dL_contained_485 : decode cL_contained 485 = .ok (.invokestatic 164, 3) := by decide +kernel
theorem dL_contained_488 : decode cL_contained 488 = .ok (.i2l, 1) := by decide +kernel
theorem dL_contained_489 : decode cL_contained 489 = .ok (.lload 11, 2) := by decide +kernel
theorem dL_contained_491 : decode cL_contained 491 = .ok (.lcmp, 1) := by decide +kernel
theorem dL_contained_492 : decode cL_contained 492 = .ok (.ifCond .ne 7, 3) := by decide +kernel
theorem dL_contained_495 : decode cL_contained 495 = .ok (.iconst 1, 1) := by decide +kernel
theorem dL_contained_496 : decode cL_contained 496 = .ok (.goto 4, 3) := by decide +kernel
theorem dL_contained_499 : decode cL_contained 499 = .ok (.iconst 0, 1) := by decide +kernel
theorem dL_contained_500 : decode cL_contained 500 = .ok (.istore 4, 2) := by decide +kernel
theorem dL_contained_502 : decode cL_contained 502 = .ok (.aload_n 0, 1) := by decide +kernel
theorem dL_contained_503 : decode cL_contained 503 = .ok (.iload 6, 2) := by decide +kernel
theorem dL_contained_505 : decode cL_contained 505 = .ok (.lload 11, 2) := by decide +kernel
theorem dL_contained_507 : decode cL_contained 507 = .ok (.l2i, 1) := by decide +kernel
theorem dL_contained_508 : decode cL_contained 508 = .ok (.invokestatic 193, 3) := by decide +kernel
theorem dL_contained_511 : decode cL_contained 511 = .ok (.istore 15, 2) := by decide +kernel
theorem dL_contained_513 : decode cL_contained 513 = .ok (.iload 4, 2) := by decide +kernel
theorem dL_contained_515 : decode cL_contained 515 = .ok (.ifCond .eq 104, 3) := by decide +kernel
theorem dL_contained_518 : decode cL_contained 518 = .ok (.lload 11, 2) := by decide +kernel
theorem dL_contained_520 : decode cL_contained 520 = .ok (.ldc2_w 238, 3) := by decide +kernel
theorem dL_contained_523 : decode cL_contained 523 = .ok (.lcmp, 1) := by decide +kernel
theorem dL_contained_524 : decode cL_contained 524 = .ok (.ifCond .gt 23, 3) := by decide +kernel
theorem dL_contained_527 : decode cL_contained 527 = .ok (.lload 11, 2) := by decide +kernel
theorem dL_contained_529 : decode cL_contained 529 = .ok (.ldc2_w 240, 3) := by decide +kernel
theorem dL_contained_532 : decode cL_contained 532 = .ok (.lcmp, 1) := by decide +kernel
theorem dL_contained_533 : decode cL_contained 533 = .ok (.ifCond .lt 14, 3) := by decide +kernel
theorem dL_contained_536 : decode cL_contained 536 = .ok (.iload 15, 2) := by decide +kernel
theorem dL_contained_538 : decode cL_contained 538 = .ok (.ifCond .lt 81, 3) := by decide +kernel
theorem dL_contained_541 : decode cL_contained 541 = .ok (.iload 15, 2) := by decide +kernel
theorem dL_contained_543 : decode cL_contained 543 = .ok (.iload_n 3, 1) := by decide +kernel
theorem dL_contained_544 : decode cL_contained 544 = .ok (.if_icmp .gt 75, 3) := by decide +kernel
theorem dL_contained_547 : decode cL_contained 547 = .ok (.iload 10, 2) := by decide +kernel
theorem dL_contained_549 : decode cL_contained 549 = .ok (.ifCond .eq 32, 3) := by decide +kernel
theorem dL_contained_552 : decode cL_contained 552 = .ok (.iload 14, 2) := by decide +kernel
theorem dL_contained_554 : decode cL_contained 554 = .ok (.ldc 242, 2) := by decide +kernel
theorem dL_contained_556 : decode cL_contained 556 = .ok (.if_icmp .gt 25, 3) := by decide +kernel
theorem dL_contained_559 : decode cL_contained 559 = .ok (.iload 14, 2) := by decide +kernel
theorem dL_contained_561 : decode cL_contained 561 = .ok (.ldc 243, 2) := by decide +kernel
theorem dL_contained_563 : decode cL_contained 563 = .ok (.if_icmp .lt 18, 3) := by decide +kernel
theorem dL_contained_566 : decode cL_contained 566 = .ok (.aload_n 0, 1) := by decide +kernel
theorem dL_contained_567 : decode cL_contained 567 = .ok (.iload 6, 2) := by decide +kernel
theorem dL_contained_569 : decode cL_contained 569 = .ok (.iload 14, 2) := by decide +kernel
theorem dL_contained_571 : decode cL_contained 571 = .ok (.iconst 1, 1) := by decide +kernel
theorem dL_contained_572 : decode cL_contained 572 = .ok (.iadd, 1) := by decide +kernel
theorem dL_contained_573 : decode cL_contained 573 = .ok (.invokestatic 193, 3) := by decide +kernel
theorem dL_contained_576 : decode cL_contained 576 = .ok (.bipush (-9), 2) := by decide +kernel
theorem dL_contained_578 : decode cL_contained 578 = .ok (.if_icmp .ne 41, 3) := by decide +kernel
theorem dL_contained_581 : decode cL_contained 581 = .ok (.iload 10, 2) := by decide +kernel
theorem dL_contained_583 : decode cL_contained 583 = .ok (.ifCond .eq 32, 3) := by decide +kernel
theorem dL_contained_586 : decode cL_contained 586 = .ok (.iload 13, 2) := by decide +kernel
theorem dL_contained_588 : decode cL_contained 588 = .ok (.ldc 244, 2) := by decide +kernel
theorem dL_contained_590 : decode cL_contained 590 = .ok (.if_icmp .lt 25, 3) := by decide +kernel
theorem dL_contained_593 : decode cL_contained 593 = .ok (.iload 13, 2) := by decide +kernel
theorem dL_contained_595 : decode cL_contained 595 = .ok (.ldc 192, 2) := by decide +kernel
theorem dL_contained_597 : decode cL_contained 597 = .ok (.if_icmp .gt 18, 3) := by decide +kernel
theorem dL_contained_600 : decode cL_contained 600 = .ok (.aload_n 0, 1) := by decide +kernel
theorem dL_contained_601 : decode cL_contained 601 = .ok (.iload 6, 2) := by decide +kernel
theorem dL_contained_603 : decode cL_contained 603 = .ok (.iload 13, 2) := by decide +kernel
theorem dL_contained_605 : decode cL_contained 605 = .ok (.iconst 1, 1) := by decide +kernel
theorem dL_contained_606 : decode cL_contained 606 = .ok (.isub, 1) := by decide +kernel
theorem dL_contained_607 : decode cL_contained 607 = .ok (.invokestatic 193, 3) := by decide +kernel
theorem dL_contained_610 : decode cL_contained 610 = .ok (.bipush (-9), 2) := by decide +kernel
theorem dL_contained_612 : decode cL_contained 612 = .ok (.if_icmp .ne 7, 3) := by decide +kernel
theorem dL_contained_615 : decode cL_contained 615 = .ok (.iconst 1, 1) := by decide +kernel
theorem dL_contained_616 : decode cL_contained 616 = .ok (.goto 4, 3) := by decide +kernel
theorem dL_contained_619 : decode cL_contained 619 = .ok (.iconst 0, 1) := by decide +kernel
theorem dL_contained_620 : decode cL_contained 620 = .ok (.istore 4, 2) := by decide +kernel
theorem dL_contained_622 : decode cL_contained 622 = .ok (.iinc 6 1, 3) := by decide +kernel
theorem dL_contained_625 : decode cL_contained 625 = .ok (.goto (-330), 3) := by decide +kernel
theorem dL_contained_628 : decode cL_contained 628 = .ok (.iload 4, 2) := by decide +kernel
theorem dL_contained_630 : decode cL_contained 630 = .ok (.ifCond .eq 16, 3) := by decide +kernel
theorem dL_contained_633 : decode cL_contained 633 = .ok (.aload_n 0, 1) := by decide +kernel
theorem dL_contained_634 : decode cL_contained 634 = .ok (.invokevirtual 245, 3) := by decide +kernel
theorem dL_contained_637 : decode cL_contained 637 = .ok (.iload 5, 2) := by decide +kernel
theorem dL_contained_639 : decode cL_contained 639 = .ok (.if_icmp .ne 7, 3) := by decide +kernel
theorem dL_contained_642 : decode cL_contained 642 = .ok (.iconst 1, 1) := by decide +kernel
theorem dL_contained_643 : decode cL_contained 643 = .ok (.goto 4, 3) := by decide +kernel
theorem dL_contained_646 : decode cL_contained 646 = .ok (.iconst 0, 1) := by decide +kernel
theorem dL_contained_647 : decode cL_contained 647 = .ok (.ireturn, 1) := by decide +kernel
theorem dL_seen_0 : decode cL_seen 0 = .ok (.aload_n 0, 1) := by decide +kernel
theorem dL_seen_1 : decode cL_seen 1 = .ok (.iconst 0, 1) := by decide +kernel
theorem dL_seen_2 : decode cL_seen 2 = .ok (.invokestatic 157, 3) := by decide +kernel
theorem dL_seen_5 : decode cL_seen 5 = .ok (.istore_n 1, 1) := by decide +kernel
theorem dL_seen_6 : decode cL_seen 6 = .ok (.iconst 0, 1) := by decide +kernel
theorem dL_seen_7 : decode cL_seen 7 = .ok (.istore_n 2, 1) := by decide +kernel
theorem dL_seen_8 : decode cL_seen 8 = .ok (.iconst 0, 1) := by decide +kernel
theorem dL_seen_9 : decode cL_seen 9 = .ok (.istore_n 3, 1) := by decide +kernel
theorem dL_seen_10 : decode cL_seen 10 = .ok (.iload_n 3, 1) := by decide +kernel
theorem dL_seen_11 : decode cL_seen 11 = .ok (.iload_n 1, 1) := by decide +kernel
theorem dL_seen_12 : decode cL_seen 12 = .ok (.if_icmp .ge 29, 3) := by decide +kernel
theorem dL_seen_15 : decode cL_seen 15 = .ok (.iload_n 2, 1) := by decide +kernel
theorem dL_seen_16 : decode cL_seen 16 = .ok (.ifCond .ne 13, 3) := by decide +kernel
theorem dL_seen_19 : decode cL_seen 19 = .ok (.aload_n 0, 1) := by decide +kernel
theorem dL_seen_20 : decode cL_seen 20 = .ok (.iconst 2, 1) := by decide +kernel
theorem dL_seen_21 : decode cL_seen 21 = .ok (.iload_n 3, 1) := by decide +kernel
theorem dL_seen_22 : decode cL_seen 22 = .ok (.iconst 0, 1) := by decide +kernel
theorem dL_seen_23 : decode cL_seen 23 = .ok (.invokestatic 137, 3) := by decide +kernel
theorem dL_seen_26 : decode cL_seen 26 = .ok (.ifCond .eq 7, 3) := by decide +kernel
theorem dL_seen_29 : decode cL_seen 29 = .ok (.iconst 1, 1) := by decide +kernel
theorem dL_seen_30 : decode cL_seen 30 = .ok (.goto 4, 3) := by decide +kernel
theorem dL_seen_33 : decode cL_seen 33 = .ok (.iconst 0, 1) := by decide +kernel
theorem dL_seen_34 : decode cL_seen 34 = .ok (.istore_n 2, 1) := by decide +kernel
theorem dL_seen_35 : decode cL_seen 35 = .ok (.iinc 3 1, 3) := by decide +kernel
theorem dL_seen_38 : decode cL_seen 38 = .ok (.goto (-28), 3) := by decide +kernel
theorem dL_seen_41 : decode cL_seen 41 = .ok (.iload_n 2, 1) := by decide +kernel
theorem dL_seen_42 : decode cL_seen 42 = .ok (.ifCond .eq 9, 3) := by decide +kernel
theorem dL_seen_45 : decode cL_seen 45 = .ok (.iload_n 1, 1) := by decide +kernel
theorem dL_seen_46 : decode cL_seen 46 = .ok (.iconst 1, 1) := by decide +kernel
theorem dL_seen_47 : decode cL_seen 47 = .ok (.isub, 1) := by decide +kernel
theorem dL_seen_48 : decode cL_seen 48 = .ok (.goto 4, 3) := by decide +kernel
theorem dL_seen_51 : decode cL_seen 51 = .ok (.iload_n 1, 1) := by decide +kernel
theorem dL_seen_52 : decode cL_seen 52 = .ok (.istore_n 3, 1) := by decide +kernel
theorem dL_seen_53 : decode cL_seen 53 = .ok (.aload_n 0, 1) := by decide +kernel
theorem dL_seen_54 : decode cL_seen 54 = .ok (.iload_n 3, 1) := by decide +kernel
theorem dL_seen_55 : decode cL_seen 55 = .ok (.iconst 0, 1) := by decide +kernel
theorem dL_seen_56 : decode cL_seen 56 = .ok (.invokestatic 206, 3) := by decide +kernel
theorem dL_seen_59 : decode cL_seen 59 = .ok (.sipush (-1001), 3) := by decide +kernel
theorem dL_seen_62 : decode cL_seen 62 = .ok (.if_icmp .ne 19, 3) := by decide +kernel
theorem dL_seen_65 : decode cL_seen 65 = .ok (.aload_n 0, 1) := by decide +kernel
theorem dL_seen_66 : decode cL_seen 66 = .ok (.iload_n 3, 1) := by decide +kernel
theorem dL_seen_67 : decode cL_seen 67 = .ok (.iconst 0, 1) := by decide +kernel
theorem dL_seen_68 : decode cL_seen 68 = .ok (.invokestatic 209, 3) := by decide +kernel
theorem dL_seen_71 : decode cL_seen 71 = .ok (.sipush (-1001), 3) := by decide +kernel
theorem dL_seen_74 : decode cL_seen 74 = .ok (.if_icmp .ne 7, 3) := by decide +kernel
theorem dL_seen_77 : decode cL_seen 77 = .ok (.iconst 1, 1) := by decide +kernel
theorem dL_seen_78 : decode cL_seen 78 = .ok (.goto 4, 3) := by decide +kernel
theorem dL_seen_81 : decode cL_seen 81 = .ok (.iconst 0, 1) := by decide +kernel
theorem dL_seen_82 : decode cL_seen 82 = .ok (.istore 4, 2) := by decide +kernel
theorem dL_seen_84 : decode cL_seen 84 = .ok (.iconst 0, 1) := by decide +kernel
theorem dL_seen_85 : decode cL_seen 85 = .ok (.istore 5, 2) := by decide +kernel
theorem dL_seen_87 : decode cL_seen 87 = .ok (.iload 5, 2) := by decide +kernel
theorem dL_seen_89 : decode cL_seen 89 = .ok (.iload_n 3, 1) := by decide +kernel
theorem dL_seen_90 : decode cL_seen 90 = .ok (.if_icmp .ge 137, 3) := by decide +kernel
theorem dL_seen_93 : decode cL_seen 93 = .ok (.iload 4, 2) := by decide +kernel
theorem dL_seen_95 : decode cL_seen 95 = .ok (.ifCond .eq 132, 3) := by decide +kernel
theorem dL_seen_98 : decode cL_seen 98 = .ok (.lconst 0, 1) := by decide +kernel
theorem dL_seen_99 : decode cL_seen 99 = .ok (.lstore 6, 2) := by decide +kernel
theorem dL_seen_101 : decode cL_seen 101 = .ok (.lconst 0, 1) := by decide +kernel
theorem dL_seen_102 : decode cL_seen 102 = .ok (.lstore 8, 2) := by decide +kernel
theorem dL_seen_104 : decode cL_seen 104 = .ok (.iconst 0, 1) := by decide +kernel
theorem dL_seen_105 : decode cL_seen 105 = .ok (.istore 10, 2) := by decide +kernel
theorem dL_seen_107 : decode cL_seen 107 = .ok (.iload 10, 2) := by decide +kernel
theorem dL_seen_109 : decode cL_seen 109 = .ok (.iload_n 1, 1) := by decide +kernel
theorem dL_seen_110 : decode cL_seen 110 = .ok (.if_icmp .ge 56, 3) := by decide +kernel
theorem dL_seen_113 : decode cL_seen 113 = .ok (.lload 6, 2) := by decide +kernel
theorem dL_seen_115 : decode cL_seen 115 = .ok (.aload_n 0, 1) := by decide +kernel
theorem dL_seen_116 : decode cL_seen 116 = .ok (.iload 5, 2) := by decide +kernel
theorem dL_seen_118 : decode cL_seen 118 = .ok (.iload 10, 2) := by decide +kernel
theorem dL_seen_120 : decode cL_seen 120 = .ok (.invokestatic 206, 3) := by decide +kernel
theorem dL_seen_123 : decode cL_seen 123 = .ok (.i2l, 1) := by decide +kernel
theorem dL_seen_124 : decode cL_seen 124 = .ok (.aload_n 0, 1) := by decide +kernel
theorem dL_seen_125 : decode cL_seen 125 = .ok (.iconst 2, 1) := by decide +kernel
theorem dL_seen_126 : decode cL_seen 126 = .ok (.iload 10, 2) := by decide +kernel
theorem dL_seen_128 : decode cL_seen 128 = .ok (.iconst 0, 1) := by decide +kernel
theorem dL_seen_129 : decode cL_seen 129 = .ok (.invokestatic 137, 3) := by decide +kernel
theorem dL_seen_132 : decode cL_seen 132 = .ok (.i2l, 1) := by decide +kernel
theorem dL_seen_133 : decode cL_seen 133 = .ok (.lmul, 1) := by decide +kernel
theorem dL_seen_134 : decode cL_seen 134 = .ok (.ladd, 1) := by decide +kernel
theorem dL_seen_135 : decode cL_seen 135 = .ok (.lstore 6, 2) := by decide +kernel
theorem dL_seen_137 : decode cL_seen 137 = .ok (.lload 8, 2) := by decide +kernel
theorem dL_seen_139 : decode cL_seen 139 = .ok (.aload_n 0, 1) := by decide +kernel
theorem dL_seen_140 : decode cL_seen 140 = .ok (.iload 5, 2) := by decide +kernel
theorem dL_seen_142 : decode cL_seen 142 = .ok (.iload 10, 2) := by decide +kernel
theorem dL_seen_144 : decode cL_seen 144 = .ok (.invokestatic 206, 3) := by decide +kernel
theorem dL_seen_147 : decode cL_seen 147 = .ok (.i2l, 1) := by decide +kernel
theorem dL_seen_148 : decode cL_seen 148 = .ok (.aload_n 0, 1) := by decide +kernel
theorem dL_seen_149 : decode cL_seen 149 = .ok (.iload 10, 2) := by decide +kernel
theorem dL_seen_151 : decode cL_seen 151 = .ok (.iconst 0, 1) := by decide +kernel
theorem dL_seen_152 : decode cL_seen 152 = .ok (.invokestatic 160, 3) := by decide +kernel
theorem dL_seen_155 : decode cL_seen 155 = .ok (.i2l, 1) := by decide +kernel
theorem dL_seen_156 : decode cL_seen 156 = .ok (.lmul, 1) := by decide +kernel
theorem dL_seen_157 : decode cL_seen 157 = .ok (.ladd, 1) := by decide +kernel
theorem dL_seen_158 : decode cL_seen 158 = .ok (.lstore 8, 2) := by decide +kernel
theorem dL_seen_160 : decode cL_seen 160 = .ok (.iinc 10 1, 3) := by decide +kernel
theorem dL_seen_163 : decode cL_seen 163 = .ok (.goto (-56), 3) := by decide +kernel
theorem dL_seen_166 : decode cL_seen 166 = .ok (.lload 6, 2) := by decide +kernel
theorem dL_seen_168 : decode cL_seen 168 = .ok (.lconst 0, 1) := by decide +kernel
theorem dL_seen_169 : decode cL_seen 169 = .ok (.lcmp, 1) := by decide +kernel
theorem dL_seen_170 : decode cL_seen 170 = .ok (.ifCond .ne 48, 3) := by decide +kernel
theorem dL_seen_173 : decode cL_seen 173 = .ok (.aload_n 0, 1) := by decide +kernel
theorem dL_seen_174 : decode cL_seen 174 = .ok (.iload 5, 2) := by decide +kernel
theorem dL_seen_176 : decode cL_seen 176 = .ok (.iload_n 1, 1) := by decide +kernel
theorem dL_seen_177 : decode cL_seen 177 = .ok (.invokestatic 206, 3) := by decide +kernel
theorem dL_seen_180 : decode cL_seen 180 = .ok (.sipush (-1001), 3) := by decide +kernel
theorem dL_seen_183 : decode cL_seen 183 = .ok (.if_icmp .ne 35, 3) := by decide +kernel
theorem dL_seen_186 : decode cL_seen 186 = .ok (.aload_n 0, 1) := by decide +kernel
theorem dL_seen_187 : decode cL_seen 187 = .ok (.iload 5, 2) := by decide +kernel
theorem dL_seen_189 : decode cL_seen 189 = .ok (.iconst 0, 1) := by decide +kernel
theorem dL_seen_190 : decode cL_seen 190 = .ok (.invokestatic 209, 3) := by decide +kernel
theorem dL_seen_193 : decode cL_seen 193 = .ok (.i2l, 1) := by decide +kernel
theorem dL_seen_194 : decode cL_seen 194 = .ok (.lload 8, 2) := by decide +kernel
theorem dL_seen_196 : decode cL_seen 196 = .ok (.lcmp, 1) := by decide +kernel
theorem dL_seen_197 : decode cL_seen 197 = .ok (.ifCond .gt 21, 3) := by decide +kernel
theorem dL_seen_200 : decode cL_seen 200 = .ok (.lload 8, 2) := by decide +kernel
theorem dL_seen_202 : decode cL_seen 202 = .ok (.aload_n 0, 1) := by decide +kernel
theorem dL_seen_203 : decode cL_seen 203 = .ok (.iload 5, 2) := by decide +kernel
theorem dL_seen_205 : decode cL_seen 205 = .ok (.iconst 1, 1) := by decide +kernel
theorem dL_seen_206 : decode cL_seen 206 = .ok (.invokestatic 209, 3) := by decide +kernel
theorem dL_seen_209 : decode cL_seen 209 = .ok (.i2l, 1) := by decide +kernel
theorem dL_seen_210 : decode cL_seen 210 = .ok (.lcmp, 1) := by decide +kernel
theorem dL_seen_211 : decode cL_seen 211 = .ok (.ifCond .gt 7, 3) := by decide +kernel
theorem dL_seen_214 : decode cL_seen 214 = .ok (.iconst 1, 1) := by decide +kernel
theorem dL_seen_215 : decode cL_seen 215 = .ok (.goto 4, 3) := by decide +kernel
theorem dL_seen_218 : decode cL_seen 218 = .ok (.iconst 0, 1) := by decide +kernel
theorem dL_seen_219 : decode cL_seen 219 = .ok (.istore 4, 2) := by decide +kernel
theorem dL_seen_221 : decode cL_seen 221 = .ok (.iinc 5 1, 3) := by decide +kernel
theorem dL_seen_224 : decode cL_seen 224 = .ok (.goto (-137), 3) := by decide +kernel
theorem dL_seen_227 : decode cL_seen 227 = .ok (.bipush (-9), 2) := by decide +kernel
theorem dL_seen_229 : decode cL_seen 229 = .ok (.istore 5, 2) := by decide +kernel
theorem dL_seen_231 : decode cL_seen 231 = .ok (.iconst 0, 1) := by decide +kernel
theorem dL_seen_232 : decode cL_seen 232 = .ok (.istore 6, 2) := by decide +kernel
theorem dL_seen_234 : decode cL_seen 234 = .ok (.iload_n 1, 1) := by decide +kernel
theorem dL_seen_235 : decode cL_seen 235 = .ok (.istore 7, 2) := by decide +kernel
theorem dL_seen_237 : decode cL_seen 237 = .ok (.iload 4, 2) := by decide +kernel
theorem dL_seen_239 : decode cL_seen 239 = .ok (.ifCond .eq 16, 3) := by decide +kernel
theorem dL_seen_242 : decode cL_seen 242 = .ok (.aload_n 0, 1) := by decide +kernel
theorem dL_seen_243 : decode cL_seen 243 = .ok (.iconst 0, 1) := by decide +kernel
theorem dL_seen_244 : decode cL_seen 244 = .ok (.invokestatic 203, 3) := by decide +kernel
theorem dL_seen_247 : decode cL_seen 247 = .ok (.iload_n 1, 1) := by decide +kernel
theorem dL_seen_248 : decode cL_seen 248 = .ok (.if_icmp .ne 7, 3) := by decide +kernel
theorem dL_seen_251 : decode cL_seen 251 = .ok (.iconst 1, 1) := by decide +kernel
theorem dL_seen_252 : decode cL_seen 252 = .ok (.goto 4, 3) := by decide +kernel
theorem dL_seen_255 : decode cL_seen 255 = .ok (.iconst 0, 1) := by decide +kernel
theorem dL_seen_256 : decode cL_seen 256 = .ok (.istore 4, 2) := by decide +kernel
theorem dL_seen_258 : decode cL_seen 258 = .ok (.iconst 1, 1) := by decide +kernel
theorem dL_seen_259 : decode cL_seen 259 = .ok (.istore 8, 2) := by decide +kernel
theorem dL_seen_261 : decode cL_seen 261 = .ok (.iload 8, 2) := by decide +kernel
theorem dL_seen_263 : decode cL_seen 263 = .ok (.bipush 9, 2) := by decide +kernel
theorem dL_seen_265 : decode cL_seen 265 = .ok (.if_icmp .ge 115, 3) := by decide +kernel
theorem dL_seen_268 : decode cL_seen 268 = .ok (.iload 4, 2) := by decide +kernel
theorem dL_seen_270 : decode cL_seen 270 = .ok (.ifCond .eq 110, 3) := by decide +kernel
theorem dL_seen_273 : decode cL_seen 273 = .ok (.aload_n 0, 1) := by decide +kernel
theorem dL_seen_274 : decode cL_seen 274 = .ok (.iload 8, 2) := by decide +kernel
theorem dL_seen_276 : decode cL_seen 276 = .ok (.invokestatic 147, 3) := by decide +kernel
theorem dL_seen_279 : decode cL_seen 279 = .ok (.istore 9, 2) := by decide +kernel
theorem dL_seen_281 : decode cL_seen 281 = .ok (.aload_n 0, 1) := by decide +kernel
theorem dL_seen_282 : decode cL_seen 282 = .ok (.iload 8, 2) := by decide +kernel
theorem dL_seen_284 : decode cL_seen 284 = .ok (.invokestatic 203, 3) := by decide +kernel
theorem dL_seen_287 : decode cL_seen 287 = .ok (.istore 10, 2) := by decide +kernel
theorem dL_seen_289 : decode cL_seen 289 = .ok (.iload 5, 2) := by decide +kernel
theorem dL_seen_291 : decode cL_seen 291 = .ok (.bipush (-9), 2) := by decide +kernel
theorem dL_seen_293 : decode cL_seen 293 = .ok (.if_icmp .ne 20, 3) := by decide +kernel
theorem dL_seen_296 : decode cL_seen 296 = .ok (.iload 8, 2) := by decide +kernel
theorem dL_seen_298 : decode cL_seen 298 = .ok (.iload_n 1, 1) := by decide +kernel
theorem dL_seen_299 : decode cL_seen 299 = .ok (.if_icmp .gt 14, 3) := by decide +kernel
theorem dL_seen_302 : decode cL_seen 302 = .ok (.iload 9, 2) := by decide +kernel
theorem dL_seen_304 : decode cL_seen 304 = .ok (.iload_n 1, 1) := by decide +kernel
theorem dL_seen_305 : decode cL_seen 305 = .ok (.if_icmp .ne 8, 3) := by decide +kernel
theorem dL_seen_308 : decode cL_seen 308 = .ok (.iload 8, 2) := by decide +kernel
theorem dL_seen_310 : decode cL_seen 310 = .ok (.goto 5, 3) := by decide +kernel
theorem dL_seen_313 : decode cL_seen 313 = .ok (.iload 5, 2) := by decide +kernel
theorem dL_seen_315 : decode cL_seen 315 = .ok (.istore 5, 2) := by decide +kernel
theorem dL_seen_317 : decode cL_seen 317 = .ok (.iload 9, 2) := by decide +kernel
theorem dL_seen_319 : decode cL_seen 319 = .ok (.iload 6, 2) := by decide +kernel
theorem dL_seen_321 : decode cL_seen 321 = .ok (.if_icmp .lt 42, 3) := by decide +kernel
theorem dL_seen_324 : decode cL_seen 324 = .ok (.iload 9, 2) := by decide +kernel
theorem dL_seen_326 : decode cL_seen 326 = .ok (.iload_n 1, 1) := by decide +kernel
theorem dL_seen_327 : decode cL_seen 327 = .ok (.if_icmp .gt 36, 3) := by decide +kernel
theorem dL_seen_330 : decode cL_seen 330 = .ok (.iload 10, 2) := by decide +kernel
theorem dL_seen_332 : decode cL_seen 332 = .ok (.iload 7, 2) := by decide +kernel
theorem dL_seen_334 : decode cL_seen 334 = .ok (.if_icmp .gt 29, 3) := by decide +kernel
theorem dL_seen_337 : decode cL_seen 337 = .ok (.iload 10, 2) := by decide +kernel
theorem dL_seen_339 : decode cL_seen 339 = .ok (.iload_n 1, 1) := by decide +kernel
theorem dL_seen_340 : decode cL_seen 340 = .ok (.iload 9, 2) := by decide +kernel
theorem dL_seen_342 : decode cL_seen 342 = .ok (.isub, 1) := by decide +kernel
theorem dL_seen_343 : decode cL_seen 343 = .ok (.if_icmp .lt 20, 3) := by decide +kernel
theorem dL_seen_346 : decode cL_seen 346 = .ok (.iload_n 2, 1) := by decide +kernel
theorem dL_seen_347 : decode cL_seen 347 = .ok (.ifCond .ne 12, 3) := by decide +kernel
theorem dL_seen_350 : decode cL_seen 350 = .ok (.iload 10, 2) := by decide +kernel
theorem dL_seen_352 : decode cL_seen 352 = .ok (.iload_n 1, 1) := by decide +kernel
theorem dL_seen_353 : decode cL_seen 353 = .ok (.iload 9, 2) := by decide +kernel
theorem dL_seen_355 : decode cL_seen 355 = .ok (.isub, 1) := by decide +kernel
theorem dL_seen_356 : decode cL_seen 356 = .ok (.if_icmp .ne 7, 3) := by decide +kernel
theorem dL_seen_359 : decode cL_seen 359 = .ok (.iconst 1, 1) := by decide +kernel
theorem dL_seen_360 : decode cL_seen 360 = .ok (.goto 4, 3) := by decide +kernel
theorem dL_seen_363 : decode cL_seen 363 = .ok (.iconst 0, 1) := by decide +kernel
theorem dL_seen_364 : decode cL_seen 364 = .ok (.istore 4, 2) := by decide +kernel
theorem dL_seen_366 : decode cL_seen 366 = .ok (.iload 9, 2) := by decide +kernel
theorem dL_seen_368 : decode cL_seen 368 = .ok (.istore 6, 2) := by decide +kernel
theorem dL_seen_370 : decode cL_seen 370 = .ok (.iload 10, 2) := by decide +kernel
theorem dL_seen_372 : decode cL_seen 372 = .ok (.istore 7, 2) := by decide +kernel
theorem dL_seen_374 : decode cL_seen 374 = .ok (.iinc 8 1, 3) := by decide +kernel
theorem dL_seen_377 : decode cL_seen 377 = .ok (.goto (-116), 3) := by decide +kernel
theorem dL_seen_380 : decode cL_seen 380 = .ok (.iload 4, 2) := by decide +kernel
theorem dL_seen_382 : decode cL_seen 382 = .ok (.ifCond .eq 16, 3) := by decide +kernel
theorem dL_seen_385 : decode cL_seen 385 = .ok (.aload_n 0, 1) := by decide +kernel
theorem dL_seen_386 : decode cL_seen 386 = .ok (.invokevirtual 248, 3) := by decide +kernel
theorem dL_seen_389 : decode cL_seen 389 = .ok (.iload 5, 2) := by decide +kernel
theorem dL_seen_391 : decode cL_seen 391 = .ok (.if_icmp .ne 7, 3) := by decide +kernel
theorem dL_seen_394 : decode cL_seen 394 = .ok (.iconst 1, 1) := by decide +kernel
theorem dL_seen_395 : decode cL_seen 395 = .ok (.goto 4, 3) := by decide +kernel
theorem dL_seen_398 : decode cL_seen 398 = .ok (.iconst 0, 1) := by decide +kernel
theorem dL_seen_399 : decode cL_seen 399 = .ok (.ireturn, 1) := by decide +kernel
theorem dL_stepped_0 : decode cL_stepped 0 = .ok (.aload_n 0, 1) := by decide +kernel
theorem dL_stepped_1 : decode cL_stepped 1 = .ok (.iconst 0, 1) := by decide +kernel
theorem dL_stepped_2 : decode cL_stepped 2 = .ok (.invokestatic 157, 3) := by decide +kernel
theorem dL_stepped_5 : decode cL_stepped 5 = .ok (.istore_n 2, 1) := by decide +kernel
theorem dL_stepped_6 : decode cL_stepped 6 = .ok (.aload_n 0, 1) := by decide +kernel
theorem dL_stepped_7 : decode cL_stepped 7 = .ok (.iconst 2, 1) := by decide +kernel
theorem dL_stepped_8 : decode cL_stepped 8 = .ok (.invokestatic 157, 3) := by decide +kernel
theorem dL_stepped_11 : decode cL_stepped 11 = .ok (.istore_n 3, 1) := by decide +kernel
theorem dL_stepped_12 : decode cL_stepped 12 = .ok (.iload_n 1, 1) := by decide +kernel
theorem dL_stepped_13 : decode cL_stepped 13 = .ok (.bipush 41, 2) := by decide +kernel
theorem dL_stepped_15 : decode cL_stepped 15 = .ok (.irem, 1) := by decide +kernel
theorem dL_stepped_16 : decode cL_stepped 16 = .ok (.bipush 20, 2) := by decide +kernel
theorem dL_stepped_18 : decode cL_stepped 18 = .ok (.isub, 1) := by decide +kernel
theorem dL_stepped_19 : decode cL_stepped 19 = .ok (.istore 4, 2) := by decide +kernel
theorem dL_stepped_21 : decode cL_stepped 21 = .ok (.iload_n 1, 1) := by decide +kernel
theorem dL_stepped_22 : decode cL_stepped 22 = .ok (.bipush 41, 2) := by decide +kernel
theorem dL_stepped_24 : decode cL_stepped 24 = .ok (.idiv, 1) := by decide +kernel
theorem dL_stepped_25 : decode cL_stepped 25 = .ok (.iconst 2, 1) := by decide +kernel
theorem dL_stepped_26 : decode cL_stepped 26 = .ok (.iload_n 3, 1) := by decide +kernel
theorem dL_stepped_27 : decode cL_stepped 27 = .ok (.imul, 1) := by decide +kernel
theorem dL_stepped_28 : decode cL_stepped 28 = .ok (.iconst 1, 1) := by decide +kernel
theorem dL_stepped_29 : decode cL_stepped 29 = .ok (.iadd, 1) := by decide +kernel
theorem dL_stepped_30 : decode cL_stepped 30 = .ok (.irem, 1) := by decide +kernel
theorem dL_stepped_31 : decode cL_stepped 31 = .ok (.iload_n 3, 1) := by decide +kernel
theorem dL_stepped_32 : decode cL_stepped 32 = .ok (.isub, 1) := by decide +kernel
theorem dL_stepped_33 : decode cL_stepped 33 = .ok (.istore 5, 2) := by decide +kernel
theorem dL_stepped_35 : decode cL_stepped 35 = .ok (.iconst 4, 1) := by decide +kernel
theorem dL_stepped_36 : decode cL_stepped 36 = .ok (.newarray .int, 2) := by decide +kernel
theorem dL_stepped_38 : decode cL_stepped 38 = .ok (.astore 6, 2) := by decide +kernel
theorem dL_stepped_40 : decode cL_stepped 40 = .ok (.iconst 4, 1) := by decide +kernel
theorem dL_stepped_41 : decode cL_stepped 41 = .ok (.newarray .int, 2) := by decide +kernel
theorem dL_stepped_43 : decode cL_stepped 43 = .ok (.astore 7, 2) := by decide +kernel
theorem dL_stepped_45 : decode cL_stepped 45 = .ok (.iconst 4, 1) := by decide +kernel
theorem dL_stepped_46 : decode cL_stepped 46 = .ok (.newarray .int, 2) := by decide +kernel
theorem dL_stepped_48 : decode cL_stepped 48 = .ok (.astore 8, 2) := by decide +kernel
theorem dL_stepped_50 : decode cL_stepped 50 = .ok (.iconst 0, 1) := by decide +kernel
theorem dL_stepped_51 : decode cL_stepped 51 = .ok (.istore 9, 2) := by decide +kernel
theorem dL_stepped_53 : decode cL_stepped 53 = .ok (.iload 9, 2) := by decide +kernel
theorem dL_stepped_55 : decode cL_stepped 55 = .ok (.iload_n 2, 1) := by decide +kernel
theorem dL_stepped_56 : decode cL_stepped 56 = .ok (.if_icmp .ge 113, 3) := by decide +kernel
theorem dL_stepped_59 : decode cL_stepped 59 = .ok (.aload 6, 2) := by decide +kernel
theorem dL_stepped_61 : decode cL_stepped 61 = .ok (.iload 9, 2) := by decide +kernel
theorem dL_stepped_63 : decode cL_stepped 63 = .ok (.aload_n 0, 1) := by decide +kernel
theorem dL_stepped_64 : decode cL_stepped 64 = .ok (.iconst 1, 1) := by decide +kernel
theorem dL_stepped_65 : decode cL_stepped 65 = .ok (.iload 4, 2) := by decide +kernel
theorem dL_stepped_67 : decode cL_stepped 67 = .ok (.iload 9, 2) := by decide +kernel
theorem dL_stepped_69 : decode cL_stepped 69 = .ok (.iconst 0, 1) := by decide +kernel
theorem dL_stepped_70 : decode cL_stepped 70 = .ok (.invokestatic 196, 3) := by decide +kernel
theorem dL_stepped_73 : decode cL_stepped 73 = .ok (.iastore, 1) := by decide +kernel
theorem dL_stepped_74 : decode cL_stepped 74 = .ok (.aload 7, 2) := by decide +kernel
theorem dL_stepped_76 : decode cL_stepped 76 = .ok (.iload 9, 2) := by decide +kernel
theorem dL_stepped_78 : decode cL_stepped 78 = .ok (.aload_n 0, 1) := by decide +kernel
theorem dL_stepped_79 : decode cL_stepped 79 = .ok (.iconst 1, 1) := by decide +kernel
theorem dL_stepped_80 : decode cL_stepped 80 = .ok (.iload 4, 2) := by decide +kernel
theorem dL_stepped_82 : decode cL_stepped 82 = .ok (.iload 9, 2) := by decide +kernel
theorem dL_stepped_84 : decode cL_stepped 84 = .ok (.iconst 1, 1) := by decide +kernel
theorem dL_stepped_85 : decode cL_stepped 85 = .ok (.invokestatic 196, 3) := by decide +kernel
theorem dL_stepped_88 : decode cL_stepped 88 = .ok (.iastore, 1) := by decide +kernel
theorem dL_stepped_89 : decode cL_stepped 89 = .ok (.lconst 0, 1) := by decide +kernel
theorem dL_stepped_90 : decode cL_stepped 90 = .ok (.lstore 10, 2) := by decide +kernel
theorem dL_stepped_92 : decode cL_stepped 92 = .ok (.iconst 0, 1) := by decide +kernel
theorem dL_stepped_93 : decode cL_stepped 93 = .ok (.istore 12, 2) := by decide +kernel
theorem dL_stepped_95 : decode cL_stepped 95 = .ok (.iload 12, 2) := by decide +kernel
theorem dL_stepped_97 : decode cL_stepped 97 = .ok (.iload_n 2, 1) := by decide +kernel
theorem dL_stepped_98 : decode cL_stepped 98 = .ok (.if_icmp .ge 33, 3) := by decide +kernel
theorem dL_stepped_101 : decode cL_stepped 101 = .ok (.lload 10, 2) := by decide +kernel
theorem dL_stepped_103 : decode cL_stepped 103 = .ok (.aload_n 0, 1) := by decide +kernel
theorem dL_stepped_104 : decode cL_stepped 104 = .ok (.iconst 0, 1) := by decide +kernel
theorem dL_stepped_105 : decode cL_stepped 105 = .ok (.iload 9, 2) := by decide +kernel
theorem dL_stepped_107 : decode cL_stepped 107 = .ok (.iload 12, 2) := by decide +kernel
theorem dL_stepped_109 : decode cL_stepped 109 = .ok (.invokestatic 137, 3) := by decide +kernel
theorem dL_stepped_112 : decode cL_stepped 112 = .ok (.i2l, 1) := by decide +kernel
theorem dL_stepped_113 : decode cL_stepped 113 = .ok (.aload_n 0, 1) := by decide +kernel
theorem dL_stepped_114 : decode cL_stepped 114 = .ok (.iload 12, 2) := by decide +kernel
theorem dL_stepped_116 : decode cL_stepped 116 = .ok (.iconst 3, 1) := by decide +kernel
theorem dL_stepped_117 : decode cL_stepped 117 = .ok (.invokestatic 160, 3) := by decide +kernel
theorem dL_stepped_120 : decode cL_stepped 120 = .ok (.i2l, 1) := by decide +kernel
theorem dL_stepped_121 : decode cL_stepped 121 = .ok (.lmul, 1) := by decide +kernel
theorem dL_stepped_122 : decode cL_stepped 122 = .ok (.ladd, 1) := by decide +kernel
theorem dL_stepped_123 : decode cL_stepped 123 = .ok (.lstore 10, 2) := by decide +kernel
theorem dL_stepped_125 : decode cL_stepped 125 = .ok (.iinc 12 1, 3) := by decide +kernel
theorem dL_stepped_128 : decode cL_stepped 128 = .ok (.goto (-33), 3) := by decide +kernel
theorem dL_stepped_131 : decode cL_stepped 131 = .ok (.aload 8, 2) := by decide +kernel
theorem dL_stepped_133 : decode cL_stepped 133 = .ok (.iload 9, 2) := by decide +kernel
theorem dL_stepped_135 : decode cL_stepped 135 = .ok (.lload 10, 2) := by decide +kernel
theorem dL_stepped_137 : decode cL_stepped 137 = .ok (.ldc2_w 251, 3) := by decide +kernel
theorem dL_stepped_140 : decode cL_stepped 140 = .ok (.invokestatic 234, 3) := by decide +kernel
theorem dL_stepped_143 : decode cL_stepped 143 = .ok (.ldc2_w 251, 3) := by decide +kernel
theorem dL_stepped_146 : decode cL_stepped 146 = .ok (.aload_n 0, 1) := by decide +kernel
theorem dL_stepped_147 : decode cL_stepped 147 = .ok (.iconst 1, 1) := by decide +kernel
theorem dL_stepped_148 : decode cL_stepped 148 = .ok (.iload 9, 2) := by decide +kernel
theorem dL_stepped_150 : decode cL_stepped 150 = .ok (.iconst 0, 1) := by decide +kernel
theorem dL_stepped_151 : decode cL_stepped 151 = .ok (.invokestatic 137, 3) := by decide +kernel
theorem dL_stepped_154 : decode cL_stepped 154 = .ok (.i2l, 1) := by decide +kernel
theorem dL_stepped_155 : decode cL_stepped 155 = .ok (.lmul, 1) := by decide +kernel
theorem dL_stepped_156 : decode cL_stepped 156 = .ok (.iload 4, 2) := by decide +kernel
theorem dL_stepped_158 : decode cL_stepped 158 = .ok (.i2l, 1) := by decide +kernel
theorem dL_stepped_159 : decode cL_stepped 159 = .ok (.lmul, 1) := by decide +kernel
theorem dL_stepped_160 : decode cL_stepped 160 = .ok (.ladd, 1) := by decide +kernel
theorem dL_stepped_161 : decode cL_stepped 161 = .ok (.l2i, 1) := by decide +kernel
theorem dL_stepped_162 : decode cL_stepped 162 = .ok (.iastore, 1) := by decide +kernel
theorem dL_stepped_163 : decode cL_stepped 163 = .ok (.iinc 9 1, 3) := by decide +kernel
theorem dL_stepped_166 : decode cL_stepped 166 = .ok (.goto (-113), 3) := by decide +kernel
theorem dL_stepped_169 : decode cL_stepped 169 = .ok (.aload_n 0, 1) := by decide +kernel
theorem dL_stepped_170 : decode cL_stepped 170 = .ok (.invokevirtual 150, 3) := by decide +kernel
theorem dL_stepped_173 : decode cL_stepped 173 = .ok (.istore 9, 2) := by decide +kernel
theorem dL_stepped_175 : decode cL_stepped 175 = .ok (.aload_n 0, 1) := by decide +kernel
theorem dL_stepped_176 : decode cL_stepped 176 = .ok (.iconst 5, 1) := by decide +kernel
theorem dL_stepped_177 : decode cL_stepped 177 = .ok (.iload 4, 2) := by decide +kernel
theorem dL_stepped_179 : decode cL_stepped 179 = .ok (.iconst 0, 1) := by decide +kernel
theorem dL_stepped_180 : decode cL_stepped 180 = .ok (.iconst 1, 1) := by decide +kernel
theorem dL_stepped_181 : decode cL_stepped 181 = .ok (.invokestatic 196, 3) := by decide +kernel
theorem dL_stepped_184 : decode cL_stepped 184 = .ok (.istore 10, 2) := by decide +kernel
theorem dL_stepped_186 : decode cL_stepped 186 = .ok (.aload_n 0, 1) := by decide +kernel
theorem dL_stepped_187 : decode cL_stepped 187 = .ok (.iconst 4, 1) := by decide +kernel
theorem dL_stepped_188 : decode cL_stepped 188 = .ok (.invokestatic 157, 3) := by decide +kernel
theorem dL_stepped_191 : decode cL_stepped 191 = .ok (.istore 11, 2) := by decide +kernel
theorem dL_stepped_193 : decode cL_stepped 193 = .ok (.aload_n 0, 1) := by decide +kernel
theorem dL_stepped_194 : decode cL_stepped 194 = .ok (.iload 4, 2) := by decide +kernel
theorem dL_stepped_196 : decode cL_stepped 196 = .ok (.iload 5, 2) := by decide +kernel
theorem dL_stepped_198 : decode cL_stepped 198 = .ok (.invokestatic 170, 3) := by decide +kernel
theorem dL_stepped_201 : decode cL_stepped 201 = .ok (.iload 11, 2) := by decide +kernel
theorem dL_stepped_203 : decode cL_stepped 203 = .ok (.iconst 1, 1) := by decide +kernel
theorem dL_stepped_204 : decode cL_stepped 204 = .ok (.iadd, 1) := by decide +kernel
theorem dL_stepped_205 : decode cL_stepped 205 = .ok (.if_icmp .ne 7, 3) := by decide +kernel
theorem dL_stepped_208 : decode cL_stepped 208 = .ok (.iconst 1, 1) := by decide +kernel
theorem dL_stepped_209 : decode cL_stepped 209 = .ok (.goto 4, 3) := by decide +kernel
theorem dL_stepped_212 : decode cL_stepped 212 = .ok (.iconst 0, 1) := by decide +kernel
theorem dL_stepped_213 : decode cL_stepped 213 = .ok (.istore 12, 2) := by decide +kernel
theorem dL_stepped_215 : decode cL_stepped 215 = .ok (.iconst 1, 1) := by decide +kernel
theorem dL_stepped_216 : decode cL_stepped 216 = .ok (.istore 13, 2) := by decide +kernel
theorem dL_stepped_218 : decode cL_stepped 218 = .ok (.iconst 0, 1) := by decide +kernel
theorem dL_stepped_219 : decode cL_stepped 219 = .ok (.istore 14, 2) := by decide +kernel
theorem dL_stepped_221 : decode cL_stepped 221 = .ok (.iload 14, 2) := by decide +kernel
theorem dL_stepped_223 : decode cL_stepped 223 = .ok (.aload_n 0, 1) := by decide +kernel
theorem dL_stepped_224 : decode cL_stepped 224 = .ok (.iconst 1, 1) := by decide +kernel
theorem dL_stepped_225 : decode cL_stepped 225 = .ok (.invokestatic 157, 3) := by decide +kernel
theorem dL_stepped_228 : decode cL_stepped 228 = .ok (.if_icmp .ge 60, 3) := by decide +kernel
theorem dL_stepped_231 : decode cL_stepped 231 = .ok (.iload 13, 2) := by decide +kernel
theorem dL_stepped_233 : decode cL_stepped 233 = .ok (.ifCond .eq 24, 3) := by decide +kernel
theorem dL_stepped_236 : decode cL_stepped 236 = .ok (.aload_n 0, 1) := by decide +kernel
theorem dL_stepped_237 : decode cL_stepped 237 = .ok (.iload 14, 2) := by decide +kernel
theorem dL_stepped_239 : decode cL_stepped 239 = .ok (.iconst 1, 1) := by decide +kernel
theorem dL_stepped_240 : decode cL_stepped 240 = .ok (.invokestatic 164, 3) := by decide +kernel
theorem dL_stepped_243 : decode cL_stepped 243 = .ok (.iconst 1, 1) := by decide +kernel
theorem dL_stepped_244 : decode cL_stepped 244 = .ok (.isub, 1) := by decide +kernel
theorem dL_stepped_245 : decode cL_stepped 245 = .ok (.aload_n 0, 1) := by decide +kernel
theorem dL_stepped_246 : decode cL_stepped 246 = .ok (.iconst 3, 1) := by decide +kernel
theorem dL_stepped_247 : decode cL_stepped 247 = .ok (.invokestatic 157, 3) := by decide +kernel
theorem dL_stepped_250 : decode cL_stepped 250 = .ok (.if_icmp .le 7, 3) := by decide +kernel
theorem dL_stepped_253 : decode cL_stepped 253 = .ok (.iconst 1, 1) := by decide +kernel
theorem dL_stepped_254 : decode cL_stepped 254 = .ok (.goto 4, 3) := by decide +kernel
theorem dL_stepped_257 : decode cL_stepped 257 = .ok (.iconst 0, 1) := by decide +kernel
theorem dL_stepped_258 : decode cL_stepped 258 = .ok (.istore 13, 2) := by decide +kernel
theorem dL_stepped_260 : decode cL_stepped 260 = .ok (.iload 12, 2) := by decide +kernel
theorem dL_stepped_262 : decode cL_stepped 262 = .ok (.ifCond .eq 17, 3) := by decide +kernel
theorem dL_stepped_265 : decode cL_stepped 265 = .ok (.aload_n 0, 1) := by decide +kernel
theorem dL_stepped_266 : decode cL_stepped 266 = .ok (.iload 14, 2) := by decide +kernel
theorem dL_stepped_268 : decode cL_stepped 268 = .ok (.iconst 1, 1) := by decide +kernel
theorem dL_stepped_269 : decode cL_stepped 269 = .ok (.invokestatic 164, 3) := by decide +kernel
theorem dL_stepped_272 : decode cL_stepped 272 = .ok (.ifCond .eq 7, 3) := by decide +kernel
theorem dL_stepped_275 : decode cL_stepped 275 = .ok (.iconst 1, 1) := by decide +kernel
theorem dL_stepped_276 : decode cL_stepped 276 = .ok (.goto 4, 3) := by decide +kernel
theorem dL_stepped_279 : decode cL_stepped 279 = .ok (.iconst 0, 1) := by decide +kernel
theorem dL_stepped_280 : decode cL_stepped 280 = .ok (.istore 12, 2) := by decide +kernel
theorem dL_stepped_282 : decode cL_stepped 282 = .ok (.iinc 14 1, 3) := by decide +kernel
theorem dL_stepped_285 : decode cL_stepped 285 = .ok (.goto (-64), 3) := by decide +kernel
theorem dL_stepped_288 : decode cL_stepped 288 = .ok (.iconst 0, 1) := by decide +kernel
theorem dL_stepped_289 : decode cL_stepped 289 = .ok (.istore 14, 2) := by decide +kernel
theorem dL_stepped_291 : decode cL_stepped 291 = .ok (.iload 14, 2) := by decide +kernel
theorem dL_stepped_293 : decode cL_stepped 293 = .ok (.iload_n 2, 1) := by decide +kernel
theorem dL_stepped_294 : decode cL_stepped 294 = .ok (.if_icmp .ge 91, 3) := by decide +kernel
theorem dL_stepped_297 : decode cL_stepped 297 = .ok (.iload 12, 2) := by decide +kernel
theorem dL_stepped_299 : decode cL_stepped 299 = .ok (.ifCond .eq 86, 3) := by decide +kernel
theorem dL_stepped_302 : decode cL_stepped 302 = .ok (.aload_n 0, 1) := by decide +kernel
theorem dL_stepped_303 : decode cL_stepped 303 = .ok (.iload 14, 2) := by decide +kernel
theorem dL_stepped_305 : decode cL_stepped 305 = .ok (.iconst 1, 1) := by decide +kernel
theorem dL_stepped_306 : decode cL_stepped 306 = .ok (.invokestatic 160, 3) := by decide +kernel
theorem dL_stepped_309 : decode cL_stepped 309 = .ok (.aload 6, 2) := by decide +kernel
theorem dL_stepped_311 : decode cL_stepped 311 = .ok (.iload 14, 2) := by decide +kernel
theorem dL_stepped_313 : decode cL_stepped 313 = .ok (.iaload, 1) := by decide +kernel
theorem dL_stepped_314 : decode cL_stepped 314 = .ok (.if_icmp .ne 62, 3) := by decide +kernel
theorem dL_stepped_317 : decode cL_stepped 317 = .ok (.aload_n 0, 1) := by decide +kernel
theorem dL_stepped_318 : decode cL_stepped 318 = .ok (.iload 14, 2) := by decide +kernel
theorem dL_stepped_320 : decode cL_stepped 320 = .ok (.iconst 2, 1) := by decide +kernel
theorem dL_stepped_321 : decode cL_stepped 321 = .ok (.invokestatic 160, 3) := by decide +kernel
theorem dL_stepped_324 : decode cL_stepped 324 = .ok (.aload 7, 2) := by decide +kernel
theorem dL_stepped_326 : decode cL_stepped 326 = .ok (.iload 14, 2) := by decide +kernel
theorem dL_stepped_328 : decode cL_stepped 328 = .ok (.iaload, 1) := by decide +kernel
theorem dL_stepped_329 : decode cL_stepped 329 = .ok (.if_icmp .ne 47, 3) := by decide +kernel
theorem dL_stepped_332 : decode cL_stepped 332 = .ok (.iload 13, 2) := by decide +kernel
theorem dL_stepped_334 : decode cL_stepped 334 = .ok (.ifCond .eq 38, 3) := by decide +kernel
theorem dL_stepped_337 : decode cL_stepped 337 = .ok (.aload 8, 2) := by decide +kernel
theorem dL_stepped_339 : decode cL_stepped 339 = .ok (.iload 14, 2) := by decide +kernel
theorem dL_stepped_341 : decode cL_stepped 341 = .ok (.iaload, 1) := by decide +kernel
theorem dL_stepped_342 : decode cL_stepped 342 = .ok (.ldc 253, 2) := by decide +kernel
theorem dL_stepped_344 : decode cL_stepped 344 = .ok (.if_icmp .gt 28, 3) := by decide +kernel
theorem dL_stepped_347 : decode cL_stepped 347 = .ok (.aload 8, 2) := by decide +kernel
theorem dL_stepped_349 : decode cL_stepped 349 = .ok (.iload 14, 2) := by decide +kernel
theorem dL_stepped_351 : decode cL_stepped 351 = .ok (.iaload, 1) := by decide +kernel
theorem dL_stepped_352 : decode cL_stepped 352 = .ok (.ldc 254, 2) := by decide +kernel
theorem dL_stepped_354 : decode cL_stepped 354 = .ok (.if_icmp .lt 18, 3) := by decide +kernel
theorem dL_stepped_357 : decode cL_stepped 357 = .ok (.aload_n 0, 1) := by decide +kernel
theorem dL_stepped_358 : decode cL_stepped 358 = .ok (.iload 14, 2) := by decide +kernel
theorem dL_stepped_360 : decode cL_stepped 360 = .ok (.iconst 3, 1) := by decide +kernel
theorem dL_stepped_361 : decode cL_stepped 361 = .ok (.invokestatic 160, 3) := by decide +kernel
theorem dL_stepped_364 : decode cL_stepped 364 = .ok (.aload 8, 2) := by decide +kernel
theorem dL_stepped_366 : decode cL_stepped 366 = .ok (.iload 14, 2) := by decide +kernel
theorem dL_stepped_368 : decode cL_stepped 368 = .ok (.iaload, 1) := by decide +kernel
theorem dL_stepped_369 : decode cL_stepped 369 = .ok (.if_icmp .ne 7, 3) := by decide +kernel
theorem dL_stepped_372 : decode cL_stepped 372 = .ok (.iconst 1, 1) := by decide +kernel
theorem dL_stepped_373 : decode cL_stepped 373 = .ok (.goto 4, 3) := by decide +kernel
theorem dL_stepped_376 : decode cL_stepped 376 = .ok (.iconst 0, 1) := by decide +kernel
theorem dL_stepped_377 : decode cL_stepped 377 = .ok (.istore 12, 2) := by decide +kernel
theorem dL_stepped_379 : decode cL_stepped 379 = .ok (.iinc 14 1, 3) := by decide +kernel
theorem dL_stepped_382 : decode cL_stepped 382 = .ok (.goto (-91), 3) := by decide +kernel
theorem dL_stepped_385 : decode cL_stepped 385 = .ok (.iload 12, 2) := by decide +kernel
theorem dL_stepped_387 : decode cL_stepped 387 = .ok (.ifCond .eq 37, 3) := by decide +kernel
theorem dL_stepped_390 : decode cL_stepped 390 = .ok (.iload 10, 2) := by decide +kernel
theorem dL_stepped_392 : decode cL_stepped 392 = .ok (.aload_n 0, 1) := by decide +kernel
theorem dL_stepped_393 : decode cL_stepped 393 = .ok (.iconst 4, 1) := by decide +kernel
theorem dL_stepped_394 : decode cL_stepped 394 = .ok (.iload 4, 2) := by decide +kernel
theorem dL_stepped_396 : decode cL_stepped 396 = .ok (.iconst 0, 1) := by decide +kernel
theorem dL_stepped_397 : decode cL_stepped 397 = .ok (.iconst 1, 1) := by decide +kernel
theorem dL_stepped_398 : decode cL_stepped 398 = .ok (.invokestatic 196, 3) := by decide +kernel
theorem dL_stepped_401 : decode cL_stepped 401 = .ok (.if_icmp .ne 23, 3) := by decide +kernel
theorem dL_stepped_404 : decode cL_stepped 404 = .ok (.aload_n 0, 1) := by decide +kernel
theorem dL_stepped_405 : decode cL_stepped 405 = .ok (.iload 5, 2) := by decide +kernel
theorem dL_stepped_407 : decode cL_stepped 407 = .ok (.invokestatic 255, 3) := by decide +kernel
theorem dL_stepped_410 : decode cL_stepped 410 = .ok (.ifCond .eq 14, 3) := by decide +kernel
theorem dL_stepped_413 : decode cL_stepped 413 = .ok (.aload_n 0, 1) := by decide +kernel
theorem dL_stepped_414 : decode cL_stepped 414 = .ok (.invokestatic 259, 3) := by decide +kernel
theorem dL_stepped_417 : decode cL_stepped 417 = .ok (.ifCond .eq 7, 3) := by decide +kernel
theorem dL_stepped_420 : decode cL_stepped 420 = .ok (.iconst 1, 1) := by decide +kernel
theorem dL_stepped_421 : decode cL_stepped 421 = .ok (.goto 4, 3) := by decide +kernel
theorem dL_stepped_424 : decode cL_stepped 424 = .ok (.iconst 0, 1) := by decide +kernel
theorem dL_stepped_425 : decode cL_stepped 425 = .ok (.istore 12, 2) := by decide +kernel
theorem dL_stepped_427 : decode cL_stepped 427 = .ok (.iconst 0, 1) := by decide +kernel
theorem dL_stepped_428 : decode cL_stepped 428 = .ok (.istore 14, 2) := by decide +kernel
theorem dL_stepped_430 : decode cL_stepped 430 = .ok (.iload 14, 2) := by decide +kernel
theorem dL_stepped_432 : decode cL_stepped 432 = .ok (.aload_n 0, 1) := by decide +kernel
theorem dL_stepped_433 : decode cL_stepped 433 = .ok (.iconst 1, 1) := by decide +kernel
theorem dL_stepped_434 : decode cL_stepped 434 = .ok (.invokestatic 157, 3) := by decide +kernel
theorem dL_stepped_437 : decode cL_stepped 437 = .ok (.if_icmp .ge 78, 3) := by decide +kernel
theorem dL_stepped_440 : decode cL_stepped 440 = .ok (.iload 12, 2) := by decide +kernel
theorem dL_stepped_442 : decode cL_stepped 442 = .ok (.ifCond .eq 73, 3) := by decide +kernel
theorem dL_stepped_445 : decode cL_stepped 445 = .ok (.aload_n 0, 1) := by decide +kernel
theorem dL_stepped_446 : decode cL_stepped 446 = .ok (.invokevirtual 150, 3) := by decide +kernel
theorem dL_stepped_449 : decode cL_stepped 449 = .ok (.istore 15, 2) := by decide +kernel
theorem dL_stepped_451 : decode cL_stepped 451 = .ok (.aload_n 0, 1) := by decide +kernel
theorem dL_stepped_452 : decode cL_stepped 452 = .ok (.iload 14, 2) := by decide +kernel
theorem dL_stepped_454 : decode cL_stepped 454 = .ok (.invokestatic 173, 3) := by decide +kernel
theorem dL_stepped_457 : decode cL_stepped 457 = .ok (.aload_n 0, 1) := by decide +kernel
theorem dL_stepped_458 : decode cL_stepped 458 = .ok (.iload 14, 2) := by decide +kernel
theorem dL_stepped_460 : decode cL_stepped 460 = .ok (.iconst 2, 1) := by decide +kernel
theorem dL_stepped_461 : decode cL_stepped 461 = .ok (.invokestatic 164, 3) := by decide +kernel
theorem dL_stepped_464 : decode cL_stepped 464 = .ok (.if_icmp .lt 42, 3) := by decide +kernel
theorem dL_stepped_467 : decode cL_stepped 467 = .ok (.aload_n 0, 1) := by decide +kernel
theorem dL_stepped_468 : decode cL_stepped 468 = .ok (.iload 14, 2) := by decide +kernel
theorem dL_stepped_470 : decode cL_stepped 470 = .ok (.iconst 1, 1) := by decide +kernel
theorem dL_stepped_471 : decode cL_stepped 471 = .ok (.invokestatic 164, 3) := by decide +kernel
theorem dL_stepped_474 : decode cL_stepped 474 = .ok (.ifCond .ne 32, 3) := by decide +kernel
theorem dL_stepped_477 : decode cL_stepped 477 = .ok (.aload_n 0, 1) := by decide +kernel
theorem dL_stepped_478 : decode cL_stepped 478 = .ok (.invokevirtual 150, 3) := by decide +kernel
theorem dL_stepped_481 : decode cL_stepped 481 = .ok (.iload 15, 2) := by decide +kernel
theorem dL_stepped_483 : decode cL_stepped 483 = .ok (.if_icmp .gt 23, 3) := by decide +kernel
theorem dL_stepped_486 : decode cL_stepped 486 = .ok (.aload_n 0, 1) := by decide +kernel
theorem dL_stepped_487 : decode cL_stepped 487 = .ok (.invokestatic 141, 3) := by decide +kernel
theorem dL_stepped_490 : decode cL_stepped 490 = .ok (.ifCond .lt 16, 3) := by decide +kernel
theorem dL_stepped_493 : decode cL_stepped 493 = .ok (.aload_n 0, 1) := by decide +kernel
theorem dL_stepped_494 : decode cL_stepped 494 = .ok (.invokevirtual 150, 3) := by decide +kernel
theorem dL_stepped_497 : decode cL_stepped 497 = .ok (.iload 15, 2) := by decide +kernel
theorem dL_stepped_499 : decode cL_stepped 499 = .ok (.if_icmp .ne 7, 3) := by decide +kernel
theorem dL_stepped_502 : decode cL_stepped 502 = .ok (.iconst 1, 1) := by decide +kernel
theorem dL_stepped_503 : decode cL_stepped 503 = .ok (.goto 4, 3) := by decide +kernel
theorem dL_stepped_506 : decode cL_stepped 506 = .ok (.iconst 0, 1) := by decide +kernel
theorem dL_stepped_507 : decode cL_stepped 507 = .ok (.istore 12, 2) := by decide +kernel
theorem dL_stepped_509 : decode cL_stepped 509 = .ok (.iinc 14 1, 3) := by decide +kernel
theorem dL_stepped_512 : decode cL_stepped 512 = .ok (.goto (-82), 3) := by decide +kernel
theorem dL_stepped_515 : decode cL_stepped 515 = .ok (.iload 12, 2) := by decide +kernel
theorem dL_stepped_517 : decode cL_stepped 517 = .ok (.ifCond .eq 37, 3) := by decide +kernel
theorem dL_stepped_520 : decode cL_stepped 520 = .ok (.aload_n 0, 1) := by decide +kernel
theorem dL_stepped_521 : decode cL_stepped 521 = .ok (.iconst 0, 1) := by decide +kernel
theorem dL_stepped_522 : decode cL_stepped 522 = .ok (.invokestatic 173, 3) := by decide +kernel
theorem dL_stepped_525 : decode cL_stepped 525 = .ok (.aload_n 0, 1) := by decide +kernel
theorem dL_stepped_526 : decode cL_stepped 526 = .ok (.iconst 0, 1) := by decide +kernel
theorem dL_stepped_527 : decode cL_stepped 527 = .ok (.iconst 0, 1) := by decide +kernel
theorem dL_stepped_528 : decode cL_stepped 528 = .ok (.invokestatic 164, 3) := by decide +kernel
theorem dL_stepped_531 : decode cL_stepped 531 = .ok (.if_icmp .ne 23, 3) := by decide +kernel
theorem dL_stepped_534 : decode cL_stepped 534 = .ok (.aload_n 0, 1) := by decide +kernel
theorem dL_stepped_535 : decode cL_stepped 535 = .ok (.iload 5, 2) := by decide +kernel
theorem dL_stepped_537 : decode cL_stepped 537 = .ok (.invokestatic 255, 3) := by decide +kernel
theorem dL_stepped_540 : decode cL_stepped 540 = .ok (.ifCond .eq 14, 3) := by decide +kernel
theorem dL_stepped_543 : decode cL_stepped 543 = .ok (.aload_n 0, 1) := by decide +kernel
theorem dL_stepped_544 : decode cL_stepped 544 = .ok (.invokestatic 259, 3) := by decide +kernel
theorem dL_stepped_547 : decode cL_stepped 547 = .ok (.ifCond .eq 7, 3) := by decide +kernel
theorem dL_stepped_550 : decode cL_stepped 550 = .ok (.iconst 1, 1) := by decide +kernel
theorem dL_stepped_551 : decode cL_stepped 551 = .ok (.goto 4, 3) := by decide +kernel
theorem dL_stepped_554 : decode cL_stepped 554 = .ok (.iconst 0, 1) := by decide +kernel
theorem dL_stepped_555 : decode cL_stepped 555 = .ok (.istore 12, 2) := by decide +kernel
theorem dL_stepped_557 : decode cL_stepped 557 = .ok (.aload_n 0, 1) := by decide +kernel
theorem dL_stepped_558 : decode cL_stepped 558 = .ok (.invokevirtual 150, 3) := by decide +kernel
theorem dL_stepped_561 : decode cL_stepped 561 = .ok (.istore 14, 2) := by decide +kernel
theorem dL_stepped_563 : decode cL_stepped 563 = .ok (.aload_n 0, 1) := by decide +kernel
theorem dL_stepped_564 : decode cL_stepped 564 = .ok (.iload_n 1, 1) := by decide +kernel
theorem dL_stepped_565 : decode cL_stepped 565 = .ok (.iload_n 2, 1) := by decide +kernel
theorem dL_stepped_566 : decode cL_stepped 566 = .ok (.irem, 1) := by decide +kernel
theorem dL_stepped_567 : decode cL_stepped 567 = .ok (.iconst 1, 1) := by decide +kernel
theorem dL_stepped_568 : decode cL_stepped 568 = .ok (.iload_n 1, 1) := by decide +kernel
theorem dL_stepped_569 : decode cL_stepped 569 = .ok (.bipush 8, 2) := by decide +kernel
theorem dL_stepped_571 : decode cL_stepped 571 = .ok (.idiv, 1) := by decide +kernel
theorem dL_stepped_572 : decode cL_stepped 572 = .ok (.iconst 5, 1) := by decide +kernel
theorem dL_stepped_573 : decode cL_stepped 573 = .ok (.irem, 1) := by decide +kernel
theorem dL_stepped_574 : decode cL_stepped 574 = .ok (.iadd, 1) := by decide +kernel
theorem dL_stepped_575 : decode cL_stepped 575 = .ok (.invokestatic 176, 3) := by decide +kernel
theorem dL_stepped_578 : decode cL_stepped 578 = .ok (.istore 15, 2) := by decide +kernel
theorem dL_stepped_580 : decode cL_stepped 580 = .ok (.iload 12, 2) := by decide +kernel
theorem dL_stepped_582 : decode cL_stepped 582 = .ok (.ifCond .eq 40, 3) := by decide +kernel
theorem dL_stepped_585 : decode cL_stepped 585 = .ok (.iload 15, 2) := by decide +kernel
theorem dL_stepped_587 : decode cL_stepped 587 = .ok (.ifCond .lt 35, 3) := by decide +kernel
theorem dL_stepped_590 : decode cL_stepped 590 = .ok (.aload_n 0, 1) := by decide +kernel
theorem dL_stepped_591 : decode cL_stepped 591 = .ok (.invokevirtual 150, 3) := by decide +kernel
theorem dL_stepped_594 : decode cL_stepped 594 = .ok (.iload 14, 2) := by decide +kernel
theorem dL_stepped_596 : decode cL_stepped 596 = .ok (.iload 15, 2) := by decide +kernel
theorem dL_stepped_598 : decode cL_stepped 598 = .ok (.isub, 1) := by decide +kernel
theorem dL_stepped_599 : decode cL_stepped 599 = .ok (.if_icmp .ne 23, 3) := by decide +kernel
theorem dL_stepped_602 : decode cL_stepped 602 = .ok (.aload_n 0, 1) := by decide +kernel
theorem dL_stepped_603 : decode cL_stepped 603 = .ok (.invokestatic 259, 3) := by decide +kernel
theorem dL_stepped_606 : decode cL_stepped 606 = .ok (.ifCond .eq 16, 3) := by decide +kernel
theorem dL_stepped_609 : decode cL_stepped 609 = .ok (.aload_n 0, 1) := by decide +kernel
theorem dL_stepped_610 : decode cL_stepped 610 = .ok (.iload 5, 2) := by decide +kernel
theorem dL_stepped_612 : decode cL_stepped 612 = .ok (.invokestatic 255, 3) := by decide +kernel
theorem dL_stepped_615 : decode cL_stepped 615 = .ok (.ifCond .eq 7, 3) := by decide +kernel
theorem dL_stepped_618 : decode cL_stepped 618 = .ok (.iconst 1, 1) := by decide +kernel
theorem dL_stepped_619 : decode cL_stepped 619 = .ok (.goto 4, 3) := by decide +kernel
theorem dL_stepped_622 : decode cL_stepped 622 = .ok (.iconst 0, 1) := by decide +kernel
theorem dL_stepped_623 : decode cL_stepped 623 = .ok (.istore 12, 2) := by decide +kernel
theorem dL_stepped_625 : decode cL_stepped 625 = .ok (.iconst 0, 1) := by decide +kernel
theorem dL_stepped_626 : decode cL_stepped 626 = .ok (.istore 16, 2) := by decide +kernel
theorem dL_stepped_628 : decode cL_stepped 628 = .ok (.iload 16, 2) := by decide +kernel
theorem dL_stepped_630 : decode cL_stepped 630 = .ok (.iconst 3, 1) := by decide +kernel
theorem dL_stepped_631 : decode cL_stepped 631 = .ok (.if_icmp .ge 28, 3) := by decide +kernel
theorem dL_stepped_634 : decode cL_stepped 634 = .ok (.iload 12, 2) := by decide +kernel
theorem dL_stepped_636 : decode cL_stepped 636 = .ok (.ifCond .eq 14, 3) := by decide +kernel
theorem dL_stepped_639 : decode cL_stepped 639 = .ok (.aload_n 0, 1) := by decide +kernel
theorem dL_stepped_640 : decode cL_stepped 640 = .ok (.invokestatic 141, 3) := by decide +kernel
theorem dL_stepped_643 : decode cL_stepped 643 = .ok (.ifCond .lt 7, 3) := by decide +kernel
theorem dL_stepped_646 : decode cL_stepped 646 = .ok (.iconst 1, 1) := by decide +kernel
theorem dL_stepped_647 : decode cL_stepped 647 = .ok (.goto 4, 3) := by decide +kernel
theorem dL_stepped_650 : decode cL_stepped 650 = .ok (.iconst 0, 1) := by decide +kernel
theorem dL_stepped_651 : decode cL_stepped 651 = .ok (.istore 12, 2) := by decide +kernel
theorem dL_stepped_653 : decode cL_stepped 653 = .ok (.iinc 16 1, 3) := by decide +kernel
theorem dL_stepped_656 : decode cL_stepped 656 = .ok (.goto (-28), 3) := by decide +kernel
theorem dL_stepped_659 : decode cL_stepped 659 = .ok (.iload 12, 2) := by decide +kernel
theorem dL_stepped_661 : decode cL_stepped 661 = .ok (.ifCond .eq 26, 3) := by decide +kernel
theorem dL_stepped_664 : decode cL_stepped 664 = .ok (.aload_n 0, 1) := by decide +kernel
theorem dL_stepped_665 : decode cL_stepped 665 = .ok (.invokevirtual 150, 3) := by decide +kernel
theorem dL_stepped_668 : decode cL_stepped 668 = .ok (.iload 9, 2) := by decide +kernel
theorem dL_stepped_670 : decode cL_stepped 670 = .ok (.if_icmp .ne 17, 3) := by decide +kernel
theorem dL_stepped_673 : decode cL_stepped 673 = .ok (.aload_n 0, 1) := by decide +kernel
theorem dL_stepped_674 : decode cL_stepped 674 = .ok (.iconst 4, 1) := by decide +kernel
theorem dL_stepped_675 : decode cL_stepped 675 = .ok (.invokestatic 157, 3) := by decide +kernel
theorem dL_stepped_678 : decode cL_stepped 678 = .ok (.iload 11, 2) := by decide +kernel
theorem dL_stepped_680 : decode cL_stepped 680 = .ok (.if_icmp .ne 7, 3) := by decide +kernel
theorem dL_stepped_683 : decode cL_stepped 683 = .ok (.iconst 1, 1) := by decide +kernel
theorem dL_stepped_684 : decode cL_stepped 684 = .ok (.goto 4, 3) := by decide +kernel
theorem dL_stepped_687 : decode cL_stepped 687 = .ok (.iconst 0, 1) := by decide +kernel
theorem dL_stepped_688 : decode cL_stepped 688 = .ok (.ireturn, 1) := by decide +kernel
theorem dL_bounded_0 : decode cL_bounded 0 = .ok (.aload_n 0, 1) := by decide +kernel
theorem dL_bounded_1 : decode cL_bounded 1 = .ok (.iconst 0, 1) := by decide +kernel
theorem dL_bounded_2 : decode cL_bounded 2 = .ok (.invokestatic 153, 3) := by decide +kernel
theorem dL_bounded_5 : decode cL_bounded 5 = .ok (.istore_n 2, 1) := by decide +kernel
theorem dL_bounded_6 : decode cL_bounded 6 = .ok (.aload_n 0, 1) := by decide +kernel
theorem dL_bounded_7 : decode cL_bounded 7 = .ok (.iconst 1, 1) := by decide +kernel
theorem dL_bounded_8 : decode cL_bounded 8 = .ok (.invokestatic 153, 3) := by decide +kernel
theorem dL_bounded_11 : decode cL_bounded 11 = .ok (.istore_n 3, 1) := by decide +kernel
theorem dL_bounded_12 : decode cL_bounded 12 = .ok (.iload_n 2, 1) := by decide +kernel
theorem dL_bounded_13 : decode cL_bounded 13 = .ok (.iload_n 1, 1) := by decide +kernel
theorem dL_bounded_14 : decode cL_bounded 14 = .ok (.if_icmp .gt 19, 3) := by decide +kernel
theorem dL_bounded_17 : decode cL_bounded 17 = .ok (.iload_n 1, 1) := by decide +kernel
theorem dL_bounded_18 : decode cL_bounded 18 = .ok (.iload_n 3, 1) := by decide +kernel
theorem dL_bounded_19 : decode cL_bounded 19 = .ok (.if_icmp .gt 14, 3) := by decide +kernel
theorem dL_bounded_22 : decode cL_bounded 22 = .ok (.iload_n 2, 1) := by decide +kernel
theorem dL_bounded_23 : decode cL_bounded 23 = .ok (.sipush (-1003), 3) := by decide +kernel
theorem dL_bounded_26 : decode cL_bounded 26 = .ok (.if_icmp .le 7, 3) := by decide +kernel
theorem dL_bounded_29 : decode cL_bounded 29 = .ok (.iconst 1, 1) := by decide +kernel
theorem dL_bounded_30 : decode cL_bounded 30 = .ok (.goto 4, 3) := by decide +kernel
theorem dL_bounded_33 : decode cL_bounded 33 = .ok (.iconst 0, 1) := by decide +kernel
theorem dL_bounded_34 : decode cL_bounded 34 = .ok (.ireturn, 1) := by decide +kernel
theorem dL_earliest_0 : decode cL_earliest 0 = .ok (.iload_n 1, 1) := by decide +kernel
theorem dL_earliest_1 : decode cL_earliest 1 = .ok (.bipush 13, 2) := by decide +kernel
theorem dL_earliest_3 : decode cL_earliest 3 = .ok (.irem, 1) := by decide +kernel
theorem dL_earliest_4 : decode cL_earliest 4 = .ok (.bipush 6, 2) := by decide +kernel
theorem dL_earliest_6 : decode cL_earliest 6 = .ok (.isub, 1) := by decide +kernel
theorem dL_earliest_7 : decode cL_earliest 7 = .ok (.istore_n 2, 1) := by decide +kernel
theorem dL_earliest_8 : decode cL_earliest 8 = .ok (.iload_n 1, 1) := by decide +kernel
theorem dL_earliest_9 : decode cL_earliest 9 = .ok (.bipush 13, 2) := by decide +kernel
theorem dL_earliest_11 : decode cL_earliest 11 = .ok (.idiv, 1) := by decide +kernel
theorem dL_earliest_12 : decode cL_earliest 12 = .ok (.sipush 4001, 3) := by decide +kernel
theorem dL_earliest_15 : decode cL_earliest 15 = .ok (.irem, 1) := by decide +kernel
theorem dL_earliest_16 : decode cL_earliest 16 = .ok (.sipush 2000, 3) := by decide +kernel
theorem dL_earliest_19 : decode cL_earliest 19 = .ok (.isub, 1) := by decide +kernel
theorem dL_earliest_20 : decode cL_earliest 20 = .ok (.istore_n 3, 1) := by decide +kernel
theorem dL_earliest_21 : decode cL_earliest 21 = .ok (.iload_n 1, 1) := by decide +kernel
theorem dL_earliest_22 : decode cL_earliest 22 = .ok (.iconst 2, 1) := by decide +kernel
theorem dL_earliest_23 : decode cL_earliest 23 = .ok (.irem, 1) := by decide +kernel
theorem dL_earliest_24 : decode cL_earliest 24 = .ok (.ifCond .ne 7, 3) := by decide +kernel
theorem dL_earliest_27 : decode cL_earliest 27 = .ok (.iconst 1, 1) := by decide +kernel
theorem dL_earliest_28 : decode cL_earliest 28 = .ok (.goto 4, 3) := by decide +kernel
theorem dL_earliest_31 : decode cL_earliest 31 = .ok (.iconst 0, 1) := by decide +kernel
theorem dL_earliest_32 : decode cL_earliest 32 = .ok (.istore 4, 2) := by decide +kernel
theorem dL_earliest_34 : decode cL_earliest 34 = .ok (.aload_n 0, 1) := by decide +kernel
theorem dL_earliest_35 : decode cL_earliest 35 = .ok (.iconst 0, 1) := by decide +kernel
theorem dL_earliest_36 : decode cL_earliest 36 = .ok (.iload_n 3, 1) := by decide +kernel
theorem dL_earliest_37 : decode cL_earliest 37 = .ok (.iload_n 2, 1) := by decide +kernel
theorem dL_earliest_38 : decode cL_earliest 38 = .ok (.iload 4, 2) := by decide +kernel
theorem dL_earliest_40 : decode cL_earliest 40 = .ok (.invokestatic 200, 3) := by decide +kernel
theorem dL_earliest_43 : decode cL_earliest 43 = .ok (.istore 5, 2) := by decide +kernel
theorem dL_earliest_45 : decode cL_earliest 45 = .ok (.iload 5, 2) := by decide +kernel
theorem dL_earliest_47 : decode cL_earliest 47 = .ok (.bipush (-9), 2) := by decide +kernel
theorem dL_earliest_49 : decode cL_earliest 49 = .ok (.if_icmp .ne 33, 3) := by decide +kernel
theorem dL_earliest_52 : decode cL_earliest 52 = .ok (.aload_n 0, 1) := by decide +kernel
theorem dL_earliest_53 : decode cL_earliest 53 = .ok (.iload_n 1, 1) := by decide +kernel
theorem dL_earliest_54 : decode cL_earliest 54 = .ok (.bipush 61, 2) := by decide +kernel
theorem dL_earliest_56 : decode cL_earliest 56 = .ok (.irem, 1) := by decide +kernel
theorem dL_earliest_57 : decode cL_earliest 57 = .ok (.iload_n 2, 1) := by decide +kernel
theorem dL_earliest_58 : decode cL_earliest 58 = .ok (.iconst 0, 1) := by decide +kernel
theorem dL_earliest_59 : decode cL_earliest 59 = .ok (.iload 4, 2) := by decide +kernel
theorem dL_earliest_61 : decode cL_earliest 61 = .ok (.ifCond .ne 7, 3) := by decide +kernel
theorem dL_earliest_64 : decode cL_earliest 64 = .ok (.iconst 1, 1) := by decide +kernel
theorem dL_earliest_65 : decode cL_earliest 65 = .ok (.goto 4, 3) := by decide +kernel
theorem dL_earliest_68 : decode cL_earliest 68 = .ok (.iconst 0, 1) := by decide +kernel
theorem dL_earliest_69 : decode cL_earliest 69 = .ok (.invokestatic 196, 3) := by decide +kernel
theorem dL_earliest_72 : decode cL_earliest 72 = .ok (.iload_n 3, 1) := by decide +kernel
theorem dL_earliest_73 : decode cL_earliest 73 = .ok (.if_icmp .ge 7, 3) := by decide +kernel
theorem dL_earliest_76 : decode cL_earliest 76 = .ok (.iconst 1, 1) := by decide +kernel
theorem dL_earliest_77 : decode cL_earliest 77 = .ok (.goto 4, 3) := by decide +kernel
theorem dL_earliest_80 : decode cL_earliest 80 = .ok (.iconst 0, 1) := by decide +kernel
theorem dL_earliest_81 : decode cL_earliest 81 = .ok (.ireturn, 1) := by decide +kernel
theorem dL_earliest_82 : decode cL_earliest 82 = .ok (.iload 5, 2) := by decide +kernel
theorem dL_earliest_84 : decode cL_earliest 84 = .ok (.ifCond .lt 83, 3) := by decide +kernel
theorem dL_earliest_87 : decode cL_earliest 87 = .ok (.iload 5, 2) := by decide +kernel
theorem dL_earliest_89 : decode cL_earliest 89 = .ok (.bipush 60, 2) := by decide +kernel
theorem dL_earliest_91 : decode cL_earliest 91 = .ok (.if_icmp .gt 76, 3) := by decide +kernel
theorem dL_earliest_94 : decode cL_earliest 94 = .ok (.aload_n 0, 1) := by decide +kernel
theorem dL_earliest_95 : decode cL_earliest 95 = .ok (.iload 5, 2) := by decide +kernel
theorem dL_earliest_97 : decode cL_earliest 97 = .ok (.iload_n 2, 1) := by decide +kernel
theorem dL_earliest_98 : decode cL_earliest 98 = .ok (.iconst 0, 1) := by decide +kernel
theorem dL_earliest_99 : decode cL_earliest 99 = .ok (.iload 4, 2) := by decide +kernel
theorem dL_earliest_101 : decode cL_earliest 101 = .ok (.ifCond .ne 7, 3) := by decide +kernel
theorem dL_earliest_104 : decode cL_earliest 104 = .ok (.iconst 1, 1) := by decide +kernel
theorem dL_earliest_105 : decode cL_earliest 105 = .ok (.goto 4, 3) := by decide +kernel
theorem dL_earliest_108 : decode cL_earliest 108 = .ok (.iconst 0, 1) := by decide +kernel
theorem dL_earliest_109 : decode cL_earliest 109 = .ok (.invokestatic 196, 3) := by decide +kernel
theorem dL_earliest_112 : decode cL_earliest 112 = .ok (.iload_n 3, 1) := by decide +kernel
theorem dL_earliest_113 : decode cL_earliest 113 = .ok (.if_icmp .lt 54, 3) := by decide +kernel
theorem dL_earliest_116 : decode cL_earliest 116 = .ok (.iload 5, 2) := by decide +kernel
theorem dL_earliest_118 : decode cL_earliest 118 = .ok (.ifCond .eq 27, 3) := by decide +kernel
theorem dL_earliest_121 : decode cL_earliest 121 = .ok (.aload_n 0, 1) := by decide +kernel
theorem dL_earliest_122 : decode cL_earliest 122 = .ok (.iload 5, 2) := by decide +kernel
theorem dL_earliest_124 : decode cL_earliest 124 = .ok (.iconst 1, 1) := by decide +kernel
theorem dL_earliest_125 : decode cL_earliest 125 = .ok (.isub, 1) := by decide +kernel
theorem dL_earliest_126 : decode cL_earliest 126 = .ok (.iload_n 2, 1) := by decide +kernel
theorem dL_earliest_127 : decode cL_earliest 127 = .ok (.iconst 0, 1) := by decide +kernel
theorem dL_earliest_128 : decode cL_earliest 128 = .ok (.iload 4, 2) := by decide +kernel
theorem dL_earliest_130 : decode cL_earliest 130 = .ok (.ifCond .ne 7, 3) := by decide +kernel
theorem dL_earliest_133 : decode cL_earliest 133 = .ok (.iconst 1, 1) := by decide +kernel
theorem dL_earliest_134 : decode cL_earliest 134 = .ok (.goto 4, 3) := by decide +kernel
theorem dL_earliest_137 : decode cL_earliest 137 = .ok (.iconst 0, 1) := by decide +kernel
theorem dL_earliest_138 : decode cL_earliest 138 = .ok (.invokestatic 196, 3) := by decide +kernel
theorem dL_earliest_141 : decode cL_earliest 141 = .ok (.iload_n 3, 1) := by decide +kernel
theorem dL_earliest_142 : decode cL_earliest 142 = .ok (.if_icmp .ge 25, 3) := by decide +kernel
theorem dL_earliest_145 : decode cL_earliest 145 = .ok (.iload 4, 2) := by decide +kernel
theorem dL_earliest_147 : decode cL_earliest 147 = .ok (.ifCond .eq 16, 3) := by decide +kernel
theorem dL_earliest_150 : decode cL_earliest 150 = .ok (.aload_n 0, 1) := by decide +kernel
theorem dL_earliest_151 : decode cL_earliest 151 = .ok (.iconst 0, 1) := by decide +kernel
theorem dL_earliest_152 : decode cL_earliest 152 = .ok (.iload_n 3, 1) := by decide +kernel
theorem dL_earliest_153 : decode cL_earliest 153 = .ok (.iload_n 2, 1) := by decide +kernel
theorem dL_earliest_154 : decode cL_earliest 154 = .ok (.iconst 0, 1) := by decide +kernel
theorem dL_earliest_155 : decode cL_earliest 155 = .ok (.invokestatic 200, 3) := by decide +kernel
theorem dL_earliest_158 : decode cL_earliest 158 = .ok (.iload 5, 2) := by decide +kernel
theorem dL_earliest_160 : decode cL_earliest 160 = .ok (.if_icmp .gt 7, 3) := by decide +kernel
theorem dL_earliest_163 : decode cL_earliest 163 = .ok (.iconst 1, 1) := by decide +kernel
theorem dL_earliest_164 : decode cL_earliest 164 = .ok (.goto 4, 3) := by decide +kernel
theorem dL_earliest_167 : decode cL_earliest 167 = .ok (.iconst 0, 1) := by decide +kernel
theorem dL_earliest_168 : decode cL_earliest 168 = .ok (.ireturn, 1) := by decide +kernel
theorem dL_scripts_0 : decode cL_scripts 0 = .ok (.aload_n 0, 1) := by decide +kernel
theorem dL_scripts_1 : decode cL_scripts 1 = .ok (.iconst 0, 1) := by decide +kernel
theorem dL_scripts_2 : decode cL_scripts 2 = .ok (.invokestatic 157, 3) := by decide +kernel
theorem dL_scripts_5 : decode cL_scripts 5 = .ok (.istore_n 2, 1) := by decide +kernel
theorem dL_scripts_6 : decode cL_scripts 6 = .ok (.iload_n 1, 1) := by decide +kernel
theorem dL_scripts_7 : decode cL_scripts 7 = .ok (.iload_n 2, 1) := by decide +kernel
theorem dL_scripts_8 : decode cL_scripts 8 = .ok (.irem, 1) := by decide +kernel
theorem dL_scripts_9 : decode cL_scripts 9 = .ok (.istore_n 3, 1) := by decide +kernel
theorem dL_scripts_10 : decode cL_scripts 10 = .ok (.iload_n 1, 1) := by decide +kernel
theorem dL_scripts_11 : decode cL_scripts 11 = .ok (.iconst 4, 1) := by decide +kernel
theorem dL_scripts_12 : decode cL_scripts 12 = .ok (.idiv, 1) := by decide +kernel
theorem dL_scripts_13 : decode cL_scripts 13 = .ok (.bipush 100, 2) := by decide +kernel
theorem dL_scripts_15 : decode cL_scripts 15 = .ok (.irem, 1) := by decide +kernel
theorem dL_scripts_16 : decode cL_scripts 16 = .ok (.istore 4, 2) := by decide +kernel
theorem dL_scripts_18 : decode cL_scripts 18 = .ok (.aload_n 0, 1) := by decide +kernel
theorem dL_scripts_19 : decode cL_scripts 19 = .ok (.iload_n 3, 1) := by decide +kernel
theorem dL_scripts_20 : decode cL_scripts 20 = .ok (.iconst 2, 1) := by decide +kernel
theorem dL_scripts_21 : decode cL_scripts 21 = .ok (.invokestatic 160, 3) := by decide +kernel
theorem dL_scripts_24 : decode cL_scripts 24 = .ok (.aload_n 0, 1) := by decide +kernel
theorem dL_scripts_25 : decode cL_scripts 25 = .ok (.iload_n 3, 1) := by decide +kernel
theorem dL_scripts_26 : decode cL_scripts 26 = .ok (.iconst 1, 1) := by decide +kernel
theorem dL_scripts_27 : decode cL_scripts 27 = .ok (.invokestatic 160, 3) := by decide +kernel
theorem dL_scripts_30 : decode cL_scripts 30 = .ok (.isub, 1) := by decide +kernel
theorem dL_scripts_31 : decode cL_scripts 31 = .ok (.istore 5, 2) := by decide +kernel
theorem dL_scripts_33 : decode cL_scripts 33 = .ok (.aload_n 0, 1) := by decide +kernel
theorem dL_scripts_34 : decode cL_scripts 34 = .ok (.iconst 1, 1) := by decide +kernel
theorem dL_scripts_35 : decode cL_scripts 35 = .ok (.ldc2_w 263, 3) := by decide +kernel
theorem dL_scripts_38 : decode cL_scripts 38 = .ok (.bipush 100, 2) := by decide +kernel
theorem dL_scripts_40 : decode cL_scripts 40 = .ok (.iload_n 3, 1) := by decide +kernel
theorem dL_scripts_41 : decode cL_scripts 41 = .ok (.imul, 1) := by decide +kernel
theorem dL_scripts_42 : decode cL_scripts 42 = .ok (.i2l, 1) := by decide +kernel
theorem dL_scripts_43 : decode cL_scripts 43 = .ok (.ladd, 1) := by decide +kernel
theorem dL_scripts_44 : decode cL_scripts 44 = .ok (.iload 4, 2) := by decide +kernel
theorem dL_scripts_46 : decode cL_scripts 46 = .ok (.i2l, 1) := by decide +kernel
theorem dL_scripts_47 : decode cL_scripts 47 = .ok (.ladd, 1) := by decide +kernel
theorem dL_scripts_48 : decode cL_scripts 48 = .ok (.invokestatic 213, 3) := by decide +kernel
theorem dL_scripts_51 : decode cL_scripts 51 = .ok (.iload 5, 2) := by decide +kernel
theorem dL_scripts_53 : decode cL_scripts 53 = .ok (.iload 4, 2) := by decide +kernel
theorem dL_scripts_55 : decode cL_scripts 55 = .ok (.if_icmp .gt 8, 3) := by decide +kernel
theorem dL_scripts_58 : decode cL_scripts 58 = .ok (.bipush (-9), 2) := by decide +kernel
theorem dL_scripts_60 : decode cL_scripts 60 = .ok (.goto 4, 3) := by decide +kernel
theorem dL_scripts_63 : decode cL_scripts 63 = .ok (.iconst 0, 1) := by decide +kernel
theorem dL_scripts_64 : decode cL_scripts 64 = .ok (.if_icmp .ne 112, 3) := by decide +kernel
theorem dL_scripts_67 : decode cL_scripts 67 = .ok (.aload_n 0, 1) := by decide +kernel
theorem dL_scripts_68 : decode cL_scripts 68 = .ok (.iconst 1, 1) := by decide +kernel
theorem dL_scripts_69 : decode cL_scripts 69 = .ok (.ldc2_w 265, 3) := by decide +kernel
theorem dL_scripts_72 : decode cL_scripts 72 = .ok (.bipush 100, 2) := by decide +kernel
theorem dL_scripts_74 : decode cL_scripts 74 = .ok (.iload_n 3, 1) := by decide +kernel
theorem dL_scripts_75 : decode cL_scripts 75 = .ok (.imul, 1) := by decide +kernel
theorem dL_scripts_76 : decode cL_scripts 76 = .ok (.i2l, 1) := by decide +kernel
theorem dL_scripts_77 : decode cL_scripts 77 = .ok (.ladd, 1) := by decide +kernel
theorem dL_scripts_78 : decode cL_scripts 78 = .ok (.iload 4, 2) := by decide +kernel
theorem dL_scripts_80 : decode cL_scripts 80 = .ok (.i2l, 1) := by decide +kernel
theorem dL_scripts_81 : decode cL_scripts 81 = .ok (.ladd, 1) := by decide +kernel
theorem dL_scripts_82 : decode cL_scripts 82 = .ok (.invokestatic 213, 3) := by decide +kernel
theorem dL_scripts_85 : decode cL_scripts 85 = .ok (.aload_n 0, 1) := by decide +kernel
theorem dL_scripts_86 : decode cL_scripts 86 = .ok (.iload_n 3, 1) := by decide +kernel
theorem dL_scripts_87 : decode cL_scripts 87 = .ok (.iconst 1, 1) := by decide +kernel
theorem dL_scripts_88 : decode cL_scripts 88 = .ok (.invokestatic 160, 3) := by decide +kernel
theorem dL_scripts_91 : decode cL_scripts 91 = .ok (.iload 4, 2) := by decide +kernel
theorem dL_scripts_93 : decode cL_scripts 93 = .ok (.if_icmp .lt 8, 3) := by decide +kernel
theorem dL_scripts_96 : decode cL_scripts 96 = .ok (.bipush (-9), 2) := by decide +kernel
theorem dL_scripts_98 : decode cL_scripts 98 = .ok (.goto 4, 3) := by decide +kernel
theorem dL_scripts_101 : decode cL_scripts 101 = .ok (.iconst 0, 1) := by decide +kernel
theorem dL_scripts_102 : decode cL_scripts 102 = .ok (.if_icmp .ne 74, 3) := by decide +kernel
theorem dL_scripts_105 : decode cL_scripts 105 = .ok (.aload_n 0, 1) := by decide +kernel
theorem dL_scripts_106 : decode cL_scripts 106 = .ok (.iconst 1, 1) := by decide +kernel
theorem dL_scripts_107 : decode cL_scripts 107 = .ok (.ldc2_w 267, 3) := by decide +kernel
theorem dL_scripts_110 : decode cL_scripts 110 = .ok (.bipush 100, 2) := by decide +kernel
theorem dL_scripts_112 : decode cL_scripts 112 = .ok (.iload_n 3, 1) := by decide +kernel
theorem dL_scripts_113 : decode cL_scripts 113 = .ok (.imul, 1) := by decide +kernel
theorem dL_scripts_114 : decode cL_scripts 114 = .ok (.i2l, 1) := by decide +kernel
theorem dL_scripts_115 : decode cL_scripts 115 = .ok (.ladd, 1) := by decide +kernel
theorem dL_scripts_116 : decode cL_scripts 116 = .ok (.iload 4, 2) := by decide +kernel
theorem dL_scripts_118 : decode cL_scripts 118 = .ok (.i2l, 1) := by decide +kernel
theorem dL_scripts_119 : decode cL_scripts 119 = .ok (.ladd, 1) := by decide +kernel
theorem dL_scripts_120 : decode cL_scripts 120 = .ok (.invokestatic 213, 3) := by decide +kernel
theorem dL_scripts_123 : decode cL_scripts 123 = .ok (.aload_n 0, 1) := by decide +kernel
theorem dL_scripts_124 : decode cL_scripts 124 = .ok (.iload_n 3, 1) := by decide +kernel
theorem dL_scripts_125 : decode cL_scripts 125 = .ok (.iconst 0, 1) := by decide +kernel
theorem dL_scripts_126 : decode cL_scripts 126 = .ok (.invokestatic 160, 3) := by decide +kernel
theorem dL_scripts_129 : decode cL_scripts 129 = .ok (.iload 4, 2) := by decide +kernel
theorem dL_scripts_131 : decode cL_scripts 131 = .ok (.if_icmp .gt 8, 3) := by decide +kernel
theorem dL_scripts_134 : decode cL_scripts 134 = .ok (.bipush (-9), 2) := by decide +kernel
theorem dL_scripts_136 : decode cL_scripts 136 = .ok (.goto 4, 3) := by decide +kernel
theorem dL_scripts_139 : decode cL_scripts 139 = .ok (.iconst 0, 1) := by decide +kernel
theorem dL_scripts_140 : decode cL_scripts 140 = .ok (.if_icmp .ne 36, 3) := by decide +kernel
theorem dL_scripts_143 : decode cL_scripts 143 = .ok (.aload_n 0, 1) := by decide +kernel
theorem dL_scripts_144 : decode cL_scripts 144 = .ok (.iconst 1, 1) := by decide +kernel
theorem dL_scripts_145 : decode cL_scripts 145 = .ok (.ldc2_w 269, 3) := by decide +kernel
theorem dL_scripts_148 : decode cL_scripts 148 = .ok (.invokestatic 213, 3) := by decide +kernel
theorem dL_scripts_151 : decode cL_scripts 151 = .ok (.ifCond .ne 25, 3) := by decide +kernel
theorem dL_scripts_154 : decode cL_scripts 154 = .ok (.aload_n 0, 1) := by decide +kernel
theorem dL_scripts_155 : decode cL_scripts 155 = .ok (.iconst 1, 1) := by decide +kernel
theorem dL_scripts_156 : decode cL_scripts 156 = .ok (.ldc2_w 271, 3) := by decide +kernel
theorem dL_scripts_159 : decode cL_scripts 159 = .ok (.aload_n 0, 1) := by decide +kernel
theorem dL_scripts_160 : decode cL_scripts 160 = .ok (.iconst 1, 1) := by decide +kernel
theorem dL_scripts_161 : decode cL_scripts 161 = .ok (.invokestatic 157, 3) := by decide +kernel
theorem dL_scripts_164 : decode cL_scripts 164 = .ok (.i2l, 1) := by decide +kernel
theorem dL_scripts_165 : decode cL_scripts 165 = .ok (.ladd, 1) := by decide +kernel
theorem dL_scripts_166 : decode cL_scripts 166 = .ok (.invokestatic 213, 3) := by decide +kernel
theorem dL_scripts_169 : decode cL_scripts 169 = .ok (.ifCond .ne 7, 3) := by decide +kernel
theorem dL_scripts_172 : decode cL_scripts 172 = .ok (.iconst 1, 1) := by decide +kernel
theorem dL_scripts_173 : decode cL_scripts 173 = .ok (.goto 4, 3) := by decide +kernel
theorem dL_scripts_176 : decode cL_scripts 176 = .ok (.iconst 0, 1) := by decide +kernel
theorem dL_scripts_177 : decode cL_scripts 177 = .ok (.istore 6, 2) := by decide +kernel
theorem dL_scripts_179 : decode cL_scripts 179 = .ok (.iload 6, 2) := by decide +kernel
theorem dL_scripts_181 : decode cL_scripts 181 = .ok (.ifCond .eq 109, 3) := by decide +kernel
theorem dL_scripts_184 : decode cL_scripts 184 = .ok (.aload_n 0, 1) := by decide +kernel
theorem dL_scripts_185 : decode cL_scripts 185 = .ok (.iconst 1, 1) := by decide +kernel
theorem dL_scripts_186 : decode cL_scripts 186 = .ok (.ldc2_w 273, 3) := by decide +kernel
theorem dL_scripts_189 : decode cL_scripts 189 = .ok (.bipush 10, 2) := by decide +kernel
theorem dL_scripts_191 : decode cL_scripts 191 = .ok (.iload 4, 2) := by decide +kernel
theorem dL_scripts_193 : decode cL_scripts 193 = .ok (.imul, 1) := by decide +kernel
theorem dL_scripts_194 : decode cL_scripts 194 = .ok (.i2l, 1) := by decide +kernel
theorem dL_scripts_195 : decode cL_scripts 195 = .ok (.ladd, 1) := by decide +kernel
theorem dL_scripts_196 : decode cL_scripts 196 = .ok (.invokestatic 213, 3) := by decide +kernel
theorem dL_scripts_199 : decode cL_scripts 199 = .ok (.bipush (-9), 2) := by decide +kernel
theorem dL_scripts_201 : decode cL_scripts 201 = .ok (.if_icmp .ne 89, 3) := by decide +kernel
theorem dL_scripts_204 : decode cL_scripts 204 = .ok (.aload_n 0, 1) := by decide +kernel
theorem dL_scripts_205 : decode cL_scripts 205 = .ok (.iconst 2, 1) := by decide +kernel
theorem dL_scripts_206 : decode cL_scripts 206 = .ok (.ldc2_w 217, 3) := by decide +kernel
theorem dL_scripts_209 : decode cL_scripts 209 = .ok (.sipush 1000, 3) := by decide +kernel
theorem dL_scripts_212 : decode cL_scripts 212 = .ok (.bipush 10, 2) := by decide +kernel
theorem dL_scripts_214 : decode cL_scripts 214 = .ok (.iload 4, 2) := by decide +kernel
theorem dL_scripts_216 : decode cL_scripts 216 = .ok (.imul, 1) := by decide +kernel
theorem dL_scripts_217 : decode cL_scripts 217 = .ok (.iadd, 1) := by decide +kernel
theorem dL_scripts_218 : decode cL_scripts 218 = .ok (.i2l, 1) := by decide +kernel
theorem dL_scripts_219 : decode cL_scripts 219 = .ok (.lmul, 1) := by decide +kernel
theorem dL_scripts_220 : decode cL_scripts 220 = .ok (.ldc2_w 265, 3) := by decide +kernel
theorem dL_scripts_223 : decode cL_scripts 223 = .ok (.ladd, 1) := by decide +kernel
theorem dL_scripts_224 : decode cL_scripts 224 = .ok (.bipush 100, 2) := by decide +kernel
theorem dL_scripts_226 : decode cL_scripts 226 = .ok (.iload_n 3, 1) := by decide +kernel
theorem dL_scripts_227 : decode cL_scripts 227 = .ok (.imul, 1) := by decide +kernel
theorem dL_scripts_228 : decode cL_scripts 228 = .ok (.i2l, 1) := by decide +kernel
theorem dL_scripts_229 : decode cL_scripts 229 = .ok (.ladd, 1) := by decide +kernel
theorem dL_scripts_230 : decode cL_scripts 230 = .ok (.ldc2_w 275, 3) := by decide +kernel
theorem dL_scripts_233 : decode cL_scripts 233 = .ok (.ladd, 1) := by decide +kernel
theorem dL_scripts_234 : decode cL_scripts 234 = .ok (.invokestatic 213, 3) := by decide +kernel
theorem dL_scripts_237 : decode cL_scripts 237 = .ok (.aload_n 0, 1) := by decide +kernel
theorem dL_scripts_238 : decode cL_scripts 238 = .ok (.iconst 1, 1) := by decide +kernel
theorem dL_scripts_239 : decode cL_scripts 239 = .ok (.iload 4, 2) := by decide +kernel
theorem dL_scripts_241 : decode cL_scripts 241 = .ok (.iload_n 3, 1) := by decide +kernel
theorem dL_scripts_242 : decode cL_scripts 242 = .ok (.iconst 0, 1) := by decide +kernel
theorem dL_scripts_243 : decode cL_scripts 243 = .ok (.invokestatic 196, 3) := by decide +kernel
theorem dL_scripts_246 : decode cL_scripts 246 = .ok (.bipush 50, 2) := by decide +kernel
theorem dL_scripts_248 : decode cL_scripts 248 = .ok (.if_icmp .lt 8, 3) := by decide +kernel
theorem dL_scripts_251 : decode cL_scripts 251 = .ok (.bipush (-9), 2) := by decide +kernel
theorem dL_scripts_253 : decode cL_scripts 253 = .ok (.goto 4, 3) := by decide +kernel
theorem dL_scripts_256 : decode cL_scripts 256 = .ok (.iconst 1, 1) := by decide +kernel
theorem dL_scripts_257 : decode cL_scripts 257 = .ok (.if_icmp .ne 33, 3) := by decide +kernel
theorem dL_scripts_260 : decode cL_scripts 260 = .ok (.aload_n 0, 1) := by decide +kernel
theorem dL_scripts_261 : decode cL_scripts 261 = .ok (.iconst 2, 1) := by decide +kernel
theorem dL_scripts_262 : decode cL_scripts 262 = .ok (.ldc2_w 277, 3) := by decide +kernel
theorem dL_scripts_265 : decode cL_scripts 265 = .ok (.invokestatic 213, 3) := by decide +kernel
theorem dL_scripts_268 : decode cL_scripts 268 = .ok (.bipush (-9), 2) := by decide +kernel
theorem dL_scripts_270 : decode cL_scripts 270 = .ok (.if_icmp .ne 20, 3) := by decide +kernel
theorem dL_scripts_273 : decode cL_scripts 273 = .ok (.aload_n 0, 1) := by decide +kernel
theorem dL_scripts_274 : decode cL_scripts 274 = .ok (.iconst 3, 1) := by decide +kernel
theorem dL_scripts_275 : decode cL_scripts 275 = .ok (.ldc2_w 279, 3) := by decide +kernel
theorem dL_scripts_278 : decode cL_scripts 278 = .ok (.invokestatic 213, 3) := by decide +kernel
theorem dL_scripts_281 : decode cL_scripts 281 = .ok (.bipush (-9), 2) := by decide +kernel
theorem dL_scripts_283 : decode cL_scripts 283 = .ok (.if_icmp .ne 7, 3) := by decide +kernel
theorem dL_scripts_286 : decode cL_scripts 286 = .ok (.iconst 1, 1) := by decide +kernel
theorem dL_scripts_287 : decode cL_scripts 287 = .ok (.goto 4, 3) := by decide +kernel
theorem dL_scripts_290 : decode cL_scripts 290 = .ok (.iconst 0, 1) := by decide +kernel
theorem dL_scripts_291 : decode cL_scripts 291 = .ok (.istore 6, 2) := by decide +kernel
theorem dL_scripts_293 : decode cL_scripts 293 = .ok (.aload_n 0, 1) := by decide +kernel
theorem dL_scripts_294 : decode cL_scripts 294 = .ok (.iload_n 1, 1) := by decide +kernel
theorem dL_scripts_295 : decode cL_scripts 295 = .ok (.i2l, 1) := by decide +kernel
theorem dL_scripts_296 : decode cL_scripts 296 = .ok (.ldc2_w 281, 3) := by decide +kernel
theorem dL_scripts_299 : decode cL_scripts 299 = .ok (.lmul, 1) := by decide +kernel
theorem dL_scripts_300 : decode cL_scripts 300 = .ok (.bipush 7, 2) := by decide +kernel
theorem dL_scripts_302 : decode cL_scripts 302 = .ok (.invokestatic 223, 3) := by decide +kernel
theorem dL_scripts_305 : decode cL_scripts 305 = .ok (.lstore 7, 2) := by decide +kernel
theorem dL_scripts_307 : decode cL_scripts 307 = .ok (.iload 6, 2) := by decide +kernel
theorem dL_scripts_309 : decode cL_scripts 309 = .ok (.ifCond .eq 32, 3) := by decide +kernel
theorem dL_scripts_312 : decode cL_scripts 312 = .ok (.lload 7, 2) := by decide +kernel
theorem dL_scripts_314 : decode cL_scripts 314 = .ok (.lconst 0, 1) := by decide +kernel
theorem dL_scripts_315 : decode cL_scripts 315 = .ok (.lcmp, 1) := by decide +kernel
theorem dL_scripts_316 : decode cL_scripts 316 = .ok (.ifCond .lt 25, 3) := by decide +kernel
theorem dL_scripts_319 : decode cL_scripts 319 = .ok (.lload 7, 2) := by decide +kernel
theorem dL_scripts_321 : decode cL_scripts 321 = .ok (.aload_n 0, 1) := by decide +kernel
theorem dL_scripts_322 : decode cL_scripts 322 = .ok (.iload_n 1, 1) := by decide +kernel
theorem dL_scripts_323 : decode cL_scripts 323 = .ok (.i2l, 1) := by decide +kernel
theorem dL_scripts_324 : decode cL_scripts 324 = .ok (.ldc2_w 281, 3) := by decide +kernel
theorem dL_scripts_327 : decode cL_scripts 327 = .ok (.lmul, 1) := by decide +kernel
theorem dL_scripts_328 : decode cL_scripts 328 = .ok (.bipush 7, 2) := by decide +kernel
theorem dL_scripts_330 : decode cL_scripts 330 = .ok (.invokestatic 223, 3) := by decide +kernel
theorem dL_scripts_333 : decode cL_scripts 333 = .ok (.lcmp, 1) := by decide +kernel
theorem dL_scripts_334 : decode cL_scripts 334 = .ok (.ifCond .ne 7, 3) := by decide +kernel
theorem dL_scripts_337 : decode cL_scripts 337 = .ok (.iconst 1, 1) := by decide +kernel
theorem dL_scripts_338 : decode cL_scripts 338 = .ok (.goto 4, 3) := by decide +kernel
theorem dL_scripts_341 : decode cL_scripts 341 = .ok (.iconst 0, 1) := by decide +kernel
theorem dL_scripts_342 : decode cL_scripts 342 = .ok (.ireturn, 1) := by decide +kernel
theorem dL_act_0 : decode cL_act 0 = .ok (.aload_n 0, 1) := by decide +kernel
theorem dL_act_1 : decode cL_act 1 = .ok (.iconst 0, 1) := by decide +kernel
theorem dL_act_2 : decode cL_act 2 = .ok (.invokestatic 157, 3) := by decide +kernel
theorem dL_act_5 : decode cL_act 5 = .ok (.istore_n 3, 1) := by decide +kernel
theorem dL_act_6 : decode cL_act 6 = .ok (.aload_n 0, 1) := by decide +kernel
theorem dL_act_7 : decode cL_act 7 = .ok (.iconst 1, 1) := by decide +kernel
theorem dL_act_8 : decode cL_act 8 = .ok (.invokestatic 157, 3) := by decide +kernel
theorem dL_act_11 : decode cL_act 11 = .ok (.istore 4, 2) := by decide +kernel
theorem dL_act_13 : decode cL_act 13 = .ok (.aload_n 0, 1) := by decide +kernel
theorem dL_act_14 : decode cL_act 14 = .ok (.iconst 2, 1) := by decide +kernel
theorem dL_act_15 : decode cL_act 15 = .ok (.invokestatic 157, 3) := by decide +kernel
theorem dL_act_18 : decode cL_act 18 = .ok (.istore 5, 2) := by decide +kernel
theorem dL_act_20 : decode cL_act 20 = .ok (.iload_n 1, 1) := by decide +kernel
theorem dL_act_21 : decode cL_act 21 = .ok (.bipush 10, 2) := by decide +kernel
theorem dL_act_23 : decode cL_act 23 = .ok (.irem, 1) := by decide +kernel
theorem dL_act_24 : decode cL_act 24 = .ok (.tableswitch 214 0 8 #[52, 52, 52, 78, 78, 87, 127, 193, 209], 52) := by decide +kernel
theorem dL_act_76 : decode cL_act 76 = .ok (.aload_n 0, 1) := by decide +kernel
theorem dL_act_77 : decode cL_act 77 = .ok (.iload_n 2, 1) := by decide +kernel
theorem dL_act_78 : decode cL_act 78 = .ok (.bipush 21, 2) := by decide +kernel
theorem dL_act_80 : decode cL_act 80 = .ok (.irem, 1) := by decide +kernel
theorem dL_act_81 : decode cL_act 81 = .ok (.bipush 10, 2) := by decide +kernel
theorem dL_act_83 : decode cL_act 83 = .ok (.isub, 1) := by decide +kernel
theorem dL_act_84 : decode cL_act 84 = .ok (.iload_n 2, 1) := by decide +kernel
theorem dL_act_85 : decode cL_act 85 = .ok (.bipush 32, 2) := by decide +kernel
theorem dL_act_87 : decode cL_act 87 = .ok (.idiv, 1) := by decide +kernel
theorem dL_act_88 : decode cL_act 88 = .ok (.iconst 2, 1) := by decide +kernel
theorem dL_act_89 : decode cL_act 89 = .ok (.iload 5, 2) := by decide +kernel
theorem dL_act_91 : decode cL_act 91 = .ok (.imul, 1) := by decide +kernel
theorem dL_act_92 : decode cL_act 92 = .ok (.iconst 1, 1) := by decide +kernel
theorem dL_act_93 : decode cL_act 93 = .ok (.iadd, 1) := by decide +kernel
theorem dL_act_94 : decode cL_act 94 = .ok (.irem, 1) := by decide +kernel
theorem dL_act_95 : decode cL_act 95 = .ok (.iload 5, 2) := by decide +kernel
theorem dL_act_97 : decode cL_act 97 = .ok (.isub, 1) := by decide +kernel
theorem dL_act_98 : decode cL_act 98 = .ok (.invokestatic 170, 3) := by decide +kernel
theorem dL_act_101 : decode cL_act 101 = .ok (.ireturn, 1) := by decide +kernel
theorem dL_act_102 : decode cL_act 102 = .ok (.aload_n 0, 1) := by decide +kernel
theorem dL_act_103 : decode cL_act 103 = .ok (.iload_n 2, 1) := by decide +kernel
theorem dL_act_104 : decode cL_act 104 = .ok (.iload 4, 2) := by decide +kernel
theorem dL_act_106 : decode cL_act 106 = .ok (.irem, 1) := by decide +kernel
theorem dL_act_107 : decode cL_act 107 = .ok (.invokestatic 173, 3) := by decide +kernel
theorem dL_act_110 : decode cL_act 110 = .ok (.ireturn, 1) := by decide +kernel
theorem dL_act_111 : decode cL_act 111 = .ok (.aload_n 0, 1) := by decide +kernel
theorem dL_act_112 : decode cL_act 112 = .ok (.iload_n 2, 1) := by decide +kernel
theorem dL_act_113 : decode cL_act 113 = .ok (.iload_n 3, 1) := by decide +kernel
theorem dL_act_114 : decode cL_act 114 = .ok (.irem, 1) := by decide +kernel
theorem dL_act_115 : decode cL_act 115 = .ok (.aload_n 0, 1) := by decide +kernel
theorem dL_act_116 : decode cL_act 116 = .ok (.iload_n 2, 1) := by decide +kernel
theorem dL_act_117 : decode cL_act 117 = .ok (.iload_n 3, 1) := by decide +kernel
theorem dL_act_118 : decode cL_act 118 = .ok (.irem, 1) := by decide +kernel
theorem dL_act_119 : decode cL_act 119 = .ok (.iconst 1, 1) := by decide +kernel
theorem dL_act_120 : decode cL_act 120 = .ok (.invokestatic 160, 3) := by decide +kernel
theorem dL_act_123 : decode cL_act 123 = .ok (.iload_n 2, 1) := by decide +kernel
theorem dL_act_124 : decode cL_act 124 = .ok (.iconst 4, 1) := by decide +kernel
theorem dL_act_125 : decode cL_act 125 = .ok (.idiv, 1) := by decide +kernel
theorem dL_act_126 : decode cL_act 126 = .ok (.iconst 1, 1) := by decide +kernel
theorem dL_act_127 : decode cL_act 127 = .ok (.aload_n 0, 1) := by decide +kernel
theorem dL_act_128 : decode cL_act 128 = .ok (.iload_n 2, 1) := by decide +kernel
theorem dL_act_129 : decode cL_act 129 = .ok (.iload_n 3, 1) := by decide +kernel
theorem dL_act_130 : decode cL_act 130 = .ok (.irem, 1) := by decide +kernel
theorem dL_act_131 : decode cL_act 131 = .ok (.iconst 2, 1) := by decide +kernel
theorem dL_act_132 : decode cL_act 132 = .ok (.invokestatic 160, 3) := by decide +kernel
theorem dL_act_135 : decode cL_act 135 = .ok (.iadd, 1) := by decide +kernel
theorem dL_act_136 : decode cL_act 136 = .ok (.aload_n 0, 1) := by decide +kernel
theorem dL_act_137 : decode cL_act 137 = .ok (.iload_n 2, 1) := by decide +kernel
theorem dL_act_138 : decode cL_act 138 = .ok (.iload_n 3, 1) := by decide +kernel
theorem dL_act_139 : decode cL_act 139 = .ok (.irem, 1) := by decide +kernel
theorem dL_act_140 : decode cL_act 140 = .ok (.iconst 1, 1) := by decide +kernel
theorem dL_act_141 : decode cL_act 141 = .ok (.invokestatic 160, 3) := by decide +kernel
theorem dL_act_144 : decode cL_act 144 = .ok (.isub, 1) := by decide +kernel
theorem dL_act_145 : decode cL_act 145 = .ok (.irem, 1) := by decide +kernel
theorem dL_act_146 : decode cL_act 146 = .ok (.iadd, 1) := by decide +kernel
theorem dL_act_147 : decode cL_act 147 = .ok (.invokestatic 167, 3) := by decide +kernel
theorem dL_act_150 : decode cL_act 150 = .ok (.ireturn, 1) := by decide +kernel
theorem dL_act_151 : decode cL_act 151 = .ok (.iload_n 2, 1) := by decide +kernel
theorem dL_act_152 : decode cL_act 152 = .ok (.iconst 3, 1) := by decide +kernel
theorem dL_act_153 : decode cL_act 153 = .ok (.irem, 1) := by decide +kernel
theorem dL_act_154 : decode cL_act 154 = .ok (.ifCond .ne 32, 3) := by decide +kernel
theorem dL_act_157 : decode cL_act 157 = .ok (.aload_n 0, 1) := by decide +kernel
theorem dL_act_158 : decode cL_act 158 = .ok (.iload_n 2, 1) := by decide +kernel
theorem dL_act_159 : decode cL_act 159 = .ok (.iconst 3, 1) := by decide +kernel
theorem dL_act_160 : decode cL_act 160 = .ok (.idiv, 1) := by decide +kernel
theorem dL_act_161 : decode cL_act 161 = .ok (.iload_n 3, 1) := by decide +kernel
theorem dL_act_162 : decode cL_act 162 = .ok (.irem, 1) := by decide +kernel
theorem dL_act_163 : decode cL_act 163 = .ok (.iload_n 2, 1) := by decide +kernel
theorem dL_act_164 : decode cL_act 164 = .ok (.bipush 12, 2) := by decide +kernel
theorem dL_act_166 : decode cL_act 166 = .ok (.idiv, 1) := by decide +kernel
theorem dL_act_167 : decode cL_act 167 = .ok (.iload 4, 2) := by decide +kernel
theorem dL_act_169 : decode cL_act 169 = .ok (.irem, 1) := by decide +kernel
theorem dL_act_170 : decode cL_act 170 = .ok (.iload_n 2, 1) := by decide +kernel
theorem dL_act_171 : decode cL_act 171 = .ok (.bipush 64, 2) := by decide +kernel
theorem dL_act_173 : decode cL_act 173 = .ok (.idiv, 1) := by decide +kernel
theorem dL_act_174 : decode cL_act 174 = .ok (.bipush 61, 2) := by decide +kernel
theorem dL_act_176 : decode cL_act 176 = .ok (.irem, 1) := by decide +kernel
theorem dL_act_177 : decode cL_act 177 = .ok (.bipush 30, 2) := by decide +kernel
theorem dL_act_179 : decode cL_act 179 = .ok (.isub, 1) := by decide +kernel
theorem dL_act_180 : decode cL_act 180 = .ok (.invokestatic 179, 3) := by decide +kernel
theorem dL_act_183 : decode cL_act 183 = .ok (.goto 33, 3) := by decide +kernel
theorem dL_act_186 : decode cL_act 186 = .ok (.iload_n 2, 1) := by decide +kernel
theorem dL_act_187 : decode cL_act 187 = .ok (.iconst 3, 1) := by decide +kernel
theorem dL_act_188 : decode cL_act 188 = .ok (.irem, 1) := by decide +kernel
theorem dL_act_189 : decode cL_act 189 = .ok (.iconst 1, 1) := by decide +kernel
theorem dL_act_190 : decode cL_act 190 = .ok (.if_icmp .ne 16, 3) := by decide +kernel
theorem dL_act_193 : decode cL_act 193 = .ok (.aload_n 0, 1) := by decide +kernel
theorem dL_act_194 : decode cL_act 194 = .ok (.iload_n 2, 1) := by decide +kernel
theorem dL_act_195 : decode cL_act 195 = .ok (.iconst 3, 1) := by decide +kernel
theorem dL_act_196 : decode cL_act 196 = .ok (.idiv, 1) := by decide +kernel
theorem dL_act_197 : decode cL_act 197 = .ok (.bipush 10, 2) := by decide +kernel
theorem dL_act_199 : decode cL_act 199 = .ok (.irem, 1) := by decide +kernel
theorem dL_act_200 : decode cL_act 200 = .ok (.invokestatic 182, 3) := by decide +kernel
theorem dL_act_203 : decode cL_act 203 = .ok (.goto 13, 3) := by decide +kernel
theorem dL_act_206 : decode cL_act 206 = .ok (.aload_n 0, 1) := by decide +kernel
theorem dL_act_207 : decode cL_act 207 = .ok (.iload_n 2, 1) := by decide +kernel
theorem dL_act_208 : decode cL_act 208 = .ok (.iconst 3, 1) := by decide +kernel
theorem dL_act_209 : decode cL_act 209 = .ok (.idiv, 1) := by decide +kernel
theorem dL_act_210 : decode cL_act 210 = .ok (.bipush 12, 2) := by decide +kernel
theorem dL_act_212 : decode cL_act 212 = .ok (.irem, 1) := by decide +kernel
theorem dL_act_213 : decode cL_act 213 = .ok (.invokestatic 185, 3) := by decide +kernel
theorem dL_act_216 : decode cL_act 216 = .ok (.ireturn, 1) := by decide +kernel
theorem dL_act_217 : decode cL_act 217 = .ok (.aload_n 0, 1) := by decide +kernel
theorem dL_act_218 : decode cL_act 218 = .ok (.iload_n 2, 1) := by decide +kernel
theorem dL_act_219 : decode cL_act 219 = .ok (.iload_n 3, 1) := by decide +kernel
theorem dL_act_220 : decode cL_act 220 = .ok (.irem, 1) := by decide +kernel
theorem dL_act_221 : decode cL_act 221 = .ok (.iconst 1, 1) := by decide +kernel
theorem dL_act_222 : decode cL_act 222 = .ok (.iload_n 2, 1) := by decide +kernel
theorem dL_act_223 : decode cL_act 223 = .ok (.iconst 4, 1) := by decide +kernel
theorem dL_act_224 : decode cL_act 224 = .ok (.idiv, 1) := by decide +kernel
theorem dL_act_225 : decode cL_act 225 = .ok (.bipush 9, 2) := by decide +kernel
theorem dL_act_227 : decode cL_act 227 = .ok (.irem, 1) := by decide +kernel
theorem dL_act_228 : decode cL_act 228 = .ok (.iadd, 1) := by decide +kernel
theorem dL_act_229 : decode cL_act 229 = .ok (.invokestatic 176, 3) := by decide +kernel
theorem dL_act_232 : decode cL_act 232 = .ok (.ireturn, 1) := by decide +kernel
theorem dL_act_233 : decode cL_act 233 = .ok (.aload_n 0, 1) := by decide +kernel
theorem dL_act_234 : decode cL_act 234 = .ok (.invokestatic 141, 3) := by decide +kernel
theorem dL_act_237 : decode cL_act 237 = .ok (.ireturn, 1) := by decide +kernel
theorem dL_act_238 : decode cL_act 238 = .ok (.iload_n 2, 1) := by decide +kernel
theorem dL_act_239 : decode cL_act 239 = .ok (.iconst 2, 1) := by decide +kernel
theorem dL_act_240 : decode cL_act 240 = .ok (.irem, 1) := by decide +kernel
theorem dL_act_241 : decode cL_act 241 = .ok (.ifCond .ne 11, 3) := by decide +kernel
theorem dL_act_244 : decode cL_act 244 = .ok (.aload_n 0, 1) := by decide +kernel
theorem dL_act_245 : decode cL_act 245 = .ok (.iconst 1, 1) := by decide +kernel
theorem dL_act_246 : decode cL_act 246 = .ok (.invokestatic 227, 3) := by decide +kernel
theorem dL_act_249 : decode cL_act 249 = .ok (.goto 8, 3) := by decide +kernel
theorem dL_act_252 : decode cL_act 252 = .ok (.aload_n 0, 1) := by decide +kernel
theorem dL_act_253 : decode cL_act 253 = .ok (.iconst 1, 1) := by decide +kernel
theorem dL_act_254 : decode cL_act 254 = .ok (.invokestatic 144, 3) := by decide +kernel
theorem dL_act_257 : decode cL_act 257 = .ok (.ireturn, 1) := by decide +kernel
