theorem dL_append_0 : decode cL_append 0 = .ok (.aload_n 2, 1) := by decide +kernel
theorem dL_append_1 : decode cL_append 1 = .ok (.iconst 0, 1) := by decide +kernel
theorem dL_append_2 : decode cL_append 2 = .ok (.aload_n 0, 1) := by decide +kernel
theorem dL_append_3 : decode cL_append 3 = .ok (.iload_n 1, 1) := by decide +kernel
theorem dL_append_4 : decode cL_append 4 = .ok (.invokevirtual 7, 3) := by decide +kernel
theorem dL_append_7 : decode cL_append 7 = .ok (.i2l, 1) := by decide +kernel
theorem dL_append_8 : decode cL_append 8 = .ok (.lastore, 1) := by decide +kernel
theorem dL_append_9 : decode cL_append 9 = .ok (.goto 9, 3) := by decide +kernel
theorem dL_append_12 : decode cL_append 12 = .ok (.astore_n 3, 1) := by decide +kernel
theorem dL_append_13 : decode cL_append 13 = .ok (.iconst 1, 1) := by decide +kernel
theorem dL_append_14 : decode cL_append 14 = .ok (.ireturn, 1) := by decide +kernel
theorem dL_append_15 : decode cL_append 15 = .ok (.astore_n 3, 1) := by decide +kernel
theorem dL_append_16 : decode cL_append 16 = .ok (.iconst 2, 1) := by decide +kernel
theorem dL_append_17 : decode cL_append 17 = .ok (.ireturn, 1) := by decide +kernel
theorem dL_append_18 : decode cL_append 18 = .ok (.iconst 0, 1) := by decide +kernel
theorem dL_append_19 : decode cL_append 19 = .ok (.ireturn, 1) := by decide +kernel
theorem dL_load_0 : decode cL_load 0 = .ok (.aload_n 1, 1) := by decide +kernel
theorem dL_load_1 : decode cL_load 1 = .ok (.iconst 0, 1) := by decide +kernel
theorem dL_load_2 : decode cL_load 2 = .ok (.aload_n 0, 1) := by decide +kernel
theorem dL_load_3 : decode cL_load 3 = .ok (.invokevirtual 17, 3) := by decide +kernel
theorem dL_load_6 : decode cL_load 6 = .ok (.i2l, 1) := by decide +kernel
theorem dL_load_7 : decode cL_load 7 = .ok (.lastore, 1) := by decide +kernel
theorem dL_load_8 : decode cL_load 8 = .ok (.goto 6, 3) := by decide +kernel
theorem dL_load_11 : decode cL_load 11 = .ok (.astore_n 2, 1) := by decide +kernel
theorem dL_load_12 : decode cL_load 12 = .ok (.iconst 1, 1) := by decide +kernel
theorem dL_load_13 : decode cL_load 13 = .ok (.ireturn, 1) := by decide +kernel
theorem dL_load_14 : decode cL_load 14 = .ok (.iconst 0, 1) := by decide +kernel
theorem dL_load_15 : decode cL_load 15 = .ok (.ireturn, 1) := by decide +kernel
theorem dL_about_0 : decode cL_about 0 = .ok (.aload_n 2, 1) := by decide +kernel
theorem dL_about_1 : decode cL_about 1 = .ok (.iconst 0, 1) := by decide +kernel
theorem dL_about_2 : decode cL_about 2 = .ok (.aload_n 0, 1) := by decide +kernel
theorem dL_about_3 : decode cL_about 3 = .ok (.iload_n 1, 1) := by decide +kernel
theorem dL_about_4 : decode cL_about 4 = .ok (.invokevirtual 21, 3) := by decide +kernel
theorem dL_about_7 : decode cL_about 7 = .ok (.i2l, 1) := by decide +kernel
theorem dL_about_8 : decode cL_about 8 = .ok (.lastore, 1) := by decide +kernel
theorem dL_about_9 : decode cL_about 9 = .ok (.goto 6, 3) := by decide +kernel
theorem dL_about_12 : decode cL_about 12 = .ok (.astore_n 3, 1) := by decide +kernel
theorem dL_about_13 : decode cL_about 13 = .ok (.iconst 1, 1) := by decide +kernel
theorem dL_about_14 : decode cL_about 14 = .ok (.ireturn, 1) := by decide +kernel
theorem dL_about_15 : decode cL_about 15 = .ok (.iconst 0, 1) := by decide +kernel
theorem dL_about_16 : decode cL_about 16 = .ok (.ireturn, 1) := by decide +kernel
theorem dL_coefficient_0 : decode cL_coefficient 0 = .ok (.aload 4, 2) := by decide +kernel
theorem dL_coefficient_2 : decode cL_coefficient 2 = .ok (.iconst 0, 1) := by decide +kernel
theorem dL_coefficient_3 : decode cL_coefficient 3 = .ok (.aload_n 0, 1) := by decide +kernel
theorem dL_coefficient_4 : decode cL_coefficient 4 = .ok (.iload_n 1, 1) := by decide +kernel
theorem dL_coefficient_5 : decode cL_coefficient 5 = .ok (.iload_n 2, 1) := by decide +kernel
theorem dL_coefficient_6 : decode cL_coefficient 6 = .ok (.iload_n 3, 1) := by decide +kernel
theorem dL_coefficient_7 : decode cL_coefficient 7 = .ok (.invokevirtual 24, 3) := by decide +kernel
theorem dL_coefficient_10 : decode cL_coefficient 10 = .ok (.i2l, 1) := by decide +kernel
theorem dL_coefficient_11 : decode cL_coefficient 11 = .ok (.lastore, 1) := by decide +kernel
theorem dL_coefficient_12 : decode cL_coefficient 12 = .ok (.goto 11, 3) := by decide +kernel
theorem dL_coefficient_15 : decode cL_coefficient 15 = .ok (.astore 5, 2) := by decide +kernel
theorem dL_coefficient_17 : decode cL_coefficient 17 = .ok (.iconst 1, 1) := by decide +kernel
theorem dL_coefficient_18 : decode cL_coefficient 18 = .ok (.ireturn, 1) := by decide +kernel
theorem dL_coefficient_19 : decode cL_coefficient 19 = .ok (.astore 5, 2) := by decide +kernel
theorem dL_coefficient_21 : decode cL_coefficient 21 = .ok (.iconst 2, 1) := by decide +kernel
theorem dL_coefficient_22 : decode cL_coefficient 22 = .ok (.ireturn, 1) := by decide +kernel
theorem dL_coefficient_23 : decode cL_coefficient 23 = .ok (.iconst 0, 1) := by decide +kernel
theorem dL_coefficient_24 : decode cL_coefficient 24 = .ok (.ireturn, 1) := by decide +kernel
theorem dL_state_0 : decode cL_state 0 = .ok (.aload_n 3, 1) := by decide +kernel
theorem dL_state_1 : decode cL_state 1 = .ok (.iconst 0, 1) := by decide +kernel
theorem dL_state_2 : decode cL_state 2 = .ok (.aload_n 0, 1) := by decide +kernel
theorem dL_state_3 : decode cL_state 3 = .ok (.iload_n 1, 1) := by decide +kernel
theorem dL_state_4 : decode cL_state 4 = .ok (.iload_n 2, 1) := by decide +kernel
theorem dL_state_5 : decode cL_state 5 = .ok (.invokevirtual 30, 3) := by decide +kernel
theorem dL_state_8 : decode cL_state 8 = .ok (.i2l, 1) := by decide +kernel
theorem dL_state_9 : decode cL_state 9 = .ok (.lastore, 1) := by decide +kernel
theorem dL_state_10 : decode cL_state 10 = .ok (.goto 11, 3) := by decide +kernel
theorem dL_state_13 : decode cL_state 13 = .ok (.astore 4, 2) := by decide +kernel
theorem dL_state_15 : decode cL_state 15 = .ok (.iconst 1, 1) := by decide +kernel
theorem dL_state_16 : decode cL_state 16 = .ok (.ireturn, 1) := by decide +kernel
theorem dL_state_17 : decode cL_state 17 = .ok (.astore 4, 2) := by decide +kernel
theorem dL_state_19 : decode cL_state 19 = .ok (.iconst 2, 1) := by decide +kernel
theorem dL_state_20 : decode cL_state 20 = .ok (.ireturn, 1) := by decide +kernel
theorem dL_state_21 : decode cL_state 21 = .ok (.iconst 0, 1) := by decide +kernel
theorem dL_state_22 : decode cL_state 22 = .ok (.ireturn, 1) := by decide +kernel
theorem dL_output_0 : decode cL_output 0 = .ok (.aload_n 3, 1) := by decide +kernel
theorem dL_output_1 : decode cL_output 1 = .ok (.iconst 0, 1) := by decide +kernel
theorem dL_output_2 : decode cL_output 2 = .ok (.aload_n 0, 1) := by decide +kernel
theorem dL_output_3 : decode cL_output 3 = .ok (.iload_n 1, 1) := by decide +kernel
theorem dL_output_4 : decode cL_output 4 = .ok (.iload_n 2, 1) := by decide +kernel
theorem dL_output_5 : decode cL_output 5 = .ok (.invokevirtual 34, 3) := by decide +kernel
theorem dL_output_8 : decode cL_output 8 = .ok (.i2l, 1) := by decide +kernel
theorem dL_output_9 : decode cL_output 9 = .ok (.lastore, 1) := by decide +kernel
theorem dL_output_10 : decode cL_output 10 = .ok (.goto 15, 3) := by decide +kernel
theorem dL_output_13 : decode cL_output 13 = .ok (.astore 4, 2) := by decide +kernel
theorem dL_output_15 : decode cL_output 15 = .ok (.iconst 1, 1) := by decide +kernel
theorem dL_output_16 : decode cL_output 16 = .ok (.ireturn, 1) := by decide +kernel
theorem dL_output_17 : decode cL_output 17 = .ok (.astore 4, 2) := by decide +kernel
theorem dL_output_19 : decode cL_output 19 = .ok (.iconst 2, 1) := by decide +kernel
theorem dL_output_20 : decode cL_output 20 = .ok (.ireturn, 1) := by decide +kernel
theorem dL_output_21 : decode cL_output 21 = .ok (.astore 4, 2) := by decide +kernel
theorem dL_output_23 : decode cL_output 23 = .ok (.iconst 3, 1) := by decide +kernel
theorem dL_output_24 : decode cL_output 24 = .ok (.ireturn, 1) := by decide +kernel
theorem dL_output_25 : decode cL_output 25 = .ok (.iconst 0, 1) := by decide +kernel
theorem dL_output_26 : decode cL_output 26 = .ok (.ireturn, 1) := by decide +kernel
theorem dL_place_0 : decode cL_place 0 = .ok (.aload_n 3, 1) := by decide +kernel
theorem dL_place_1 : decode cL_place 1 = .ok (.iconst 0, 1) := by decide +kernel
theorem dL_place_2 : decode cL_place 2 = .ok (.aload_n 0, 1) := by decide +kernel
theorem dL_place_3 : decode cL_place 3 = .ok (.iload_n 1, 1) := by decide +kernel
theorem dL_place_4 : decode cL_place 4 = .ok (.iload_n 2, 1) := by decide +kernel
theorem dL_place_5 : decode cL_place 5 = .ok (.invokevirtual 37, 3) := by decide +kernel
theorem dL_place_8 : decode cL_place 8 = .ok (.i2l, 1) := by decide +kernel
theorem dL_place_9 : decode cL_place 9 = .ok (.lastore, 1) := by decide +kernel
theorem dL_place_10 : decode cL_place 10 = .ok (.goto 11, 3) := by decide +kernel
theorem dL_place_13 : decode cL_place 13 = .ok (.astore 4, 2) := by decide +kernel
theorem dL_place_15 : decode cL_place 15 = .ok (.iconst 1, 1) := by decide +kernel
theorem dL_place_16 : decode cL_place 16 = .ok (.ireturn, 1) := by decide +kernel
theorem dL_place_17 : decode cL_place 17 = .ok (.astore 4, 2) := by decide +kernel
theorem dL_place_19 : decode cL_place 19 = .ok (.iconst 2, 1) := by decide +kernel
theorem dL_place_20 : decode cL_place 20 = .ok (.ireturn, 1) := by decide +kernel
theorem dL_place_21 : decode cL_place 21 = .ok (.iconst 0, 1) := by decide +kernel
theorem dL_place_22 : decode cL_place 22 = .ok (.ireturn, 1) := by decide +kernel
theorem dL_step_0 : decode cL_step 0 = .ok (.aload_n 3, 1) := by decide +kernel
theorem dL_step_1 : decode cL_step 1 = .ok (.iconst 0, 1) := by decide +kernel
theorem dL_step_2 : decode cL_step 2 = .ok (.aload_n 0, 1) := by decide +kernel
theorem dL_step_3 : decode cL_step 3 = .ok (.iload_n 1, 1) := by decide +kernel
theorem dL_step_4 : decode cL_step 4 = .ok (.iload_n 2, 1) := by decide +kernel
theorem dL_step_5 : decode cL_step 5 = .ok (.invokevirtual 40, 3) := by decide +kernel
theorem dL_step_8 : decode cL_step 8 = .ok (.i2l, 1) := by decide +kernel
theorem dL_step_9 : decode cL_step 9 = .ok (.lastore, 1) := by decide +kernel
theorem dL_step_10 : decode cL_step 10 = .ok (.goto 7, 3) := by decide +kernel
theorem dL_step_13 : decode cL_step 13 = .ok (.astore 4, 2) := by decide +kernel
theorem dL_step_15 : decode cL_step 15 = .ok (.iconst 1, 1) := by decide +kernel
theorem dL_step_16 : decode cL_step 16 = .ok (.ireturn, 1) := by decide +kernel
theorem dL_step_17 : decode cL_step 17 = .ok (.iconst 0, 1) := by decide +kernel
theorem dL_step_18 : decode cL_step 18 = .ok (.ireturn, 1) := by decide +kernel
theorem dL_read_0 : decode cL_read 0 = .ok (.aload_n 2, 1) := by decide +kernel
theorem dL_read_1 : decode cL_read 1 = .ok (.iconst 0, 1) := by decide +kernel
theorem dL_read_2 : decode cL_read 2 = .ok (.aload_n 0, 1) := by decide +kernel
theorem dL_read_3 : decode cL_read 3 = .ok (.iload_n 1, 1) := by decide +kernel
theorem dL_read_4 : decode cL_read 4 = .ok (.invokevirtual 43, 3) := by decide +kernel
theorem dL_read_7 : decode cL_read 7 = .ok (.i2l, 1) := by decide +kernel
theorem dL_read_8 : decode cL_read 8 = .ok (.lastore, 1) := by decide +kernel
theorem dL_read_9 : decode cL_read 9 = .ok (.goto 6, 3) := by decide +kernel
theorem dL_read_12 : decode cL_read 12 = .ok (.astore_n 3, 1) := by decide +kernel
theorem dL_read_13 : decode cL_read 13 = .ok (.iconst 1, 1) := by decide +kernel
theorem dL_read_14 : decode cL_read 14 = .ok (.ireturn, 1) := by decide +kernel
theorem dL_read_15 : decode cL_read 15 = .ok (.iconst 0, 1) := by decide +kernel
theorem dL_read_16 : decode cL_read 16 = .ok (.ireturn, 1) := by decide +kernel
theorem dL_shave_0 : decode cL_shave 0 = .ok (.aload_n 3, 1) := by decide +kernel
theorem dL_shave_1 : decode cL_shave 1 = .ok (.iconst 0, 1) := by decide +kernel
theorem dL_shave_2 : decode cL_shave 2 = .ok (.aload_n 0, 1) := by decide +kernel
theorem dL_shave_3 : decode cL_shave 3 = .ok (.iload_n 1, 1) := by decide +kernel
theorem dL_shave_4 : decode cL_shave 4 = .ok (.iload_n 2, 1) := by decide +kernel
theorem dL_shave_5 : decode cL_shave 5 = .ok (.invokevirtual 46, 3) := by decide +kernel
theorem dL_shave_8 : decode cL_shave 8 = .ok (.i2l, 1) := by decide +kernel
theorem dL_shave_9 : decode cL_shave 9 = .ok (.lastore, 1) := by decide +kernel
theorem dL_shave_10 : decode cL_shave 10 = .ok (.goto 11, 3) := by decide +kernel
theorem dL_shave_13 : decode cL_shave 13 = .ok (.astore 4, 2) := by decide +kernel
theorem dL_shave_15 : decode cL_shave 15 = .ok (.iconst 1, 1) := by decide +kernel
theorem dL_shave_16 : decode cL_shave 16 = .ok (.ireturn, 1) := by decide +kernel
theorem dL_shave_17 : decode cL_shave 17 = .ok (.astore 4, 2) := by decide +kernel
theorem dL_shave_19 : decode cL_shave 19 = .ok (.iconst 2, 1) := by decide +kernel
theorem dL_shave_20 : decode cL_shave 20 = .ok (.ireturn, 1) := by decide +kernel
theorem dL_shave_21 : decode cL_shave 21 = .ok (.iconst 0, 1) := by decide +kernel
theorem dL_shave_22 : decode cL_shave 22 = .ok (.ireturn, 1) := by decide +kernel
theorem dL_setGain_0 : decode cL_setGain 0 = .ok (.aload 4, 2) := by decide +kernel
theorem dL_setGain_2 : decode cL_setGain 2 = .ok (.iconst 0, 1) := by decide +kernel
theorem dL_setGain_3 : decode cL_setGain 3 = .ok (.aload_n 0, 1) := by decide +kernel
theorem dL_setGain_4 : decode cL_setGain 4 = .ok (.iload_n 1, 1) := by decide +kernel
theorem dL_setGain_5 : decode cL_setGain 5 = .ok (.iload_n 2, 1) := by decide +kernel
theorem dL_setGain_6 : decode cL_setGain 6 = .ok (.iload_n 3, 1) := by decide +kernel
theorem dL_setGain_7 : decode cL_setGain 7 = .ok (.invokevirtual 49, 3) := by decide +kernel
theorem dL_setGain_10 : decode cL_setGain 10 = .ok (.i2l, 1) := by decide +kernel
theorem dL_setGain_11 : decode cL_setGain 11 = .ok (.lastore, 1) := by decide +kernel
theorem dL_setGain_12 : decode cL_setGain 12 = .ok (.goto 11, 3) := by decide +kernel
theorem dL_setGain_15 : decode cL_setGain 15 = .ok (.astore 5, 2) := by decide +kernel
theorem dL_setGain_17 : decode cL_setGain 17 = .ok (.iconst 1, 1) := by decide +kernel
theorem dL_setGain_18 : decode cL_setGain 18 = .ok (.ireturn, 1) := by decide +kernel
theorem dL_setGain_19 : decode cL_setGain 19 = .ok (.astore 5, 2) := by decide +kernel
theorem dL_setGain_21 : decode cL_setGain 21 = .ok (.iconst 2, 1) := by decide +kernel
theorem dL_setGain_22 : decode cL_setGain 22 = .ok (.ireturn, 1) := by decide +kernel
theorem dL_setGain_23 : decode cL_setGain 23 = .ok (.iconst 0, 1) := by decide +kernel
theorem dL_setGain_24 : decode cL_setGain 24 = .ok (.ireturn, 1) := by decide +kernel
theorem dL_setHold_0 : decode cL_setHold 0 = .ok (.aload_n 2, 1) := by decide +kernel
theorem dL_setHold_1 : decode cL_setHold 1 = .ok (.iconst 0, 1) := by decide +kernel
theorem dL_setHold_2 : decode cL_setHold 2 = .ok (.aload_n 0, 1) := by decide +kernel
theorem dL_setHold_3 : decode cL_setHold 3 = .ok (.iload_n 1, 1) := by decide +kernel
theorem dL_setHold_4 : decode cL_setHold 4 = .ok (.invokevirtual 52, 3) := by decide +kernel
theorem dL_setHold_7 : decode cL_setHold 7 = .ok (.i2l, 1) := by decide +kernel
theorem dL_setHold_8 : decode cL_setHold 8 = .ok (.lastore, 1) := by decide +kernel
theorem dL_setHold_9 : decode cL_setHold 9 = .ok (.goto 6, 3) := by decide +kernel
theorem dL_setHold_12 : decode cL_setHold 12 = .ok (.astore_n 3, 1) := by decide +kernel
theorem dL_setHold_13 : decode cL_setHold 13 = .ok (.iconst 1, 1) := by decide +kernel
theorem dL_setHold_14 : decode cL_setHold 14 = .ok (.ireturn, 1) := by decide +kernel
theorem dL_setHold_15 : decode cL_setHold 15 = .ok (.iconst 0, 1) := by decide +kernel
theorem dL_setHold_16 : decode cL_setHold 16 = .ok (.ireturn, 1) := by decide +kernel
theorem dL_setBound_0 : decode cL_setBound 0 = .ok (.aload_n 2, 1) := by decide +kernel
theorem dL_setBound_1 : decode cL_setBound 1 = .ok (.iconst 0, 1) := by decide +kernel
theorem dL_setBound_2 : decode cL_setBound 2 = .ok (.aload_n 0, 1) := by decide +kernel
theorem dL_setBound_3 : decode cL_setBound 3 = .ok (.iload_n 1, 1) := by decide +kernel
theorem dL_setBound_4 : decode cL_setBound 4 = .ok (.invokevirtual 55, 3) := by decide +kernel
theorem dL_setBound_7 : decode cL_setBound 7 = .ok (.i2l, 1) := by decide +kernel
theorem dL_setBound_8 : decode cL_setBound 8 = .ok (.lastore, 1) := by decide +kernel
theorem dL_setBound_9 : decode cL_setBound 9 = .ok (.goto 6, 3) := by decide +kernel
theorem dL_setBound_12 : decode cL_setBound 12 = .ok (.astore_n 3, 1) := by decide +kernel
theorem dL_setBound_13 : decode cL_setBound 13 = .ok (.iconst 1, 1) := by decide +kernel
theorem dL_setBound_14 : decode cL_setBound 14 = .ok (.ireturn, 1) := by decide +kernel
theorem dL_setBound_15 : decode cL_setBound 15 = .ok (.iconst 0, 1) := by decide +kernel
theorem dL_setBound_16 : decode cL_setBound 16 = .ok (.ireturn, 1) := by decide +kernel
theorem dL_undo_0 : decode cL_undo 0 = .ok (.aload_n 1, 1) := by decide +kernel
theorem dL_undo_1 : decode cL_undo 1 = .ok (.iconst 0, 1) := by decide +kernel
theorem dL_undo_2 : decode cL_undo 2 = .ok (.aload_n 0, 1) := by decide +kernel
theorem dL_undo_3 : decode cL_undo 3 = .ok (.invokevirtual 58, 3) := by decide +kernel
theorem dL_undo_6 : decode cL_undo 6 = .ok (.i2l, 1) := by decide +kernel
theorem dL_undo_7 : decode cL_undo 7 = .ok (.lastore, 1) := by decide +kernel
theorem dL_undo_8 : decode cL_undo 8 = .ok (.goto 6, 3) := by decide +kernel
theorem dL_undo_11 : decode cL_undo 11 = .ok (.astore_n 2, 1) := by decide +kernel
theorem dL_undo_12 : decode cL_undo 12 = .ok (.iconst 1, 1) := by decide +kernel
theorem dL_undo_13 : decode cL_undo 13 = .ok (.ireturn, 1) := by decide +kernel
theorem dL_undo_14 : decode cL_undo 14 = .ok (.iconst 0, 1) := by decide +kernel
theorem dL_undo_15 : decode cL_undo 15 = .ok (.ireturn, 1) := by decide +kernel
theorem dL_canBe_0 : decode cL_canBe 0 = .ok (.aload 5, 2) := by decide +kernel
theorem dL_canBe_2 : decode cL_canBe 2 = .ok (.iconst 0, 1) := by decide +kernel
theorem dL_canBe_3 : decode cL_canBe 3 = .ok (.aload_n 0, 1) := by decide +kernel
theorem dL_canBe_4 : decode cL_canBe 4 = .ok (.iload_n 1, 1) := by decide +kernel
theorem dL_canBe_5 : decode cL_canBe 5 = .ok (.iload_n 2, 1) := by decide +kernel
theorem dL_canBe_6 : decode cL_canBe 6 = .ok (.iload_n 3, 1) := by decide +kernel
theorem dL_canBe_7 : decode cL_canBe 7 = .ok (.iload 4, 2) := by decide +kernel
theorem dL_canBe_9 : decode cL_canBe 9 = .ok (.invokevirtual 61, 3) := by decide +kernel
theorem dL_canBe_12 : decode cL_canBe 12 = .ok (.ifCond .eq 7, 3) := by decide +kernel
theorem dL_canBe_15 : decode cL_canBe 15 = .ok (.lconst 1, 1) := by decide +kernel
theorem dL_canBe_16 : decode cL_canBe 16 = .ok (.goto 4, 3) := by decide +kernel
theorem dL_canBe_19 : decode cL_canBe 19 = .ok (.lconst 0, 1) := by decide +kernel
theorem dL_canBe_20 : decode cL_canBe 20 = .ok (.lastore, 1) := by decide +kernel
theorem dL_canBe_21 : decode cL_canBe 21 = .ok (.goto 7, 3) := by decide +kernel
theorem dL_canBe_24 : decode cL_canBe 24 = .ok (.astore 6, 2) := by decide +kernel
theorem dL_canBe_26 : decode cL_canBe 26 = .ok (.iconst 1, 1) := by decide +kernel
theorem dL_canBe_27 : decode cL_canBe 27 = .ok (.ireturn, 1) := by decide +kernel
theorem dL_canBe_28 : decode cL_canBe 28 = .ok (.iconst 0, 1) := by decide +kernel
theorem dL_canBe_29 : decode cL_canBe 29 = .ok (.ireturn, 1) := by decide +kernel
theorem dL_widthIf_0 : decode cL_widthIf 0 = .ok (.aload_n 3, 1) := by decide +kernel
theorem dL_widthIf_1 : decode cL_widthIf 1 = .ok (.iconst 0, 1) := by decide +kernel
theorem dL_widthIf_2 : decode cL_widthIf 2 = .ok (.aload_n 0, 1) := by decide +kernel
theorem dL_widthIf_3 : decode cL_widthIf 3 = .ok (.iload_n 1, 1) := by decide +kernel
theorem dL_widthIf_4 : decode cL_widthIf 4 = .ok (.iload_n 2, 1) := by decide +kernel
theorem dL_widthIf_5 : decode cL_widthIf 5 = .ok (.invokevirtual 65, 3) := by decide +kernel
theorem dL_widthIf_8 : decode cL_widthIf 8 = .ok (.i2l, 1) := by decide +kernel
theorem dL_widthIf_9 : decode cL_widthIf 9 = .ok (.lastore, 1) := by decide +kernel
theorem dL_widthIf_10 : decode cL_widthIf 10 = .ok (.goto 11, 3) := by decide +kernel
theorem dL_widthIf_13 : decode cL_widthIf 13 = .ok (.astore 4, 2) := by decide +kernel
theorem dL_widthIf_15 : decode cL_widthIf 15 = .ok (.iconst 1, 1) := by decide +kernel
theorem dL_widthIf_16 : decode cL_widthIf 16 = .ok (.ireturn, 1) := by decide +kernel
theorem dL_widthIf_17 : decode cL_widthIf 17 = .ok (.astore 4, 2) := by decide +kernel
theorem dL_widthIf_19 : decode cL_widthIf 19 = .ok (.iconst 2, 1) := by decide +kernel
theorem dL_widthIf_20 : decode cL_widthIf 20 = .ok (.ireturn, 1) := by decide +kernel
theorem dL_widthIf_21 : decode cL_widthIf 21 = .ok (.iconst 0, 1) := by decide +kernel
theorem dL_widthIf_22 : decode cL_widthIf 22 = .ok (.ireturn, 1) := by decide +kernel
theorem dL_ahead_0 : decode cL_ahead 0 = .ok (.aload 5, 2) := by decide +kernel
theorem dL_ahead_2 : decode cL_ahead 2 = .ok (.iconst 0, 1) := by decide +kernel
theorem dL_ahead_3 : decode cL_ahead 3 = .ok (.aload_n 0, 1) := by decide +kernel
theorem dL_ahead_4 : decode cL_ahead 4 = .ok (.iload_n 1, 1) := by decide +kernel
theorem dL_ahead_5 : decode cL_ahead 5 = .ok (.iload_n 2, 1) := by decide +kernel
theorem dL_ahead_6 : decode cL_ahead 6 = .ok (.iload_n 3, 1) := by decide +kernel
theorem dL_ahead_7 : decode cL_ahead 7 = .ok (.iload 4, 2) := by decide +kernel
theorem dL_ahead_9 : decode cL_ahead 9 = .ok (.invokevirtual 68, 3) := by decide +kernel
theorem dL_ahead_12 : decode cL_ahead 12 = .ok (.i2l, 1) := by decide +kernel
theorem dL_ahead_13 : decode cL_ahead 13 = .ok (.lastore, 1) := by decide +kernel
theorem dL_ahead_14 : decode cL_ahead 14 = .ok (.goto 11, 3) := by decide +kernel
theorem dL_ahead_17 : decode cL_ahead 17 = .ok (.astore 6, 2) := by decide +kernel
theorem dL_ahead_19 : decode cL_ahead 19 = .ok (.iconst 1, 1) := by decide +kernel
theorem dL_ahead_20 : decode cL_ahead 20 = .ok (.ireturn, 1) := by decide +kernel
theorem dL_ahead_21 : decode cL_ahead 21 = .ok (.astore 6, 2) := by decide +kernel
theorem dL_ahead_23 : decode cL_ahead 23 = .ok (.iconst 2, 1) := by decide +kernel
theorem dL_ahead_24 : decode cL_ahead 24 = .ok (.ireturn, 1) := by decide +kernel
theorem dL_ahead_25 : decode cL_ahead 25 = .ok (.iconst 0, 1) := by decide +kernel
theorem dL_ahead_26 : decode cL_ahead 26 = .ok (.ireturn, 1) := by decide +kernel
theorem dL_earliest_0 : decode cL_earliest 0 = .ok (.aload 5, 2) := by decide +kernel
theorem dL_earliest_2 : decode cL_earliest 2 = .ok (.iconst 0, 1) := by decide +kernel
theorem dL_earliest_3 : decode cL_earliest 3 = .ok (.aload_n 0, 1) := by decide +kernel
theorem dL_earliest_4 : decode cL_earliest 4 = .ok (.iload_n 1, 1) := by decide +kernel
theorem dL_earliest_5 : decode cL_earliest 5 = .ok (.iload_n 2, 1) := by decide +kernel
theorem dL_earliest_6 : decode cL_earliest 6 = .ok (.iload_n 3, 1) := by decide +kernel
theorem dL_earliest_7 : decode cL_earliest 7 = .ok (.iload 4, 2) := by decide +kernel
theorem dL_earliest_9 : decode cL_earliest 9 = .ok (.invokevirtual 72, 3) := by decide +kernel
theorem dL_earliest_12 : decode cL_earliest 12 = .ok (.i2l, 1) := by decide +kernel
theorem dL_earliest_13 : decode cL_earliest 13 = .ok (.lastore, 1) := by decide +kernel
theorem dL_earliest_14 : decode cL_earliest 14 = .ok (.goto 11, 3) := by decide +kernel
theorem dL_earliest_17 : decode cL_earliest 17 = .ok (.astore 6, 2) := by decide +kernel
theorem dL_earliest_19 : decode cL_earliest 19 = .ok (.iconst 1, 1) := by decide +kernel
theorem dL_earliest_20 : decode cL_earliest 20 = .ok (.ireturn, 1) := by decide +kernel
theorem dL_earliest_21 : decode cL_earliest 21 = .ok (.astore 6, 2) := by decide +kernel
theorem dL_earliest_23 : decode cL_earliest 23 = .ok (.iconst 2, 1) := by decide +kernel
theorem dL_earliest_24 : decode cL_earliest 24 = .ok (.ireturn, 1) := by decide +kernel
theorem dL_earliest_25 : decode cL_earliest 25 = .ok (.iconst 0, 1) := by decide +kernel
theorem dL_earliest_26 : decode cL_earliest 26 = .ok (.ireturn, 1) := by decide +kernel
theorem dL_unknown_0 : decode cL_unknown 0 = .ok (.aload_n 2, 1) := by decide +kernel
theorem dL_unknown_1 : decode cL_unknown 1 = .ok (.iconst 0, 1) := by decide +kernel
theorem dL_unknown_2 : decode cL_unknown 2 = .ok (.aload_n 0, 1) := by decide +kernel
theorem dL_unknown_3 : decode cL_unknown 3 = .ok (.iload_n 1, 1) := by decide +kernel
theorem dL_unknown_4 : decode cL_unknown 4 = .ok (.invokevirtual 75, 3) := by decide +kernel
theorem dL_unknown_7 : decode cL_unknown 7 = .ok (.i2l, 1) := by decide +kernel
theorem dL_unknown_8 : decode cL_unknown 8 = .ok (.lastore, 1) := by decide +kernel
theorem dL_unknown_9 : decode cL_unknown 9 = .ok (.goto 6, 3) := by decide +kernel
theorem dL_unknown_12 : decode cL_unknown 12 = .ok (.astore_n 3, 1) := by decide +kernel
theorem dL_unknown_13 : decode cL_unknown 13 = .ok (.iconst 1, 1) := by decide +kernel
theorem dL_unknown_14 : decode cL_unknown 14 = .ok (.ireturn, 1) := by decide +kernel
theorem dL_unknown_15 : decode cL_unknown 15 = .ok (.iconst 0, 1) := by decide +kernel
theorem dL_unknown_16 : decode cL_unknown 16 = .ok (.ireturn, 1) := by decide +kernel
theorem dL_rankAfter_0 : decode cL_rankAfter 0 = .ok (.aload_n 2, 1) := by decide +kernel
theorem dL_rankAfter_1 : decode cL_rankAfter 1 = .ok (.iconst 0, 1) := by decide +kernel
theorem dL_rankAfter_2 : decode cL_rankAfter 2 = .ok (.aload_n 0, 1) := by decide +kernel
theorem dL_rankAfter_3 : decode cL_rankAfter 3 = .ok (.iload_n 1, 1) := by decide +kernel
theorem dL_rankAfter_4 : decode cL_rankAfter 4 = .ok (.invokevirtual 79, 3) := by decide +kernel
theorem dL_rankAfter_7 : decode cL_rankAfter 7 = .ok (.i2l, 1) := by decide +kernel
theorem dL_rankAfter_8 : decode cL_rankAfter 8 = .ok (.lastore, 1) := by decide +kernel
theorem dL_rankAfter_9 : decode cL_rankAfter 9 = .ok (.goto 6, 3) := by decide +kernel
theorem dL_rankAfter_12 : decode cL_rankAfter 12 = .ok (.astore_n 3, 1) := by decide +kernel
theorem dL_rankAfter_13 : decode cL_rankAfter 13 = .ok (.iconst 1, 1) := by decide +kernel
theorem dL_rankAfter_14 : decode cL_rankAfter 14 = .ok (.ireturn, 1) := by decide +kernel
theorem dL_rankAfter_15 : decode cL_rankAfter 15 = .ok (.iconst 0, 1) := by decide +kernel
theorem dL_rankAfter_16 : decode cL_rankAfter 16 = .ok (.ireturn, 1) := by decide +kernel
theorem dL_hiddenDimension_0 : decode cL_hiddenDimension 0 = .ok (.aload_n 2, 1) := by decide +kernel
theorem dL_hiddenDimension_1 : decode cL_hiddenDimension 1 = .ok (.iconst 0, 1) := by decide +kernel
theorem dL_hiddenDimension_2 : decode cL_hiddenDimension 2 = .ok (.aload_n 0, 1) := by decide +kernel
theorem dL_hiddenDimension_3 : decode cL_hiddenDimension 3 = .ok (.iload_n 1, 1) := by decide +kernel
theorem dL_hiddenDimension_4 : decode cL_hiddenDimension 4 = .ok (.invokevirtual 82, 3) := by decide +kernel
theorem dL_hiddenDimension_7 : decode cL_hiddenDimension 7 = .ok (.i2l, 1) := by decide +kernel
theorem dL_hiddenDimension_8 : decode cL_hiddenDimension 8 = .ok (.lastore, 1) := by decide +kernel
theorem dL_hiddenDimension_9 : decode cL_hiddenDimension 9 = .ok (.goto 6, 3) := by decide +kernel
theorem dL_hiddenDimension_12 : decode cL_hiddenDimension 12 = .ok (.astore_n 3, 1) := by decide +kernel
theorem dL_hiddenDimension_13 : decode cL_hiddenDimension 13 = .ok (.iconst 1, 1) := by decide +kernel
theorem dL_hiddenDimension_14 : decode cL_hiddenDimension 14 = .ok (.ireturn, 1) := by decide +kernel
theorem dL_hiddenDimension_15 : decode cL_hiddenDimension 15 = .ok (.iconst 0, 1) := by decide +kernel
theorem dL_hiddenDimension_16 : decode cL_hiddenDimension 16 = .ok (.ireturn, 1) := by decide +kernel
theorem dL_free_0 : decode cL_free 0 = .ok (.aload_n 3, 1) := by decide +kernel
theorem dL_free_1 : decode cL_free 1 = .ok (.iconst 0, 1) := by decide +kernel
theorem dL_free_2 : decode cL_free 2 = .ok (.aload_n 0, 1) := by decide +kernel
theorem dL_free_3 : decode cL_free 3 = .ok (.iload_n 1, 1) := by decide +kernel
theorem dL_free_4 : decode cL_free 4 = .ok (.iload_n 2, 1) := by decide +kernel
theorem dL_free_5 : decode cL_free 5 = .ok (.invokevirtual 85, 3) := by decide +kernel
theorem dL_free_8 : decode cL_free 8 = .ok (.i2l, 1) := by decide +kernel
theorem dL_free_9 : decode cL_free 9 = .ok (.lastore, 1) := by decide +kernel
theorem dL_free_10 : decode cL_free 10 = .ok (.goto 7, 3) := by decide +kernel
theorem dL_free_13 : decode cL_free 13 = .ok (.astore 4, 2) := by decide +kernel
theorem dL_free_15 : decode cL_free 15 = .ok (.iconst 1, 1) := by decide +kernel
theorem dL_free_16 : decode cL_free 16 = .ok (.ireturn, 1) := by decide +kernel
theorem dL_free_17 : decode cL_free 17 = .ok (.iconst 0, 1) := by decide +kernel
theorem dL_free_18 : decode cL_free 18 = .ok (.ireturn, 1) := by decide +kernel
theorem dL_freeRange_0 : decode cL_freeRange 0 = .ok (.aload_n 3, 1) := by decide +kernel
theorem dL_freeRange_1 : decode cL_freeRange 1 = .ok (.iconst 0, 1) := by decide +kernel
theorem dL_freeRange_2 : decode cL_freeRange 2 = .ok (.aload_n 0, 1) := by decide +kernel
theorem dL_freeRange_3 : decode cL_freeRange 3 = .ok (.iload_n 1, 1) := by decide +kernel
theorem dL_freeRange_4 : decode cL_freeRange 4 = .ok (.iload_n 2, 1) := by decide +kernel
theorem dL_freeRange_5 : decode cL_freeRange 5 = .ok (.invokevirtual 88, 3) := by decide +kernel
theorem dL_freeRange_8 : decode cL_freeRange 8 = .ok (.i2l, 1) := by decide +kernel
theorem dL_freeRange_9 : decode cL_freeRange 9 = .ok (.lastore, 1) := by decide +kernel
theorem dL_freeRange_10 : decode cL_freeRange 10 = .ok (.goto 7, 3) := by decide +kernel
theorem dL_freeRange_13 : decode cL_freeRange 13 = .ok (.astore 4, 2) := by decide +kernel
theorem dL_freeRange_15 : decode cL_freeRange 15 = .ok (.iconst 1, 1) := by decide +kernel
theorem dL_freeRange_16 : decode cL_freeRange 16 = .ok (.ireturn, 1) := by decide +kernel
theorem dL_freeRange_17 : decode cL_freeRange 17 = .ok (.iconst 0, 1) := by decide +kernel
theorem dL_freeRange_18 : decode cL_freeRange 18 = .ok (.ireturn, 1) := by decide +kernel
theorem dL_runScript_0 : decode cL_runScript 0 = .ok (.aload 4, 2) := by decide +kernel
theorem dL_runScript_2 : decode cL_runScript 2 = .ok (.iconst 0, 1) := by decide +kernel
theorem dL_runScript_3 : decode cL_runScript 3 = .ok (.aload_n 0, 1) := by decide +kernel
theorem dL_runScript_4 : decode cL_runScript 4 = .ok (.iload_n 1, 1) := by decide +kernel
theorem dL_runScript_5 : decode cL_runScript 5 = .ok (.lload_n 2, 1) := by decide +kernel
theorem dL_runScript_6 : decode cL_runScript 6 = .ok (.invokevirtual 92, 3) := by decide +kernel
theorem dL_runScript_9 : decode cL_runScript 9 = .ok (.i2l, 1) := by decide +kernel
theorem dL_runScript_10 : decode cL_runScript 10 = .ok (.lastore, 1) := by decide +kernel
theorem dL_runScript_11 : decode cL_runScript 11 = .ok (.goto 7, 3) := by decide +kernel
theorem dL_runScript_14 : decode cL_runScript 14 = .ok (.astore 5, 2) := by decide +kernel
theorem dL_runScript_16 : decode cL_runScript 16 = .ok (.iconst 1, 1) := by decide +kernel
theorem dL_runScript_17 : decode cL_runScript 17 = .ok (.ireturn, 1) := by decide +kernel
theorem dL_runScript_18 : decode cL_runScript 18 = .ok (.iconst 0, 1) := by decide +kernel
theorem dL_runScript_19 : decode cL_runScript 19 = .ok (.ireturn, 1) := by decide +kernel
theorem dL_simulate_0 : decode cL_simulate 0 = .ok (.aload 4, 2) := by decide +kernel
theorem dL_simulate_2 : decode cL_simulate 2 = .ok (.iconst 0, 1) := by decide +kernel
theorem dL_simulate_3 : decode cL_simulate 3 = .ok (.aload_n 0, 1) := by decide +kernel
theorem dL_simulate_4 : decode cL_simulate 4 = .ok (.lload_n 1, 1) := by decide +kernel
theorem dL_simulate_5 : decode cL_simulate 5 = .ok (.iload_n 3, 1) := by decide +kernel
theorem dL_simulate_6 : decode cL_simulate 6 = .ok (.invokevirtual 96, 3) := by decide +kernel
theorem dL_simulate_9 : decode cL_simulate 9 = .ok (.lastore, 1) := by decide +kernel
theorem dL_simulate_10 : decode cL_simulate 10 = .ok (.goto 7, 3) := by decide +kernel
theorem dL_simulate_13 : decode cL_simulate 13 = .ok (.astore 5, 2) := by decide +kernel
theorem dL_simulate_15 : decode cL_simulate 15 = .ok (.iconst 1, 1) := by decide +kernel
theorem dL_simulate_16 : decode cL_simulate 16 = .ok (.ireturn, 1) := by decide +kernel
theorem dL_simulate_17 : decode cL_simulate 17 = .ok (.iconst 0, 1) := by decide +kernel
theorem dL_simulate_18 : decode cL_simulate 18 = .ok (.ireturn, 1) := by decide +kernel
theorem dL_save_0 : decode cL_save 0 = .ok (.aload_n 2, 1) := by decide +kernel
theorem dL_save_1 : decode cL_save 1 = .ok (.iconst 0, 1) := by decide +kernel
theorem dL_save_2 : decode cL_save 2 = .ok (.aload_n 0, 1) := by decide +kernel
theorem dL_save_3 : decode cL_save 3 = .ok (.iload_n 1, 1) := by decide +kernel
theorem dL_save_4 : decode cL_save 4 = .ok (.invokevirtual 100, 3) := by decide +kernel
theorem dL_save_7 : decode cL_save 7 = .ok (.i2l, 1) := by decide +kernel
theorem dL_save_8 : decode cL_save 8 = .ok (.lastore, 1) := by decide +kernel
theorem dL_save_9 : decode cL_save 9 = .ok (.goto 6, 3) := by decide +kernel
theorem dL_save_12 : decode cL_save 12 = .ok (.astore_n 3, 1) := by decide +kernel
theorem dL_save_13 : decode cL_save 13 = .ok (.iconst 1, 1) := by decide +kernel
theorem dL_save_14 : decode cL_save 14 = .ok (.ireturn, 1) := by decide +kernel
theorem dL_save_15 : decode cL_save 15 = .ok (.iconst 0, 1) := by decide +kernel
theorem dL_save_16 : decode cL_save 16 = .ok (.ireturn, 1) := by decide +kernel
theorem dL_restore_0 : decode cL_restore 0 = .ok (.aload_n 2, 1) := by decide +kernel
theorem dL_restore_1 : decode cL_restore 1 = .ok (.iconst 0, 1) := by decide +kernel
theorem dL_restore_2 : decode cL_restore 2 = .ok (.aload_n 0, 1) := by decide +kernel
theorem dL_restore_3 : decode cL_restore 3 = .ok (.iload_n 1, 1) := by decide +kernel
theorem dL_restore_4 : decode cL_restore 4 = .ok (.invokevirtual 103, 3) := by decide +kernel
theorem dL_restore_7 : decode cL_restore 7 = .ok (.i2l, 1) := by decide +kernel
theorem dL_restore_8 : decode cL_restore 8 = .ok (.lastore, 1) := by decide +kernel
theorem dL_restore_9 : decode cL_restore 9 = .ok (.goto 9, 3) := by decide +kernel
theorem dL_restore_12 : decode cL_restore 12 = .ok (.astore_n 3, 1) := by decide +kernel
theorem dL_restore_13 : decode cL_restore 13 = .ok (.iconst 1, 1) := by decide +kernel
theorem dL_restore_14 : decode cL_restore 14 = .ok (.ireturn, 1) := by decide +kernel
theorem dL_restore_15 : decode cL_restore 15 = .ok (.astore_n 3, 1) := by decide +kernel
theorem dL_restore_16 : decode cL_restore 16 = .ok (.iconst 2, 1) := by decide +kernel
theorem dL_restore_17 : decode cL_restore 17 = .ok (.ireturn, 1) := by decide +kernel
theorem dL_restore_18 : decode cL_restore 18 = .ok (.iconst 0, 1) := by decide +kernel
theorem dL_restore_19 : decode cL_restore 19 = .ok (.ireturn, 1) := by decide +kernel
