/-! decode rows of the law's wrappers -/
theorem dL_addUmbrella_0 : decode cL_addUmbrella 0 = .ok (.aload_n 2, 1) := by decide +kernel
theorem dL_addUmbrella_1 : decode cL_addUmbrella 1 = .ok (.iconst 0, 1) := by decide +kernel
theorem dL_addUmbrella_2 : decode cL_addUmbrella 2 = .ok (.aload_n 0, 1) := by decide +kernel
theorem dL_addUmbrella_3 : decode cL_addUmbrella 3 = .ok (.iload_n 1, 1) := by decide +kernel
theorem dL_addUmbrella_4 : decode cL_addUmbrella 4 = .ok (.invokevirtual 7, 3) := by decide +kernel
theorem dL_addUmbrella_7 : decode cL_addUmbrella 7 = .ok (.i2l, 1) := by decide +kernel
theorem dL_addUmbrella_8 : decode cL_addUmbrella 8 = .ok (.lastore, 1) := by decide +kernel
theorem dL_addUmbrella_9 : decode cL_addUmbrella 9 = .ok (.goto 9, 3) := by decide +kernel
theorem dL_addUmbrella_12 : decode cL_addUmbrella 12 = .ok (.astore_n 3, 1) := by decide +kernel
theorem dL_addUmbrella_13 : decode cL_addUmbrella 13 = .ok (.iconst 1, 1) := by decide +kernel
theorem dL_addUmbrella_14 : decode cL_addUmbrella 14 = .ok (.ireturn, 1) := by decide +kernel
theorem dL_addUmbrella_15 : decode cL_addUmbrella 15 = .ok (.astore_n 3, 1) := by decide +kernel
theorem dL_addUmbrella_16 : decode cL_addUmbrella 16 = .ok (.iconst 2, 1) := by decide +kernel
theorem dL_addUmbrella_17 : decode cL_addUmbrella 17 = .ok (.ireturn, 1) := by decide +kernel
theorem dL_addUmbrella_18 : decode cL_addUmbrella 18 = .ok (.iconst 0, 1) := by decide +kernel
theorem dL_addUmbrella_19 : decode cL_addUmbrella 19 = .ok (.ireturn, 1) := by decide +kernel
theorem dL_train_0 : decode cL_train 0 = .ok (.aload 5, 2) := by decide +kernel
theorem dL_train_2 : decode cL_train 2 = .ok (.iconst 0, 1) := by decide +kernel
theorem dL_train_3 : decode cL_train 3 = .ok (.aload_n 0, 1) := by decide +kernel
theorem dL_train_4 : decode cL_train 4 = .ok (.iload_n 1, 1) := by decide +kernel
theorem dL_train_5 : decode cL_train 5 = .ok (.iload_n 2, 1) := by decide +kernel
theorem dL_train_6 : decode cL_train 6 = .ok (.iload_n 3, 1) := by decide +kernel
theorem dL_train_7 : decode cL_train 7 = .ok (.iload 4, 2) := by decide +kernel
theorem dL_train_9 : decode cL_train 9 = .ok (.invokevirtual 17, 3) := by decide +kernel
theorem dL_train_12 : decode cL_train 12 = .ok (.i2l, 1) := by decide +kernel
theorem dL_train_13 : decode cL_train 13 = .ok (.lastore, 1) := by decide +kernel
theorem dL_train_14 : decode cL_train 14 = .ok (.goto 11, 3) := by decide +kernel
theorem dL_train_17 : decode cL_train 17 = .ok (.astore 6, 2) := by decide +kernel
theorem dL_train_19 : decode cL_train 19 = .ok (.iconst 1, 1) := by decide +kernel
theorem dL_train_20 : decode cL_train 20 = .ok (.ireturn, 1) := by decide +kernel
theorem dL_train_21 : decode cL_train 21 = .ok (.astore 6, 2) := by decide +kernel
theorem dL_train_23 : decode cL_train 23 = .ok (.iconst 2, 1) := by decide +kernel
theorem dL_train_24 : decode cL_train 24 = .ok (.ireturn, 1) := by decide +kernel
theorem dL_train_25 : decode cL_train 25 = .ok (.iconst 0, 1) := by decide +kernel
theorem dL_train_26 : decode cL_train 26 = .ok (.ireturn, 1) := by decide +kernel
theorem dL_setPeriod_0 : decode cL_setPeriod 0 = .ok (.aload_n 3, 1) := by decide +kernel
theorem dL_setPeriod_1 : decode cL_setPeriod 1 = .ok (.iconst 0, 1) := by decide +kernel
theorem dL_setPeriod_2 : decode cL_setPeriod 2 = .ok (.aload_n 0, 1) := by decide +kernel
theorem dL_setPeriod_3 : decode cL_setPeriod 3 = .ok (.iload_n 1, 1) := by decide +kernel
theorem dL_setPeriod_4 : decode cL_setPeriod 4 = .ok (.iload_n 2, 1) := by decide +kernel
theorem dL_setPeriod_5 : decode cL_setPeriod 5 = .ok (.invokevirtual 23, 3) := by decide +kernel
theorem dL_setPeriod_8 : decode cL_setPeriod 8 = .ok (.i2l, 1) := by decide +kernel
theorem dL_setPeriod_9 : decode cL_setPeriod 9 = .ok (.lastore, 1) := by decide +kernel
theorem dL_setPeriod_10 : decode cL_setPeriod 10 = .ok (.goto 11, 3) := by decide +kernel
theorem dL_setPeriod_13 : decode cL_setPeriod 13 = .ok (.astore 4, 2) := by decide +kernel
theorem dL_setPeriod_15 : decode cL_setPeriod 15 = .ok (.iconst 1, 1) := by decide +kernel
theorem dL_setPeriod_16 : decode cL_setPeriod 16 = .ok (.ireturn, 1) := by decide +kernel
theorem dL_setPeriod_17 : decode cL_setPeriod 17 = .ok (.astore 4, 2) := by decide +kernel
theorem dL_setPeriod_19 : decode cL_setPeriod 19 = .ok (.iconst 2, 1) := by decide +kernel
theorem dL_setPeriod_20 : decode cL_setPeriod 20 = .ok (.ireturn, 1) := by decide +kernel
theorem dL_setPeriod_21 : decode cL_setPeriod 21 = .ok (.iconst 0, 1) := by decide +kernel
theorem dL_setPeriod_22 : decode cL_setPeriod 22 = .ok (.ireturn, 1) := by decide +kernel
theorem dL_setWetPenalty_0 : decode cL_setWetPenalty 0 = .ok (.aload_n 2, 1) := by decide +kernel
theorem dL_setWetPenalty_1 : decode cL_setWetPenalty 1 = .ok (.iconst 0, 1) := by decide +kernel
theorem dL_setWetPenalty_2 : decode cL_setWetPenalty 2 = .ok (.aload_n 0, 1) := by decide +kernel
theorem dL_setWetPenalty_3 : decode cL_setWetPenalty 3 = .ok (.iload_n 1, 1) := by decide +kernel
theorem dL_setWetPenalty_4 : decode cL_setWetPenalty 4 = .ok (.invokevirtual 27, 3) := by decide +kernel
theorem dL_setWetPenalty_7 : decode cL_setWetPenalty 7 = .ok (.i2l, 1) := by decide +kernel
theorem dL_setWetPenalty_8 : decode cL_setWetPenalty 8 = .ok (.lastore, 1) := by decide +kernel
theorem dL_setWetPenalty_9 : decode cL_setWetPenalty 9 = .ok (.goto 6, 3) := by decide +kernel
theorem dL_setWetPenalty_12 : decode cL_setWetPenalty 12 = .ok (.astore_n 3, 1) := by decide +kernel
theorem dL_setWetPenalty_13 : decode cL_setWetPenalty 13 = .ok (.iconst 1, 1) := by decide +kernel
theorem dL_setWetPenalty_14 : decode cL_setWetPenalty 14 = .ok (.ireturn, 1) := by decide +kernel
theorem dL_setWetPenalty_15 : decode cL_setWetPenalty 15 = .ok (.iconst 0, 1) := by decide +kernel
theorem dL_setWetPenalty_16 : decode cL_setWetPenalty 16 = .ok (.ireturn, 1) := by decide +kernel
theorem dL_setGalePenalty_0 : decode cL_setGalePenalty 0 = .ok (.aload_n 2, 1) := by decide +kernel
theorem dL_setGalePenalty_1 : decode cL_setGalePenalty 1 = .ok (.iconst 0, 1) := by decide +kernel
theorem dL_setGalePenalty_2 : decode cL_setGalePenalty 2 = .ok (.aload_n 0, 1) := by decide +kernel
theorem dL_setGalePenalty_3 : decode cL_setGalePenalty 3 = .ok (.iload_n 1, 1) := by decide +kernel
theorem dL_setGalePenalty_4 : decode cL_setGalePenalty 4 = .ok (.invokevirtual 30, 3) := by decide +kernel
theorem dL_setGalePenalty_7 : decode cL_setGalePenalty 7 = .ok (.i2l, 1) := by decide +kernel
theorem dL_setGalePenalty_8 : decode cL_setGalePenalty 8 = .ok (.lastore, 1) := by decide +kernel
theorem dL_setGalePenalty_9 : decode cL_setGalePenalty 9 = .ok (.goto 6, 3) := by decide +kernel
theorem dL_setGalePenalty_12 : decode cL_setGalePenalty 12 = .ok (.astore_n 3, 1) := by decide +kernel
theorem dL_setGalePenalty_13 : decode cL_setGalePenalty 13 = .ok (.iconst 1, 1) := by decide +kernel
theorem dL_setGalePenalty_14 : decode cL_setGalePenalty 14 = .ok (.ireturn, 1) := by decide +kernel
theorem dL_setGalePenalty_15 : decode cL_setGalePenalty 15 = .ok (.iconst 0, 1) := by decide +kernel
theorem dL_setGalePenalty_16 : decode cL_setGalePenalty 16 = .ok (.ireturn, 1) := by decide +kernel
theorem dL_forgetRain_0 : decode cL_forgetRain 0 = .ok (.aload_n 3, 1) := by decide +kernel
theorem dL_forgetRain_1 : decode cL_forgetRain 1 = .ok (.iconst 0, 1) := by decide +kernel
theorem dL_forgetRain_2 : decode cL_forgetRain 2 = .ok (.aload_n 0, 1) := by decide +kernel
theorem dL_forgetRain_3 : decode cL_forgetRain 3 = .ok (.iload_n 1, 1) := by decide +kernel
theorem dL_forgetRain_4 : decode cL_forgetRain 4 = .ok (.iload_n 2, 1) := by decide +kernel
theorem dL_forgetRain_5 : decode cL_forgetRain 5 = .ok (.invokevirtual 33, 3) := by decide +kernel
theorem dL_forgetRain_8 : decode cL_forgetRain 8 = .ok (.i2l, 1) := by decide +kernel
theorem dL_forgetRain_9 : decode cL_forgetRain 9 = .ok (.lastore, 1) := by decide +kernel
theorem dL_forgetRain_10 : decode cL_forgetRain 10 = .ok (.goto 11, 3) := by decide +kernel
theorem dL_forgetRain_13 : decode cL_forgetRain 13 = .ok (.astore 4, 2) := by decide +kernel
theorem dL_forgetRain_15 : decode cL_forgetRain 15 = .ok (.iconst 1, 1) := by decide +kernel
theorem dL_forgetRain_16 : decode cL_forgetRain 16 = .ok (.ireturn, 1) := by decide +kernel
theorem dL_forgetRain_17 : decode cL_forgetRain 17 = .ok (.astore 4, 2) := by decide +kernel
theorem dL_forgetRain_19 : decode cL_forgetRain 19 = .ok (.iconst 2, 1) := by decide +kernel
theorem dL_forgetRain_20 : decode cL_forgetRain 20 = .ok (.ireturn, 1) := by decide +kernel
theorem dL_forgetRain_21 : decode cL_forgetRain 21 = .ok (.iconst 0, 1) := by decide +kernel
theorem dL_forgetRain_22 : decode cL_forgetRain 22 = .ok (.ireturn, 1) := by decide +kernel
theorem dL_examine_0 : decode cL_examine 0 = .ok (.aload_n 3, 1) := by decide +kernel
theorem dL_examine_1 : decode cL_examine 1 = .ok (.iconst 0, 1) := by decide +kernel
theorem dL_examine_2 : decode cL_examine 2 = .ok (.aload_n 0, 1) := by decide +kernel
theorem dL_examine_3 : decode cL_examine 3 = .ok (.iload_n 1, 1) := by decide +kernel
theorem dL_examine_4 : decode cL_examine 4 = .ok (.iload_n 2, 1) := by decide +kernel
theorem dL_examine_5 : decode cL_examine 5 = .ok (.invokevirtual 36, 3) := by decide +kernel
theorem dL_examine_8 : decode cL_examine 8 = .ok (.i2l, 1) := by decide +kernel
theorem dL_examine_9 : decode cL_examine 9 = .ok (.lastore, 1) := by decide +kernel
theorem dL_examine_10 : decode cL_examine 10 = .ok (.goto 11, 3) := by decide +kernel
theorem dL_examine_13 : decode cL_examine 13 = .ok (.astore 4, 2) := by decide +kernel
theorem dL_examine_15 : decode cL_examine 15 = .ok (.iconst 1, 1) := by decide +kernel
theorem dL_examine_16 : decode cL_examine 16 = .ok (.ireturn, 1) := by decide +kernel
theorem dL_examine_17 : decode cL_examine 17 = .ok (.astore 4, 2) := by decide +kernel
theorem dL_examine_19 : decode cL_examine 19 = .ok (.iconst 2, 1) := by decide +kernel
theorem dL_examine_20 : decode cL_examine 20 = .ok (.ireturn, 1) := by decide +kernel
theorem dL_examine_21 : decode cL_examine 21 = .ok (.iconst 0, 1) := by decide +kernel
theorem dL_examine_22 : decode cL_examine 22 = .ok (.ireturn, 1) := by decide +kernel
theorem dL_endTerm_0 : decode cL_endTerm 0 = .ok (.aload_n 1, 1) := by decide +kernel
theorem dL_endTerm_1 : decode cL_endTerm 1 = .ok (.iconst 0, 1) := by decide +kernel
theorem dL_endTerm_2 : decode cL_endTerm 2 = .ok (.aload_n 0, 1) := by decide +kernel
theorem dL_endTerm_3 : decode cL_endTerm 3 = .ok (.invokevirtual 39, 3) := by decide +kernel
theorem dL_endTerm_6 : decode cL_endTerm 6 = .ok (.i2l, 1) := by decide +kernel
theorem dL_endTerm_7 : decode cL_endTerm 7 = .ok (.lastore, 1) := by decide +kernel
theorem dL_endTerm_8 : decode cL_endTerm 8 = .ok (.goto 6, 3) := by decide +kernel
theorem dL_endTerm_11 : decode cL_endTerm 11 = .ok (.astore_n 2, 1) := by decide +kernel
theorem dL_endTerm_12 : decode cL_endTerm 12 = .ok (.iconst 1, 1) := by decide +kernel
theorem dL_endTerm_13 : decode cL_endTerm 13 = .ok (.ireturn, 1) := by decide +kernel
theorem dL_endTerm_14 : decode cL_endTerm 14 = .ok (.iconst 0, 1) := by decide +kernel
theorem dL_endTerm_15 : decode cL_endTerm 15 = .ok (.ireturn, 1) := by decide +kernel
theorem dL_memory_0 : decode cL_memory 0 = .ok (.aload_n 2, 1) := by decide +kernel
theorem dL_memory_1 : decode cL_memory 1 = .ok (.iconst 0, 1) := by decide +kernel
theorem dL_memory_2 : decode cL_memory 2 = .ok (.aload_n 0, 1) := by decide +kernel
theorem dL_memory_3 : decode cL_memory 3 = .ok (.iload_n 1, 1) := by decide +kernel
theorem dL_memory_4 : decode cL_memory 4 = .ok (.invokevirtual 43, 3) := by decide +kernel
theorem dL_memory_7 : decode cL_memory 7 = .ok (.i2l, 1) := by decide +kernel
theorem dL_memory_8 : decode cL_memory 8 = .ok (.lastore, 1) := by decide +kernel
theorem dL_memory_9 : decode cL_memory 9 = .ok (.goto 6, 3) := by decide +kernel
theorem dL_memory_12 : decode cL_memory 12 = .ok (.astore_n 3, 1) := by decide +kernel
theorem dL_memory_13 : decode cL_memory 13 = .ok (.iconst 1, 1) := by decide +kernel
theorem dL_memory_14 : decode cL_memory 14 = .ok (.ireturn, 1) := by decide +kernel
theorem dL_memory_15 : decode cL_memory 15 = .ok (.iconst 0, 1) := by decide +kernel
theorem dL_memory_16 : decode cL_memory 16 = .ok (.ireturn, 1) := by decide +kernel
theorem dL_period_0 : decode cL_period 0 = .ok (.aload_n 2, 1) := by decide +kernel
theorem dL_period_1 : decode cL_period 1 = .ok (.iconst 0, 1) := by decide +kernel
theorem dL_period_2 : decode cL_period 2 = .ok (.aload_n 0, 1) := by decide +kernel
theorem dL_period_3 : decode cL_period 3 = .ok (.iload_n 1, 1) := by decide +kernel
theorem dL_period_4 : decode cL_period 4 = .ok (.invokevirtual 46, 3) := by decide +kernel
theorem dL_period_7 : decode cL_period 7 = .ok (.i2l, 1) := by decide +kernel
theorem dL_period_8 : decode cL_period 8 = .ok (.lastore, 1) := by decide +kernel
theorem dL_period_9 : decode cL_period 9 = .ok (.goto 6, 3) := by decide +kernel
theorem dL_period_12 : decode cL_period 12 = .ok (.astore_n 3, 1) := by decide +kernel
theorem dL_period_13 : decode cL_period 13 = .ok (.iconst 1, 1) := by decide +kernel
theorem dL_period_14 : decode cL_period 14 = .ok (.ireturn, 1) := by decide +kernel
theorem dL_period_15 : decode cL_period 15 = .ok (.iconst 0, 1) := by decide +kernel
theorem dL_period_16 : decode cL_period 16 = .ok (.ireturn, 1) := by decide +kernel
theorem dL_trials_0 : decode cL_trials 0 = .ok (.aload_n 2, 1) := by decide +kernel
theorem dL_trials_1 : decode cL_trials 1 = .ok (.iconst 0, 1) := by decide +kernel
theorem dL_trials_2 : decode cL_trials 2 = .ok (.aload_n 0, 1) := by decide +kernel
theorem dL_trials_3 : decode cL_trials 3 = .ok (.iload_n 1, 1) := by decide +kernel
theorem dL_trials_4 : decode cL_trials 4 = .ok (.invokevirtual 49, 3) := by decide +kernel
theorem dL_trials_7 : decode cL_trials 7 = .ok (.i2l, 1) := by decide +kernel
theorem dL_trials_8 : decode cL_trials 8 = .ok (.lastore, 1) := by decide +kernel
theorem dL_trials_9 : decode cL_trials 9 = .ok (.goto 6, 3) := by decide +kernel
theorem dL_trials_12 : decode cL_trials 12 = .ok (.astore_n 3, 1) := by decide +kernel
theorem dL_trials_13 : decode cL_trials 13 = .ok (.iconst 1, 1) := by decide +kernel
theorem dL_trials_14 : decode cL_trials 14 = .ok (.ireturn, 1) := by decide +kernel
theorem dL_trials_15 : decode cL_trials 15 = .ok (.iconst 0, 1) := by decide +kernel
theorem dL_trials_16 : decode cL_trials 16 = .ok (.ireturn, 1) := by decide +kernel
theorem dL_rememberedTrials_0 : decode cL_rememberedTrials 0 = .ok (.aload_n 2, 1) := by decide +kernel
theorem dL_rememberedTrials_1 : decode cL_rememberedTrials 1 = .ok (.iconst 0, 1) := by decide +kernel
theorem dL_rememberedTrials_2 : decode cL_rememberedTrials 2 = .ok (.aload_n 0, 1) := by decide +kernel
theorem dL_rememberedTrials_3 : decode cL_rememberedTrials 3 = .ok (.iload_n 1, 1) := by decide +kernel
theorem dL_rememberedTrials_4 : decode cL_rememberedTrials 4 = .ok (.invokevirtual 52, 3) := by decide +kernel
theorem dL_rememberedTrials_7 : decode cL_rememberedTrials 7 = .ok (.i2l, 1) := by decide +kernel
theorem dL_rememberedTrials_8 : decode cL_rememberedTrials 8 = .ok (.lastore, 1) := by decide +kernel
theorem dL_rememberedTrials_9 : decode cL_rememberedTrials 9 = .ok (.goto 6, 3) := by decide +kernel
theorem dL_rememberedTrials_12 : decode cL_rememberedTrials 12 = .ok (.astore_n 3, 1) := by decide +kernel
theorem dL_rememberedTrials_13 : decode cL_rememberedTrials 13 = .ok (.iconst 1, 1) := by decide +kernel
theorem dL_rememberedTrials_14 : decode cL_rememberedTrials 14 = .ok (.ireturn, 1) := by decide +kernel
theorem dL_rememberedTrials_15 : decode cL_rememberedTrials 15 = .ok (.iconst 0, 1) := by decide +kernel
theorem dL_rememberedTrials_16 : decode cL_rememberedTrials 16 = .ok (.ireturn, 1) := by decide +kernel
theorem dL_trialRain_0 : decode cL_trialRain 0 = .ok (.aload_n 3, 1) := by decide +kernel
theorem dL_trialRain_1 : decode cL_trialRain 1 = .ok (.iconst 0, 1) := by decide +kernel
theorem dL_trialRain_2 : decode cL_trialRain 2 = .ok (.aload_n 0, 1) := by decide +kernel
theorem dL_trialRain_3 : decode cL_trialRain 3 = .ok (.iload_n 1, 1) := by decide +kernel
theorem dL_trialRain_4 : decode cL_trialRain 4 = .ok (.iload_n 2, 1) := by decide +kernel
theorem dL_trialRain_5 : decode cL_trialRain 5 = .ok (.invokevirtual 55, 3) := by decide +kernel
theorem dL_trialRain_8 : decode cL_trialRain 8 = .ok (.i2l, 1) := by decide +kernel
theorem dL_trialRain_9 : decode cL_trialRain 9 = .ok (.lastore, 1) := by decide +kernel
theorem dL_trialRain_10 : decode cL_trialRain 10 = .ok (.goto 11, 3) := by decide +kernel
theorem dL_trialRain_13 : decode cL_trialRain 13 = .ok (.astore 4, 2) := by decide +kernel
theorem dL_trialRain_15 : decode cL_trialRain 15 = .ok (.iconst 1, 1) := by decide +kernel
theorem dL_trialRain_16 : decode cL_trialRain 16 = .ok (.ireturn, 1) := by decide +kernel
theorem dL_trialRain_17 : decode cL_trialRain 17 = .ok (.astore 4, 2) := by decide +kernel
theorem dL_trialRain_19 : decode cL_trialRain 19 = .ok (.iconst 2, 1) := by decide +kernel
theorem dL_trialRain_20 : decode cL_trialRain 20 = .ok (.ireturn, 1) := by decide +kernel
theorem dL_trialRain_21 : decode cL_trialRain 21 = .ok (.iconst 0, 1) := by decide +kernel
theorem dL_trialRain_22 : decode cL_trialRain 22 = .ok (.ireturn, 1) := by decide +kernel
theorem dL_trialOpened_0 : decode cL_trialOpened 0 = .ok (.aload_n 3, 1) := by decide +kernel
theorem dL_trialOpened_1 : decode cL_trialOpened 1 = .ok (.iconst 0, 1) := by decide +kernel
theorem dL_trialOpened_2 : decode cL_trialOpened 2 = .ok (.aload_n 0, 1) := by decide +kernel
theorem dL_trialOpened_3 : decode cL_trialOpened 3 = .ok (.iload_n 1, 1) := by decide +kernel
theorem dL_trialOpened_4 : decode cL_trialOpened 4 = .ok (.iload_n 2, 1) := by decide +kernel
theorem dL_trialOpened_5 : decode cL_trialOpened 5 = .ok (.invokevirtual 60, 3) := by decide +kernel
theorem dL_trialOpened_8 : decode cL_trialOpened 8 = .ok (.ifCond .eq 7, 3) := by decide +kernel
theorem dL_trialOpened_11 : decode cL_trialOpened 11 = .ok (.lconst 1, 1) := by decide +kernel
theorem dL_trialOpened_12 : decode cL_trialOpened 12 = .ok (.goto 4, 3) := by decide +kernel
theorem dL_trialOpened_15 : decode cL_trialOpened 15 = .ok (.lconst 0, 1) := by decide +kernel
theorem dL_trialOpened_16 : decode cL_trialOpened 16 = .ok (.lastore, 1) := by decide +kernel
theorem dL_trialOpened_17 : decode cL_trialOpened 17 = .ok (.goto 11, 3) := by decide +kernel
theorem dL_trialOpened_20 : decode cL_trialOpened 20 = .ok (.astore 4, 2) := by decide +kernel
theorem dL_trialOpened_22 : decode cL_trialOpened 22 = .ok (.iconst 1, 1) := by decide +kernel
theorem dL_trialOpened_23 : decode cL_trialOpened 23 = .ok (.ireturn, 1) := by decide +kernel
theorem dL_trialOpened_24 : decode cL_trialOpened 24 = .ok (.astore 4, 2) := by decide +kernel
theorem dL_trialOpened_26 : decode cL_trialOpened 26 = .ok (.iconst 2, 1) := by decide +kernel
theorem dL_trialOpened_27 : decode cL_trialOpened 27 = .ok (.ireturn, 1) := by decide +kernel
theorem dL_trialOpened_28 : decode cL_trialOpened 28 = .ok (.iconst 0, 1) := by decide +kernel
theorem dL_trialOpened_29 : decode cL_trialOpened 29 = .ok (.ireturn, 1) := by decide +kernel
theorem dL_trialReward_0 : decode cL_trialReward 0 = .ok (.aload_n 3, 1) := by decide +kernel
theorem dL_trialReward_1 : decode cL_trialReward 1 = .ok (.iconst 0, 1) := by decide +kernel
theorem dL_trialReward_2 : decode cL_trialReward 2 = .ok (.aload_n 0, 1) := by decide +kernel
theorem dL_trialReward_3 : decode cL_trialReward 3 = .ok (.iload_n 1, 1) := by decide +kernel
theorem dL_trialReward_4 : decode cL_trialReward 4 = .ok (.iload_n 2, 1) := by decide +kernel
theorem dL_trialReward_5 : decode cL_trialReward 5 = .ok (.invokevirtual 64, 3) := by decide +kernel
theorem dL_trialReward_8 : decode cL_trialReward 8 = .ok (.i2l, 1) := by decide +kernel
theorem dL_trialReward_9 : decode cL_trialReward 9 = .ok (.lastore, 1) := by decide +kernel
theorem dL_trialReward_10 : decode cL_trialReward 10 = .ok (.goto 11, 3) := by decide +kernel
theorem dL_trialReward_13 : decode cL_trialReward 13 = .ok (.astore 4, 2) := by decide +kernel
theorem dL_trialReward_15 : decode cL_trialReward 15 = .ok (.iconst 1, 1) := by decide +kernel
theorem dL_trialReward_16 : decode cL_trialReward 16 = .ok (.ireturn, 1) := by decide +kernel
theorem dL_trialReward_17 : decode cL_trialReward 17 = .ok (.astore 4, 2) := by decide +kernel
theorem dL_trialReward_19 : decode cL_trialReward 19 = .ok (.iconst 2, 1) := by decide +kernel
theorem dL_trialReward_20 : decode cL_trialReward 20 = .ok (.ireturn, 1) := by decide +kernel
theorem dL_trialReward_21 : decode cL_trialReward 21 = .ok (.iconst 0, 1) := by decide +kernel
theorem dL_trialReward_22 : decode cL_trialReward 22 = .ok (.ireturn, 1) := by decide +kernel
theorem dL_reward_0 : decode cL_reward 0 = .ok (.aload 4, 2) := by decide +kernel
theorem dL_reward_2 : decode cL_reward 2 = .ok (.iconst 0, 1) := by decide +kernel
theorem dL_reward_3 : decode cL_reward 3 = .ok (.aload_n 0, 1) := by decide +kernel
theorem dL_reward_4 : decode cL_reward 4 = .ok (.iload_n 1, 1) := by decide +kernel
theorem dL_reward_5 : decode cL_reward 5 = .ok (.iload_n 2, 1) := by decide +kernel
theorem dL_reward_6 : decode cL_reward 6 = .ok (.iload_n 3, 1) := by decide +kernel
theorem dL_reward_7 : decode cL_reward 7 = .ok (.invokevirtual 67, 3) := by decide +kernel
theorem dL_reward_10 : decode cL_reward 10 = .ok (.i2l, 1) := by decide +kernel
theorem dL_reward_11 : decode cL_reward 11 = .ok (.lastore, 1) := by decide +kernel
theorem dL_reward_12 : decode cL_reward 12 = .ok (.goto 7, 3) := by decide +kernel
theorem dL_reward_15 : decode cL_reward 15 = .ok (.astore 5, 2) := by decide +kernel
theorem dL_reward_17 : decode cL_reward 17 = .ok (.iconst 1, 1) := by decide +kernel
theorem dL_reward_18 : decode cL_reward 18 = .ok (.ireturn, 1) := by decide +kernel
theorem dL_reward_19 : decode cL_reward 19 = .ok (.iconst 0, 1) := by decide +kernel
theorem dL_reward_20 : decode cL_reward 20 = .ok (.ireturn, 1) := by decide +kernel
theorem dL_shouldOpen_0 : decode cL_shouldOpen 0 = .ok (.aload_n 3, 1) := by decide +kernel
theorem dL_shouldOpen_1 : decode cL_shouldOpen 1 = .ok (.iconst 0, 1) := by decide +kernel
theorem dL_shouldOpen_2 : decode cL_shouldOpen 2 = .ok (.aload_n 0, 1) := by decide +kernel
theorem dL_shouldOpen_3 : decode cL_shouldOpen 3 = .ok (.iload_n 1, 1) := by decide +kernel
theorem dL_shouldOpen_4 : decode cL_shouldOpen 4 = .ok (.iload_n 2, 1) := by decide +kernel
theorem dL_shouldOpen_5 : decode cL_shouldOpen 5 = .ok (.invokevirtual 71, 3) := by decide +kernel
theorem dL_shouldOpen_8 : decode cL_shouldOpen 8 = .ok (.ifCond .eq 7, 3) := by decide +kernel
theorem dL_shouldOpen_11 : decode cL_shouldOpen 11 = .ok (.lconst 1, 1) := by decide +kernel
theorem dL_shouldOpen_12 : decode cL_shouldOpen 12 = .ok (.goto 4, 3) := by decide +kernel
theorem dL_shouldOpen_15 : decode cL_shouldOpen 15 = .ok (.lconst 0, 1) := by decide +kernel
theorem dL_shouldOpen_16 : decode cL_shouldOpen 16 = .ok (.lastore, 1) := by decide +kernel
theorem dL_shouldOpen_17 : decode cL_shouldOpen 17 = .ok (.goto 7, 3) := by decide +kernel
theorem dL_shouldOpen_20 : decode cL_shouldOpen 20 = .ok (.astore 4, 2) := by decide +kernel
theorem dL_shouldOpen_22 : decode cL_shouldOpen 22 = .ok (.iconst 1, 1) := by decide +kernel
theorem dL_shouldOpen_23 : decode cL_shouldOpen 23 = .ok (.ireturn, 1) := by decide +kernel
theorem dL_shouldOpen_24 : decode cL_shouldOpen 24 = .ok (.iconst 0, 1) := by decide +kernel
theorem dL_shouldOpen_25 : decode cL_shouldOpen 25 = .ok (.ireturn, 1) := by decide +kernel
theorem dL_wouldOpen_0 : decode cL_wouldOpen 0 = .ok (.aload 4, 2) := by decide +kernel
theorem dL_wouldOpen_2 : decode cL_wouldOpen 2 = .ok (.iconst 0, 1) := by decide +kernel
theorem dL_wouldOpen_3 : decode cL_wouldOpen 3 = .ok (.aload_n 0, 1) := by decide +kernel
theorem dL_wouldOpen_4 : decode cL_wouldOpen 4 = .ok (.iload_n 1, 1) := by decide +kernel
theorem dL_wouldOpen_5 : decode cL_wouldOpen 5 = .ok (.iload_n 2, 1) := by decide +kernel
theorem dL_wouldOpen_6 : decode cL_wouldOpen 6 = .ok (.iload_n 3, 1) := by decide +kernel
theorem dL_wouldOpen_7 : decode cL_wouldOpen 7 = .ok (.invokevirtual 74, 3) := by decide +kernel
theorem dL_wouldOpen_10 : decode cL_wouldOpen 10 = .ok (.ifCond .eq 7, 3) := by decide +kernel
theorem dL_wouldOpen_13 : decode cL_wouldOpen 13 = .ok (.lconst 1, 1) := by decide +kernel
theorem dL_wouldOpen_14 : decode cL_wouldOpen 14 = .ok (.goto 4, 3) := by decide +kernel
theorem dL_wouldOpen_17 : decode cL_wouldOpen 17 = .ok (.lconst 0, 1) := by decide +kernel
theorem dL_wouldOpen_18 : decode cL_wouldOpen 18 = .ok (.lastore, 1) := by decide +kernel
theorem dL_wouldOpen_19 : decode cL_wouldOpen 19 = .ok (.goto 11, 3) := by decide +kernel
theorem dL_wouldOpen_22 : decode cL_wouldOpen 22 = .ok (.astore 5, 2) := by decide +kernel
theorem dL_wouldOpen_24 : decode cL_wouldOpen 24 = .ok (.iconst 1, 1) := by decide +kernel
theorem dL_wouldOpen_25 : decode cL_wouldOpen 25 = .ok (.ireturn, 1) := by decide +kernel
theorem dL_wouldOpen_26 : decode cL_wouldOpen 26 = .ok (.astore 5, 2) := by decide +kernel
theorem dL_wouldOpen_28 : decode cL_wouldOpen 28 = .ok (.iconst 2, 1) := by decide +kernel
theorem dL_wouldOpen_29 : decode cL_wouldOpen 29 = .ok (.ireturn, 1) := by decide +kernel
theorem dL_wouldOpen_30 : decode cL_wouldOpen 30 = .ok (.iconst 0, 1) := by decide +kernel
theorem dL_wouldOpen_31 : decode cL_wouldOpen 31 = .ok (.ireturn, 1) := by decide +kernel
theorem dL_exploresNext_0 : decode cL_exploresNext 0 = .ok (.aload_n 2, 1) := by decide +kernel
theorem dL_exploresNext_1 : decode cL_exploresNext 1 = .ok (.iconst 0, 1) := by decide +kernel
theorem dL_exploresNext_2 : decode cL_exploresNext 2 = .ok (.aload_n 0, 1) := by decide +kernel
theorem dL_exploresNext_3 : decode cL_exploresNext 3 = .ok (.iload_n 1, 1) := by decide +kernel
theorem dL_exploresNext_4 : decode cL_exploresNext 4 = .ok (.invokevirtual 78, 3) := by decide +kernel
theorem dL_exploresNext_7 : decode cL_exploresNext 7 = .ok (.ifCond .eq 7, 3) := by decide +kernel
theorem dL_exploresNext_10 : decode cL_exploresNext 10 = .ok (.lconst 1, 1) := by decide +kernel
theorem dL_exploresNext_11 : decode cL_exploresNext 11 = .ok (.goto 4, 3) := by decide +kernel
theorem dL_exploresNext_14 : decode cL_exploresNext 14 = .ok (.lconst 0, 1) := by decide +kernel
theorem dL_exploresNext_15 : decode cL_exploresNext 15 = .ok (.lastore, 1) := by decide +kernel
theorem dL_exploresNext_16 : decode cL_exploresNext 16 = .ok (.goto 6, 3) := by decide +kernel
theorem dL_exploresNext_19 : decode cL_exploresNext 19 = .ok (.astore_n 3, 1) := by decide +kernel
theorem dL_exploresNext_20 : decode cL_exploresNext 20 = .ok (.iconst 1, 1) := by decide +kernel
theorem dL_exploresNext_21 : decode cL_exploresNext 21 = .ok (.ireturn, 1) := by decide +kernel
theorem dL_exploresNext_22 : decode cL_exploresNext 22 = .ok (.iconst 0, 1) := by decide +kernel
theorem dL_exploresNext_23 : decode cL_exploresNext 23 = .ok (.ireturn, 1) := by decide +kernel
theorem dL_timesTried_0 : decode cL_timesTried 0 = .ok (.aload 5, 2) := by decide +kernel
theorem dL_timesTried_2 : decode cL_timesTried 2 = .ok (.iconst 0, 1) := by decide +kernel
theorem dL_timesTried_3 : decode cL_timesTried 3 = .ok (.aload_n 0, 1) := by decide +kernel
theorem dL_timesTried_4 : decode cL_timesTried 4 = .ok (.iload_n 1, 1) := by decide +kernel
theorem dL_timesTried_5 : decode cL_timesTried 5 = .ok (.iload_n 2, 1) := by decide +kernel
theorem dL_timesTried_6 : decode cL_timesTried 6 = .ok (.iload_n 3, 1) := by decide +kernel
theorem dL_timesTried_7 : decode cL_timesTried 7 = .ok (.iload 4, 2) := by decide +kernel
theorem dL_timesTried_9 : decode cL_timesTried 9 = .ok (.invokevirtual 82, 3) := by decide +kernel
theorem dL_timesTried_12 : decode cL_timesTried 12 = .ok (.i2l, 1) := by decide +kernel
theorem dL_timesTried_13 : decode cL_timesTried 13 = .ok (.lastore, 1) := by decide +kernel
theorem dL_timesTried_14 : decode cL_timesTried 14 = .ok (.goto 11, 3) := by decide +kernel
theorem dL_timesTried_17 : decode cL_timesTried 17 = .ok (.astore 6, 2) := by decide +kernel
theorem dL_timesTried_19 : decode cL_timesTried 19 = .ok (.iconst 1, 1) := by decide +kernel
theorem dL_timesTried_20 : decode cL_timesTried 20 = .ok (.ireturn, 1) := by decide +kernel
theorem dL_timesTried_21 : decode cL_timesTried 21 = .ok (.astore 6, 2) := by decide +kernel
theorem dL_timesTried_23 : decode cL_timesTried 23 = .ok (.iconst 2, 1) := by decide +kernel
theorem dL_timesTried_24 : decode cL_timesTried 24 = .ok (.ireturn, 1) := by decide +kernel
theorem dL_timesTried_25 : decode cL_timesTried 25 = .ok (.iconst 0, 1) := by decide +kernel
theorem dL_timesTried_26 : decode cL_timesTried 26 = .ok (.ireturn, 1) := by decide +kernel
theorem dL_rewardSum_0 : decode cL_rewardSum 0 = .ok (.aload 5, 2) := by decide +kernel
theorem dL_rewardSum_2 : decode cL_rewardSum 2 = .ok (.iconst 0, 1) := by decide +kernel
theorem dL_rewardSum_3 : decode cL_rewardSum 3 = .ok (.aload_n 0, 1) := by decide +kernel
theorem dL_rewardSum_4 : decode cL_rewardSum 4 = .ok (.iload_n 1, 1) := by decide +kernel
theorem dL_rewardSum_5 : decode cL_rewardSum 5 = .ok (.iload_n 2, 1) := by decide +kernel
theorem dL_rewardSum_6 : decode cL_rewardSum 6 = .ok (.iload_n 3, 1) := by decide +kernel
theorem dL_rewardSum_7 : decode cL_rewardSum 7 = .ok (.iload 4, 2) := by decide +kernel
theorem dL_rewardSum_9 : decode cL_rewardSum 9 = .ok (.invokevirtual 86, 3) := by decide +kernel
theorem dL_rewardSum_12 : decode cL_rewardSum 12 = .ok (.i2l, 1) := by decide +kernel
theorem dL_rewardSum_13 : decode cL_rewardSum 13 = .ok (.lastore, 1) := by decide +kernel
theorem dL_rewardSum_14 : decode cL_rewardSum 14 = .ok (.goto 11, 3) := by decide +kernel
theorem dL_rewardSum_17 : decode cL_rewardSum 17 = .ok (.astore 6, 2) := by decide +kernel
theorem dL_rewardSum_19 : decode cL_rewardSum 19 = .ok (.iconst 1, 1) := by decide +kernel
theorem dL_rewardSum_20 : decode cL_rewardSum 20 = .ok (.ireturn, 1) := by decide +kernel
theorem dL_rewardSum_21 : decode cL_rewardSum 21 = .ok (.astore 6, 2) := by decide +kernel
theorem dL_rewardSum_23 : decode cL_rewardSum 23 = .ok (.iconst 2, 1) := by decide +kernel
theorem dL_rewardSum_24 : decode cL_rewardSum 24 = .ok (.ireturn, 1) := by decide +kernel
theorem dL_rewardSum_25 : decode cL_rewardSum 25 = .ok (.iconst 0, 1) := by decide +kernel
theorem dL_rewardSum_26 : decode cL_rewardSum 26 = .ok (.ireturn, 1) := by decide +kernel
theorem dL_rewardSumByTrials_0 : decode cL_rewardSumByTrials 0 = .ok (.aload 5, 2) := by decide +kernel
theorem dL_rewardSumByTrials_2 : decode cL_rewardSumByTrials 2 = .ok (.iconst 0, 1) := by decide +kernel
theorem dL_rewardSumByTrials_3 : decode cL_rewardSumByTrials 3 = .ok (.aload_n 0, 1) := by decide +kernel
theorem dL_rewardSumByTrials_4 : decode cL_rewardSumByTrials 4 = .ok (.iload_n 1, 1) := by decide +kernel
theorem dL_rewardSumByTrials_5 : decode cL_rewardSumByTrials 5 = .ok (.iload_n 2, 1) := by decide +kernel
theorem dL_rewardSumByTrials_6 : decode cL_rewardSumByTrials 6 = .ok (.iload_n 3, 1) := by decide +kernel
theorem dL_rewardSumByTrials_7 : decode cL_rewardSumByTrials 7 = .ok (.iload 4, 2) := by decide +kernel
theorem dL_rewardSumByTrials_9 : decode cL_rewardSumByTrials 9 = .ok (.invokevirtual 89, 3) := by decide +kernel
theorem dL_rewardSumByTrials_12 : decode cL_rewardSumByTrials 12 = .ok (.i2l, 1) := by decide +kernel
theorem dL_rewardSumByTrials_13 : decode cL_rewardSumByTrials 13 = .ok (.lastore, 1) := by decide +kernel
theorem dL_rewardSumByTrials_14 : decode cL_rewardSumByTrials 14 = .ok (.goto 11, 3) := by decide +kernel
theorem dL_rewardSumByTrials_17 : decode cL_rewardSumByTrials 17 = .ok (.astore 6, 2) := by decide +kernel
theorem dL_rewardSumByTrials_19 : decode cL_rewardSumByTrials 19 = .ok (.iconst 1, 1) := by decide +kernel
theorem dL_rewardSumByTrials_20 : decode cL_rewardSumByTrials 20 = .ok (.ireturn, 1) := by decide +kernel
theorem dL_rewardSumByTrials_21 : decode cL_rewardSumByTrials 21 = .ok (.astore 6, 2) := by decide +kernel
theorem dL_rewardSumByTrials_23 : decode cL_rewardSumByTrials 23 = .ok (.iconst 2, 1) := by decide +kernel
theorem dL_rewardSumByTrials_24 : decode cL_rewardSumByTrials 24 = .ok (.ireturn, 1) := by decide +kernel
theorem dL_rewardSumByTrials_25 : decode cL_rewardSumByTrials 25 = .ok (.iconst 0, 1) := by decide +kernel
theorem dL_rewardSumByTrials_26 : decode cL_rewardSumByTrials 26 = .ok (.ireturn, 1) := by decide +kernel
theorem dL_meanReward_0 : decode cL_meanReward 0 = .ok (.aload 5, 2) := by decide +kernel
theorem dL_meanReward_2 : decode cL_meanReward 2 = .ok (.iconst 0, 1) := by decide +kernel
theorem dL_meanReward_3 : decode cL_meanReward 3 = .ok (.aload_n 0, 1) := by decide +kernel
theorem dL_meanReward_4 : decode cL_meanReward 4 = .ok (.iload_n 1, 1) := by decide +kernel
theorem dL_meanReward_5 : decode cL_meanReward 5 = .ok (.iload_n 2, 1) := by decide +kernel
theorem dL_meanReward_6 : decode cL_meanReward 6 = .ok (.iload_n 3, 1) := by decide +kernel
theorem dL_meanReward_7 : decode cL_meanReward 7 = .ok (.iload 4, 2) := by decide +kernel
theorem dL_meanReward_9 : decode cL_meanReward 9 = .ok (.invokevirtual 92, 3) := by decide +kernel
theorem dL_meanReward_12 : decode cL_meanReward 12 = .ok (.dastore, 1) := by decide +kernel
theorem dL_meanReward_13 : decode cL_meanReward 13 = .ok (.goto 15, 3) := by decide +kernel
theorem dL_meanReward_16 : decode cL_meanReward 16 = .ok (.astore 6, 2) := by decide +kernel
theorem dL_meanReward_18 : decode cL_meanReward 18 = .ok (.iconst 1, 1) := by decide +kernel
theorem dL_meanReward_19 : decode cL_meanReward 19 = .ok (.ireturn, 1) := by decide +kernel
theorem dL_meanReward_20 : decode cL_meanReward 20 = .ok (.astore 6, 2) := by decide +kernel
theorem dL_meanReward_22 : decode cL_meanReward 22 = .ok (.iconst 2, 1) := by decide +kernel
theorem dL_meanReward_23 : decode cL_meanReward 23 = .ok (.ireturn, 1) := by decide +kernel
theorem dL_meanReward_24 : decode cL_meanReward 24 = .ok (.astore 6, 2) := by decide +kernel
theorem dL_meanReward_26 : decode cL_meanReward 26 = .ok (.iconst 3, 1) := by decide +kernel
theorem dL_meanReward_27 : decode cL_meanReward 27 = .ok (.ireturn, 1) := by decide +kernel
theorem dL_meanReward_28 : decode cL_meanReward 28 = .ok (.iconst 0, 1) := by decide +kernel
theorem dL_meanReward_29 : decode cL_meanReward 29 = .ok (.ireturn, 1) := by decide +kernel
theorem dL_rightHabits_0 : decode cL_rightHabits 0 = .ok (.aload_n 2, 1) := by decide +kernel
theorem dL_rightHabits_1 : decode cL_rightHabits 1 = .ok (.iconst 0, 1) := by decide +kernel
theorem dL_rightHabits_2 : decode cL_rightHabits 2 = .ok (.aload_n 0, 1) := by decide +kernel
theorem dL_rightHabits_3 : decode cL_rightHabits 3 = .ok (.iload_n 1, 1) := by decide +kernel
theorem dL_rightHabits_4 : decode cL_rightHabits 4 = .ok (.invokevirtual 96, 3) := by decide +kernel
theorem dL_rightHabits_7 : decode cL_rightHabits 7 = .ok (.i2l, 1) := by decide +kernel
theorem dL_rightHabits_8 : decode cL_rightHabits 8 = .ok (.lastore, 1) := by decide +kernel
theorem dL_rightHabits_9 : decode cL_rightHabits 9 = .ok (.goto 6, 3) := by decide +kernel
theorem dL_rightHabits_12 : decode cL_rightHabits 12 = .ok (.astore_n 3, 1) := by decide +kernel
theorem dL_rightHabits_13 : decode cL_rightHabits 13 = .ok (.iconst 1, 1) := by decide +kernel
theorem dL_rightHabits_14 : decode cL_rightHabits 14 = .ok (.ireturn, 1) := by decide +kernel
theorem dL_rightHabits_15 : decode cL_rightHabits 15 = .ok (.iconst 0, 1) := by decide +kernel
theorem dL_rightHabits_16 : decode cL_rightHabits 16 = .ok (.ireturn, 1) := by decide +kernel
theorem dL_knownSituations_0 : decode cL_knownSituations 0 = .ok (.aload_n 2, 1) := by decide +kernel
theorem dL_knownSituations_1 : decode cL_knownSituations 1 = .ok (.iconst 0, 1) := by decide +kernel
theorem dL_knownSituations_2 : decode cL_knownSituations 2 = .ok (.aload_n 0, 1) := by decide +kernel
theorem dL_knownSituations_3 : decode cL_knownSituations 3 = .ok (.iload_n 1, 1) := by decide +kernel
theorem dL_knownSituations_4 : decode cL_knownSituations 4 = .ok (.invokevirtual 99, 3) := by decide +kernel
theorem dL_knownSituations_7 : decode cL_knownSituations 7 = .ok (.i2l, 1) := by decide +kernel
theorem dL_knownSituations_8 : decode cL_knownSituations 8 = .ok (.lastore, 1) := by decide +kernel
theorem dL_knownSituations_9 : decode cL_knownSituations 9 = .ok (.goto 6, 3) := by decide +kernel
theorem dL_knownSituations_12 : decode cL_knownSituations 12 = .ok (.astore_n 3, 1) := by decide +kernel
theorem dL_knownSituations_13 : decode cL_knownSituations 13 = .ok (.iconst 1, 1) := by decide +kernel
theorem dL_knownSituations_14 : decode cL_knownSituations 14 = .ok (.ireturn, 1) := by decide +kernel
theorem dL_knownSituations_15 : decode cL_knownSituations 15 = .ok (.iconst 0, 1) := by decide +kernel
theorem dL_knownSituations_16 : decode cL_knownSituations 16 = .ok (.ireturn, 1) := by decide +kernel
theorem dL_situationRain_0 : decode cL_situationRain 0 = .ok (.aload_n 3, 1) := by decide +kernel
theorem dL_situationRain_1 : decode cL_situationRain 1 = .ok (.iconst 0, 1) := by decide +kernel
theorem dL_situationRain_2 : decode cL_situationRain 2 = .ok (.aload_n 0, 1) := by decide +kernel
theorem dL_situationRain_3 : decode cL_situationRain 3 = .ok (.iload_n 1, 1) := by decide +kernel
theorem dL_situationRain_4 : decode cL_situationRain 4 = .ok (.iload_n 2, 1) := by decide +kernel
theorem dL_situationRain_5 : decode cL_situationRain 5 = .ok (.invokevirtual 102, 3) := by decide +kernel
theorem dL_situationRain_8 : decode cL_situationRain 8 = .ok (.i2l, 1) := by decide +kernel
theorem dL_situationRain_9 : decode cL_situationRain 9 = .ok (.lastore, 1) := by decide +kernel
theorem dL_situationRain_10 : decode cL_situationRain 10 = .ok (.goto 11, 3) := by decide +kernel
theorem dL_situationRain_13 : decode cL_situationRain 13 = .ok (.astore 4, 2) := by decide +kernel
theorem dL_situationRain_15 : decode cL_situationRain 15 = .ok (.iconst 1, 1) := by decide +kernel
theorem dL_situationRain_16 : decode cL_situationRain 16 = .ok (.ireturn, 1) := by decide +kernel
theorem dL_situationRain_17 : decode cL_situationRain 17 = .ok (.astore 4, 2) := by decide +kernel
theorem dL_situationRain_19 : decode cL_situationRain 19 = .ok (.iconst 2, 1) := by decide +kernel
theorem dL_situationRain_20 : decode cL_situationRain 20 = .ok (.ireturn, 1) := by decide +kernel
theorem dL_situationRain_21 : decode cL_situationRain 21 = .ok (.iconst 0, 1) := by decide +kernel
theorem dL_situationRain_22 : decode cL_situationRain 22 = .ok (.ireturn, 1) := by decide +kernel
theorem dL_situationWind_0 : decode cL_situationWind 0 = .ok (.aload_n 3, 1) := by decide +kernel
theorem dL_situationWind_1 : decode cL_situationWind 1 = .ok (.iconst 0, 1) := by decide +kernel
theorem dL_situationWind_2 : decode cL_situationWind 2 = .ok (.aload_n 0, 1) := by decide +kernel
theorem dL_situationWind_3 : decode cL_situationWind 3 = .ok (.iload_n 1, 1) := by decide +kernel
theorem dL_situationWind_4 : decode cL_situationWind 4 = .ok (.iload_n 2, 1) := by decide +kernel
theorem dL_situationWind_5 : decode cL_situationWind 5 = .ok (.invokevirtual 105, 3) := by decide +kernel
theorem dL_situationWind_8 : decode cL_situationWind 8 = .ok (.i2l, 1) := by decide +kernel
theorem dL_situationWind_9 : decode cL_situationWind 9 = .ok (.lastore, 1) := by decide +kernel
theorem dL_situationWind_10 : decode cL_situationWind 10 = .ok (.goto 11, 3) := by decide +kernel
theorem dL_situationWind_13 : decode cL_situationWind 13 = .ok (.astore 4, 2) := by decide +kernel
theorem dL_situationWind_15 : decode cL_situationWind 15 = .ok (.iconst 1, 1) := by decide +kernel
theorem dL_situationWind_16 : decode cL_situationWind 16 = .ok (.ireturn, 1) := by decide +kernel
theorem dL_situationWind_17 : decode cL_situationWind 17 = .ok (.astore 4, 2) := by decide +kernel
theorem dL_situationWind_19 : decode cL_situationWind 19 = .ok (.iconst 2, 1) := by decide +kernel
theorem dL_situationWind_20 : decode cL_situationWind 20 = .ok (.ireturn, 1) := by decide +kernel
theorem dL_situationWind_21 : decode cL_situationWind 21 = .ok (.iconst 0, 1) := by decide +kernel
theorem dL_situationWind_22 : decode cL_situationWind 22 = .ok (.ireturn, 1) := by decide +kernel
theorem dL_hasExam_0 : decode cL_hasExam 0 = .ok (.aload_n 3, 1) := by decide +kernel
theorem dL_hasExam_1 : decode cL_hasExam 1 = .ok (.iconst 0, 1) := by decide +kernel
theorem dL_hasExam_2 : decode cL_hasExam 2 = .ok (.aload_n 0, 1) := by decide +kernel
theorem dL_hasExam_3 : decode cL_hasExam 3 = .ok (.iload_n 1, 1) := by decide +kernel
theorem dL_hasExam_4 : decode cL_hasExam 4 = .ok (.iload_n 2, 1) := by decide +kernel
theorem dL_hasExam_5 : decode cL_hasExam 5 = .ok (.invokevirtual 108, 3) := by decide +kernel
theorem dL_hasExam_8 : decode cL_hasExam 8 = .ok (.ifCond .eq 7, 3) := by decide +kernel
theorem dL_hasExam_11 : decode cL_hasExam 11 = .ok (.lconst 1, 1) := by decide +kernel
theorem dL_hasExam_12 : decode cL_hasExam 12 = .ok (.goto 4, 3) := by decide +kernel
theorem dL_hasExam_15 : decode cL_hasExam 15 = .ok (.lconst 0, 1) := by decide +kernel
theorem dL_hasExam_16 : decode cL_hasExam 16 = .ok (.lastore, 1) := by decide +kernel
theorem dL_hasExam_17 : decode cL_hasExam 17 = .ok (.goto 11, 3) := by decide +kernel
theorem dL_hasExam_20 : decode cL_hasExam 20 = .ok (.astore 4, 2) := by decide +kernel
theorem dL_hasExam_22 : decode cL_hasExam 22 = .ok (.iconst 1, 1) := by decide +kernel
theorem dL_hasExam_23 : decode cL_hasExam 23 = .ok (.ireturn, 1) := by decide +kernel
theorem dL_hasExam_24 : decode cL_hasExam 24 = .ok (.astore 4, 2) := by decide +kernel
theorem dL_hasExam_26 : decode cL_hasExam 26 = .ok (.iconst 2, 1) := by decide +kernel
theorem dL_hasExam_27 : decode cL_hasExam 27 = .ok (.ireturn, 1) := by decide +kernel
theorem dL_hasExam_28 : decode cL_hasExam 28 = .ok (.iconst 0, 1) := by decide +kernel
theorem dL_hasExam_29 : decode cL_hasExam 29 = .ok (.ireturn, 1) := by decide +kernel
theorem dL_isGraduate_0 : decode cL_isGraduate 0 = .ok (.aload_n 2, 1) := by decide +kernel
theorem dL_isGraduate_1 : decode cL_isGraduate 1 = .ok (.iconst 0, 1) := by decide +kernel
theorem dL_isGraduate_2 : decode cL_isGraduate 2 = .ok (.aload_n 0, 1) := by decide +kernel
theorem dL_isGraduate_3 : decode cL_isGraduate 3 = .ok (.iload_n 1, 1) := by decide +kernel
theorem dL_isGraduate_4 : decode cL_isGraduate 4 = .ok (.invokevirtual 111, 3) := by decide +kernel
theorem dL_isGraduate_7 : decode cL_isGraduate 7 = .ok (.ifCond .eq 7, 3) := by decide +kernel
theorem dL_isGraduate_10 : decode cL_isGraduate 10 = .ok (.lconst 1, 1) := by decide +kernel
theorem dL_isGraduate_11 : decode cL_isGraduate 11 = .ok (.goto 4, 3) := by decide +kernel
theorem dL_isGraduate_14 : decode cL_isGraduate 14 = .ok (.lconst 0, 1) := by decide +kernel
theorem dL_isGraduate_15 : decode cL_isGraduate 15 = .ok (.lastore, 1) := by decide +kernel
theorem dL_isGraduate_16 : decode cL_isGraduate 16 = .ok (.goto 6, 3) := by decide +kernel
theorem dL_isGraduate_19 : decode cL_isGraduate 19 = .ok (.astore_n 3, 1) := by decide +kernel
theorem dL_isGraduate_20 : decode cL_isGraduate 20 = .ok (.iconst 1, 1) := by decide +kernel
theorem dL_isGraduate_21 : decode cL_isGraduate 21 = .ok (.ireturn, 1) := by decide +kernel
theorem dL_isGraduate_22 : decode cL_isGraduate 22 = .ok (.iconst 0, 1) := by decide +kernel
theorem dL_isGraduate_23 : decode cL_isGraduate 23 = .ok (.ireturn, 1) := by decide +kernel
theorem dL_totalReward_0 : decode cL_totalReward 0 = .ok (.aload_n 2, 1) := by decide +kernel
theorem dL_totalReward_1 : decode cL_totalReward 1 = .ok (.iconst 0, 1) := by decide +kernel
theorem dL_totalReward_2 : decode cL_totalReward 2 = .ok (.aload_n 0, 1) := by decide +kernel
theorem dL_totalReward_3 : decode cL_totalReward 3 = .ok (.iload_n 1, 1) := by decide +kernel
theorem dL_totalReward_4 : decode cL_totalReward 4 = .ok (.invokevirtual 114, 3) := by decide +kernel
theorem dL_totalReward_7 : decode cL_totalReward 7 = .ok (.i2l, 1) := by decide +kernel
theorem dL_totalReward_8 : decode cL_totalReward 8 = .ok (.lastore, 1) := by decide +kernel
theorem dL_totalReward_9 : decode cL_totalReward 9 = .ok (.goto 6, 3) := by decide +kernel
theorem dL_totalReward_12 : decode cL_totalReward 12 = .ok (.astore_n 3, 1) := by decide +kernel
theorem dL_totalReward_13 : decode cL_totalReward 13 = .ok (.iconst 1, 1) := by decide +kernel
theorem dL_totalReward_14 : decode cL_totalReward 14 = .ok (.ireturn, 1) := by decide +kernel
theorem dL_totalReward_15 : decode cL_totalReward 15 = .ok (.iconst 0, 1) := by decide +kernel
theorem dL_totalReward_16 : decode cL_totalReward 16 = .ok (.ireturn, 1) := by decide +kernel
theorem dL_termReward_0 : decode cL_termReward 0 = .ok (.aload_n 2, 1) := by decide +kernel
theorem dL_termReward_1 : decode cL_termReward 1 = .ok (.iconst 0, 1) := by decide +kernel
theorem dL_termReward_2 : decode cL_termReward 2 = .ok (.aload_n 0, 1) := by decide +kernel
theorem dL_termReward_3 : decode cL_termReward 3 = .ok (.iload_n 1, 1) := by decide +kernel
theorem dL_termReward_4 : decode cL_termReward 4 = .ok (.invokevirtual 117, 3) := by decide +kernel
theorem dL_termReward_7 : decode cL_termReward 7 = .ok (.i2l, 1) := by decide +kernel
theorem dL_termReward_8 : decode cL_termReward 8 = .ok (.lastore, 1) := by decide +kernel
theorem dL_termReward_9 : decode cL_termReward 9 = .ok (.goto 6, 3) := by decide +kernel
theorem dL_termReward_12 : decode cL_termReward 12 = .ok (.astore_n 3, 1) := by decide +kernel
theorem dL_termReward_13 : decode cL_termReward 13 = .ok (.iconst 1, 1) := by decide +kernel
theorem dL_termReward_14 : decode cL_termReward 14 = .ok (.ireturn, 1) := by decide +kernel
theorem dL_termReward_15 : decode cL_termReward 15 = .ok (.iconst 0, 1) := by decide +kernel
theorem dL_termReward_16 : decode cL_termReward 16 = .ok (.ireturn, 1) := by decide +kernel
theorem dL_stars_0 : decode cL_stars 0 = .ok (.aload_n 2, 1) := by decide +kernel
theorem dL_stars_1 : decode cL_stars 1 = .ok (.iconst 0, 1) := by decide +kernel
theorem dL_stars_2 : decode cL_stars 2 = .ok (.aload_n 0, 1) := by decide +kernel
theorem dL_stars_3 : decode cL_stars 3 = .ok (.iload_n 1, 1) := by decide +kernel
theorem dL_stars_4 : decode cL_stars 4 = .ok (.invokevirtual 120, 3) := by decide +kernel
theorem dL_stars_7 : decode cL_stars 7 = .ok (.i2l, 1) := by decide +kernel
theorem dL_stars_8 : decode cL_stars 8 = .ok (.lastore, 1) := by decide +kernel
theorem dL_stars_9 : decode cL_stars 9 = .ok (.goto 6, 3) := by decide +kernel
theorem dL_stars_12 : decode cL_stars 12 = .ok (.astore_n 3, 1) := by decide +kernel
theorem dL_stars_13 : decode cL_stars 13 = .ok (.iconst 1, 1) := by decide +kernel
theorem dL_stars_14 : decode cL_stars 14 = .ok (.ireturn, 1) := by decide +kernel
theorem dL_stars_15 : decode cL_stars 15 = .ok (.iconst 0, 1) := by decide +kernel
theorem dL_stars_16 : decode cL_stars 16 = .ok (.ireturn, 1) := by decide +kernel
theorem dL_umbrellaByStars_0 : decode cL_umbrellaByStars 0 = .ok (.aload_n 2, 1) := by decide +kernel
theorem dL_umbrellaByStars_1 : decode cL_umbrellaByStars 1 = .ok (.iconst 0, 1) := by decide +kernel
theorem dL_umbrellaByStars_2 : decode cL_umbrellaByStars 2 = .ok (.aload_n 0, 1) := by decide +kernel
theorem dL_umbrellaByStars_3 : decode cL_umbrellaByStars 3 = .ok (.iload_n 1, 1) := by decide +kernel
theorem dL_umbrellaByStars_4 : decode cL_umbrellaByStars 4 = .ok (.invokevirtual 123, 3) := by decide +kernel
theorem dL_umbrellaByStars_7 : decode cL_umbrellaByStars 7 = .ok (.i2l, 1) := by decide +kernel
theorem dL_umbrellaByStars_8 : decode cL_umbrellaByStars 8 = .ok (.lastore, 1) := by decide +kernel
theorem dL_umbrellaByStars_9 : decode cL_umbrellaByStars 9 = .ok (.goto 6, 3) := by decide +kernel
theorem dL_umbrellaByStars_12 : decode cL_umbrellaByStars 12 = .ok (.astore_n 3, 1) := by decide +kernel
theorem dL_umbrellaByStars_13 : decode cL_umbrellaByStars 13 = .ok (.iconst 1, 1) := by decide +kernel
theorem dL_umbrellaByStars_14 : decode cL_umbrellaByStars 14 = .ok (.ireturn, 1) := by decide +kernel
theorem dL_umbrellaByStars_15 : decode cL_umbrellaByStars 15 = .ok (.iconst 0, 1) := by decide +kernel
theorem dL_umbrellaByStars_16 : decode cL_umbrellaByStars 16 = .ok (.ireturn, 1) := by decide +kernel
theorem dL_meanSchoolReward_0 : decode cL_meanSchoolReward 0 = .ok (.aload_n 1, 1) := by decide +kernel
theorem dL_meanSchoolReward_1 : decode cL_meanSchoolReward 1 = .ok (.iconst 0, 1) := by decide +kernel
theorem dL_meanSchoolReward_2 : decode cL_meanSchoolReward 2 = .ok (.aload_n 0, 1) := by decide +kernel
theorem dL_meanSchoolReward_3 : decode cL_meanSchoolReward 3 = .ok (.invokevirtual 126, 3) := by decide +kernel
theorem dL_meanSchoolReward_6 : decode cL_meanSchoolReward 6 = .ok (.dastore, 1) := by decide +kernel
theorem dL_meanSchoolReward_7 : decode cL_meanSchoolReward 7 = .ok (.goto 6, 3) := by decide +kernel
theorem dL_meanSchoolReward_10 : decode cL_meanSchoolReward 10 = .ok (.astore_n 2, 1) := by decide +kernel
theorem dL_meanSchoolReward_11 : decode cL_meanSchoolReward 11 = .ok (.iconst 1, 1) := by decide +kernel
theorem dL_meanSchoolReward_12 : decode cL_meanSchoolReward 12 = .ok (.ireturn, 1) := by decide +kernel
theorem dL_meanSchoolReward_13 : decode cL_meanSchoolReward 13 = .ok (.iconst 0, 1) := by decide +kernel
theorem dL_meanSchoolReward_14 : decode cL_meanSchoolReward 14 = .ok (.ireturn, 1) := by decide +kernel
theorem dL_openShare_0 : decode cL_openShare 0 = .ok (.aload_n 1, 1) := by decide +kernel
theorem dL_openShare_1 : decode cL_openShare 1 = .ok (.iconst 0, 1) := by decide +kernel
theorem dL_openShare_2 : decode cL_openShare 2 = .ok (.aload_n 0, 1) := by decide +kernel
theorem dL_openShare_3 : decode cL_openShare 3 = .ok (.invokevirtual 132, 3) := by decide +kernel
theorem dL_openShare_6 : decode cL_openShare 6 = .ok (.f2d, 1) := by decide +kernel
theorem dL_openShare_7 : decode cL_openShare 7 = .ok (.dastore, 1) := by decide +kernel
theorem dL_openShare_8 : decode cL_openShare 8 = .ok (.goto 6, 3) := by decide +kernel
theorem dL_openShare_11 : decode cL_openShare 11 = .ok (.astore_n 2, 1) := by decide +kernel
theorem dL_openShare_12 : decode cL_openShare 12 = .ok (.iconst 1, 1) := by decide +kernel
theorem dL_openShare_13 : decode cL_openShare 13 = .ok (.ireturn, 1) := by decide +kernel
theorem dL_openShare_14 : decode cL_openShare 14 = .ok (.iconst 0, 1) := by decide +kernel
theorem dL_openShare_15 : decode cL_openShare 15 = .ok (.ireturn, 1) := by decide +kernel
theorem dL_renderHabits_0 : decode cL_renderHabits 0 = .ok (.aload_n 2, 1) := by decide +kernel
theorem dL_renderHabits_1 : decode cL_renderHabits 1 = .ok (.iconst 0, 1) := by decide +kernel
theorem dL_renderHabits_2 : decode cL_renderHabits 2 = .ok (.aload_n 0, 1) := by decide +kernel
theorem dL_renderHabits_3 : decode cL_renderHabits 3 = .ok (.iload_n 1, 1) := by decide +kernel
theorem dL_renderHabits_4 : decode cL_renderHabits 4 = .ok (.invokevirtual 136, 3) := by decide +kernel
theorem dL_renderHabits_7 : decode cL_renderHabits 7 = .ok (.i2l, 1) := by decide +kernel
theorem dL_renderHabits_8 : decode cL_renderHabits 8 = .ok (.lastore, 1) := by decide +kernel
theorem dL_renderHabits_9 : decode cL_renderHabits 9 = .ok (.goto 6, 3) := by decide +kernel
theorem dL_renderHabits_12 : decode cL_renderHabits 12 = .ok (.astore_n 3, 1) := by decide +kernel
theorem dL_renderHabits_13 : decode cL_renderHabits 13 = .ok (.iconst 1, 1) := by decide +kernel
theorem dL_renderHabits_14 : decode cL_renderHabits 14 = .ok (.ireturn, 1) := by decide +kernel
theorem dL_renderHabits_15 : decode cL_renderHabits 15 = .ok (.iconst 0, 1) := by decide +kernel
theorem dL_renderHabits_16 : decode cL_renderHabits 16 = .ok (.ireturn, 1) := by decide +kernel
theorem dL_renderUmbrella_0 : decode cL_renderUmbrella 0 = .ok (.aload_n 2, 1) := by decide +kernel
theorem dL_renderUmbrella_1 : decode cL_renderUmbrella 1 = .ok (.iconst 0, 1) := by decide +kernel
theorem dL_renderUmbrella_2 : decode cL_renderUmbrella 2 = .ok (.aload_n 0, 1) := by decide +kernel
theorem dL_renderUmbrella_3 : decode cL_renderUmbrella 3 = .ok (.iload_n 1, 1) := by decide +kernel
theorem dL_renderUmbrella_4 : decode cL_renderUmbrella 4 = .ok (.invokevirtual 139, 3) := by decide +kernel
theorem dL_renderUmbrella_7 : decode cL_renderUmbrella 7 = .ok (.i2l, 1) := by decide +kernel
theorem dL_renderUmbrella_8 : decode cL_renderUmbrella 8 = .ok (.lastore, 1) := by decide +kernel
theorem dL_renderUmbrella_9 : decode cL_renderUmbrella 9 = .ok (.goto 6, 3) := by decide +kernel
theorem dL_renderUmbrella_12 : decode cL_renderUmbrella 12 = .ok (.astore_n 3, 1) := by decide +kernel
theorem dL_renderUmbrella_13 : decode cL_renderUmbrella 13 = .ok (.iconst 1, 1) := by decide +kernel
theorem dL_renderUmbrella_14 : decode cL_renderUmbrella 14 = .ok (.ireturn, 1) := by decide +kernel
theorem dL_renderUmbrella_15 : decode cL_renderUmbrella 15 = .ok (.iconst 0, 1) := by decide +kernel
theorem dL_renderUmbrella_16 : decode cL_renderUmbrella 16 = .ok (.ireturn, 1) := by decide +kernel
theorem dL_outputAt_0 : decode cL_outputAt 0 = .ok (.aload_n 2, 1) := by decide +kernel
theorem dL_outputAt_1 : decode cL_outputAt 1 = .ok (.iconst 0, 1) := by decide +kernel
theorem dL_outputAt_2 : decode cL_outputAt 2 = .ok (.aload_n 0, 1) := by decide +kernel
theorem dL_outputAt_3 : decode cL_outputAt 3 = .ok (.iload_n 1, 1) := by decide +kernel
theorem dL_outputAt_4 : decode cL_outputAt 4 = .ok (.invokevirtual 142, 3) := by decide +kernel
theorem dL_outputAt_7 : decode cL_outputAt 7 = .ok (.i2l, 1) := by decide +kernel
theorem dL_outputAt_8 : decode cL_outputAt 8 = .ok (.lastore, 1) := by decide +kernel
theorem dL_outputAt_9 : decode cL_outputAt 9 = .ok (.goto 6, 3) := by decide +kernel
theorem dL_outputAt_12 : decode cL_outputAt 12 = .ok (.astore_n 3, 1) := by decide +kernel
theorem dL_outputAt_13 : decode cL_outputAt 13 = .ok (.iconst 1, 1) := by decide +kernel
theorem dL_outputAt_14 : decode cL_outputAt 14 = .ok (.ireturn, 1) := by decide +kernel
theorem dL_outputAt_15 : decode cL_outputAt 15 = .ok (.iconst 0, 1) := by decide +kernel
theorem dL_outputAt_16 : decode cL_outputAt 16 = .ok (.ireturn, 1) := by decide +kernel
theorem dL_type_0 : decode cL_type 0 = .ok (.aload_n 2, 1) := by decide +kernel
theorem dL_type_1 : decode cL_type 1 = .ok (.iconst 0, 1) := by decide +kernel
theorem dL_type_2 : decode cL_type 2 = .ok (.aload_n 0, 1) := by decide +kernel
theorem dL_type_3 : decode cL_type 3 = .ok (.iload_n 1, 1) := by decide +kernel
theorem dL_type_4 : decode cL_type 4 = .ok (.invokevirtual 146, 3) := by decide +kernel
theorem dL_type_7 : decode cL_type 7 = .ok (.i2l, 1) := by decide +kernel
theorem dL_type_8 : decode cL_type 8 = .ok (.lastore, 1) := by decide +kernel
theorem dL_type_9 : decode cL_type 9 = .ok (.goto 9, 3) := by decide +kernel
theorem dL_type_12 : decode cL_type 12 = .ok (.astore_n 3, 1) := by decide +kernel
theorem dL_type_13 : decode cL_type 13 = .ok (.iconst 1, 1) := by decide +kernel
theorem dL_type_14 : decode cL_type 14 = .ok (.ireturn, 1) := by decide +kernel
theorem dL_type_15 : decode cL_type 15 = .ok (.astore_n 3, 1) := by decide +kernel
theorem dL_type_16 : decode cL_type 16 = .ok (.iconst 2, 1) := by decide +kernel
theorem dL_type_17 : decode cL_type 17 = .ok (.ireturn, 1) := by decide +kernel
theorem dL_type_18 : decode cL_type 18 = .ok (.iconst 0, 1) := by decide +kernel
theorem dL_type_19 : decode cL_type 19 = .ok (.ireturn, 1) := by decide +kernel
theorem dL_runScript_0 : decode cL_runScript 0 = .ok (.aload_n 1, 1) := by decide +kernel
theorem dL_runScript_1 : decode cL_runScript 1 = .ok (.iconst 0, 1) := by decide +kernel
theorem dL_runScript_2 : decode cL_runScript 2 = .ok (.aload_n 0, 1) := by decide +kernel
theorem dL_runScript_3 : decode cL_runScript 3 = .ok (.invokevirtual 150, 3) := by decide +kernel
theorem dL_runScript_6 : decode cL_runScript 6 = .ok (.i2l, 1) := by decide +kernel
theorem dL_runScript_7 : decode cL_runScript 7 = .ok (.lastore, 1) := by decide +kernel
theorem dL_runScript_8 : decode cL_runScript 8 = .ok (.goto 9, 3) := by decide +kernel
theorem dL_runScript_11 : decode cL_runScript 11 = .ok (.astore_n 2, 1) := by decide +kernel
theorem dL_runScript_12 : decode cL_runScript 12 = .ok (.iconst 1, 1) := by decide +kernel
theorem dL_runScript_13 : decode cL_runScript 13 = .ok (.ireturn, 1) := by decide +kernel
theorem dL_runScript_14 : decode cL_runScript 14 = .ok (.astore_n 2, 1) := by decide +kernel
theorem dL_runScript_15 : decode cL_runScript 15 = .ok (.iconst 2, 1) := by decide +kernel
theorem dL_runScript_16 : decode cL_runScript 16 = .ok (.ireturn, 1) := by decide +kernel
theorem dL_runScript_17 : decode cL_runScript 17 = .ok (.iconst 0, 1) := by decide +kernel
theorem dL_runScript_18 : decode cL_runScript 18 = .ok (.ireturn, 1) := by decide +kernel
theorem dL_errorPosition_0 : decode cL_errorPosition 0 = .ok (.aload_n 1, 1) := by decide +kernel
theorem dL_errorPosition_1 : decode cL_errorPosition 1 = .ok (.iconst 0, 1) := by decide +kernel
theorem dL_errorPosition_2 : decode cL_errorPosition 2 = .ok (.aload_n 0, 1) := by decide +kernel
theorem dL_errorPosition_3 : decode cL_errorPosition 3 = .ok (.invokevirtual 153, 3) := by decide +kernel
theorem dL_errorPosition_6 : decode cL_errorPosition 6 = .ok (.i2l, 1) := by decide +kernel
theorem dL_errorPosition_7 : decode cL_errorPosition 7 = .ok (.lastore, 1) := by decide +kernel
theorem dL_errorPosition_8 : decode cL_errorPosition 8 = .ok (.goto 6, 3) := by decide +kernel
theorem dL_errorPosition_11 : decode cL_errorPosition 11 = .ok (.astore_n 2, 1) := by decide +kernel
theorem dL_errorPosition_12 : decode cL_errorPosition 12 = .ok (.iconst 1, 1) := by decide +kernel
theorem dL_errorPosition_13 : decode cL_errorPosition 13 = .ok (.ireturn, 1) := by decide +kernel
theorem dL_errorPosition_14 : decode cL_errorPosition 14 = .ok (.iconst 0, 1) := by decide +kernel
theorem dL_errorPosition_15 : decode cL_errorPosition 15 = .ok (.ireturn, 1) := by decide +kernel
theorem dL_failedCommand_0 : decode cL_failedCommand 0 = .ok (.aload_n 1, 1) := by decide +kernel
theorem dL_failedCommand_1 : decode cL_failedCommand 1 = .ok (.iconst 0, 1) := by decide +kernel
theorem dL_failedCommand_2 : decode cL_failedCommand 2 = .ok (.aload_n 0, 1) := by decide +kernel
theorem dL_failedCommand_3 : decode cL_failedCommand 3 = .ok (.invokevirtual 156, 3) := by decide +kernel
theorem dL_failedCommand_6 : decode cL_failedCommand 6 = .ok (.i2l, 1) := by decide +kernel
theorem dL_failedCommand_7 : decode cL_failedCommand 7 = .ok (.lastore, 1) := by decide +kernel
theorem dL_failedCommand_8 : decode cL_failedCommand 8 = .ok (.goto 6, 3) := by decide +kernel
theorem dL_failedCommand_11 : decode cL_failedCommand 11 = .ok (.astore_n 2, 1) := by decide +kernel
theorem dL_failedCommand_12 : decode cL_failedCommand 12 = .ok (.iconst 1, 1) := by decide +kernel
theorem dL_failedCommand_13 : decode cL_failedCommand 13 = .ok (.ireturn, 1) := by decide +kernel
theorem dL_failedCommand_14 : decode cL_failedCommand 14 = .ok (.iconst 0, 1) := by decide +kernel
theorem dL_failedCommand_15 : decode cL_failedCommand 15 = .ok (.ireturn, 1) := by decide +kernel
theorem dL_undo_0 : decode cL_undo 0 = .ok (.aload_n 1, 1) := by decide +kernel
theorem dL_undo_1 : decode cL_undo 1 = .ok (.iconst 0, 1) := by decide +kernel
theorem dL_undo_2 : decode cL_undo 2 = .ok (.aload_n 0, 1) := by decide +kernel
theorem dL_undo_3 : decode cL_undo 3 = .ok (.invokevirtual 159, 3) := by decide +kernel
theorem dL_undo_6 : decode cL_undo 6 = .ok (.i2l, 1) := by decide +kernel
theorem dL_undo_7 : decode cL_undo 7 = .ok (.lastore, 1) := by decide +kernel
theorem dL_undo_8 : decode cL_undo 8 = .ok (.goto 6, 3) := by decide +kernel
theorem dL_undo_11 : decode cL_undo 11 = .ok (.astore_n 2, 1) := by decide +kernel
theorem dL_undo_12 : decode cL_undo 12 = .ok (.iconst 1, 1) := by decide +kernel
theorem dL_undo_13 : decode cL_undo 13 = .ok (.ireturn, 1) := by decide +kernel
theorem dL_undo_14 : decode cL_undo 14 = .ok (.iconst 0, 1) := by decide +kernel
theorem dL_undo_15 : decode cL_undo 15 = .ok (.ireturn, 1) := by decide +kernel
theorem dL_restore_0 : decode cL_restore 0 = .ok (.aload_n 1, 1) := by decide +kernel
theorem dL_restore_1 : decode cL_restore 1 = .ok (.iconst 0, 1) := by decide +kernel
theorem dL_restore_2 : decode cL_restore 2 = .ok (.aload_n 0, 1) := by decide +kernel
theorem dL_restore_3 : decode cL_restore 3 = .ok (.invokevirtual 162, 3) := by decide +kernel
theorem dL_restore_6 : decode cL_restore 6 = .ok (.i2l, 1) := by decide +kernel
theorem dL_restore_7 : decode cL_restore 7 = .ok (.lastore, 1) := by decide +kernel
theorem dL_restore_8 : decode cL_restore 8 = .ok (.goto 6, 3) := by decide +kernel
theorem dL_restore_11 : decode cL_restore 11 = .ok (.astore_n 2, 1) := by decide +kernel
theorem dL_restore_12 : decode cL_restore 12 = .ok (.iconst 1, 1) := by decide +kernel
theorem dL_restore_13 : decode cL_restore 13 = .ok (.ireturn, 1) := by decide +kernel
theorem dL_restore_14 : decode cL_restore 14 = .ok (.iconst 0, 1) := by decide +kernel
theorem dL_restore_15 : decode cL_restore 15 = .ok (.ireturn, 1) := by decide +kernel
