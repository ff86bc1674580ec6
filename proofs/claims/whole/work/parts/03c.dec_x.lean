theorem dX1_init_0 : decode cX1_init 0 = .ok (.aload_n 0, 1) := by decide +kernel
theorem dX1_init_1 : decode cX1_init 1 = .ok (.invokespecial 3, 3) := by decide +kernel
theorem dX1_init_4 : decode cX1_init 4 = .ok (.aload_n 0, 1) := by decide +kernel
theorem dX1_init_5 : decode cX1_init 5 = .ok (.bipush 6, 2) := by decide +kernel
theorem dX1_init_7 : decode cX1_init 7 = .ok (.anewarray 9, 3) := by decide +kernel
theorem dX1_init_10 : decode cX1_init 10 = .ok (.putfield 11, 3) := by decide +kernel
theorem dX1_init_13 : decode cX1_init 13 = .ok (.aload_n 0, 1) := by decide +kernel
theorem dX1_init_14 : decode cX1_init 14 = .ok (.iconst 0, 1) := by decide +kernel
theorem dX1_init_15 : decode cX1_init 15 = .ok (.putfield 17, 3) := by decide +kernel
theorem dX1_init_18 : decode cX1_init 18 = .ok (.aload_n 0, 1) := by decide +kernel
theorem dX1_init_19 : decode cX1_init 19 = .ok (.iconst 2, 1) := by decide +kernel
theorem dX1_init_20 : decode cX1_init 20 = .ok (.putfield 21, 3) := by decide +kernel
theorem dX1_init_23 : decode cX1_init 23 = .ok (.aload_n 0, 1) := by decide +kernel
theorem dX1_init_24 : decode cX1_init 24 = .ok (.iconst 3, 1) := by decide +kernel
theorem dX1_init_25 : decode cX1_init 25 = .ok (.putfield 24, 3) := by decide +kernel
theorem dX1_init_28 : decode cX1_init 28 = .ok (.aload_n 0, 1) := by decide +kernel
theorem dX1_init_29 : decode cX1_init 29 = .ok (.iconst 0, 1) := by decide +kernel
theorem dX1_init_30 : decode cX1_init 30 = .ok (.putfield 27, 3) := by decide +kernel
theorem dX1_init_33 : decode cX1_init 33 = .ok (.aload_n 0, 1) := by decide +kernel
theorem dX1_init_34 : decode cX1_init 34 = .ok (.iconst 0, 1) := by decide +kernel
theorem dX1_init_35 : decode cX1_init 35 = .ok (.putfield 30, 3) := by decide +kernel
theorem dX1_init_38 : decode cX1_init 38 = .ok (.aload_n 0, 1) := by decide +kernel
theorem dX1_init_39 : decode cX1_init 39 = .ok (.iconst 0, 1) := by decide +kernel
theorem dX1_init_40 : decode cX1_init 40 = .ok (.putfield 33, 3) := by decide +kernel
theorem dX1_init_43 : decode cX1_init 43 = .ok (.aload_n 0, 1) := by decide +kernel
theorem dX1_init_44 : decode cX1_init 44 = .ok (.iconst 0, 1) := by decide +kernel
theorem dX1_init_45 : decode cX1_init 45 = .ok (.putfield 36, 3) := by decide +kernel
theorem dX1_init_48 : decode cX1_init 48 = .ok (.iconst 0, 1) := by decide +kernel
theorem dX1_init_49 : decode cX1_init 49 = .ok (.istore_n 1, 1) := by decide +kernel
theorem dX1_init_50 : decode cX1_init 50 = .ok (.iload_n 1, 1) := by decide +kernel
theorem dX1_init_51 : decode cX1_init 51 = .ok (.aload_n 0, 1) := by decide +kernel
theorem dX1_init_52 : decode cX1_init 52 = .ok (.getfield 11, 3) := by decide +kernel
theorem dX1_init_55 : decode cX1_init 55 = .ok (.arraylength, 1) := by decide +kernel
theorem dX1_init_56 : decode cX1_init 56 = .ok (.if_icmp .ge 22, 3) := by decide +kernel
theorem dX1_init_59 : decode cX1_init 59 = .ok (.aload_n 0, 1) := by decide +kernel
theorem dX1_init_60 : decode cX1_init 60 = .ok (.getfield 11, 3) := by decide +kernel
theorem dX1_init_63 : decode cX1_init 63 = .ok (.iload_n 1, 1) := by decide +kernel
theorem dX1_init_64 : decode cX1_init 64 = .ok (.new 9, 3) := by decide +kernel
theorem dX1_init_67 : decode cX1_init 67 = .ok (.dup, 1) := by decide +kernel
theorem dX1_init_68 : decode cX1_init 68 = .ok (.invokespecial 39, 3) := by decide +kernel
theorem dX1_init_71 : decode cX1_init 71 = .ok (.aastore, 1) := by decide +kernel
theorem dX1_init_72 : decode cX1_init 72 = .ok (.iinc 1 1, 3) := by decide +kernel
theorem dX1_init_75 : decode cX1_init 75 = .ok (.goto (-25), 3) := by decide +kernel
theorem dX1_init_78 : decode cX1_init 78 = .ok (.return_, 1) := by decide +kernel
theorem dX1_copyFrom_0 : decode cX1_copyFrom 0 = .ok (.iconst 0, 1) := by decide +kernel
theorem dX1_copyFrom_1 : decode cX1_copyFrom 1 = .ok (.istore_n 2, 1) := by decide +kernel
theorem dX1_copyFrom_2 : decode cX1_copyFrom 2 = .ok (.iload_n 2, 1) := by decide +kernel
theorem dX1_copyFrom_3 : decode cX1_copyFrom 3 = .ok (.aload_n 0, 1) := by decide +kernel
theorem dX1_copyFrom_4 : decode cX1_copyFrom 4 = .ok (.getfield 11, 3) := by decide +kernel
theorem dX1_copyFrom_7 : decode cX1_copyFrom 7 = .ok (.arraylength, 1) := by decide +kernel
theorem dX1_copyFrom_8 : decode cX1_copyFrom 8 = .ok (.if_icmp .ge 33, 3) := by decide +kernel
theorem dX1_copyFrom_11 : decode cX1_copyFrom 11 = .ok (.iload_n 2, 1) := by decide +kernel
theorem dX1_copyFrom_12 : decode cX1_copyFrom 12 = .ok (.aload_n 1, 1) := by decide +kernel
theorem dX1_copyFrom_13 : decode cX1_copyFrom 13 = .ok (.getfield 11, 3) := by decide +kernel
theorem dX1_copyFrom_16 : decode cX1_copyFrom 16 = .ok (.arraylength, 1) := by decide +kernel
theorem dX1_copyFrom_17 : decode cX1_copyFrom 17 = .ok (.if_icmp .ge 24, 3) := by decide +kernel
theorem dX1_copyFrom_20 : decode cX1_copyFrom 20 = .ok (.aload_n 0, 1) := by decide +kernel
theorem dX1_copyFrom_21 : decode cX1_copyFrom 21 = .ok (.getfield 11, 3) := by decide +kernel
theorem dX1_copyFrom_24 : decode cX1_copyFrom 24 = .ok (.iload_n 2, 1) := by decide +kernel
theorem dX1_copyFrom_25 : decode cX1_copyFrom 25 = .ok (.aaload, 1) := by decide +kernel
theorem dX1_copyFrom_26 : decode cX1_copyFrom 26 = .ok (.aload_n 1, 1) := by decide +kernel
theorem dX1_copyFrom_27 : decode cX1_copyFrom 27 = .ok (.getfield 11, 3) := by decide +kernel
theorem dX1_copyFrom_30 : decode cX1_copyFrom 30 = .ok (.iload_n 2, 1) := by decide +kernel
theorem dX1_copyFrom_31 : decode cX1_copyFrom 31 = .ok (.aaload, 1) := by decide +kernel
theorem dX1_copyFrom_32 : decode cX1_copyFrom 32 = .ok (.invokevirtual 40, 3) := by decide +kernel
theorem dX1_copyFrom_35 : decode cX1_copyFrom 35 = .ok (.iinc 2 1, 3) := by decide +kernel
theorem dX1_copyFrom_38 : decode cX1_copyFrom 38 = .ok (.goto (-36), 3) := by decide +kernel
theorem dX1_copyFrom_41 : decode cX1_copyFrom 41 = .ok (.aload_n 0, 1) := by decide +kernel
theorem dX1_copyFrom_42 : decode cX1_copyFrom 42 = .ok (.aload_n 1, 1) := by decide +kernel
theorem dX1_copyFrom_43 : decode cX1_copyFrom 43 = .ok (.getfield 17, 3) := by decide +kernel
theorem dX1_copyFrom_46 : decode cX1_copyFrom 46 = .ok (.putfield 17, 3) := by decide +kernel
theorem dX1_copyFrom_49 : decode cX1_copyFrom 49 = .ok (.aload_n 0, 1) := by decide +kernel
theorem dX1_copyFrom_50 : decode cX1_copyFrom 50 = .ok (.aload_n 1, 1) := by decide +kernel
theorem dX1_copyFrom_51 : decode cX1_copyFrom 51 = .ok (.getfield 21, 3) := by decide +kernel
theorem dX1_copyFrom_54 : decode cX1_copyFrom 54 = .ok (.putfield 21, 3) := by decide +kernel
theorem dX1_copyFrom_57 : decode cX1_copyFrom 57 = .ok (.aload_n 0, 1) := by decide +kernel
theorem dX1_copyFrom_58 : decode cX1_copyFrom 58 = .ok (.aload_n 1, 1) := by decide +kernel
theorem dX1_copyFrom_59 : decode cX1_copyFrom 59 = .ok (.getfield 24, 3) := by decide +kernel
theorem dX1_copyFrom_62 : decode cX1_copyFrom 62 = .ok (.putfield 24, 3) := by decide +kernel
theorem dX1_copyFrom_65 : decode cX1_copyFrom 65 = .ok (.aload_n 0, 1) := by decide +kernel
theorem dX1_copyFrom_66 : decode cX1_copyFrom 66 = .ok (.aload_n 1, 1) := by decide +kernel
theorem dX1_copyFrom_67 : decode cX1_copyFrom 67 = .ok (.getfield 27, 3) := by decide +kernel
theorem dX1_copyFrom_70 : decode cX1_copyFrom 70 = .ok (.putfield 27, 3) := by decide +kernel
theorem dX1_copyFrom_73 : decode cX1_copyFrom 73 = .ok (.aload_n 0, 1) := by decide +kernel
theorem dX1_copyFrom_74 : decode cX1_copyFrom 74 = .ok (.aload_n 1, 1) := by decide +kernel
theorem dX1_copyFrom_75 : decode cX1_copyFrom 75 = .ok (.getfield 30, 3) := by decide +kernel
theorem dX1_copyFrom_78 : decode cX1_copyFrom 78 = .ok (.putfield 30, 3) := by decide +kernel
theorem dX1_copyFrom_81 : decode cX1_copyFrom 81 = .ok (.aload_n 0, 1) := by decide +kernel
theorem dX1_copyFrom_82 : decode cX1_copyFrom 82 = .ok (.aload_n 1, 1) := by decide +kernel
theorem dX1_copyFrom_83 : decode cX1_copyFrom 83 = .ok (.getfield 33, 3) := by decide +kernel
theorem dX1_copyFrom_86 : decode cX1_copyFrom 86 = .ok (.putfield 33, 3) := by decide +kernel
theorem dX1_copyFrom_89 : decode cX1_copyFrom 89 = .ok (.aload_n 0, 1) := by decide +kernel
theorem dX1_copyFrom_90 : decode cX1_copyFrom 90 = .ok (.aload_n 1, 1) := by decide +kernel
theorem dX1_copyFrom_91 : decode cX1_copyFrom 91 = .ok (.getfield 36, 3) := by decide +kernel
theorem dX1_copyFrom_94 : decode cX1_copyFrom 94 = .ok (.putfield 36, 3) := by decide +kernel
theorem dX1_copyFrom_97 : decode cX1_copyFrom 97 = .ok (.return_, 1) := by decide +kernel
theorem dX1_umbrellaAt_0 : decode cX1_umbrellaAt 0 = .ok (.iload_n 1, 1) := by decide +kernel
theorem dX1_umbrellaAt_1 : decode cX1_umbrellaAt 1 = .ok (.ifCond .lt 20, 3) := by decide +kernel
theorem dX1_umbrellaAt_4 : decode cX1_umbrellaAt 4 = .ok (.iload_n 1, 1) := by decide +kernel
theorem dX1_umbrellaAt_5 : decode cX1_umbrellaAt 5 = .ok (.aload_n 0, 1) := by decide +kernel
theorem dX1_umbrellaAt_6 : decode cX1_umbrellaAt 6 = .ok (.getfield 17, 3) := by decide +kernel
theorem dX1_umbrellaAt_9 : decode cX1_umbrellaAt 9 = .ok (.if_icmp .ge 12, 3) := by decide +kernel
theorem dX1_umbrellaAt_12 : decode cX1_umbrellaAt 12 = .ok (.iload_n 1, 1) := by decide +kernel
theorem dX1_umbrellaAt_13 : decode cX1_umbrellaAt 13 = .ok (.aload_n 0, 1) := by decide +kernel
theorem dX1_umbrellaAt_14 : decode cX1_umbrellaAt 14 = .ok (.getfield 11, 3) := by decide +kernel
theorem dX1_umbrellaAt_17 : decode cX1_umbrellaAt 17 = .ok (.arraylength, 1) := by decide +kernel
theorem dX1_umbrellaAt_18 : decode cX1_umbrellaAt 18 = .ok (.if_icmp .lt 13, 3) := by decide +kernel
theorem dX1_umbrellaAt_21 : decode cX1_umbrellaAt 21 = .ok (.new 44, 3) := by decide +kernel
theorem dX1_umbrellaAt_24 : decode cX1_umbrellaAt 24 = .ok (.dup, 1) := by decide +kernel
theorem dX1_umbrellaAt_25 : decode cX1_umbrellaAt 25 = .ok (.ldc 46, 2) := by decide +kernel
theorem dX1_umbrellaAt_27 : decode cX1_umbrellaAt 27 = .ok (.invokespecial 48, 3) := by decide +kernel
theorem dX1_umbrellaAt_30 : decode cX1_umbrellaAt 30 = .ok (.athrow, 1) := by decide +kernel
theorem dX1_umbrellaAt_31 : decode cX1_umbrellaAt 31 = .ok (.aload_n 0, 1) := by decide +kernel
theorem dX1_umbrellaAt_32 : decode cX1_umbrellaAt 32 = .ok (.getfield 11, 3) := by decide +kernel
theorem dX1_umbrellaAt_35 : decode cX1_umbrellaAt 35 = .ok (.iload_n 1, 1) := by decide +kernel
theorem dX1_umbrellaAt_36 : decode cX1_umbrellaAt 36 = .ok (.aaload, 1) := by decide +kernel
theorem dX1_umbrellaAt_37 : decode cX1_umbrellaAt 37 = .ok (.areturn, 1) := by decide +kernel
theorem dX1_enrol_0 : decode cX1_enrol 0 = .ok (.aload_n 0, 1) := by decide +kernel
theorem dX1_enrol_1 : decode cX1_enrol 1 = .ok (.getfield 17, 3) := by decide +kernel
theorem dX1_enrol_4 : decode cX1_enrol 4 = .ok (.istore_n 2, 1) := by decide +kernel
theorem dX1_enrol_5 : decode cX1_enrol 5 = .ok (.aload_n 0, 1) := by decide +kernel
theorem dX1_enrol_6 : decode cX1_enrol 6 = .ok (.dup, 1) := by decide +kernel
theorem dX1_enrol_7 : decode cX1_enrol 7 = .ok (.getfield 17, 3) := by decide +kernel
theorem dX1_enrol_10 : decode cX1_enrol 10 = .ok (.iconst 1, 1) := by decide +kernel
theorem dX1_enrol_11 : decode cX1_enrol 11 = .ok (.iadd, 1) := by decide +kernel
theorem dX1_enrol_12 : decode cX1_enrol 12 = .ok (.putfield 17, 3) := by decide +kernel
theorem dX1_enrol_15 : decode cX1_enrol 15 = .ok (.aload_n 0, 1) := by decide +kernel
theorem dX1_enrol_16 : decode cX1_enrol 16 = .ok (.iload_n 2, 1) := by decide +kernel
theorem dX1_enrol_17 : decode cX1_enrol 17 = .ok (.invokevirtual 51, 3) := by decide +kernel
theorem dX1_enrol_20 : decode cX1_enrol 20 = .ok (.iload_n 1, 1) := by decide +kernel
theorem dX1_enrol_21 : decode cX1_enrol 21 = .ok (.putfield 55, 3) := by decide +kernel
theorem dX1_enrol_24 : decode cX1_enrol 24 = .ok (.iload_n 2, 1) := by decide +kernel
theorem dX1_enrol_25 : decode cX1_enrol 25 = .ok (.ireturn, 1) := by decide +kernel
theorem dX1_changeWet_0 : decode cX1_changeWet 0 = .ok (.aload_n 0, 1) := by decide +kernel
theorem dX1_changeWet_1 : decode cX1_changeWet 1 = .ok (.getfield 21, 3) := by decide +kernel
theorem dX1_changeWet_4 : decode cX1_changeWet 4 = .ok (.istore_n 2, 1) := by decide +kernel
theorem dX1_changeWet_5 : decode cX1_changeWet 5 = .ok (.aload_n 0, 1) := by decide +kernel
theorem dX1_changeWet_6 : decode cX1_changeWet 6 = .ok (.iload_n 1, 1) := by decide +kernel
theorem dX1_changeWet_7 : decode cX1_changeWet 7 = .ok (.putfield 21, 3) := by decide +kernel
theorem dX1_changeWet_10 : decode cX1_changeWet 10 = .ok (.iload_n 2, 1) := by decide +kernel
theorem dX1_changeWet_11 : decode cX1_changeWet 11 = .ok (.ireturn, 1) := by decide +kernel
theorem dX1_changeGale_0 : decode cX1_changeGale 0 = .ok (.aload_n 0, 1) := by decide +kernel
theorem dX1_changeGale_1 : decode cX1_changeGale 1 = .ok (.getfield 24, 3) := by decide +kernel
theorem dX1_changeGale_4 : decode cX1_changeGale 4 = .ok (.istore_n 2, 1) := by decide +kernel
theorem dX1_changeGale_5 : decode cX1_changeGale 5 = .ok (.aload_n 0, 1) := by decide +kernel
theorem dX1_changeGale_6 : decode cX1_changeGale 6 = .ok (.iload_n 1, 1) := by decide +kernel
theorem dX1_changeGale_7 : decode cX1_changeGale 7 = .ok (.putfield 24, 3) := by decide +kernel
theorem dX1_changeGale_10 : decode cX1_changeGale 10 = .ok (.iload_n 2, 1) := by decide +kernel
theorem dX1_changeGale_11 : decode cX1_changeGale 11 = .ok (.ireturn, 1) := by decide +kernel
theorem dX1_rewardFor_0 : decode cX1_rewardFor 0 = .ok (.iload_n 3, 1) := by decide +kernel
theorem dX1_rewardFor_1 : decode cX1_rewardFor 1 = .ok (.ifCond .eq 16, 3) := by decide +kernel
theorem dX1_rewardFor_4 : decode cX1_rewardFor 4 = .ok (.iconst 4, 1) := by decide +kernel
theorem dX1_rewardFor_5 : decode cX1_rewardFor 5 = .ok (.iload_n 1, 1) := by decide +kernel
theorem dX1_rewardFor_6 : decode cX1_rewardFor 6 = .ok (.imul, 1) := by decide +kernel
theorem dX1_rewardFor_7 : decode cX1_rewardFor 7 = .ok (.aload_n 0, 1) := by decide +kernel
theorem dX1_rewardFor_8 : decode cX1_rewardFor 8 = .ok (.getfield 24, 3) := by decide +kernel
theorem dX1_rewardFor_11 : decode cX1_rewardFor 11 = .ok (.iload_n 2, 1) := by decide +kernel
theorem dX1_rewardFor_12 : decode cX1_rewardFor 12 = .ok (.imul, 1) := by decide +kernel
theorem dX1_rewardFor_13 : decode cX1_rewardFor 13 = .ok (.isub, 1) := by decide +kernel
theorem dX1_rewardFor_14 : decode cX1_rewardFor 14 = .ok (.goto 10, 3) := by decide +kernel
theorem dX1_rewardFor_17 : decode cX1_rewardFor 17 = .ok (.aload_n 0, 1) := by decide +kernel
theorem dX1_rewardFor_18 : decode cX1_rewardFor 18 = .ok (.getfield 21, 3) := by decide +kernel
theorem dX1_rewardFor_21 : decode cX1_rewardFor 21 = .ok (.ineg, 1) := by decide +kernel
theorem dX1_rewardFor_22 : decode cX1_rewardFor 22 = .ok (.iload_n 1, 1) := by decide +kernel
theorem dX1_rewardFor_23 : decode cX1_rewardFor 23 = .ok (.imul, 1) := by decide +kernel
theorem dX1_rewardFor_24 : decode cX1_rewardFor 24 = .ok (.ireturn, 1) := by decide +kernel
theorem dX1_openingPays_0 : decode cX1_openingPays 0 = .ok (.aload_n 0, 1) := by decide +kernel
theorem dX1_openingPays_1 : decode cX1_openingPays 1 = .ok (.iload_n 1, 1) := by decide +kernel
theorem dX1_openingPays_2 : decode cX1_openingPays 2 = .ok (.iload_n 2, 1) := by decide +kernel
theorem dX1_openingPays_3 : decode cX1_openingPays 3 = .ok (.iconst 1, 1) := by decide +kernel
theorem dX1_openingPays_4 : decode cX1_openingPays 4 = .ok (.invokevirtual 58, 3) := by decide +kernel
theorem dX1_openingPays_7 : decode cX1_openingPays 7 = .ok (.aload_n 0, 1) := by decide +kernel
theorem dX1_openingPays_8 : decode cX1_openingPays 8 = .ok (.iload_n 1, 1) := by decide +kernel
theorem dX1_openingPays_9 : decode cX1_openingPays 9 = .ok (.iload_n 2, 1) := by decide +kernel
theorem dX1_openingPays_10 : decode cX1_openingPays 10 = .ok (.iconst 0, 1) := by decide +kernel
theorem dX1_openingPays_11 : decode cX1_openingPays 11 = .ok (.invokevirtual 58, 3) := by decide +kernel
theorem dX1_openingPays_14 : decode cX1_openingPays 14 = .ok (.if_icmp .le 7, 3) := by decide +kernel
theorem dX1_openingPays_17 : decode cX1_openingPays 17 = .ok (.iconst 1, 1) := by decide +kernel
theorem dX1_openingPays_18 : decode cX1_openingPays 18 = .ok (.goto 4, 3) := by decide +kernel
theorem dX1_openingPays_21 : decode cX1_openingPays 21 = .ok (.iconst 0, 1) := by decide +kernel
theorem dX1_openingPays_22 : decode cX1_openingPays 22 = .ok (.ireturn, 1) := by decide +kernel
theorem dX1_teach_0 : decode cX1_teach 0 = .ok (.iload_n 2, 1) := by decide +kernel
theorem dX1_teach_1 : decode cX1_teach 1 = .ok (.iload_n 3, 1) := by decide +kernel
theorem dX1_teach_2 : decode cX1_teach 2 = .ok (.invokestatic 62, 3) := by decide +kernel
theorem dX1_teach_5 : decode cX1_teach 5 = .ok (.istore 5, 2) := by decide +kernel
theorem dX1_teach_7 : decode cX1_teach 7 = .ok (.iconst 0, 1) := by decide +kernel
theorem dX1_teach_8 : decode cX1_teach 8 = .ok (.istore 6, 2) := by decide +kernel
theorem dX1_teach_10 : decode cX1_teach 10 = .ok (.iconst 0, 1) := by decide +kernel
theorem dX1_teach_11 : decode cX1_teach 11 = .ok (.istore 7, 2) := by decide +kernel
theorem dX1_teach_13 : decode cX1_teach 13 = .ok (.iload 7, 2) := by decide +kernel
theorem dX1_teach_15 : decode cX1_teach 15 = .ok (.iload 4, 2) := by decide +kernel
theorem dX1_teach_17 : decode cX1_teach 17 = .ok (.if_icmp .ge 71, 3) := by decide +kernel
theorem dX1_teach_20 : decode cX1_teach 20 = .ok (.aload_n 1, 1) := by decide +kernel
theorem dX1_teach_21 : decode cX1_teach 21 = .ok (.iload 5, 2) := by decide +kernel
theorem dX1_teach_23 : decode cX1_teach 23 = .ok (.invokevirtual 66, 3) := by decide +kernel
theorem dX1_teach_26 : decode cX1_teach 26 = .ok (.aload_n 1, 1) := by decide +kernel
theorem dX1_teach_27 : decode cX1_teach 27 = .ok (.invokevirtual 70, 3) := by decide +kernel
theorem dX1_teach_30 : decode cX1_teach 30 = .ok (.if_icmp .eq 7, 3) := by decide +kernel
theorem dX1_teach_33 : decode cX1_teach 33 = .ok (.iconst 1, 1) := by decide +kernel
theorem dX1_teach_34 : decode cX1_teach 34 = .ok (.goto 4, 3) := by decide +kernel
theorem dX1_teach_37 : decode cX1_teach 37 = .ok (.iconst 0, 1) := by decide +kernel
theorem dX1_teach_38 : decode cX1_teach 38 = .ok (.istore 8, 2) := by decide +kernel
theorem dX1_teach_40 : decode cX1_teach 40 = .ok (.aload_n 0, 1) := by decide +kernel
theorem dX1_teach_41 : decode cX1_teach 41 = .ok (.iload_n 2, 1) := by decide +kernel
theorem dX1_teach_42 : decode cX1_teach 42 = .ok (.iload_n 3, 1) := by decide +kernel
theorem dX1_teach_43 : decode cX1_teach 43 = .ok (.iload 8, 2) := by decide +kernel
theorem dX1_teach_45 : decode cX1_teach 45 = .ok (.invokevirtual 58, 3) := by decide +kernel
theorem dX1_teach_48 : decode cX1_teach 48 = .ok (.istore 9, 2) := by decide +kernel
theorem dX1_teach_50 : decode cX1_teach 50 = .ok (.aload_n 1, 1) := by decide +kernel
theorem dX1_teach_51 : decode cX1_teach 51 = .ok (.invokevirtual 74, 3) := by decide +kernel
theorem dX1_teach_54 : decode cX1_teach 54 = .ok (.aload_n 1, 1) := by decide +kernel
theorem dX1_teach_55 : decode cX1_teach 55 = .ok (.iload 5, 2) := by decide +kernel
theorem dX1_teach_57 : decode cX1_teach 57 = .ok (.iload 8, 2) := by decide +kernel
theorem dX1_teach_59 : decode cX1_teach 59 = .ok (.invokestatic 77, 3) := by decide +kernel
theorem dX1_teach_62 : decode cX1_teach 62 = .ok (.iload 9, 2) := by decide +kernel
theorem dX1_teach_64 : decode cX1_teach 64 = .ok (.invokevirtual 81, 3) := by decide +kernel
theorem dX1_teach_67 : decode cX1_teach 67 = .ok (.aload_n 0, 1) := by decide +kernel
theorem dX1_teach_68 : decode cX1_teach 68 = .ok (.iload 8, 2) := by decide +kernel
theorem dX1_teach_70 : decode cX1_teach 70 = .ok (.iload 9, 2) := by decide +kernel
theorem dX1_teach_72 : decode cX1_teach 72 = .ok (.invokevirtual 85, 3) := by decide +kernel
theorem dX1_teach_75 : decode cX1_teach 75 = .ok (.iload 6, 2) := by decide +kernel
theorem dX1_teach_77 : decode cX1_teach 77 = .ok (.iload 9, 2) := by decide +kernel
theorem dX1_teach_79 : decode cX1_teach 79 = .ok (.iadd, 1) := by decide +kernel
theorem dX1_teach_80 : decode cX1_teach 80 = .ok (.istore 6, 2) := by decide +kernel
theorem dX1_teach_82 : decode cX1_teach 82 = .ok (.iinc 7 1, 3) := by decide +kernel
theorem dX1_teach_85 : decode cX1_teach 85 = .ok (.goto (-72), 3) := by decide +kernel
theorem dX1_teach_88 : decode cX1_teach 88 = .ok (.iload 6, 2) := by decide +kernel
theorem dX1_teach_90 : decode cX1_teach 90 = .ok (.ireturn, 1) := by decide +kernel
theorem dX1_enterReward_0 : decode cX1_enterReward 0 = .ok (.iload_n 1, 1) := by decide +kernel
theorem dX1_enterReward_1 : decode cX1_enterReward 1 = .ok (.ifCond .eq 26, 3) := by decide +kernel
theorem dX1_enterReward_4 : decode cX1_enterReward 4 = .ok (.aload_n 0, 1) := by decide +kernel
theorem dX1_enterReward_5 : decode cX1_enterReward 5 = .ok (.dup, 1) := by decide +kernel
theorem dX1_enterReward_6 : decode cX1_enterReward 6 = .ok (.getfield 30, 3) := by decide +kernel
theorem dX1_enterReward_9 : decode cX1_enterReward 9 = .ok (.iconst 1, 1) := by decide +kernel
theorem dX1_enterReward_10 : decode cX1_enterReward 10 = .ok (.iadd, 1) := by decide +kernel
theorem dX1_enterReward_11 : decode cX1_enterReward 11 = .ok (.putfield 30, 3) := by decide +kernel
theorem dX1_enterReward_14 : decode cX1_enterReward 14 = .ok (.aload_n 0, 1) := by decide +kernel
theorem dX1_enterReward_15 : decode cX1_enterReward 15 = .ok (.dup, 1) := by decide +kernel
theorem dX1_enterReward_16 : decode cX1_enterReward 16 = .ok (.getfield 33, 3) := by decide +kernel
theorem dX1_enterReward_19 : decode cX1_enterReward 19 = .ok (.iload_n 2, 1) := by decide +kernel
theorem dX1_enterReward_20 : decode cX1_enterReward 20 = .ok (.iadd, 1) := by decide +kernel
theorem dX1_enterReward_21 : decode cX1_enterReward 21 = .ok (.putfield 33, 3) := by decide +kernel
theorem dX1_enterReward_24 : decode cX1_enterReward 24 = .ok (.goto 13, 3) := by decide +kernel
theorem dX1_enterReward_27 : decode cX1_enterReward 27 = .ok (.aload_n 0, 1) := by decide +kernel
theorem dX1_enterReward_28 : decode cX1_enterReward 28 = .ok (.dup, 1) := by decide +kernel
theorem dX1_enterReward_29 : decode cX1_enterReward 29 = .ok (.getfield 36, 3) := by decide +kernel
theorem dX1_enterReward_32 : decode cX1_enterReward 32 = .ok (.iload_n 2, 1) := by decide +kernel
theorem dX1_enterReward_33 : decode cX1_enterReward 33 = .ok (.iadd, 1) := by decide +kernel
theorem dX1_enterReward_34 : decode cX1_enterReward 34 = .ok (.putfield 36, 3) := by decide +kernel
theorem dX1_enterReward_37 : decode cX1_enterReward 37 = .ok (.return_, 1) := by decide +kernel
theorem dX1_holdExam_0 : decode cX1_holdExam 0 = .ok (.aload_n 0, 1) := by decide +kernel
theorem dX1_holdExam_1 : decode cX1_holdExam 1 = .ok (.aload_n 1, 1) := by decide +kernel
theorem dX1_holdExam_2 : decode cX1_holdExam 2 = .ok (.iload_n 2, 1) := by decide +kernel
theorem dX1_holdExam_3 : decode cX1_holdExam 3 = .ok (.invokevirtual 89, 3) := by decide +kernel
theorem dX1_holdExam_6 : decode cX1_holdExam 6 = .ok (.istore_n 3, 1) := by decide +kernel
theorem dX1_holdExam_7 : decode cX1_holdExam 7 = .ok (.aload_n 1, 1) := by decide +kernel
theorem dX1_holdExam_8 : decode cX1_holdExam 8 = .ok (.iload_n 2, 1) := by decide +kernel
theorem dX1_holdExam_9 : decode cX1_holdExam 9 = .ok (.iload_n 3, 1) := by decide +kernel
theorem dX1_holdExam_10 : decode cX1_holdExam 10 = .ok (.iconst 3, 1) := by decide +kernel
theorem dX1_holdExam_11 : decode cX1_holdExam 11 = .ok (.if_icmp .lt 7, 3) := by decide +kernel
theorem dX1_holdExam_14 : decode cX1_holdExam 14 = .ok (.iconst 1, 1) := by decide +kernel
theorem dX1_holdExam_15 : decode cX1_holdExam 15 = .ok (.goto 4, 3) := by decide +kernel
theorem dX1_holdExam_18 : decode cX1_holdExam 18 = .ok (.iconst 0, 1) := by decide +kernel
theorem dX1_holdExam_19 : decode cX1_holdExam 19 = .ok (.invokevirtual 93, 3) := by decide +kernel
theorem dX1_holdExam_22 : decode cX1_holdExam 22 = .ok (.iload_n 3, 1) := by decide +kernel
theorem dX1_holdExam_23 : decode cX1_holdExam 23 = .ok (.ireturn, 1) := by decide +kernel
theorem dX1_rightAnswers_0 : decode cX1_rightAnswers 0 = .ok (.iconst 0, 1) := by decide +kernel
theorem dX1_rightAnswers_1 : decode cX1_rightAnswers 1 = .ok (.istore_n 3, 1) := by decide +kernel
theorem dX1_rightAnswers_2 : decode cX1_rightAnswers 2 = .ok (.iconst 0, 1) := by decide +kernel
theorem dX1_rightAnswers_3 : decode cX1_rightAnswers 3 = .ok (.istore 4, 2) := by decide +kernel
theorem dX1_rightAnswers_5 : decode cX1_rightAnswers 5 = .ok (.iload 4, 2) := by decide +kernel
theorem dX1_rightAnswers_7 : decode cX1_rightAnswers 7 = .ok (.iconst 4, 1) := by decide +kernel
theorem dX1_rightAnswers_8 : decode cX1_rightAnswers 8 = .ok (.if_icmp .ge 32, 3) := by decide +kernel
theorem dX1_rightAnswers_11 : decode cX1_rightAnswers 11 = .ok (.aload_n 1, 1) := by decide +kernel
theorem dX1_rightAnswers_12 : decode cX1_rightAnswers 12 = .ok (.iload 4, 2) := by decide +kernel
theorem dX1_rightAnswers_14 : decode cX1_rightAnswers 14 = .ok (.iload_n 2, 1) := by decide +kernel
theorem dX1_rightAnswers_15 : decode cX1_rightAnswers 15 = .ok (.invokestatic 62, 3) := by decide +kernel
theorem dX1_rightAnswers_18 : decode cX1_rightAnswers 18 = .ok (.invokevirtual 66, 3) := by decide +kernel
theorem dX1_rightAnswers_21 : decode cX1_rightAnswers 21 = .ok (.aload_n 0, 1) := by decide +kernel
theorem dX1_rightAnswers_22 : decode cX1_rightAnswers 22 = .ok (.iload 4, 2) := by decide +kernel
theorem dX1_rightAnswers_24 : decode cX1_rightAnswers 24 = .ok (.iload_n 2, 1) := by decide +kernel
theorem dX1_rightAnswers_25 : decode cX1_rightAnswers 25 = .ok (.invokevirtual 97, 3) := by decide +kernel
theorem dX1_rightAnswers_28 : decode cX1_rightAnswers 28 = .ok (.if_icmp .ne 6, 3) := by decide +kernel
theorem dX1_rightAnswers_31 : decode cX1_rightAnswers 31 = .ok (.iinc 3 1, 3) := by decide +kernel
theorem dX1_rightAnswers_34 : decode cX1_rightAnswers 34 = .ok (.iinc 4 1, 3) := by decide +kernel
theorem dX1_rightAnswers_37 : decode cX1_rightAnswers 37 = .ok (.goto (-32), 3) := by decide +kernel
theorem dX1_rightAnswers_40 : decode cX1_rightAnswers 40 = .ok (.iload_n 3, 1) := by decide +kernel
theorem dX1_rightAnswers_41 : decode cX1_rightAnswers 41 = .ok (.ireturn, 1) := by decide +kernel
theorem dX1_closeTerm_0 : decode cX1_closeTerm 0 = .ok (.iconst 0, 1) := by decide +kernel
theorem dX1_closeTerm_1 : decode cX1_closeTerm 1 = .ok (.istore_n 1, 1) := by decide +kernel
theorem dX1_closeTerm_2 : decode cX1_closeTerm 2 = .ok (.iconst 1, 1) := by decide +kernel
theorem dX1_closeTerm_3 : decode cX1_closeTerm 3 = .ok (.istore_n 2, 1) := by decide +kernel
theorem dX1_closeTerm_4 : decode cX1_closeTerm 4 = .ok (.iload_n 2, 1) := by decide +kernel
theorem dX1_closeTerm_5 : decode cX1_closeTerm 5 = .ok (.aload_n 0, 1) := by decide +kernel
theorem dX1_closeTerm_6 : decode cX1_closeTerm 6 = .ok (.getfield 17, 3) := by decide +kernel
theorem dX1_closeTerm_9 : decode cX1_closeTerm 9 = .ok (.if_icmp .ge 30, 3) := by decide +kernel
theorem dX1_closeTerm_12 : decode cX1_closeTerm 12 = .ok (.aload_n 0, 1) := by decide +kernel
theorem dX1_closeTerm_13 : decode cX1_closeTerm 13 = .ok (.iload_n 2, 1) := by decide +kernel
theorem dX1_closeTerm_14 : decode cX1_closeTerm 14 = .ok (.invokevirtual 51, 3) := by decide +kernel
theorem dX1_closeTerm_17 : decode cX1_closeTerm 17 = .ok (.getfield 101, 3) := by decide +kernel
theorem dX1_closeTerm_20 : decode cX1_closeTerm 20 = .ok (.aload_n 0, 1) := by decide +kernel
theorem dX1_closeTerm_21 : decode cX1_closeTerm 21 = .ok (.iload_n 1, 1) := by decide +kernel
theorem dX1_closeTerm_22 : decode cX1_closeTerm 22 = .ok (.invokevirtual 51, 3) := by decide +kernel
theorem dX1_closeTerm_25 : decode cX1_closeTerm 25 = .ok (.getfield 101, 3) := by decide +kernel
theorem dX1_closeTerm_28 : decode cX1_closeTerm 28 = .ok (.if_icmp .le 5, 3) := by decide +kernel
theorem dX1_closeTerm_31 : decode cX1_closeTerm 31 = .ok (.iload_n 2, 1) := by decide +kernel
theorem dX1_closeTerm_32 : decode cX1_closeTerm 32 = .ok (.istore_n 1, 1) := by decide +kernel
theorem dX1_closeTerm_33 : decode cX1_closeTerm 33 = .ok (.iinc 2 1, 3) := by decide +kernel
theorem dX1_closeTerm_36 : decode cX1_closeTerm 36 = .ok (.goto (-32), 3) := by decide +kernel
theorem dX1_closeTerm_39 : decode cX1_closeTerm 39 = .ok (.aload_n 0, 1) := by decide +kernel
theorem dX1_closeTerm_40 : decode cX1_closeTerm 40 = .ok (.iload_n 1, 1) := by decide +kernel
theorem dX1_closeTerm_41 : decode cX1_closeTerm 41 = .ok (.invokevirtual 51, 3) := by decide +kernel
theorem dX1_closeTerm_44 : decode cX1_closeTerm 44 = .ok (.dup, 1) := by decide +kernel
theorem dX1_closeTerm_45 : decode cX1_closeTerm 45 = .ok (.getfield 104, 3) := by decide +kernel
theorem dX1_closeTerm_48 : decode cX1_closeTerm 48 = .ok (.iconst 1, 1) := by decide +kernel
theorem dX1_closeTerm_49 : decode cX1_closeTerm 49 = .ok (.iadd, 1) := by decide +kernel
theorem dX1_closeTerm_50 : decode cX1_closeTerm 50 = .ok (.putfield 104, 3) := by decide +kernel
theorem dX1_closeTerm_53 : decode cX1_closeTerm 53 = .ok (.iconst 0, 1) := by decide +kernel
theorem dX1_closeTerm_54 : decode cX1_closeTerm 54 = .ok (.istore_n 2, 1) := by decide +kernel
theorem dX1_closeTerm_55 : decode cX1_closeTerm 55 = .ok (.iload_n 2, 1) := by decide +kernel
theorem dX1_closeTerm_56 : decode cX1_closeTerm 56 = .ok (.aload_n 0, 1) := by decide +kernel
theorem dX1_closeTerm_57 : decode cX1_closeTerm 57 = .ok (.getfield 17, 3) := by decide +kernel
theorem dX1_closeTerm_60 : decode cX1_closeTerm 60 = .ok (.if_icmp .ge 18, 3) := by decide +kernel
theorem dX1_closeTerm_63 : decode cX1_closeTerm 63 = .ok (.aload_n 0, 1) := by decide +kernel
theorem dX1_closeTerm_64 : decode cX1_closeTerm 64 = .ok (.iload_n 2, 1) := by decide +kernel
theorem dX1_closeTerm_65 : decode cX1_closeTerm 65 = .ok (.invokevirtual 51, 3) := by decide +kernel
theorem dX1_closeTerm_68 : decode cX1_closeTerm 68 = .ok (.iconst 0, 1) := by decide +kernel
theorem dX1_closeTerm_69 : decode cX1_closeTerm 69 = .ok (.putfield 101, 3) := by decide +kernel
theorem dX1_closeTerm_72 : decode cX1_closeTerm 72 = .ok (.iinc 2 1, 3) := by decide +kernel
theorem dX1_closeTerm_75 : decode cX1_closeTerm 75 = .ok (.goto (-20), 3) := by decide +kernel
theorem dX1_closeTerm_78 : decode cX1_closeTerm 78 = .ok (.aload_n 0, 1) := by decide +kernel
theorem dX1_closeTerm_79 : decode cX1_closeTerm 79 = .ok (.dup, 1) := by decide +kernel
theorem dX1_closeTerm_80 : decode cX1_closeTerm 80 = .ok (.getfield 27, 3) := by decide +kernel
theorem dX1_closeTerm_83 : decode cX1_closeTerm 83 = .ok (.iconst 1, 1) := by decide +kernel
theorem dX1_closeTerm_84 : decode cX1_closeTerm 84 = .ok (.iadd, 1) := by decide +kernel
theorem dX1_closeTerm_85 : decode cX1_closeTerm 85 = .ok (.putfield 27, 3) := by decide +kernel
theorem dX1_closeTerm_88 : decode cX1_closeTerm 88 = .ok (.iload_n 1, 1) := by decide +kernel
theorem dX1_closeTerm_89 : decode cX1_closeTerm 89 = .ok (.ireturn, 1) := by decide +kernel
theorem dX1_umbrellaAtRank_0 : decode cX1_umbrellaAtRank 0 = .ok (.iconst 0, 1) := by decide +kernel
theorem dX1_umbrellaAtRank_1 : decode cX1_umbrellaAtRank 1 = .ok (.istore_n 2, 1) := by decide +kernel
theorem dX1_umbrellaAtRank_2 : decode cX1_umbrellaAtRank 2 = .ok (.iload_n 2, 1) := by decide +kernel
theorem dX1_umbrellaAtRank_3 : decode cX1_umbrellaAtRank 3 = .ok (.aload_n 0, 1) := by decide +kernel
theorem dX1_umbrellaAtRank_4 : decode cX1_umbrellaAtRank 4 = .ok (.getfield 17, 3) := by decide +kernel
theorem dX1_umbrellaAtRank_7 : decode cX1_umbrellaAtRank 7 = .ok (.if_icmp .ge 20, 3) := by decide +kernel
theorem dX1_umbrellaAtRank_10 : decode cX1_umbrellaAtRank 10 = .ok (.aload_n 0, 1) := by decide +kernel
theorem dX1_umbrellaAtRank_11 : decode cX1_umbrellaAtRank 11 = .ok (.iload_n 2, 1) := by decide +kernel
theorem dX1_umbrellaAtRank_12 : decode cX1_umbrellaAtRank 12 = .ok (.invokevirtual 107, 3) := by decide +kernel
theorem dX1_umbrellaAtRank_15 : decode cX1_umbrellaAtRank 15 = .ok (.iload_n 1, 1) := by decide +kernel
theorem dX1_umbrellaAtRank_16 : decode cX1_umbrellaAtRank 16 = .ok (.if_icmp .ne 5, 3) := by decide +kernel
theorem dX1_umbrellaAtRank_19 : decode cX1_umbrellaAtRank 19 = .ok (.iload_n 2, 1) := by decide +kernel
theorem dX1_umbrellaAtRank_20 : decode cX1_umbrellaAtRank 20 = .ok (.ireturn, 1) := by decide +kernel
theorem dX1_umbrellaAtRank_21 : decode cX1_umbrellaAtRank 21 = .ok (.iinc 2 1, 3) := by decide +kernel
theorem dX1_umbrellaAtRank_24 : decode cX1_umbrellaAtRank 24 = .ok (.goto (-22), 3) := by decide +kernel
theorem dX1_umbrellaAtRank_27 : decode cX1_umbrellaAtRank 27 = .ok (.iconst (-1), 1) := by decide +kernel
theorem dX1_umbrellaAtRank_28 : decode cX1_umbrellaAtRank 28 = .ok (.ireturn, 1) := by decide +kernel
theorem dX1_umbrellasBefore_0 : decode cX1_umbrellasBefore 0 = .ok (.aload_n 0, 1) := by decide +kernel
theorem dX1_umbrellasBefore_1 : decode cX1_umbrellasBefore 1 = .ok (.iload_n 1, 1) := by decide +kernel
theorem dX1_umbrellasBefore_2 : decode cX1_umbrellasBefore 2 = .ok (.invokevirtual 51, 3) := by decide +kernel
theorem dX1_umbrellasBefore_5 : decode cX1_umbrellasBefore 5 = .ok (.astore_n 2, 1) := by decide +kernel
theorem dX1_umbrellasBefore_6 : decode cX1_umbrellasBefore 6 = .ok (.iconst 0, 1) := by decide +kernel
theorem dX1_umbrellasBefore_7 : decode cX1_umbrellasBefore 7 = .ok (.istore_n 3, 1) := by decide +kernel
theorem dX1_umbrellasBefore_8 : decode cX1_umbrellasBefore 8 = .ok (.iconst 0, 1) := by decide +kernel
theorem dX1_umbrellasBefore_9 : decode cX1_umbrellasBefore 9 = .ok (.istore 4, 2) := by decide +kernel
theorem dX1_umbrellasBefore_11 : decode cX1_umbrellasBefore 11 = .ok (.iload 4, 2) := by decide +kernel
theorem dX1_umbrellasBefore_13 : decode cX1_umbrellasBefore 13 = .ok (.aload_n 0, 1) := by decide +kernel
theorem dX1_umbrellasBefore_14 : decode cX1_umbrellasBefore 14 = .ok (.getfield 17, 3) := by decide +kernel
theorem dX1_umbrellasBefore_17 : decode cX1_umbrellasBefore 17 = .ok (.if_icmp .ge 44, 3) := by decide +kernel
theorem dX1_umbrellasBefore_20 : decode cX1_umbrellasBefore 20 = .ok (.aload_n 0, 1) := by decide +kernel
theorem dX1_umbrellasBefore_21 : decode cX1_umbrellasBefore 21 = .ok (.iload 4, 2) := by decide +kernel
theorem dX1_umbrellasBefore_23 : decode cX1_umbrellasBefore 23 = .ok (.invokevirtual 51, 3) := by decide +kernel
theorem dX1_umbrellasBefore_26 : decode cX1_umbrellasBefore 26 = .ok (.astore 5, 2) := by decide +kernel
theorem dX1_umbrellasBefore_28 : decode cX1_umbrellasBefore 28 = .ok (.aload 5, 2) := by decide +kernel
theorem dX1_umbrellasBefore_30 : decode cX1_umbrellasBefore 30 = .ok (.aload_n 2, 1) := by decide +kernel
theorem dX1_umbrellasBefore_31 : decode cX1_umbrellasBefore 31 = .ok (.invokevirtual 111, 3) := by decide +kernel
theorem dX1_umbrellasBefore_34 : decode cX1_umbrellasBefore 34 = .ok (.ifCond .ne 18, 3) := by decide +kernel
theorem dX1_umbrellasBefore_37 : decode cX1_umbrellasBefore 37 = .ok (.iload 4, 2) := by decide +kernel
theorem dX1_umbrellasBefore_39 : decode cX1_umbrellasBefore 39 = .ok (.iload_n 1, 1) := by decide +kernel
theorem dX1_umbrellasBefore_40 : decode cX1_umbrellasBefore 40 = .ok (.if_icmp .ge 15, 3) := by decide +kernel
theorem dX1_umbrellasBefore_43 : decode cX1_umbrellasBefore 43 = .ok (.aload_n 2, 1) := by decide +kernel
theorem dX1_umbrellasBefore_44 : decode cX1_umbrellasBefore 44 = .ok (.aload 5, 2) := by decide +kernel
theorem dX1_umbrellasBefore_46 : decode cX1_umbrellasBefore 46 = .ok (.invokevirtual 111, 3) := by decide +kernel
theorem dX1_umbrellasBefore_49 : decode cX1_umbrellasBefore 49 = .ok (.ifCond .ne 6, 3) := by decide +kernel
theorem dX1_umbrellasBefore_52 : decode cX1_umbrellasBefore 52 = .ok (.iinc 3 1, 3) := by decide +kernel
theorem dX1_umbrellasBefore_55 : decode cX1_umbrellasBefore 55 = .ok (.iinc 4 1, 3) := by decide +kernel
theorem dX1_umbrellasBefore_58 : decode cX1_umbrellasBefore 58 = .ok (.goto (-47), 3) := by decide +kernel
theorem dX1_umbrellasBefore_61 : decode cX1_umbrellasBefore 61 = .ok (.iload_n 3, 1) := by decide +kernel
theorem dX1_umbrellasBefore_62 : decode cX1_umbrellasBefore 62 = .ok (.ireturn, 1) := by decide +kernel
theorem dX1_rewardByUmbrellas_0 : decode cX1_rewardByUmbrellas 0 = .ok (.iconst 0, 1) := by decide +kernel
theorem dX1_rewardByUmbrellas_1 : decode cX1_rewardByUmbrellas 1 = .ok (.istore_n 1, 1) := by decide +kernel
theorem dX1_rewardByUmbrellas_2 : decode cX1_rewardByUmbrellas 2 = .ok (.iconst 0, 1) := by decide +kernel
theorem dX1_rewardByUmbrellas_3 : decode cX1_rewardByUmbrellas 3 = .ok (.istore_n 2, 1) := by decide +kernel
theorem dX1_rewardByUmbrellas_4 : decode cX1_rewardByUmbrellas 4 = .ok (.iload_n 2, 1) := by decide +kernel
theorem dX1_rewardByUmbrellas_5 : decode cX1_rewardByUmbrellas 5 = .ok (.aload_n 0, 1) := by decide +kernel
theorem dX1_rewardByUmbrellas_6 : decode cX1_rewardByUmbrellas 6 = .ok (.getfield 17, 3) := by decide +kernel
theorem dX1_rewardByUmbrellas_9 : decode cX1_rewardByUmbrellas 9 = .ok (.if_icmp .ge 20, 3) := by decide +kernel
theorem dX1_rewardByUmbrellas_12 : decode cX1_rewardByUmbrellas 12 = .ok (.iload_n 1, 1) := by decide +kernel
theorem dX1_rewardByUmbrellas_13 : decode cX1_rewardByUmbrellas 13 = .ok (.aload_n 0, 1) := by decide +kernel
theorem dX1_rewardByUmbrellas_14 : decode cX1_rewardByUmbrellas 14 = .ok (.iload_n 2, 1) := by decide +kernel
theorem dX1_rewardByUmbrellas_15 : decode cX1_rewardByUmbrellas 15 = .ok (.invokevirtual 51, 3) := by decide +kernel
theorem dX1_rewardByUmbrellas_18 : decode cX1_rewardByUmbrellas 18 = .ok (.getfield 115, 3) := by decide +kernel
theorem dX1_rewardByUmbrellas_21 : decode cX1_rewardByUmbrellas 21 = .ok (.iadd, 1) := by decide +kernel
theorem dX1_rewardByUmbrellas_22 : decode cX1_rewardByUmbrellas 22 = .ok (.istore_n 1, 1) := by decide +kernel
theorem dX1_rewardByUmbrellas_23 : decode cX1_rewardByUmbrellas 23 = .ok (.iinc 2 1, 3) := by decide +kernel
theorem dX1_rewardByUmbrellas_26 : decode cX1_rewardByUmbrellas 26 = .ok (.goto (-22), 3) := by decide +kernel
theorem dX1_rewardByUmbrellas_29 : decode cX1_rewardByUmbrellas 29 = .ok (.iload_n 1, 1) := by decide +kernel
theorem dX1_rewardByUmbrellas_30 : decode cX1_rewardByUmbrellas 30 = .ok (.ireturn, 1) := by decide +kernel
theorem dX1_rewardByActions_0 : decode cX1_rewardByActions 0 = .ok (.aload_n 0, 1) := by decide +kernel
theorem dX1_rewardByActions_1 : decode cX1_rewardByActions 1 = .ok (.getfield 33, 3) := by decide +kernel
theorem dX1_rewardByActions_4 : decode cX1_rewardByActions 4 = .ok (.aload_n 0, 1) := by decide +kernel
theorem dX1_rewardByActions_5 : decode cX1_rewardByActions 5 = .ok (.getfield 36, 3) := by decide +kernel
theorem dX1_rewardByActions_8 : decode cX1_rewardByActions 8 = .ok (.iadd, 1) := by decide +kernel
theorem dX1_rewardByActions_9 : decode cX1_rewardByActions 9 = .ok (.ireturn, 1) := by decide +kernel
theorem dX1_countTrials_0 : decode cX1_countTrials 0 = .ok (.iconst 0, 1) := by decide +kernel
theorem dX1_countTrials_1 : decode cX1_countTrials 1 = .ok (.istore_n 1, 1) := by decide +kernel
theorem dX1_countTrials_2 : decode cX1_countTrials 2 = .ok (.iconst 0, 1) := by decide +kernel
theorem dX1_countTrials_3 : decode cX1_countTrials 3 = .ok (.istore_n 2, 1) := by decide +kernel
theorem dX1_countTrials_4 : decode cX1_countTrials 4 = .ok (.iload_n 2, 1) := by decide +kernel
theorem dX1_countTrials_5 : decode cX1_countTrials 5 = .ok (.aload_n 0, 1) := by decide +kernel
theorem dX1_countTrials_6 : decode cX1_countTrials 6 = .ok (.getfield 17, 3) := by decide +kernel
theorem dX1_countTrials_9 : decode cX1_countTrials 9 = .ok (.if_icmp .ge 20, 3) := by decide +kernel
theorem dX1_countTrials_12 : decode cX1_countTrials 12 = .ok (.iload_n 1, 1) := by decide +kernel
theorem dX1_countTrials_13 : decode cX1_countTrials 13 = .ok (.aload_n 0, 1) := by decide +kernel
theorem dX1_countTrials_14 : decode cX1_countTrials 14 = .ok (.iload_n 2, 1) := by decide +kernel
theorem dX1_countTrials_15 : decode cX1_countTrials 15 = .ok (.invokevirtual 51, 3) := by decide +kernel
theorem dX1_countTrials_18 : decode cX1_countTrials 18 = .ok (.getfield 118, 3) := by decide +kernel
theorem dX1_countTrials_21 : decode cX1_countTrials 21 = .ok (.iadd, 1) := by decide +kernel
theorem dX1_countTrials_22 : decode cX1_countTrials 22 = .ok (.istore_n 1, 1) := by decide +kernel
theorem dX1_countTrials_23 : decode cX1_countTrials 23 = .ok (.iinc 2 1, 3) := by decide +kernel
theorem dX1_countTrials_26 : decode cX1_countTrials 26 = .ok (.goto (-22), 3) := by decide +kernel
theorem dX1_countTrials_29 : decode cX1_countTrials 29 = .ok (.iload_n 1, 1) := by decide +kernel
theorem dX1_countTrials_30 : decode cX1_countTrials 30 = .ok (.ireturn, 1) := by decide +kernel
theorem dX1_agrees_0 : decode cX1_agrees 0 = .ok (.iconst 0, 1) := by decide +kernel
theorem dX1_agrees_1 : decode cX1_agrees 1 = .ok (.istore_n 1, 1) := by decide +kernel
theorem dX1_agrees_2 : decode cX1_agrees 2 = .ok (.iconst 0, 1) := by decide +kernel
theorem dX1_agrees_3 : decode cX1_agrees 3 = .ok (.istore_n 2, 1) := by decide +kernel
theorem dX1_agrees_4 : decode cX1_agrees 4 = .ok (.iload_n 2, 1) := by decide +kernel
theorem dX1_agrees_5 : decode cX1_agrees 5 = .ok (.aload_n 0, 1) := by decide +kernel
theorem dX1_agrees_6 : decode cX1_agrees 6 = .ok (.getfield 17, 3) := by decide +kernel
theorem dX1_agrees_9 : decode cX1_agrees 9 = .ok (.if_icmp .ge 42, 3) := by decide +kernel
theorem dX1_agrees_12 : decode cX1_agrees 12 = .ok (.aload_n 0, 1) := by decide +kernel
theorem dX1_agrees_13 : decode cX1_agrees 13 = .ok (.iload_n 2, 1) := by decide +kernel
theorem dX1_agrees_14 : decode cX1_agrees 14 = .ok (.invokevirtual 51, 3) := by decide +kernel
theorem dX1_agrees_17 : decode cX1_agrees 17 = .ok (.astore_n 3, 1) := by decide +kernel
theorem dX1_agrees_18 : decode cX1_agrees 18 = .ok (.aload_n 3, 1) := by decide +kernel
theorem dX1_agrees_19 : decode cX1_agrees 19 = .ok (.getfield 121, 3) := by decide +kernel
theorem dX1_agrees_22 : decode cX1_agrees 22 = .ok (.aload_n 3, 1) := by decide +kernel
theorem dX1_agrees_23 : decode cX1_agrees 23 = .ok (.getfield 55, 3) := by decide +kernel
theorem dX1_agrees_26 : decode cX1_agrees 26 = .ok (.if_icmp .gt 10, 3) := by decide +kernel
theorem dX1_agrees_29 : decode cX1_agrees 29 = .ok (.aload_n 3, 1) := by decide +kernel
theorem dX1_agrees_30 : decode cX1_agrees 30 = .ok (.invokevirtual 124, 3) := by decide +kernel
theorem dX1_agrees_33 : decode cX1_agrees 33 = .ok (.ifCond .ne 5, 3) := by decide +kernel
theorem dX1_agrees_36 : decode cX1_agrees 36 = .ok (.iconst 0, 1) := by decide +kernel
theorem dX1_agrees_37 : decode cX1_agrees 37 = .ok (.ireturn, 1) := by decide +kernel
theorem dX1_agrees_38 : decode cX1_agrees 38 = .ok (.iload_n 1, 1) := by decide +kernel
theorem dX1_agrees_39 : decode cX1_agrees 39 = .ok (.aload_n 3, 1) := by decide +kernel
theorem dX1_agrees_40 : decode cX1_agrees 40 = .ok (.getfield 104, 3) := by decide +kernel
theorem dX1_agrees_43 : decode cX1_agrees 43 = .ok (.iadd, 1) := by decide +kernel
theorem dX1_agrees_44 : decode cX1_agrees 44 = .ok (.istore_n 1, 1) := by decide +kernel
theorem dX1_agrees_45 : decode cX1_agrees 45 = .ok (.iinc 2 1, 3) := by decide +kernel
theorem dX1_agrees_48 : decode cX1_agrees 48 = .ok (.goto (-44), 3) := by decide +kernel
theorem dX1_agrees_51 : decode cX1_agrees 51 = .ok (.iload_n 1, 1) := by decide +kernel
theorem dX1_agrees_52 : decode cX1_agrees 52 = .ok (.aload_n 0, 1) := by decide +kernel
theorem dX1_agrees_53 : decode cX1_agrees 53 = .ok (.getfield 27, 3) := by decide +kernel
theorem dX1_agrees_56 : decode cX1_agrees 56 = .ok (.if_icmp .ne 18, 3) := by decide +kernel
theorem dX1_agrees_59 : decode cX1_agrees 59 = .ok (.aload_n 0, 1) := by decide +kernel
theorem dX1_agrees_60 : decode cX1_agrees 60 = .ok (.invokevirtual 127, 3) := by decide +kernel
theorem dX1_agrees_63 : decode cX1_agrees 63 = .ok (.aload_n 0, 1) := by decide +kernel
theorem dX1_agrees_64 : decode cX1_agrees 64 = .ok (.invokevirtual 131, 3) := by decide +kernel
theorem dX1_agrees_67 : decode cX1_agrees 67 = .ok (.if_icmp .ne 7, 3) := by decide +kernel
theorem dX1_agrees_70 : decode cX1_agrees 70 = .ok (.iconst 1, 1) := by decide +kernel
theorem dX1_agrees_71 : decode cX1_agrees 71 = .ok (.goto 4, 3) := by decide +kernel
theorem dX1_agrees_74 : decode cX1_agrees 74 = .ok (.iconst 0, 1) := by decide +kernel
theorem dX1_agrees_75 : decode cX1_agrees 75 = .ok (.ireturn, 1) := by decide +kernel
theorem dX4_init_0 : decode cX4_init 0 = .ok (.aload_n 0, 1) := by decide +kernel
theorem dX4_init_1 : decode cX4_init 1 = .ok (.invokespecial 3, 3) := by decide +kernel
theorem dX4_init_4 : decode cX4_init 4 = .ok (.aload_n 0, 1) := by decide +kernel
theorem dX4_init_5 : decode cX4_init 5 = .ok (.bipush 20, 2) := by decide +kernel
theorem dX4_init_7 : decode cX4_init 7 = .ok (.newarray .int, 2) := by decide +kernel
theorem dX4_init_9 : decode cX4_init 9 = .ok (.putfield 9, 3) := by decide +kernel
theorem dX4_init_12 : decode cX4_init 12 = .ok (.aload_n 0, 1) := by decide +kernel
theorem dX4_init_13 : decode cX4_init 13 = .ok (.bipush 20, 2) := by decide +kernel
theorem dX4_init_15 : decode cX4_init 15 = .ok (.newarray .int, 2) := by decide +kernel
theorem dX4_init_17 : decode cX4_init 17 = .ok (.putfield 15, 3) := by decide +kernel
theorem dX4_init_20 : decode cX4_init 20 = .ok (.aload_n 0, 1) := by decide +kernel
theorem dX4_init_21 : decode cX4_init 21 = .ok (.bipush 32, 2) := by decide +kernel
theorem dX4_init_23 : decode cX4_init 23 = .ok (.newarray .int, 2) := by decide +kernel
theorem dX4_init_25 : decode cX4_init 25 = .ok (.putfield 18, 3) := by decide +kernel
theorem dX4_init_28 : decode cX4_init 28 = .ok (.aload_n 0, 1) := by decide +kernel
theorem dX4_init_29 : decode cX4_init 29 = .ok (.bipush 32, 2) := by decide +kernel
theorem dX4_init_31 : decode cX4_init 31 = .ok (.newarray .int, 2) := by decide +kernel
theorem dX4_init_33 : decode cX4_init 33 = .ok (.putfield 21, 3) := by decide +kernel
theorem dX4_init_36 : decode cX4_init 36 = .ok (.aload_n 0, 1) := by decide +kernel
theorem dX4_init_37 : decode cX4_init 37 = .ok (.iconst 0, 1) := by decide +kernel
theorem dX4_init_38 : decode cX4_init 38 = .ok (.putfield 24, 3) := by decide +kernel
theorem dX4_init_41 : decode cX4_init 41 = .ok (.aload_n 0, 1) := by decide +kernel
theorem dX4_init_42 : decode cX4_init 42 = .ok (.iconst 0, 1) := by decide +kernel
theorem dX4_init_43 : decode cX4_init 43 = .ok (.putfield 28, 3) := by decide +kernel
theorem dX4_init_46 : decode cX4_init 46 = .ok (.aload_n 0, 1) := by decide +kernel
theorem dX4_init_47 : decode cX4_init 47 = .ok (.iconst 0, 1) := by decide +kernel
theorem dX4_init_48 : decode cX4_init 48 = .ok (.putfield 31, 3) := by decide +kernel
theorem dX4_init_51 : decode cX4_init 51 = .ok (.aload_n 0, 1) := by decide +kernel
theorem dX4_init_52 : decode cX4_init 52 = .ok (.iconst 0, 1) := by decide +kernel
theorem dX4_init_53 : decode cX4_init 53 = .ok (.putfield 34, 3) := by decide +kernel
theorem dX4_init_56 : decode cX4_init 56 = .ok (.aload_n 0, 1) := by decide +kernel
theorem dX4_init_57 : decode cX4_init 57 = .ok (.iconst 0, 1) := by decide +kernel
theorem dX4_init_58 : decode cX4_init 58 = .ok (.putfield 37, 3) := by decide +kernel
theorem dX4_init_61 : decode cX4_init 61 = .ok (.aload_n 0, 1) := by decide +kernel
theorem dX4_init_62 : decode cX4_init 62 = .ok (.iconst 0, 1) := by decide +kernel
theorem dX4_init_63 : decode cX4_init 63 = .ok (.putfield 40, 3) := by decide +kernel
theorem dX4_init_66 : decode cX4_init 66 = .ok (.aload_n 0, 1) := by decide +kernel
theorem dX4_init_67 : decode cX4_init 67 = .ok (.iconst 0, 1) := by decide +kernel
theorem dX4_init_68 : decode cX4_init 68 = .ok (.putfield 43, 3) := by decide +kernel
theorem dX4_init_71 : decode cX4_init 71 = .ok (.aload_n 0, 1) := by decide +kernel
theorem dX4_init_72 : decode cX4_init 72 = .ok (.iconst 0, 1) := by decide +kernel
theorem dX4_init_73 : decode cX4_init 73 = .ok (.putfield 46, 3) := by decide +kernel
theorem dX4_init_76 : decode cX4_init 76 = .ok (.return_, 1) := by decide +kernel
theorem dX4_copyFrom_0 : decode cX4_copyFrom 0 = .ok (.aload_n 1, 1) := by decide +kernel
theorem dX4_copyFrom_1 : decode cX4_copyFrom 1 = .ok (.getfield 9, 3) := by decide +kernel
theorem dX4_copyFrom_4 : decode cX4_copyFrom 4 = .ok (.aload_n 0, 1) := by decide +kernel
theorem dX4_copyFrom_5 : decode cX4_copyFrom 5 = .ok (.getfield 9, 3) := by decide +kernel
theorem dX4_copyFrom_8 : decode cX4_copyFrom 8 = .ok (.invokestatic 49, 3) := by decide +kernel
theorem dX4_copyFrom_11 : decode cX4_copyFrom 11 = .ok (.aload_n 1, 1) := by decide +kernel
theorem dX4_copyFrom_12 : decode cX4_copyFrom 12 = .ok (.getfield 15, 3) := by decide +kernel
theorem dX4_copyFrom_15 : decode cX4_copyFrom 15 = .ok (.aload_n 0, 1) := by decide +kernel
theorem dX4_copyFrom_16 : decode cX4_copyFrom 16 = .ok (.getfield 15, 3) := by decide +kernel
theorem dX4_copyFrom_19 : decode cX4_copyFrom 19 = .ok (.invokestatic 49, 3) := by decide +kernel
theorem dX4_copyFrom_22 : decode cX4_copyFrom 22 = .ok (.aload_n 1, 1) := by decide +kernel
theorem dX4_copyFrom_23 : decode cX4_copyFrom 23 = .ok (.getfield 18, 3) := by decide +kernel
theorem dX4_copyFrom_26 : decode cX4_copyFrom 26 = .ok (.aload_n 0, 1) := by decide +kernel
theorem dX4_copyFrom_27 : decode cX4_copyFrom 27 = .ok (.getfield 18, 3) := by decide +kernel
theorem dX4_copyFrom_30 : decode cX4_copyFrom 30 = .ok (.invokestatic 49, 3) := by decide +kernel
theorem dX4_copyFrom_33 : decode cX4_copyFrom 33 = .ok (.aload_n 1, 1) := by decide +kernel
theorem dX4_copyFrom_34 : decode cX4_copyFrom 34 = .ok (.getfield 21, 3) := by decide +kernel
theorem dX4_copyFrom_37 : decode cX4_copyFrom 37 = .ok (.aload_n 0, 1) := by decide +kernel
theorem dX4_copyFrom_38 : decode cX4_copyFrom 38 = .ok (.getfield 21, 3) := by decide +kernel
theorem dX4_copyFrom_41 : decode cX4_copyFrom 41 = .ok (.invokestatic 49, 3) := by decide +kernel
theorem dX4_copyFrom_44 : decode cX4_copyFrom 44 = .ok (.aload_n 0, 1) := by decide +kernel
theorem dX4_copyFrom_45 : decode cX4_copyFrom 45 = .ok (.aload_n 1, 1) := by decide +kernel
theorem dX4_copyFrom_46 : decode cX4_copyFrom 46 = .ok (.getfield 24, 3) := by decide +kernel
theorem dX4_copyFrom_49 : decode cX4_copyFrom 49 = .ok (.putfield 24, 3) := by decide +kernel
theorem dX4_copyFrom_52 : decode cX4_copyFrom 52 = .ok (.aload_n 0, 1) := by decide +kernel
theorem dX4_copyFrom_53 : decode cX4_copyFrom 53 = .ok (.aload_n 1, 1) := by decide +kernel
theorem dX4_copyFrom_54 : decode cX4_copyFrom 54 = .ok (.getfield 28, 3) := by decide +kernel
theorem dX4_copyFrom_57 : decode cX4_copyFrom 57 = .ok (.putfield 28, 3) := by decide +kernel
theorem dX4_copyFrom_60 : decode cX4_copyFrom 60 = .ok (.aload_n 0, 1) := by decide +kernel
theorem dX4_copyFrom_61 : decode cX4_copyFrom 61 = .ok (.aload_n 1, 1) := by decide +kernel
theorem dX4_copyFrom_62 : decode cX4_copyFrom 62 = .ok (.getfield 31, 3) := by decide +kernel
theorem dX4_copyFrom_65 : decode cX4_copyFrom 65 = .ok (.putfield 31, 3) := by decide +kernel
theorem dX4_copyFrom_68 : decode cX4_copyFrom 68 = .ok (.aload_n 0, 1) := by decide +kernel
theorem dX4_copyFrom_69 : decode cX4_copyFrom 69 = .ok (.aload_n 1, 1) := by decide +kernel
theorem dX4_copyFrom_70 : decode cX4_copyFrom 70 = .ok (.getfield 34, 3) := by decide +kernel
theorem dX4_copyFrom_73 : decode cX4_copyFrom 73 = .ok (.putfield 34, 3) := by decide +kernel
theorem dX4_copyFrom_76 : decode cX4_copyFrom 76 = .ok (.aload_n 0, 1) := by decide +kernel
theorem dX4_copyFrom_77 : decode cX4_copyFrom 77 = .ok (.aload_n 1, 1) := by decide +kernel
theorem dX4_copyFrom_78 : decode cX4_copyFrom 78 = .ok (.getfield 37, 3) := by decide +kernel
theorem dX4_copyFrom_81 : decode cX4_copyFrom 81 = .ok (.putfield 37, 3) := by decide +kernel
theorem dX4_copyFrom_84 : decode cX4_copyFrom 84 = .ok (.aload_n 0, 1) := by decide +kernel
theorem dX4_copyFrom_85 : decode cX4_copyFrom 85 = .ok (.aload_n 1, 1) := by decide +kernel
theorem dX4_copyFrom_86 : decode cX4_copyFrom 86 = .ok (.getfield 40, 3) := by decide +kernel
theorem dX4_copyFrom_89 : decode cX4_copyFrom 89 = .ok (.putfield 40, 3) := by decide +kernel
theorem dX4_copyFrom_92 : decode cX4_copyFrom 92 = .ok (.aload_n 0, 1) := by decide +kernel
theorem dX4_copyFrom_93 : decode cX4_copyFrom 93 = .ok (.aload_n 1, 1) := by decide +kernel
theorem dX4_copyFrom_94 : decode cX4_copyFrom 94 = .ok (.getfield 43, 3) := by decide +kernel
theorem dX4_copyFrom_97 : decode cX4_copyFrom 97 = .ok (.putfield 43, 3) := by decide +kernel
theorem dX4_copyFrom_100 : decode cX4_copyFrom 100 = .ok (.aload_n 0, 1) := by decide +kernel
theorem dX4_copyFrom_101 : decode cX4_copyFrom 101 = .ok (.aload_n 1, 1) := by decide +kernel
theorem dX4_copyFrom_102 : decode cX4_copyFrom 102 = .ok (.getfield 46, 3) := by decide +kernel
theorem dX4_copyFrom_105 : decode cX4_copyFrom 105 = .ok (.putfield 46, 3) := by decide +kernel
theorem dX4_copyFrom_108 : decode cX4_copyFrom 108 = .ok (.return_, 1) := by decide +kernel
theorem dX4_changePeriod_0 : decode cX4_changePeriod 0 = .ok (.aload_n 0, 1) := by decide +kernel
theorem dX4_changePeriod_1 : decode cX4_changePeriod 1 = .ok (.getfield 28, 3) := by decide +kernel
theorem dX4_changePeriod_4 : decode cX4_changePeriod 4 = .ok (.istore_n 2, 1) := by decide +kernel
theorem dX4_changePeriod_5 : decode cX4_changePeriod 5 = .ok (.aload_n 0, 1) := by decide +kernel
theorem dX4_changePeriod_6 : decode cX4_changePeriod 6 = .ok (.iload_n 1, 1) := by decide +kernel
theorem dX4_changePeriod_7 : decode cX4_changePeriod 7 = .ok (.putfield 28, 3) := by decide +kernel
theorem dX4_changePeriod_10 : decode cX4_changePeriod 10 = .ok (.iload_n 2, 1) := by decide +kernel
theorem dX4_changePeriod_11 : decode cX4_changePeriod 11 = .ok (.ireturn, 1) := by decide +kernel
theorem dX4_willExplore_0 : decode cX4_willExplore 0 = .ok (.aload_n 0, 1) := by decide +kernel
theorem dX4_willExplore_1 : decode cX4_willExplore 1 = .ok (.getfield 28, 3) := by decide +kernel
theorem dX4_willExplore_4 : decode cX4_willExplore 4 = .ok (.ifCond .le 21, 3) := by decide +kernel
theorem dX4_willExplore_7 : decode cX4_willExplore 7 = .ok (.aload_n 0, 1) := by decide +kernel
theorem dX4_willExplore_8 : decode cX4_willExplore 8 = .ok (.getfield 31, 3) := by decide +kernel
theorem dX4_willExplore_11 : decode cX4_willExplore 11 = .ok (.iconst 1, 1) := by decide +kernel
theorem dX4_willExplore_12 : decode cX4_willExplore 12 = .ok (.iadd, 1) := by decide +kernel
theorem dX4_willExplore_13 : decode cX4_willExplore 13 = .ok (.aload_n 0, 1) := by decide +kernel
theorem dX4_willExplore_14 : decode cX4_willExplore 14 = .ok (.getfield 28, 3) := by decide +kernel
theorem dX4_willExplore_17 : decode cX4_willExplore 17 = .ok (.irem, 1) := by decide +kernel
theorem dX4_willExplore_18 : decode cX4_willExplore 18 = .ok (.ifCond .ne 7, 3) := by decide +kernel
theorem dX4_willExplore_21 : decode cX4_willExplore 21 = .ok (.iconst 1, 1) := by decide +kernel
theorem dX4_willExplore_22 : decode cX4_willExplore 22 = .ok (.goto 4, 3) := by decide +kernel
theorem dX4_willExplore_25 : decode cX4_willExplore 25 = .ok (.iconst 0, 1) := by decide +kernel
theorem dX4_willExplore_26 : decode cX4_willExplore 26 = .ok (.ireturn, 1) := by decide +kernel
theorem dX4_opensIn_0 : decode cX4_opensIn 0 = .ok (.iload_n 1, 1) := by decide +kernel
theorem dX4_opensIn_1 : decode cX4_opensIn 1 = .ok (.iconst 1, 1) := by decide +kernel
theorem dX4_opensIn_2 : decode cX4_opensIn 2 = .ok (.invokestatic 53, 3) := by decide +kernel
theorem dX4_opensIn_5 : decode cX4_opensIn 5 = .ok (.istore_n 2, 1) := by decide +kernel
theorem dX4_opensIn_6 : decode cX4_opensIn 6 = .ok (.iload_n 1, 1) := by decide +kernel
theorem dX4_opensIn_7 : decode cX4_opensIn 7 = .ok (.iconst 0, 1) := by decide +kernel
theorem dX4_opensIn_8 : decode cX4_opensIn 8 = .ok (.invokestatic 53, 3) := by decide +kernel
theorem dX4_opensIn_11 : decode cX4_opensIn 11 = .ok (.istore_n 3, 1) := by decide +kernel
theorem dX4_opensIn_12 : decode cX4_opensIn 12 = .ok (.aload_n 0, 1) := by decide +kernel
theorem dX4_opensIn_13 : decode cX4_opensIn 13 = .ok (.getfield 18, 3) := by decide +kernel
theorem dX4_opensIn_16 : decode cX4_opensIn 16 = .ok (.iload_n 2, 1) := by decide +kernel
theorem dX4_opensIn_17 : decode cX4_opensIn 17 = .ok (.invokestatic 57, 3) := by decide +kernel
theorem dX4_opensIn_20 : decode cX4_opensIn 20 = .ok (.istore 4, 2) := by decide +kernel
theorem dX4_opensIn_22 : decode cX4_opensIn 22 = .ok (.aload_n 0, 1) := by decide +kernel
theorem dX4_opensIn_23 : decode cX4_opensIn 23 = .ok (.getfield 18, 3) := by decide +kernel
theorem dX4_opensIn_26 : decode cX4_opensIn 26 = .ok (.iload_n 3, 1) := by decide +kernel
theorem dX4_opensIn_27 : decode cX4_opensIn 27 = .ok (.invokestatic 57, 3) := by decide +kernel
theorem dX4_opensIn_30 : decode cX4_opensIn 30 = .ok (.istore 5, 2) := by decide +kernel
theorem dX4_opensIn_32 : decode cX4_opensIn 32 = .ok (.iload 4, 2) := by decide +kernel
theorem dX4_opensIn_34 : decode cX4_opensIn 34 = .ok (.ifCond .eq 8, 3) := by decide +kernel
theorem dX4_opensIn_37 : decode cX4_opensIn 37 = .ok (.iload 5, 2) := by decide +kernel
theorem dX4_opensIn_39 : decode cX4_opensIn 39 = .ok (.ifCond .ne 14, 3) := by decide +kernel
theorem dX4_opensIn_42 : decode cX4_opensIn 42 = .ok (.iload 4, 2) := by decide +kernel
theorem dX4_opensIn_44 : decode cX4_opensIn 44 = .ok (.ifCond .le 7, 3) := by decide +kernel
theorem dX4_opensIn_47 : decode cX4_opensIn 47 = .ok (.iconst 1, 1) := by decide +kernel
theorem dX4_opensIn_48 : decode cX4_opensIn 48 = .ok (.goto 4, 3) := by decide +kernel
theorem dX4_opensIn_51 : decode cX4_opensIn 51 = .ok (.iconst 0, 1) := by decide +kernel
theorem dX4_opensIn_52 : decode cX4_opensIn 52 = .ok (.ireturn, 1) := by decide +kernel
theorem dX4_opensIn_53 : decode cX4_opensIn 53 = .ok (.aload_n 0, 1) := by decide +kernel
theorem dX4_opensIn_54 : decode cX4_opensIn 54 = .ok (.getfield 21, 3) := by decide +kernel
theorem dX4_opensIn_57 : decode cX4_opensIn 57 = .ok (.iload_n 2, 1) := by decide +kernel
theorem dX4_opensIn_58 : decode cX4_opensIn 58 = .ok (.invokestatic 57, 3) := by decide +kernel
theorem dX4_opensIn_61 : decode cX4_opensIn 61 = .ok (.iload 5, 2) := by decide +kernel
theorem dX4_opensIn_63 : decode cX4_opensIn 63 = .ok (.imul, 1) := by decide +kernel
theorem dX4_opensIn_64 : decode cX4_opensIn 64 = .ok (.aload_n 0, 1) := by decide +kernel
theorem dX4_opensIn_65 : decode cX4_opensIn 65 = .ok (.getfield 21, 3) := by decide +kernel
theorem dX4_opensIn_68 : decode cX4_opensIn 68 = .ok (.iload_n 3, 1) := by decide +kernel
theorem dX4_opensIn_69 : decode cX4_opensIn 69 = .ok (.invokestatic 57, 3) := by decide +kernel
theorem dX4_opensIn_72 : decode cX4_opensIn 72 = .ok (.iload 4, 2) := by decide +kernel
theorem dX4_opensIn_74 : decode cX4_opensIn 74 = .ok (.imul, 1) := by decide +kernel
theorem dX4_opensIn_75 : decode cX4_opensIn 75 = .ok (.if_icmp .le 7, 3) := by decide +kernel
theorem dX4_opensIn_78 : decode cX4_opensIn 78 = .ok (.iconst 1, 1) := by decide +kernel
theorem dX4_opensIn_79 : decode cX4_opensIn 79 = .ok (.goto 4, 3) := by decide +kernel
theorem dX4_opensIn_82 : decode cX4_opensIn 82 = .ok (.iconst 0, 1) := by decide +kernel
theorem dX4_opensIn_83 : decode cX4_opensIn 83 = .ok (.ireturn, 1) := by decide +kernel
theorem dX4_enterTrial_0 : decode cX4_enterTrial 0 = .ok (.aload_n 0, 1) := by decide +kernel
theorem dX4_enterTrial_1 : decode cX4_enterTrial 1 = .ok (.dup, 1) := by decide +kernel
theorem dX4_enterTrial_2 : decode cX4_enterTrial 2 = .ok (.getfield 31, 3) := by decide +kernel
theorem dX4_enterTrial_5 : decode cX4_enterTrial 5 = .ok (.iconst 1, 1) := by decide +kernel
theorem dX4_enterTrial_6 : decode cX4_enterTrial 6 = .ok (.iadd, 1) := by decide +kernel
theorem dX4_enterTrial_7 : decode cX4_enterTrial 7 = .ok (.putfield 31, 3) := by decide +kernel
theorem dX4_enterTrial_10 : decode cX4_enterTrial 10 = .ok (.aload_n 0, 1) := by decide +kernel
theorem dX4_enterTrial_11 : decode cX4_enterTrial 11 = .ok (.dup, 1) := by decide +kernel
theorem dX4_enterTrial_12 : decode cX4_enterTrial 12 = .ok (.getfield 37, 3) := by decide +kernel
theorem dX4_enterTrial_15 : decode cX4_enterTrial 15 = .ok (.iload_n 2, 1) := by decide +kernel
theorem dX4_enterTrial_16 : decode cX4_enterTrial 16 = .ok (.iadd, 1) := by decide +kernel
theorem dX4_enterTrial_17 : decode cX4_enterTrial 17 = .ok (.putfield 37, 3) := by decide +kernel
theorem dX4_enterTrial_20 : decode cX4_enterTrial 20 = .ok (.aload_n 0, 1) := by decide +kernel
theorem dX4_enterTrial_21 : decode cX4_enterTrial 21 = .ok (.dup, 1) := by decide +kernel
theorem dX4_enterTrial_22 : decode cX4_enterTrial 22 = .ok (.getfield 40, 3) := by decide +kernel
theorem dX4_enterTrial_25 : decode cX4_enterTrial 25 = .ok (.iload_n 2, 1) := by decide +kernel
theorem dX4_enterTrial_26 : decode cX4_enterTrial 26 = .ok (.iadd, 1) := by decide +kernel
theorem dX4_enterTrial_27 : decode cX4_enterTrial 27 = .ok (.putfield 40, 3) := by decide +kernel
theorem dX4_enterTrial_30 : decode cX4_enterTrial 30 = .ok (.aload_n 0, 1) := by decide +kernel
theorem dX4_enterTrial_31 : decode cX4_enterTrial 31 = .ok (.getfield 9, 3) := by decide +kernel
theorem dX4_enterTrial_34 : decode cX4_enterTrial 34 = .ok (.aload_n 0, 1) := by decide +kernel
theorem dX4_enterTrial_35 : decode cX4_enterTrial 35 = .ok (.getfield 34, 3) := by decide +kernel
theorem dX4_enterTrial_38 : decode cX4_enterTrial 38 = .ok (.iload_n 1, 1) := by decide +kernel
theorem dX4_enterTrial_39 : decode cX4_enterTrial 39 = .ok (.invokestatic 61, 3) := by decide +kernel
theorem dX4_enterTrial_42 : decode cX4_enterTrial 42 = .ok (.aload_n 0, 1) := by decide +kernel
theorem dX4_enterTrial_43 : decode cX4_enterTrial 43 = .ok (.getfield 15, 3) := by decide +kernel
theorem dX4_enterTrial_46 : decode cX4_enterTrial 46 = .ok (.aload_n 0, 1) := by decide +kernel
theorem dX4_enterTrial_47 : decode cX4_enterTrial 47 = .ok (.getfield 34, 3) := by decide +kernel
theorem dX4_enterTrial_50 : decode cX4_enterTrial 50 = .ok (.iload_n 2, 1) := by decide +kernel
theorem dX4_enterTrial_51 : decode cX4_enterTrial 51 = .ok (.invokestatic 61, 3) := by decide +kernel
theorem dX4_enterTrial_54 : decode cX4_enterTrial 54 = .ok (.aload_n 0, 1) := by decide +kernel
theorem dX4_enterTrial_55 : decode cX4_enterTrial 55 = .ok (.dup, 1) := by decide +kernel
theorem dX4_enterTrial_56 : decode cX4_enterTrial 56 = .ok (.getfield 34, 3) := by decide +kernel
theorem dX4_enterTrial_59 : decode cX4_enterTrial 59 = .ok (.iconst 1, 1) := by decide +kernel
theorem dX4_enterTrial_60 : decode cX4_enterTrial 60 = .ok (.iadd, 1) := by decide +kernel
theorem dX4_enterTrial_61 : decode cX4_enterTrial 61 = .ok (.putfield 34, 3) := by decide +kernel
theorem dX4_enterTrial_64 : decode cX4_enterTrial 64 = .ok (.aload_n 0, 1) := by decide +kernel
theorem dX4_enterTrial_65 : decode cX4_enterTrial 65 = .ok (.iload_n 1, 1) := by decide +kernel
theorem dX4_enterTrial_66 : decode cX4_enterTrial 66 = .ok (.iconst 1, 1) := by decide +kernel
theorem dX4_enterTrial_67 : decode cX4_enterTrial 67 = .ok (.iload_n 2, 1) := by decide +kernel
theorem dX4_enterTrial_68 : decode cX4_enterTrial 68 = .ok (.invokevirtual 65, 3) := by decide +kernel
theorem dX4_enterTrial_71 : decode cX4_enterTrial 71 = .ok (.return_, 1) := by decide +kernel
theorem dX4_makeRoom_0 : decode cX4_makeRoom 0 = .ok (.aload_n 0, 1) := by decide +kernel
theorem dX4_makeRoom_1 : decode cX4_makeRoom 1 = .ok (.getfield 34, 3) := by decide +kernel
theorem dX4_makeRoom_4 : decode cX4_makeRoom 4 = .ok (.aload_n 0, 1) := by decide +kernel
theorem dX4_makeRoom_5 : decode cX4_makeRoom 5 = .ok (.getfield 24, 3) := by decide +kernel
theorem dX4_makeRoom_8 : decode cX4_makeRoom 8 = .ok (.if_icmp .ge 4, 3) := by decide +kernel
theorem dX4_makeRoom_11 : decode cX4_makeRoom 11 = .ok (.return_, 1) := by decide +kernel
theorem dX4_makeRoom_12 : decode cX4_makeRoom 12 = .ok (.aload_n 0, 1) := by decide +kernel
theorem dX4_makeRoom_13 : decode cX4_makeRoom 13 = .ok (.aload_n 0, 1) := by decide +kernel
theorem dX4_makeRoom_14 : decode cX4_makeRoom 14 = .ok (.getfield 9, 3) := by decide +kernel
theorem dX4_makeRoom_17 : decode cX4_makeRoom 17 = .ok (.iconst 0, 1) := by decide +kernel
theorem dX4_makeRoom_18 : decode cX4_makeRoom 18 = .ok (.invokestatic 57, 3) := by decide +kernel
theorem dX4_makeRoom_21 : decode cX4_makeRoom 21 = .ok (.iconst (-1), 1) := by decide +kernel
theorem dX4_makeRoom_22 : decode cX4_makeRoom 22 = .ok (.aload_n 0, 1) := by decide +kernel
theorem dX4_makeRoom_23 : decode cX4_makeRoom 23 = .ok (.getfield 15, 3) := by decide +kernel
theorem dX4_makeRoom_26 : decode cX4_makeRoom 26 = .ok (.iconst 0, 1) := by decide +kernel
theorem dX4_makeRoom_27 : decode cX4_makeRoom 27 = .ok (.invokestatic 57, 3) := by decide +kernel
theorem dX4_makeRoom_30 : decode cX4_makeRoom 30 = .ok (.ineg, 1) := by decide +kernel
theorem dX4_makeRoom_31 : decode cX4_makeRoom 31 = .ok (.invokevirtual 65, 3) := by decide +kernel
theorem dX4_makeRoom_34 : decode cX4_makeRoom 34 = .ok (.iconst 1, 1) := by decide +kernel
theorem dX4_makeRoom_35 : decode cX4_makeRoom 35 = .ok (.istore_n 1, 1) := by decide +kernel
theorem dX4_makeRoom_36 : decode cX4_makeRoom 36 = .ok (.iload_n 1, 1) := by decide +kernel
theorem dX4_makeRoom_37 : decode cX4_makeRoom 37 = .ok (.aload_n 0, 1) := by decide +kernel
theorem dX4_makeRoom_38 : decode cX4_makeRoom 38 = .ok (.getfield 34, 3) := by decide +kernel
theorem dX4_makeRoom_41 : decode cX4_makeRoom 41 = .ok (.if_icmp .ge 45, 3) := by decide +kernel
theorem dX4_makeRoom_44 : decode cX4_makeRoom 44 = .ok (.aload_n 0, 1) := by decide +kernel
theorem dX4_makeRoom_45 : decode cX4_makeRoom 45 = .ok (.getfield 9, 3) := by decide +kernel
theorem dX4_makeRoom_48 : decode cX4_makeRoom 48 = .ok (.iload_n 1, 1) := by decide +kernel
theorem dX4_makeRoom_49 : decode cX4_makeRoom 49 = .ok (.iconst 1, 1) := by decide +kernel
theorem dX4_makeRoom_50 : decode cX4_makeRoom 50 = .ok (.isub, 1) := by decide +kernel
theorem dX4_makeRoom_51 : decode cX4_makeRoom 51 = .ok (.aload_n 0, 1) := by decide +kernel
theorem dX4_makeRoom_52 : decode cX4_makeRoom 52 = .ok (.getfield 9, 3) := by decide +kernel
theorem dX4_makeRoom_55 : decode cX4_makeRoom 55 = .ok (.iload_n 1, 1) := by decide +kernel
theorem dX4_makeRoom_56 : decode cX4_makeRoom 56 = .ok (.invokestatic 57, 3) := by decide +kernel
theorem dX4_makeRoom_59 : decode cX4_makeRoom 59 = .ok (.invokestatic 61, 3) := by decide +kernel
theorem dX4_makeRoom_62 : decode cX4_makeRoom 62 = .ok (.aload_n 0, 1) := by decide +kernel
theorem dX4_makeRoom_63 : decode cX4_makeRoom 63 = .ok (.getfield 15, 3) := by decide +kernel
theorem dX4_makeRoom_66 : decode cX4_makeRoom 66 = .ok (.iload_n 1, 1) := by decide +kernel
theorem dX4_makeRoom_67 : decode cX4_makeRoom 67 = .ok (.iconst 1, 1) := by decide +kernel
theorem dX4_makeRoom_68 : decode cX4_makeRoom 68 = .ok (.isub, 1) := by decide +kernel
theorem dX4_makeRoom_69 : decode cX4_makeRoom 69 = .ok (.aload_n 0, 1) := by decide +kernel
theorem dX4_makeRoom_70 : decode cX4_makeRoom 70 = .ok (.getfield 15, 3) := by decide +kernel
theorem dX4_makeRoom_73 : decode cX4_makeRoom 73 = .ok (.iload_n 1, 1) := by decide +kernel
theorem dX4_makeRoom_74 : decode cX4_makeRoom 74 = .ok (.invokestatic 57, 3) := by decide +kernel
theorem dX4_makeRoom_77 : decode cX4_makeRoom 77 = .ok (.invokestatic 61, 3) := by decide +kernel
theorem dX4_makeRoom_80 : decode cX4_makeRoom 80 = .ok (.iinc 1 1, 3) := by decide +kernel
theorem dX4_makeRoom_83 : decode cX4_makeRoom 83 = .ok (.goto (-47), 3) := by decide +kernel
theorem dX4_makeRoom_86 : decode cX4_makeRoom 86 = .ok (.aload_n 0, 1) := by decide +kernel
theorem dX4_makeRoom_87 : decode cX4_makeRoom 87 = .ok (.dup, 1) := by decide +kernel
theorem dX4_makeRoom_88 : decode cX4_makeRoom 88 = .ok (.getfield 34, 3) := by decide +kernel
theorem dX4_makeRoom_91 : decode cX4_makeRoom 91 = .ok (.iconst 1, 1) := by decide +kernel
theorem dX4_makeRoom_92 : decode cX4_makeRoom 92 = .ok (.isub, 1) := by decide +kernel
theorem dX4_makeRoom_93 : decode cX4_makeRoom 93 = .ok (.putfield 34, 3) := by decide +kernel
theorem dX4_makeRoom_96 : decode cX4_makeRoom 96 = .ok (.return_, 1) := by decide +kernel
theorem dX4_forgetTrialsIn_0 : decode cX4_forgetTrialsIn 0 = .ok (.iconst 0, 1) := by decide +kernel
theorem dX4_forgetTrialsIn_1 : decode cX4_forgetTrialsIn 1 = .ok (.istore_n 2, 1) := by decide +kernel
theorem dX4_forgetTrialsIn_2 : decode cX4_forgetTrialsIn 2 = .ok (.iconst 0, 1) := by decide +kernel
theorem dX4_forgetTrialsIn_3 : decode cX4_forgetTrialsIn 3 = .ok (.istore_n 3, 1) := by decide +kernel
theorem dX4_forgetTrialsIn_4 : decode cX4_forgetTrialsIn 4 = .ok (.iload_n 3, 1) := by decide +kernel
theorem dX4_forgetTrialsIn_5 : decode cX4_forgetTrialsIn 5 = .ok (.aload_n 0, 1) := by decide +kernel
theorem dX4_forgetTrialsIn_6 : decode cX4_forgetTrialsIn 6 = .ok (.getfield 34, 3) := by decide +kernel
theorem dX4_forgetTrialsIn_9 : decode cX4_forgetTrialsIn 9 = .ok (.if_icmp .ge 74, 3) := by decide +kernel
theorem dX4_forgetTrialsIn_12 : decode cX4_forgetTrialsIn 12 = .ok (.aload_n 0, 1) := by decide +kernel
theorem dX4_forgetTrialsIn_13 : decode cX4_forgetTrialsIn 13 = .ok (.getfield 9, 3) := by decide +kernel
theorem dX4_forgetTrialsIn_16 : decode cX4_forgetTrialsIn 16 = .ok (.iload_n 3, 1) := by decide +kernel
theorem dX4_forgetTrialsIn_17 : decode cX4_forgetTrialsIn 17 = .ok (.invokestatic 57, 3) := by decide +kernel
theorem dX4_forgetTrialsIn_20 : decode cX4_forgetTrialsIn 20 = .ok (.istore 4, 2) := by decide +kernel
theorem dX4_forgetTrialsIn_22 : decode cX4_forgetTrialsIn 22 = .ok (.aload_n 0, 1) := by decide +kernel
theorem dX4_forgetTrialsIn_23 : decode cX4_forgetTrialsIn 23 = .ok (.getfield 15, 3) := by decide +kernel
theorem dX4_forgetTrialsIn_26 : decode cX4_forgetTrialsIn 26 = .ok (.iload_n 3, 1) := by decide +kernel
theorem dX4_forgetTrialsIn_27 : decode cX4_forgetTrialsIn 27 = .ok (.invokestatic 57, 3) := by decide +kernel
theorem dX4_forgetTrialsIn_30 : decode cX4_forgetTrialsIn 30 = .ok (.istore 5, 2) := by decide +kernel
theorem dX4_forgetTrialsIn_32 : decode cX4_forgetTrialsIn 32 = .ok (.iload 4, 2) := by decide +kernel
theorem dX4_forgetTrialsIn_34 : decode cX4_forgetTrialsIn 34 = .ok (.invokestatic 69, 3) := by decide +kernel
theorem dX4_forgetTrialsIn_37 : decode cX4_forgetTrialsIn 37 = .ok (.iload_n 1, 1) := by decide +kernel
theorem dX4_forgetTrialsIn_38 : decode cX4_forgetTrialsIn 38 = .ok (.if_icmp .ne 16, 3) := by decide +kernel
theorem dX4_forgetTrialsIn_41 : decode cX4_forgetTrialsIn 41 = .ok (.aload_n 0, 1) := by decide +kernel
theorem dX4_forgetTrialsIn_42 : decode cX4_forgetTrialsIn 42 = .ok (.iload 4, 2) := by decide +kernel
theorem dX4_forgetTrialsIn_44 : decode cX4_forgetTrialsIn 44 = .ok (.iconst (-1), 1) := by decide +kernel
theorem dX4_forgetTrialsIn_45 : decode cX4_forgetTrialsIn 45 = .ok (.iload 5, 2) := by decide +kernel
theorem dX4_forgetTrialsIn_47 : decode cX4_forgetTrialsIn 47 = .ok (.ineg, 1) := by decide +kernel
theorem dX4_forgetTrialsIn_48 : decode cX4_forgetTrialsIn 48 = .ok (.invokevirtual 65, 3) := by decide +kernel
theorem dX4_forgetTrialsIn_51 : decode cX4_forgetTrialsIn 51 = .ok (.goto 26, 3) := by decide +kernel
theorem dX4_forgetTrialsIn_54 : decode cX4_forgetTrialsIn 54 = .ok (.aload_n 0, 1) := by decide +kernel
theorem dX4_forgetTrialsIn_55 : decode cX4_forgetTrialsIn 55 = .ok (.getfield 9, 3) := by decide +kernel
theorem dX4_forgetTrialsIn_58 : decode cX4_forgetTrialsIn 58 = .ok (.iload_n 2, 1) := by decide +kernel
theorem dX4_forgetTrialsIn_59 : decode cX4_forgetTrialsIn 59 = .ok (.iload 4, 2) := by decide +kernel
theorem dX4_forgetTrialsIn_61 : decode cX4_forgetTrialsIn 61 = .ok (.invokestatic 61, 3) := by decide +kernel
theorem dX4_forgetTrialsIn_64 : decode cX4_forgetTrialsIn 64 = .ok (.aload_n 0, 1) := by decide +kernel
theorem dX4_forgetTrialsIn_65 : decode cX4_forgetTrialsIn 65 = .ok (.getfield 15, 3) := by decide +kernel
theorem dX4_forgetTrialsIn_68 : decode cX4_forgetTrialsIn 68 = .ok (.iload_n 2, 1) := by decide +kernel
theorem dX4_forgetTrialsIn_69 : decode cX4_forgetTrialsIn 69 = .ok (.iload 5, 2) := by decide +kernel
theorem dX4_forgetTrialsIn_71 : decode cX4_forgetTrialsIn 71 = .ok (.invokestatic 61, 3) := by decide +kernel
theorem dX4_forgetTrialsIn_74 : decode cX4_forgetTrialsIn 74 = .ok (.iinc 2 1, 3) := by decide +kernel
theorem dX4_forgetTrialsIn_77 : decode cX4_forgetTrialsIn 77 = .ok (.iinc 3 1, 3) := by decide +kernel
theorem dX4_forgetTrialsIn_80 : decode cX4_forgetTrialsIn 80 = .ok (.goto (-76), 3) := by decide +kernel
theorem dX4_forgetTrialsIn_83 : decode cX4_forgetTrialsIn 83 = .ok (.aload_n 0, 1) := by decide +kernel
theorem dX4_forgetTrialsIn_84 : decode cX4_forgetTrialsIn 84 = .ok (.getfield 34, 3) := by decide +kernel
theorem dX4_forgetTrialsIn_87 : decode cX4_forgetTrialsIn 87 = .ok (.iload_n 2, 1) := by decide +kernel
theorem dX4_forgetTrialsIn_88 : decode cX4_forgetTrialsIn 88 = .ok (.isub, 1) := by decide +kernel
theorem dX4_forgetTrialsIn_89 : decode cX4_forgetTrialsIn 89 = .ok (.istore_n 3, 1) := by decide +kernel
theorem dX4_forgetTrialsIn_90 : decode cX4_forgetTrialsIn 90 = .ok (.aload_n 0, 1) := by decide +kernel
theorem dX4_forgetTrialsIn_91 : decode cX4_forgetTrialsIn 91 = .ok (.iload_n 2, 1) := by decide +kernel
theorem dX4_forgetTrialsIn_92 : decode cX4_forgetTrialsIn 92 = .ok (.putfield 34, 3) := by decide +kernel
theorem dX4_forgetTrialsIn_95 : decode cX4_forgetTrialsIn 95 = .ok (.iload_n 3, 1) := by decide +kernel
theorem dX4_forgetTrialsIn_96 : decode cX4_forgetTrialsIn 96 = .ok (.ireturn, 1) := by decide +kernel
theorem dX4_countCase_0 : decode cX4_countCase 0 = .ok (.aload_n 0, 1) := by decide +kernel
theorem dX4_countCase_1 : decode cX4_countCase 1 = .ok (.getfield 18, 3) := by decide +kernel
theorem dX4_countCase_4 : decode cX4_countCase 4 = .ok (.iload_n 1, 1) := by decide +kernel
theorem dX4_countCase_5 : decode cX4_countCase 5 = .ok (.iload_n 2, 1) := by decide +kernel
theorem dX4_countCase_6 : decode cX4_countCase 6 = .ok (.invokestatic 73, 3) := by decide +kernel
theorem dX4_countCase_9 : decode cX4_countCase 9 = .ok (.aload_n 0, 1) := by decide +kernel
theorem dX4_countCase_10 : decode cX4_countCase 10 = .ok (.getfield 21, 3) := by decide +kernel
theorem dX4_countCase_13 : decode cX4_countCase 13 = .ok (.iload_n 1, 1) := by decide +kernel
theorem dX4_countCase_14 : decode cX4_countCase 14 = .ok (.iload_n 3, 1) := by decide +kernel
theorem dX4_countCase_15 : decode cX4_countCase 15 = .ok (.invokestatic 73, 3) := by decide +kernel
theorem dX4_countCase_18 : decode cX4_countCase 18 = .ok (.return_, 1) := by decide +kernel
theorem dX4_addUpTrials_0 : decode cX4_addUpTrials 0 = .ok (.iconst 0, 1) := by decide +kernel
theorem dX4_addUpTrials_1 : decode cX4_addUpTrials 1 = .ok (.istore_n 2, 1) := by decide +kernel
theorem dX4_addUpTrials_2 : decode cX4_addUpTrials 2 = .ok (.iconst 0, 1) := by decide +kernel
theorem dX4_addUpTrials_3 : decode cX4_addUpTrials 3 = .ok (.istore_n 3, 1) := by decide +kernel
theorem dX4_addUpTrials_4 : decode cX4_addUpTrials 4 = .ok (.iload_n 3, 1) := by decide +kernel
theorem dX4_addUpTrials_5 : decode cX4_addUpTrials 5 = .ok (.aload_n 0, 1) := by decide +kernel
theorem dX4_addUpTrials_6 : decode cX4_addUpTrials 6 = .ok (.getfield 34, 3) := by decide +kernel
theorem dX4_addUpTrials_9 : decode cX4_addUpTrials 9 = .ok (.if_icmp .ge 32, 3) := by decide +kernel
theorem dX4_addUpTrials_12 : decode cX4_addUpTrials 12 = .ok (.aload_n 0, 1) := by decide +kernel
theorem dX4_addUpTrials_13 : decode cX4_addUpTrials 13 = .ok (.getfield 9, 3) := by decide +kernel
theorem dX4_addUpTrials_16 : decode cX4_addUpTrials 16 = .ok (.iload_n 3, 1) := by decide +kernel
theorem dX4_addUpTrials_17 : decode cX4_addUpTrials 17 = .ok (.invokestatic 57, 3) := by decide +kernel
theorem dX4_addUpTrials_20 : decode cX4_addUpTrials 20 = .ok (.iload_n 1, 1) := by decide +kernel
theorem dX4_addUpTrials_21 : decode cX4_addUpTrials 21 = .ok (.if_icmp .ne 14, 3) := by decide +kernel
theorem dX4_addUpTrials_24 : decode cX4_addUpTrials 24 = .ok (.iload_n 2, 1) := by decide +kernel
theorem dX4_addUpTrials_25 : decode cX4_addUpTrials 25 = .ok (.aload_n 0, 1) := by decide +kernel
theorem dX4_addUpTrials_26 : decode cX4_addUpTrials 26 = .ok (.getfield 15, 3) := by decide +kernel
theorem dX4_addUpTrials_29 : decode cX4_addUpTrials 29 = .ok (.iload_n 3, 1) := by decide +kernel
theorem dX4_addUpTrials_30 : decode cX4_addUpTrials 30 = .ok (.invokestatic 57, 3) := by decide +kernel
theorem dX4_addUpTrials_33 : decode cX4_addUpTrials 33 = .ok (.iadd, 1) := by decide +kernel
theorem dX4_addUpTrials_34 : decode cX4_addUpTrials 34 = .ok (.istore_n 2, 1) := by decide +kernel
theorem dX4_addUpTrials_35 : decode cX4_addUpTrials 35 = .ok (.iinc 3 1, 3) := by decide +kernel
theorem dX4_addUpTrials_38 : decode cX4_addUpTrials 38 = .ok (.goto (-34), 3) := by decide +kernel
theorem dX4_addUpTrials_41 : decode cX4_addUpTrials 41 = .ok (.iload_n 2, 1) := by decide +kernel
theorem dX4_addUpTrials_42 : decode cX4_addUpTrials 42 = .ok (.ireturn, 1) := by decide +kernel
theorem dX4_timesIn_0 : decode cX4_timesIn 0 = .ok (.aload_n 0, 1) := by decide +kernel
theorem dX4_timesIn_1 : decode cX4_timesIn 1 = .ok (.getfield 18, 3) := by decide +kernel
theorem dX4_timesIn_4 : decode cX4_timesIn 4 = .ok (.iload_n 1, 1) := by decide +kernel
theorem dX4_timesIn_5 : decode cX4_timesIn 5 = .ok (.iconst 1, 1) := by decide +kernel
theorem dX4_timesIn_6 : decode cX4_timesIn 6 = .ok (.invokestatic 53, 3) := by decide +kernel
theorem dX4_timesIn_9 : decode cX4_timesIn 9 = .ok (.invokestatic 57, 3) := by decide +kernel
theorem dX4_timesIn_12 : decode cX4_timesIn 12 = .ok (.aload_n 0, 1) := by decide +kernel
theorem dX4_timesIn_13 : decode cX4_timesIn 13 = .ok (.getfield 18, 3) := by decide +kernel
theorem dX4_timesIn_16 : decode cX4_timesIn 16 = .ok (.iload_n 1, 1) := by decide +kernel
theorem dX4_timesIn_17 : decode cX4_timesIn 17 = .ok (.iconst 0, 1) := by decide +kernel
theorem dX4_timesIn_18 : decode cX4_timesIn 18 = .ok (.invokestatic 53, 3) := by decide +kernel
theorem dX4_timesIn_21 : decode cX4_timesIn 21 = .ok (.invokestatic 57, 3) := by decide +kernel
theorem dX4_timesIn_24 : decode cX4_timesIn 24 = .ok (.iadd, 1) := by decide +kernel
theorem dX4_timesIn_25 : decode cX4_timesIn 25 = .ok (.ireturn, 1) := by decide +kernel
theorem dX4_countKnownSituations_0 : decode cX4_countKnownSituations 0 = .ok (.iconst 0, 1) := by decide +kernel
theorem dX4_countKnownSituations_1 : decode cX4_countKnownSituations 1 = .ok (.istore_n 1, 1) := by decide +kernel
theorem dX4_countKnownSituations_2 : decode cX4_countKnownSituations 2 = .ok (.iconst 0, 1) := by decide +kernel
theorem dX4_countKnownSituations_3 : decode cX4_countKnownSituations 3 = .ok (.istore_n 2, 1) := by decide +kernel
theorem dX4_countKnownSituations_4 : decode cX4_countKnownSituations 4 = .ok (.iload_n 2, 1) := by decide +kernel
theorem dX4_countKnownSituations_5 : decode cX4_countKnownSituations 5 = .ok (.bipush 16, 2) := by decide +kernel
theorem dX4_countKnownSituations_7 : decode cX4_countKnownSituations 7 = .ok (.if_icmp .ge 20, 3) := by decide +kernel
theorem dX4_countKnownSituations_10 : decode cX4_countKnownSituations 10 = .ok (.aload_n 0, 1) := by decide +kernel
theorem dX4_countKnownSituations_11 : decode cX4_countKnownSituations 11 = .ok (.iload_n 2, 1) := by decide +kernel
theorem dX4_countKnownSituations_12 : decode cX4_countKnownSituations 12 = .ok (.invokevirtual 76, 3) := by decide +kernel
theorem dX4_countKnownSituations_15 : decode cX4_countKnownSituations 15 = .ok (.ifCond .le 6, 3) := by decide +kernel
theorem dX4_countKnownSituations_18 : decode cX4_countKnownSituations 18 = .ok (.iinc 1 1, 3) := by decide +kernel
theorem dX4_countKnownSituations_21 : decode cX4_countKnownSituations 21 = .ok (.iinc 2 1, 3) := by decide +kernel
theorem dX4_countKnownSituations_24 : decode cX4_countKnownSituations 24 = .ok (.goto (-20), 3) := by decide +kernel
theorem dX4_countKnownSituations_27 : decode cX4_countKnownSituations 27 = .ok (.iload_n 1, 1) := by decide +kernel
theorem dX4_countKnownSituations_28 : decode cX4_countKnownSituations 28 = .ok (.ireturn, 1) := by decide +kernel
theorem dX4_situationAtRank_0 : decode cX4_situationAtRank 0 = .ok (.iconst 0, 1) := by decide +kernel
theorem dX4_situationAtRank_1 : decode cX4_situationAtRank 1 = .ok (.istore_n 2, 1) := by decide +kernel
theorem dX4_situationAtRank_2 : decode cX4_situationAtRank 2 = .ok (.iload_n 2, 1) := by decide +kernel
theorem dX4_situationAtRank_3 : decode cX4_situationAtRank 3 = .ok (.bipush 16, 2) := by decide +kernel
theorem dX4_situationAtRank_5 : decode cX4_situationAtRank 5 = .ok (.if_icmp .ge 28, 3) := by decide +kernel
theorem dX4_situationAtRank_8 : decode cX4_situationAtRank 8 = .ok (.aload_n 0, 1) := by decide +kernel
theorem dX4_situationAtRank_9 : decode cX4_situationAtRank 9 = .ok (.iload_n 2, 1) := by decide +kernel
theorem dX4_situationAtRank_10 : decode cX4_situationAtRank 10 = .ok (.invokevirtual 76, 3) := by decide +kernel
theorem dX4_situationAtRank_13 : decode cX4_situationAtRank 13 = .ok (.ifCond .le 14, 3) := by decide +kernel
theorem dX4_situationAtRank_16 : decode cX4_situationAtRank 16 = .ok (.aload_n 0, 1) := by decide +kernel
theorem dX4_situationAtRank_17 : decode cX4_situationAtRank 17 = .ok (.iload_n 2, 1) := by decide +kernel
theorem dX4_situationAtRank_18 : decode cX4_situationAtRank 18 = .ok (.invokevirtual 79, 3) := by decide +kernel
theorem dX4_situationAtRank_21 : decode cX4_situationAtRank 21 = .ok (.iload_n 1, 1) := by decide +kernel
theorem dX4_situationAtRank_22 : decode cX4_situationAtRank 22 = .ok (.if_icmp .ne 5, 3) := by decide +kernel
theorem dX4_situationAtRank_25 : decode cX4_situationAtRank 25 = .ok (.iload_n 2, 1) := by decide +kernel
theorem dX4_situationAtRank_26 : decode cX4_situationAtRank 26 = .ok (.ireturn, 1) := by decide +kernel
theorem dX4_situationAtRank_27 : decode cX4_situationAtRank 27 = .ok (.iinc 2 1, 3) := by decide +kernel
theorem dX4_situationAtRank_30 : decode cX4_situationAtRank 30 = .ok (.goto (-28), 3) := by decide +kernel
theorem dX4_situationAtRank_33 : decode cX4_situationAtRank 33 = .ok (.iconst (-1), 1) := by decide +kernel
theorem dX4_situationAtRank_34 : decode cX4_situationAtRank 34 = .ok (.ireturn, 1) := by decide +kernel
theorem dX4_situationsBefore_0 : decode cX4_situationsBefore 0 = .ok (.aload_n 0, 1) := by decide +kernel
theorem dX4_situationsBefore_1 : decode cX4_situationsBefore 1 = .ok (.iload_n 1, 1) := by decide +kernel
theorem dX4_situationsBefore_2 : decode cX4_situationsBefore 2 = .ok (.invokevirtual 76, 3) := by decide +kernel
theorem dX4_situationsBefore_5 : decode cX4_situationsBefore 5 = .ok (.istore_n 2, 1) := by decide +kernel
theorem dX4_situationsBefore_6 : decode cX4_situationsBefore 6 = .ok (.iconst 0, 1) := by decide +kernel
theorem dX4_situationsBefore_7 : decode cX4_situationsBefore 7 = .ok (.istore_n 3, 1) := by decide +kernel
theorem dX4_situationsBefore_8 : decode cX4_situationsBefore 8 = .ok (.iconst 0, 1) := by decide +kernel
theorem dX4_situationsBefore_9 : decode cX4_situationsBefore 9 = .ok (.istore 4, 2) := by decide +kernel
theorem dX4_situationsBefore_11 : decode cX4_situationsBefore 11 = .ok (.iload 4, 2) := by decide +kernel
theorem dX4_situationsBefore_13 : decode cX4_situationsBefore 13 = .ok (.bipush 16, 2) := by decide +kernel
theorem dX4_situationsBefore_15 : decode cX4_situationsBefore 15 = .ok (.if_icmp .ge 38, 3) := by decide +kernel
theorem dX4_situationsBefore_18 : decode cX4_situationsBefore 18 = .ok (.aload_n 0, 1) := by decide +kernel
theorem dX4_situationsBefore_19 : decode cX4_situationsBefore 19 = .ok (.iload 4, 2) := by decide +kernel
theorem dX4_situationsBefore_21 : decode cX4_situationsBefore 21 = .ok (.invokevirtual 76, 3) := by decide +kernel
theorem dX4_situationsBefore_24 : decode cX4_situationsBefore 24 = .ok (.istore 5, 2) := by decide +kernel
theorem dX4_situationsBefore_26 : decode cX4_situationsBefore 26 = .ok (.iload 5, 2) := by decide +kernel
theorem dX4_situationsBefore_28 : decode cX4_situationsBefore 28 = .ok (.iload_n 2, 1) := by decide +kernel
theorem dX4_situationsBefore_29 : decode cX4_situationsBefore 29 = .ok (.if_icmp .gt 15, 3) := by decide +kernel
theorem dX4_situationsBefore_32 : decode cX4_situationsBefore 32 = .ok (.iload 5, 2) := by decide +kernel
theorem dX4_situationsBefore_34 : decode cX4_situationsBefore 34 = .ok (.iload_n 2, 1) := by decide +kernel
theorem dX4_situationsBefore_35 : decode cX4_situationsBefore 35 = .ok (.if_icmp .ne 12, 3) := by decide +kernel
theorem dX4_situationsBefore_38 : decode cX4_situationsBefore 38 = .ok (.iload 4, 2) := by decide +kernel
theorem dX4_situationsBefore_40 : decode cX4_situationsBefore 40 = .ok (.iload_n 1, 1) := by decide +kernel
theorem dX4_situationsBefore_41 : decode cX4_situationsBefore 41 = .ok (.if_icmp .ge 6, 3) := by decide +kernel
theorem dX4_situationsBefore_44 : decode cX4_situationsBefore 44 = .ok (.iinc 3 1, 3) := by decide +kernel
theorem dX4_situationsBefore_47 : decode cX4_situationsBefore 47 = .ok (.iinc 4 1, 3) := by decide +kernel
theorem dX4_situationsBefore_50 : decode cX4_situationsBefore 50 = .ok (.goto (-39), 3) := by decide +kernel
theorem dX4_situationsBefore_53 : decode cX4_situationsBefore 53 = .ok (.iload_n 3, 1) := by decide +kernel
theorem dX4_situationsBefore_54 : decode cX4_situationsBefore 54 = .ok (.ireturn, 1) := by decide +kernel
theorem dX4_noteExam_0 : decode cX4_noteExam 0 = .ok (.iconst 1, 1) := by decide +kernel
theorem dX4_noteExam_1 : decode cX4_noteExam 1 = .ok (.iload_n 1, 1) := by decide +kernel
theorem dX4_noteExam_2 : decode cX4_noteExam 2 = .ok (.ishl, 1) := by decide +kernel
theorem dX4_noteExam_3 : decode cX4_noteExam 3 = .ok (.istore_n 3, 1) := by decide +kernel
theorem dX4_noteExam_4 : decode cX4_noteExam 4 = .ok (.aload_n 0, 1) := by decide +kernel
theorem dX4_noteExam_5 : decode cX4_noteExam 5 = .ok (.iload_n 2, 1) := by decide +kernel
theorem dX4_noteExam_6 : decode cX4_noteExam 6 = .ok (.ifCond .eq 12, 3) := by decide +kernel
theorem dX4_noteExam_9 : decode cX4_noteExam 9 = .ok (.aload_n 0, 1) := by decide +kernel
theorem dX4_noteExam_10 : decode cX4_noteExam 10 = .ok (.getfield 46, 3) := by decide +kernel
theorem dX4_noteExam_13 : decode cX4_noteExam 13 = .ok (.iload_n 3, 1) := by decide +kernel
theorem dX4_noteExam_14 : decode cX4_noteExam 14 = .ok (.ior, 1) := by decide +kernel
theorem dX4_noteExam_15 : decode cX4_noteExam 15 = .ok (.goto 11, 3) := by decide +kernel
theorem dX4_noteExam_18 : decode cX4_noteExam 18 = .ok (.aload_n 0, 1) := by decide +kernel
theorem dX4_noteExam_19 : decode cX4_noteExam 19 = .ok (.getfield 46, 3) := by decide +kernel
theorem dX4_noteExam_22 : decode cX4_noteExam 22 = .ok (.iload_n 3, 1) := by decide +kernel
theorem dX4_noteExam_23 : decode cX4_noteExam 23 = .ok (.iconst (-1), 1) := by decide +kernel
theorem dX4_noteExam_24 : decode cX4_noteExam 24 = .ok (.ixor, 1) := by decide +kernel
theorem dX4_noteExam_25 : decode cX4_noteExam 25 = .ok (.iand, 1) := by decide +kernel
theorem dX4_noteExam_26 : decode cX4_noteExam 26 = .ok (.putfield 46, 3) := by decide +kernel
theorem dX4_noteExam_29 : decode cX4_noteExam 29 = .ok (.return_, 1) := by decide +kernel
theorem dX4_hasPassed_0 : decode cX4_hasPassed 0 = .ok (.aload_n 0, 1) := by decide +kernel
theorem dX4_hasPassed_1 : decode cX4_hasPassed 1 = .ok (.getfield 46, 3) := by decide +kernel
theorem dX4_hasPassed_4 : decode cX4_hasPassed 4 = .ok (.iconst 1, 1) := by decide +kernel
theorem dX4_hasPassed_5 : decode cX4_hasPassed 5 = .ok (.iload_n 1, 1) := by decide +kernel
theorem dX4_hasPassed_6 : decode cX4_hasPassed 6 = .ok (.ishl, 1) := by decide +kernel
theorem dX4_hasPassed_7 : decode cX4_hasPassed 7 = .ok (.iand, 1) := by decide +kernel
theorem dX4_hasPassed_8 : decode cX4_hasPassed 8 = .ok (.ifCond .eq 7, 3) := by decide +kernel
theorem dX4_hasPassed_11 : decode cX4_hasPassed 11 = .ok (.iconst 1, 1) := by decide +kernel
theorem dX4_hasPassed_12 : decode cX4_hasPassed 12 = .ok (.goto 4, 3) := by decide +kernel
theorem dX4_hasPassed_15 : decode cX4_hasPassed 15 = .ok (.iconst 0, 1) := by decide +kernel
theorem dX4_hasPassed_16 : decode cX4_hasPassed 16 = .ok (.ireturn, 1) := by decide +kernel
theorem dX4_sumsAgree_0 : decode cX4_sumsAgree 0 = .ok (.iconst 0, 1) := by decide +kernel
theorem dX4_sumsAgree_1 : decode cX4_sumsAgree 1 = .ok (.istore_n 1, 1) := by decide +kernel
theorem dX4_sumsAgree_2 : decode cX4_sumsAgree 2 = .ok (.iload_n 1, 1) := by decide +kernel
theorem dX4_sumsAgree_3 : decode cX4_sumsAgree 3 = .ok (.bipush 32, 2) := by decide +kernel
theorem dX4_sumsAgree_5 : decode cX4_sumsAgree 5 = .ok (.if_icmp .ge 27, 3) := by decide +kernel
theorem dX4_sumsAgree_8 : decode cX4_sumsAgree 8 = .ok (.aload_n 0, 1) := by decide +kernel
theorem dX4_sumsAgree_9 : decode cX4_sumsAgree 9 = .ok (.getfield 21, 3) := by decide +kernel
theorem dX4_sumsAgree_12 : decode cX4_sumsAgree 12 = .ok (.iload_n 1, 1) := by decide +kernel
theorem dX4_sumsAgree_13 : decode cX4_sumsAgree 13 = .ok (.invokestatic 57, 3) := by decide +kernel
theorem dX4_sumsAgree_16 : decode cX4_sumsAgree 16 = .ok (.aload_n 0, 1) := by decide +kernel
theorem dX4_sumsAgree_17 : decode cX4_sumsAgree 17 = .ok (.iload_n 1, 1) := by decide +kernel
theorem dX4_sumsAgree_18 : decode cX4_sumsAgree 18 = .ok (.invokevirtual 82, 3) := by decide +kernel
theorem dX4_sumsAgree_21 : decode cX4_sumsAgree 21 = .ok (.if_icmp .eq 5, 3) := by decide +kernel
theorem dX4_sumsAgree_24 : decode cX4_sumsAgree 24 = .ok (.iconst 0, 1) := by decide +kernel
theorem dX4_sumsAgree_25 : decode cX4_sumsAgree 25 = .ok (.ireturn, 1) := by decide +kernel
theorem dX4_sumsAgree_26 : decode cX4_sumsAgree 26 = .ok (.iinc 1 1, 3) := by decide +kernel
theorem dX4_sumsAgree_29 : decode cX4_sumsAgree 29 = .ok (.goto (-27), 3) := by decide +kernel
theorem dX4_sumsAgree_32 : decode cX4_sumsAgree 32 = .ok (.iconst 1, 1) := by decide +kernel
theorem dX4_sumsAgree_33 : decode cX4_sumsAgree 33 = .ok (.ireturn, 1) := by decide +kernel
theorem dX4_ranksBefore_0 : decode cX4_ranksBefore 0 = .ok (.aload_n 0, 1) := by decide +kernel
theorem dX4_ranksBefore_1 : decode cX4_ranksBefore 1 = .ok (.getfield 43, 3) := by decide +kernel
theorem dX4_ranksBefore_4 : decode cX4_ranksBefore 4 = .ok (.aload_n 1, 1) := by decide +kernel
theorem dX4_ranksBefore_5 : decode cX4_ranksBefore 5 = .ok (.getfield 43, 3) := by decide +kernel
theorem dX4_ranksBefore_8 : decode cX4_ranksBefore 8 = .ok (.if_icmp .eq 20, 3) := by decide +kernel
theorem dX4_ranksBefore_11 : decode cX4_ranksBefore 11 = .ok (.aload_n 0, 1) := by decide +kernel
theorem dX4_ranksBefore_12 : decode cX4_ranksBefore 12 = .ok (.getfield 43, 3) := by decide +kernel
theorem dX4_ranksBefore_15 : decode cX4_ranksBefore 15 = .ok (.aload_n 1, 1) := by decide +kernel
theorem dX4_ranksBefore_16 : decode cX4_ranksBefore 16 = .ok (.getfield 43, 3) := by decide +kernel
theorem dX4_ranksBefore_19 : decode cX4_ranksBefore 19 = .ok (.if_icmp .le 7, 3) := by decide +kernel
theorem dX4_ranksBefore_22 : decode cX4_ranksBefore 22 = .ok (.iconst 1, 1) := by decide +kernel
theorem dX4_ranksBefore_23 : decode cX4_ranksBefore 23 = .ok (.goto 4, 3) := by decide +kernel
theorem dX4_ranksBefore_26 : decode cX4_ranksBefore 26 = .ok (.iconst 0, 1) := by decide +kernel
theorem dX4_ranksBefore_27 : decode cX4_ranksBefore 27 = .ok (.ireturn, 1) := by decide +kernel
theorem dX4_ranksBefore_28 : decode cX4_ranksBefore 28 = .ok (.aload_n 0, 1) := by decide +kernel
theorem dX4_ranksBefore_29 : decode cX4_ranksBefore 29 = .ok (.getfield 37, 3) := by decide +kernel
theorem dX4_ranksBefore_32 : decode cX4_ranksBefore 32 = .ok (.aload_n 1, 1) := by decide +kernel
theorem dX4_ranksBefore_33 : decode cX4_ranksBefore 33 = .ok (.getfield 37, 3) := by decide +kernel
theorem dX4_ranksBefore_36 : decode cX4_ranksBefore 36 = .ok (.if_icmp .le 7, 3) := by decide +kernel
theorem dX4_ranksBefore_39 : decode cX4_ranksBefore 39 = .ok (.iconst 1, 1) := by decide +kernel
theorem dX4_ranksBefore_40 : decode cX4_ranksBefore 40 = .ok (.goto 4, 3) := by decide +kernel
theorem dX4_ranksBefore_43 : decode cX4_ranksBefore 43 = .ok (.iconst 0, 1) := by decide +kernel
theorem dX4_ranksBefore_44 : decode cX4_ranksBefore 44 = .ok (.ireturn, 1) := by decide +kernel
theorem dX5_init_0 : decode cX5_init 0 = .ok (.aload_n 0, 1) := by decide +kernel
theorem dX5_init_1 : decode cX5_init 1 = .ok (.invokespecial 3, 3) := by decide +kernel
theorem dX5_init_4 : decode cX5_init 4 = .ok (.aload_n 0, 1) := by decide +kernel
theorem dX5_init_5 : decode cX5_init 5 = .ok (.new 9, 3) := by decide +kernel
theorem dX5_init_8 : decode cX5_init 8 = .ok (.dup, 1) := by decide +kernel
theorem dX5_init_9 : decode cX5_init 9 = .ok (.invokespecial 11, 3) := by decide +kernel
theorem dX5_init_12 : decode cX5_init 12 = .ok (.putfield 12, 3) := by decide +kernel
theorem dX5_init_15 : decode cX5_init 15 = .ok (.aload_n 0, 1) := by decide +kernel
theorem dX5_init_16 : decode cX5_init 16 = .ok (.new 9, 3) := by decide +kernel
theorem dX5_init_19 : decode cX5_init 19 = .ok (.dup, 1) := by decide +kernel
theorem dX5_init_20 : decode cX5_init 20 = .ok (.invokespecial 11, 3) := by decide +kernel
theorem dX5_init_23 : decode cX5_init 23 = .ok (.putfield 16, 3) := by decide +kernel
theorem dX5_init_26 : decode cX5_init 26 = .ok (.aload_n 0, 1) := by decide +kernel
theorem dX5_init_27 : decode cX5_init 27 = .ok (.bipush 9, 2) := by decide +kernel
theorem dX5_init_29 : decode cX5_init 29 = .ok (.anewarray 9, 3) := by decide +kernel
theorem dX5_init_32 : decode cX5_init 32 = .ok (.putfield 19, 3) := by decide +kernel
theorem dX5_init_35 : decode cX5_init 35 = .ok (.aload_n 0, 1) := by decide +kernel
theorem dX5_init_36 : decode cX5_init 36 = .ok (.new 23, 3) := by decide +kernel
theorem dX5_init_39 : decode cX5_init 39 = .ok (.dup, 1) := by decide +kernel
theorem dX5_init_40 : decode cX5_init 40 = .ok (.invokespecial 25, 3) := by decide +kernel
theorem dX5_init_43 : decode cX5_init 43 = .ok (.putfield 26, 3) := by decide +kernel
theorem dX5_init_46 : decode cX5_init 46 = .ok (.aload_n 0, 1) := by decide +kernel
theorem dX5_init_47 : decode cX5_init 47 = .ok (.new 23, 3) := by decide +kernel
theorem dX5_init_50 : decode cX5_init 50 = .ok (.dup, 1) := by decide +kernel
theorem dX5_init_51 : decode cX5_init 51 = .ok (.invokespecial 25, 3) := by decide +kernel
theorem dX5_init_54 : decode cX5_init 54 = .ok (.putfield 30, 3) := by decide +kernel
theorem dX5_init_57 : decode cX5_init 57 = .ok (.aload_n 0, 1) := by decide +kernel
theorem dX5_init_58 : decode cX5_init 58 = .ok (.iconst 0, 1) := by decide +kernel
theorem dX5_init_59 : decode cX5_init 59 = .ok (.putfield 33, 3) := by decide +kernel
theorem dX5_init_62 : decode cX5_init 62 = .ok (.aload_n 0, 1) := by decide +kernel
theorem dX5_init_63 : decode cX5_init 63 = .ok (.iconst 0, 1) := by decide +kernel
theorem dX5_init_64 : decode cX5_init 64 = .ok (.putfield 37, 3) := by decide +kernel
theorem dX5_init_67 : decode cX5_init 67 = .ok (.aload_n 0, 1) := by decide +kernel
theorem dX5_init_68 : decode cX5_init 68 = .ok (.iconst (-1), 1) := by decide +kernel
theorem dX5_init_69 : decode cX5_init 69 = .ok (.putfield 41, 3) := by decide +kernel
theorem dX5_init_72 : decode cX5_init 72 = .ok (.aload_n 0, 1) := by decide +kernel
theorem dX5_init_73 : decode cX5_init 73 = .ok (.iconst (-1), 1) := by decide +kernel
theorem dX5_init_74 : decode cX5_init 74 = .ok (.putfield 44, 3) := by decide +kernel
theorem dX5_init_77 : decode cX5_init 77 = .ok (.iconst 0, 1) := by decide +kernel
theorem dX5_init_78 : decode cX5_init 78 = .ok (.istore_n 1, 1) := by decide +kernel
theorem dX5_init_79 : decode cX5_init 79 = .ok (.iload_n 1, 1) := by decide +kernel
theorem dX5_init_80 : decode cX5_init 80 = .ok (.aload_n 0, 1) := by decide +kernel
theorem dX5_init_81 : decode cX5_init 81 = .ok (.getfield 19, 3) := by decide +kernel
theorem dX5_init_84 : decode cX5_init 84 = .ok (.arraylength, 1) := by decide +kernel
theorem dX5_init_85 : decode cX5_init 85 = .ok (.if_icmp .ge 22, 3) := by decide +kernel
theorem dX5_init_88 : decode cX5_init 88 = .ok (.aload_n 0, 1) := by decide +kernel
theorem dX5_init_89 : decode cX5_init 89 = .ok (.getfield 19, 3) := by decide +kernel
theorem dX5_init_92 : decode cX5_init 92 = .ok (.iload_n 1, 1) := by decide +kernel
theorem dX5_init_93 : decode cX5_init 93 = .ok (.new 9, 3) := by decide +kernel
theorem dX5_init_96 : decode cX5_init 96 = .ok (.dup, 1) := by decide +kernel
theorem dX5_init_97 : decode cX5_init 97 = .ok (.invokespecial 11, 3) := by decide +kernel
theorem dX5_init_100 : decode cX5_init 100 = .ok (.aastore, 1) := by decide +kernel
theorem dX5_init_101 : decode cX5_init 101 = .ok (.iinc 1 1, 3) := by decide +kernel
theorem dX5_init_104 : decode cX5_init 104 = .ok (.goto (-25), 3) := by decide +kernel
theorem dX5_init_107 : decode cX5_init 107 = .ok (.return_, 1) := by decide +kernel
theorem dX5_addUmbrella_0 : decode cX5_addUmbrella 0 = .ok (.aload_n 0, 1) := by decide +kernel
theorem dX5_addUmbrella_1 : decode cX5_addUmbrella 1 = .ok (.getstatic 47, 3) := by decide +kernel
theorem dX5_addUmbrella_4 : decode cX5_addUmbrella 4 = .ok (.iload_n 1, 1) := by decide +kernel
theorem dX5_addUmbrella_5 : decode cX5_addUmbrella 5 = .ok (.iconst 0, 1) := by decide +kernel
theorem dX5_addUmbrella_6 : decode cX5_addUmbrella 6 = .ok (.iconst 0, 1) := by decide +kernel
theorem dX5_addUmbrella_7 : decode cX5_addUmbrella 7 = .ok (.iconst 0, 1) := by decide +kernel
theorem dX5_addUmbrella_8 : decode cX5_addUmbrella 8 = .ok (.invokevirtual 53, 3) := by decide +kernel
theorem dX5_addUmbrella_11 : decode cX5_addUmbrella 11 = .ok (.ireturn, 1) := by decide +kernel
theorem dX5_train_0 : decode cX5_train 0 = .ok (.aload_n 0, 1) := by decide +kernel
theorem dX5_train_1 : decode cX5_train 1 = .ok (.getstatic 57, 3) := by decide +kernel
theorem dX5_train_4 : decode cX5_train 4 = .ok (.iload_n 1, 1) := by decide +kernel
theorem dX5_train_5 : decode cX5_train 5 = .ok (.iload_n 2, 1) := by decide +kernel
theorem dX5_train_6 : decode cX5_train 6 = .ok (.iload_n 3, 1) := by decide +kernel
theorem dX5_train_7 : decode cX5_train 7 = .ok (.iload 4, 2) := by decide +kernel
theorem dX5_train_9 : decode cX5_train 9 = .ok (.invokevirtual 53, 3) := by decide +kernel
theorem dX5_train_12 : decode cX5_train 12 = .ok (.ireturn, 1) := by decide +kernel
theorem dX5_setPeriod_0 : decode cX5_setPeriod 0 = .ok (.aload_n 0, 1) := by decide +kernel
theorem dX5_setPeriod_1 : decode cX5_setPeriod 1 = .ok (.getstatic 60, 3) := by decide +kernel
theorem dX5_setPeriod_4 : decode cX5_setPeriod 4 = .ok (.iload_n 1, 1) := by decide +kernel
theorem dX5_setPeriod_5 : decode cX5_setPeriod 5 = .ok (.iload_n 2, 1) := by decide +kernel
theorem dX5_setPeriod_6 : decode cX5_setPeriod 6 = .ok (.iconst 0, 1) := by decide +kernel
theorem dX5_setPeriod_7 : decode cX5_setPeriod 7 = .ok (.iconst 0, 1) := by decide +kernel
theorem dX5_setPeriod_8 : decode cX5_setPeriod 8 = .ok (.invokevirtual 53, 3) := by decide +kernel
theorem dX5_setPeriod_11 : decode cX5_setPeriod 11 = .ok (.ireturn, 1) := by decide +kernel
theorem dX5_setWetPenalty_0 : decode cX5_setWetPenalty 0 = .ok (.aload_n 0, 1) := by decide +kernel
theorem dX5_setWetPenalty_1 : decode cX5_setWetPenalty 1 = .ok (.getstatic 63, 3) := by decide +kernel
theorem dX5_setWetPenalty_4 : decode cX5_setWetPenalty 4 = .ok (.iload_n 1, 1) := by decide +kernel
theorem dX5_setWetPenalty_5 : decode cX5_setWetPenalty 5 = .ok (.iconst 0, 1) := by decide +kernel
theorem dX5_setWetPenalty_6 : decode cX5_setWetPenalty 6 = .ok (.iconst 0, 1) := by decide +kernel
theorem dX5_setWetPenalty_7 : decode cX5_setWetPenalty 7 = .ok (.iconst 0, 1) := by decide +kernel
theorem dX5_setWetPenalty_8 : decode cX5_setWetPenalty 8 = .ok (.invokevirtual 53, 3) := by decide +kernel
theorem dX5_setWetPenalty_11 : decode cX5_setWetPenalty 11 = .ok (.ireturn, 1) := by decide +kernel
theorem dX5_setGalePenalty_0 : decode cX5_setGalePenalty 0 = .ok (.aload_n 0, 1) := by decide +kernel
theorem dX5_setGalePenalty_1 : decode cX5_setGalePenalty 1 = .ok (.getstatic 66, 3) := by decide +kernel
theorem dX5_setGalePenalty_4 : decode cX5_setGalePenalty 4 = .ok (.iload_n 1, 1) := by decide +kernel
theorem dX5_setGalePenalty_5 : decode cX5_setGalePenalty 5 = .ok (.iconst 0, 1) := by decide +kernel
theorem dX5_setGalePenalty_6 : decode cX5_setGalePenalty 6 = .ok (.iconst 0, 1) := by decide +kernel
theorem dX5_setGalePenalty_7 : decode cX5_setGalePenalty 7 = .ok (.iconst 0, 1) := by decide +kernel
theorem dX5_setGalePenalty_8 : decode cX5_setGalePenalty 8 = .ok (.invokevirtual 53, 3) := by decide +kernel
theorem dX5_setGalePenalty_11 : decode cX5_setGalePenalty 11 = .ok (.ireturn, 1) := by decide +kernel
theorem dX5_forgetRain_0 : decode cX5_forgetRain 0 = .ok (.aload_n 0, 1) := by decide +kernel
theorem dX5_forgetRain_1 : decode cX5_forgetRain 1 = .ok (.getstatic 69, 3) := by decide +kernel
theorem dX5_forgetRain_4 : decode cX5_forgetRain 4 = .ok (.iload_n 1, 1) := by decide +kernel
theorem dX5_forgetRain_5 : decode cX5_forgetRain 5 = .ok (.iload_n 2, 1) := by decide +kernel
theorem dX5_forgetRain_6 : decode cX5_forgetRain 6 = .ok (.iconst 0, 1) := by decide +kernel
theorem dX5_forgetRain_7 : decode cX5_forgetRain 7 = .ok (.iconst 0, 1) := by decide +kernel
theorem dX5_forgetRain_8 : decode cX5_forgetRain 8 = .ok (.invokevirtual 53, 3) := by decide +kernel
theorem dX5_forgetRain_11 : decode cX5_forgetRain 11 = .ok (.ireturn, 1) := by decide +kernel
theorem dX5_examine_0 : decode cX5_examine 0 = .ok (.aload_n 0, 1) := by decide +kernel
theorem dX5_examine_1 : decode cX5_examine 1 = .ok (.getstatic 72, 3) := by decide +kernel
theorem dX5_examine_4 : decode cX5_examine 4 = .ok (.iload_n 1, 1) := by decide +kernel
theorem dX5_examine_5 : decode cX5_examine 5 = .ok (.iload_n 2, 1) := by decide +kernel
theorem dX5_examine_6 : decode cX5_examine 6 = .ok (.iconst 0, 1) := by decide +kernel
theorem dX5_examine_7 : decode cX5_examine 7 = .ok (.iconst 0, 1) := by decide +kernel
theorem dX5_examine_8 : decode cX5_examine 8 = .ok (.invokevirtual 53, 3) := by decide +kernel
theorem dX5_examine_11 : decode cX5_examine 11 = .ok (.ireturn, 1) := by decide +kernel
theorem dX5_endTerm_0 : decode cX5_endTerm 0 = .ok (.aload_n 0, 1) := by decide +kernel
theorem dX5_endTerm_1 : decode cX5_endTerm 1 = .ok (.getstatic 75, 3) := by decide +kernel
theorem dX5_endTerm_4 : decode cX5_endTerm 4 = .ok (.iconst 0, 1) := by decide +kernel
theorem dX5_endTerm_5 : decode cX5_endTerm 5 = .ok (.iconst 0, 1) := by decide +kernel
theorem dX5_endTerm_6 : decode cX5_endTerm 6 = .ok (.iconst 0, 1) := by decide +kernel
theorem dX5_endTerm_7 : decode cX5_endTerm 7 = .ok (.iconst 0, 1) := by decide +kernel
theorem dX5_endTerm_8 : decode cX5_endTerm 8 = .ok (.invokevirtual 53, 3) := by decide +kernel
theorem dX5_endTerm_11 : decode cX5_endTerm 11 = .ok (.ireturn, 1) := by decide +kernel
theorem dX5_umbrellaCount_0 : decode cX5_umbrellaCount 0 = .ok (.aload_n 0, 1) := by decide +kernel
theorem dX5_umbrellaCount_1 : decode cX5_umbrellaCount 1 = .ok (.getfield 12, 3) := by decide +kernel
theorem dX5_umbrellaCount_4 : decode cX5_umbrellaCount 4 = .ok (.getfield 78, 3) := by decide +kernel
theorem dX5_umbrellaCount_7 : decode cX5_umbrellaCount 7 = .ok (.ireturn, 1) := by decide +kernel
theorem dX5_memory_0 : decode cX5_memory 0 = .ok (.aload_n 0, 1) := by decide +kernel
theorem dX5_memory_1 : decode cX5_memory 1 = .ok (.getfield 12, 3) := by decide +kernel
theorem dX5_memory_4 : decode cX5_memory 4 = .ok (.iload_n 1, 1) := by decide +kernel
theorem dX5_memory_5 : decode cX5_memory 5 = .ok (.invokevirtual 81, 3) := by decide +kernel
theorem dX5_memory_8 : decode cX5_memory 8 = .ok (.getfield 85, 3) := by decide +kernel
theorem dX5_memory_11 : decode cX5_memory 11 = .ok (.ireturn, 1) := by decide +kernel
theorem dX5_period_0 : decode cX5_period 0 = .ok (.aload_n 0, 1) := by decide +kernel
theorem dX5_period_1 : decode cX5_period 1 = .ok (.getfield 12, 3) := by decide +kernel
theorem dX5_period_4 : decode cX5_period 4 = .ok (.iload_n 1, 1) := by decide +kernel
theorem dX5_period_5 : decode cX5_period 5 = .ok (.invokevirtual 81, 3) := by decide +kernel
theorem dX5_period_8 : decode cX5_period 8 = .ok (.getfield 90, 3) := by decide +kernel
theorem dX5_period_11 : decode cX5_period 11 = .ok (.ireturn, 1) := by decide +kernel
theorem dX5_trials_0 : decode cX5_trials 0 = .ok (.aload_n 0, 1) := by decide +kernel
theorem dX5_trials_1 : decode cX5_trials 1 = .ok (.getfield 12, 3) := by decide +kernel
theorem dX5_trials_4 : decode cX5_trials 4 = .ok (.iload_n 1, 1) := by decide +kernel
theorem dX5_trials_5 : decode cX5_trials 5 = .ok (.invokevirtual 81, 3) := by decide +kernel
theorem dX5_trials_8 : decode cX5_trials 8 = .ok (.getfield 93, 3) := by decide +kernel
theorem dX5_trials_11 : decode cX5_trials 11 = .ok (.ireturn, 1) := by decide +kernel
theorem dX5_rememberedTrials_0 : decode cX5_rememberedTrials 0 = .ok (.aload_n 0, 1) := by decide +kernel
theorem dX5_rememberedTrials_1 : decode cX5_rememberedTrials 1 = .ok (.getfield 12, 3) := by decide +kernel
theorem dX5_rememberedTrials_4 : decode cX5_rememberedTrials 4 = .ok (.iload_n 1, 1) := by decide +kernel
theorem dX5_rememberedTrials_5 : decode cX5_rememberedTrials 5 = .ok (.invokevirtual 81, 3) := by decide +kernel
theorem dX5_rememberedTrials_8 : decode cX5_rememberedTrials 8 = .ok (.getfield 96, 3) := by decide +kernel
theorem dX5_rememberedTrials_11 : decode cX5_rememberedTrials 11 = .ok (.ireturn, 1) := by decide +kernel
theorem dX5_trialRain_0 : decode cX5_trialRain 0 = .ok (.aload_n 0, 1) := by decide +kernel
theorem dX5_trialRain_1 : decode cX5_trialRain 1 = .ok (.getfield 12, 3) := by decide +kernel
theorem dX5_trialRain_4 : decode cX5_trialRain 4 = .ok (.iload_n 1, 1) := by decide +kernel
theorem dX5_trialRain_5 : decode cX5_trialRain 5 = .ok (.invokevirtual 81, 3) := by decide +kernel
theorem dX5_trialRain_8 : decode cX5_trialRain 8 = .ok (.astore_n 3, 1) := by decide +kernel
theorem dX5_trialRain_9 : decode cX5_trialRain 9 = .ok (.aload_n 3, 1) := by decide +kernel
theorem dX5_trialRain_10 : decode cX5_trialRain 10 = .ok (.getfield 99, 3) := by decide +kernel
theorem dX5_trialRain_13 : decode cX5_trialRain 13 = .ok (.aload_n 3, 1) := by decide +kernel
theorem dX5_trialRain_14 : decode cX5_trialRain 14 = .ok (.iload_n 2, 1) := by decide +kernel
theorem dX5_trialRain_15 : decode cX5_trialRain 15 = .ok (.invokestatic 103, 3) := by decide +kernel
theorem dX5_trialRain_18 : decode cX5_trialRain 18 = .ok (.invokestatic 107, 3) := by decide +kernel
theorem dX5_trialRain_21 : decode cX5_trialRain 21 = .ok (.invokestatic 111, 3) := by decide +kernel
theorem dX5_trialRain_24 : decode cX5_trialRain 24 = .ok (.ireturn, 1) := by decide +kernel
theorem dX5_trialOpened_0 : decode cX5_trialOpened 0 = .ok (.aload_n 0, 1) := by decide +kernel
theorem dX5_trialOpened_1 : decode cX5_trialOpened 1 = .ok (.getfield 12, 3) := by decide +kernel
theorem dX5_trialOpened_4 : decode cX5_trialOpened 4 = .ok (.iload_n 1, 1) := by decide +kernel
theorem dX5_trialOpened_5 : decode cX5_trialOpened 5 = .ok (.invokevirtual 81, 3) := by decide +kernel
theorem dX5_trialOpened_8 : decode cX5_trialOpened 8 = .ok (.astore_n 3, 1) := by decide +kernel
theorem dX5_trialOpened_9 : decode cX5_trialOpened 9 = .ok (.aload_n 3, 1) := by decide +kernel
theorem dX5_trialOpened_10 : decode cX5_trialOpened 10 = .ok (.getfield 99, 3) := by decide +kernel
theorem dX5_trialOpened_13 : decode cX5_trialOpened 13 = .ok (.aload_n 3, 1) := by decide +kernel
theorem dX5_trialOpened_14 : decode cX5_trialOpened 14 = .ok (.iload_n 2, 1) := by decide +kernel
theorem dX5_trialOpened_15 : decode cX5_trialOpened 15 = .ok (.invokestatic 103, 3) := by decide +kernel
theorem dX5_trialOpened_18 : decode cX5_trialOpened 18 = .ok (.invokestatic 107, 3) := by decide +kernel
theorem dX5_trialOpened_21 : decode cX5_trialOpened 21 = .ok (.invokestatic 115, 3) := by decide +kernel
theorem dX5_trialOpened_24 : decode cX5_trialOpened 24 = .ok (.ireturn, 1) := by decide +kernel
theorem dX5_trialReward_0 : decode cX5_trialReward 0 = .ok (.aload_n 0, 1) := by decide +kernel
theorem dX5_trialReward_1 : decode cX5_trialReward 1 = .ok (.getfield 12, 3) := by decide +kernel
theorem dX5_trialReward_4 : decode cX5_trialReward 4 = .ok (.iload_n 1, 1) := by decide +kernel
theorem dX5_trialReward_5 : decode cX5_trialReward 5 = .ok (.invokevirtual 81, 3) := by decide +kernel
theorem dX5_trialReward_8 : decode cX5_trialReward 8 = .ok (.astore_n 3, 1) := by decide +kernel
theorem dX5_trialReward_9 : decode cX5_trialReward 9 = .ok (.aload_n 3, 1) := by decide +kernel
theorem dX5_trialReward_10 : decode cX5_trialReward 10 = .ok (.getfield 119, 3) := by decide +kernel
theorem dX5_trialReward_13 : decode cX5_trialReward 13 = .ok (.aload_n 3, 1) := by decide +kernel
theorem dX5_trialReward_14 : decode cX5_trialReward 14 = .ok (.iload_n 2, 1) := by decide +kernel
theorem dX5_trialReward_15 : decode cX5_trialReward 15 = .ok (.invokestatic 103, 3) := by decide +kernel
theorem dX5_trialReward_18 : decode cX5_trialReward 18 = .ok (.invokestatic 107, 3) := by decide +kernel
theorem dX5_trialReward_21 : decode cX5_trialReward 21 = .ok (.ireturn, 1) := by decide +kernel
theorem dX5_reward_0 : decode cX5_reward 0 = .ok (.iload_n 1, 1) := by decide +kernel
theorem dX5_reward_1 : decode cX5_reward 1 = .ok (.iload_n 2, 1) := by decide +kernel
theorem dX5_reward_2 : decode cX5_reward 2 = .ok (.invokestatic 122, 3) := by decide +kernel
theorem dX5_reward_5 : decode cX5_reward 5 = .ok (.aload_n 0, 1) := by decide +kernel
theorem dX5_reward_6 : decode cX5_reward 6 = .ok (.getfield 12, 3) := by decide +kernel
theorem dX5_reward_9 : decode cX5_reward 9 = .ok (.iload_n 1, 1) := by decide +kernel
theorem dX5_reward_10 : decode cX5_reward 10 = .ok (.iload_n 2, 1) := by decide +kernel
theorem dX5_reward_11 : decode cX5_reward 11 = .ok (.iload_n 3, 1) := by decide +kernel
theorem dX5_reward_12 : decode cX5_reward 12 = .ok (.invokevirtual 126, 3) := by decide +kernel
theorem dX5_reward_15 : decode cX5_reward 15 = .ok (.ireturn, 1) := by decide +kernel
theorem dX5_shouldOpen_0 : decode cX5_shouldOpen 0 = .ok (.iload_n 1, 1) := by decide +kernel
theorem dX5_shouldOpen_1 : decode cX5_shouldOpen 1 = .ok (.iload_n 2, 1) := by decide +kernel
theorem dX5_shouldOpen_2 : decode cX5_shouldOpen 2 = .ok (.invokestatic 122, 3) := by decide +kernel
theorem dX5_shouldOpen_5 : decode cX5_shouldOpen 5 = .ok (.aload_n 0, 1) := by decide +kernel
theorem dX5_shouldOpen_6 : decode cX5_shouldOpen 6 = .ok (.getfield 12, 3) := by decide +kernel
theorem dX5_shouldOpen_9 : decode cX5_shouldOpen 9 = .ok (.iload_n 1, 1) := by decide +kernel
theorem dX5_shouldOpen_10 : decode cX5_shouldOpen 10 = .ok (.iload_n 2, 1) := by decide +kernel
theorem dX5_shouldOpen_11 : decode cX5_shouldOpen 11 = .ok (.invokevirtual 130, 3) := by decide +kernel
theorem dX5_shouldOpen_14 : decode cX5_shouldOpen 14 = .ok (.ireturn, 1) := by decide +kernel
theorem dX5_wouldOpen_0 : decode cX5_wouldOpen 0 = .ok (.aload_n 0, 1) := by decide +kernel
theorem dX5_wouldOpen_1 : decode cX5_wouldOpen 1 = .ok (.getfield 12, 3) := by decide +kernel
theorem dX5_wouldOpen_4 : decode cX5_wouldOpen 4 = .ok (.iload_n 1, 1) := by decide +kernel
theorem dX5_wouldOpen_5 : decode cX5_wouldOpen 5 = .ok (.invokevirtual 81, 3) := by decide +kernel
theorem dX5_wouldOpen_8 : decode cX5_wouldOpen 8 = .ok (.astore 4, 2) := by decide +kernel
theorem dX5_wouldOpen_10 : decode cX5_wouldOpen 10 = .ok (.iload_n 2, 1) := by decide +kernel
theorem dX5_wouldOpen_11 : decode cX5_wouldOpen 11 = .ok (.iload_n 3, 1) := by decide +kernel
theorem dX5_wouldOpen_12 : decode cX5_wouldOpen 12 = .ok (.invokestatic 122, 3) := by decide +kernel
theorem dX5_wouldOpen_15 : decode cX5_wouldOpen 15 = .ok (.aload 4, 2) := by decide +kernel
theorem dX5_wouldOpen_17 : decode cX5_wouldOpen 17 = .ok (.iload_n 2, 1) := by decide +kernel
theorem dX5_wouldOpen_18 : decode cX5_wouldOpen 18 = .ok (.iload_n 3, 1) := by decide +kernel
theorem dX5_wouldOpen_19 : decode cX5_wouldOpen 19 = .ok (.invokestatic 134, 3) := by decide +kernel
theorem dX5_wouldOpen_22 : decode cX5_wouldOpen 22 = .ok (.invokevirtual 138, 3) := by decide +kernel
theorem dX5_wouldOpen_25 : decode cX5_wouldOpen 25 = .ok (.ireturn, 1) := by decide +kernel
theorem dX5_exploresNext_0 : decode cX5_exploresNext 0 = .ok (.aload_n 0, 1) := by decide +kernel
theorem dX5_exploresNext_1 : decode cX5_exploresNext 1 = .ok (.getfield 12, 3) := by decide +kernel
theorem dX5_exploresNext_4 : decode cX5_exploresNext 4 = .ok (.iload_n 1, 1) := by decide +kernel
theorem dX5_exploresNext_5 : decode cX5_exploresNext 5 = .ok (.invokevirtual 81, 3) := by decide +kernel
theorem dX5_exploresNext_8 : decode cX5_exploresNext 8 = .ok (.invokevirtual 141, 3) := by decide +kernel
theorem dX5_exploresNext_11 : decode cX5_exploresNext 11 = .ok (.ireturn, 1) := by decide +kernel
theorem dX5_timesTried_0 : decode cX5_timesTried 0 = .ok (.aload_n 0, 1) := by decide +kernel
theorem dX5_timesTried_1 : decode cX5_timesTried 1 = .ok (.getfield 12, 3) := by decide +kernel
theorem dX5_timesTried_4 : decode cX5_timesTried 4 = .ok (.iload_n 1, 1) := by decide +kernel
theorem dX5_timesTried_5 : decode cX5_timesTried 5 = .ok (.invokevirtual 81, 3) := by decide +kernel
theorem dX5_timesTried_8 : decode cX5_timesTried 8 = .ok (.astore 5, 2) := by decide +kernel
theorem dX5_timesTried_10 : decode cX5_timesTried 10 = .ok (.iload_n 2, 1) := by decide +kernel
theorem dX5_timesTried_11 : decode cX5_timesTried 11 = .ok (.iload_n 3, 1) := by decide +kernel
theorem dX5_timesTried_12 : decode cX5_timesTried 12 = .ok (.invokestatic 122, 3) := by decide +kernel
theorem dX5_timesTried_15 : decode cX5_timesTried 15 = .ok (.aload 5, 2) := by decide +kernel
theorem dX5_timesTried_17 : decode cX5_timesTried 17 = .ok (.getfield 145, 3) := by decide +kernel
theorem dX5_timesTried_20 : decode cX5_timesTried 20 = .ok (.iload_n 2, 1) := by decide +kernel
theorem dX5_timesTried_21 : decode cX5_timesTried 21 = .ok (.iload_n 3, 1) := by decide +kernel
theorem dX5_timesTried_22 : decode cX5_timesTried 22 = .ok (.iload 4, 2) := by decide +kernel
theorem dX5_timesTried_24 : decode cX5_timesTried 24 = .ok (.invokestatic 148, 3) := by decide +kernel
theorem dX5_timesTried_27 : decode cX5_timesTried 27 = .ok (.invokestatic 107, 3) := by decide +kernel
theorem dX5_timesTried_30 : decode cX5_timesTried 30 = .ok (.ireturn, 1) := by decide +kernel
theorem dX5_rewardSum_0 : decode cX5_rewardSum 0 = .ok (.aload_n 0, 1) := by decide +kernel
theorem dX5_rewardSum_1 : decode cX5_rewardSum 1 = .ok (.getfield 12, 3) := by decide +kernel
theorem dX5_rewardSum_4 : decode cX5_rewardSum 4 = .ok (.iload_n 1, 1) := by decide +kernel
theorem dX5_rewardSum_5 : decode cX5_rewardSum 5 = .ok (.invokevirtual 81, 3) := by decide +kernel
theorem dX5_rewardSum_8 : decode cX5_rewardSum 8 = .ok (.astore 5, 2) := by decide +kernel
theorem dX5_rewardSum_10 : decode cX5_rewardSum 10 = .ok (.iload_n 2, 1) := by decide +kernel
theorem dX5_rewardSum_11 : decode cX5_rewardSum 11 = .ok (.iload_n 3, 1) := by decide +kernel
theorem dX5_rewardSum_12 : decode cX5_rewardSum 12 = .ok (.invokestatic 122, 3) := by decide +kernel
theorem dX5_rewardSum_15 : decode cX5_rewardSum 15 = .ok (.aload 5, 2) := by decide +kernel
theorem dX5_rewardSum_17 : decode cX5_rewardSum 17 = .ok (.getfield 151, 3) := by decide +kernel
theorem dX5_rewardSum_20 : decode cX5_rewardSum 20 = .ok (.iload_n 2, 1) := by decide +kernel
theorem dX5_rewardSum_21 : decode cX5_rewardSum 21 = .ok (.iload_n 3, 1) := by decide +kernel
theorem dX5_rewardSum_22 : decode cX5_rewardSum 22 = .ok (.iload 4, 2) := by decide +kernel
theorem dX5_rewardSum_24 : decode cX5_rewardSum 24 = .ok (.invokestatic 148, 3) := by decide +kernel
theorem dX5_rewardSum_27 : decode cX5_rewardSum 27 = .ok (.invokestatic 107, 3) := by decide +kernel
theorem dX5_rewardSum_30 : decode cX5_rewardSum 30 = .ok (.ireturn, 1) := by decide +kernel
theorem dX5_rewardSumByTrials_0 : decode cX5_rewardSumByTrials 0 = .ok (.aload_n 0, 1) := by decide +kernel
theorem dX5_rewardSumByTrials_1 : decode cX5_rewardSumByTrials 1 = .ok (.getfield 12, 3) := by decide +kernel
theorem dX5_rewardSumByTrials_4 : decode cX5_rewardSumByTrials 4 = .ok (.iload_n 1, 1) := by decide +kernel
theorem dX5_rewardSumByTrials_5 : decode cX5_rewardSumByTrials 5 = .ok (.invokevirtual 81, 3) := by decide +kernel
theorem dX5_rewardSumByTrials_8 : decode cX5_rewardSumByTrials 8 = .ok (.astore 5, 2) := by decide +kernel
theorem dX5_rewardSumByTrials_10 : decode cX5_rewardSumByTrials 10 = .ok (.iload_n 2, 1) := by decide +kernel
theorem dX5_rewardSumByTrials_11 : decode cX5_rewardSumByTrials 11 = .ok (.iload_n 3, 1) := by decide +kernel
theorem dX5_rewardSumByTrials_12 : decode cX5_rewardSumByTrials 12 = .ok (.invokestatic 122, 3) := by decide +kernel
theorem dX5_rewardSumByTrials_15 : decode cX5_rewardSumByTrials 15 = .ok (.aload 5, 2) := by decide +kernel
theorem dX5_rewardSumByTrials_17 : decode cX5_rewardSumByTrials 17 = .ok (.iload_n 2, 1) := by decide +kernel
theorem dX5_rewardSumByTrials_18 : decode cX5_rewardSumByTrials 18 = .ok (.iload_n 3, 1) := by decide +kernel
theorem dX5_rewardSumByTrials_19 : decode cX5_rewardSumByTrials 19 = .ok (.iload 4, 2) := by decide +kernel
theorem dX5_rewardSumByTrials_21 : decode cX5_rewardSumByTrials 21 = .ok (.invokestatic 148, 3) := by decide +kernel
theorem dX5_rewardSumByTrials_24 : decode cX5_rewardSumByTrials 24 = .ok (.invokevirtual 154, 3) := by decide +kernel
theorem dX5_rewardSumByTrials_27 : decode cX5_rewardSumByTrials 27 = .ok (.ireturn, 1) := by decide +kernel
theorem dX5_meanReward_0 : decode cX5_meanReward 0 = .ok (.aload_n 0, 1) := by decide +kernel
theorem dX5_meanReward_1 : decode cX5_meanReward 1 = .ok (.getfield 12, 3) := by decide +kernel
theorem dX5_meanReward_4 : decode cX5_meanReward 4 = .ok (.iload_n 1, 1) := by decide +kernel
theorem dX5_meanReward_5 : decode cX5_meanReward 5 = .ok (.invokevirtual 81, 3) := by decide +kernel
theorem dX5_meanReward_8 : decode cX5_meanReward 8 = .ok (.astore 5, 2) := by decide +kernel
theorem dX5_meanReward_10 : decode cX5_meanReward 10 = .ok (.iload_n 2, 1) := by decide +kernel
theorem dX5_meanReward_11 : decode cX5_meanReward 11 = .ok (.iload_n 3, 1) := by decide +kernel
theorem dX5_meanReward_12 : decode cX5_meanReward 12 = .ok (.invokestatic 122, 3) := by decide +kernel
theorem dX5_meanReward_15 : decode cX5_meanReward 15 = .ok (.iload_n 2, 1) := by decide +kernel
theorem dX5_meanReward_16 : decode cX5_meanReward 16 = .ok (.iload_n 3, 1) := by decide +kernel
theorem dX5_meanReward_17 : decode cX5_meanReward 17 = .ok (.iload 4, 2) := by decide +kernel
theorem dX5_meanReward_19 : decode cX5_meanReward 19 = .ok (.invokestatic 148, 3) := by decide +kernel
theorem dX5_meanReward_22 : decode cX5_meanReward 22 = .ok (.istore 6, 2) := by decide +kernel
theorem dX5_meanReward_24 : decode cX5_meanReward 24 = .ok (.aload 5, 2) := by decide +kernel
theorem dX5_meanReward_26 : decode cX5_meanReward 26 = .ok (.getfield 145, 3) := by decide +kernel
theorem dX5_meanReward_29 : decode cX5_meanReward 29 = .ok (.iload 6, 2) := by decide +kernel
theorem dX5_meanReward_31 : decode cX5_meanReward 31 = .ok (.invokestatic 107, 3) := by decide +kernel
theorem dX5_meanReward_34 : decode cX5_meanReward 34 = .ok (.istore 7, 2) := by decide +kernel
theorem dX5_meanReward_36 : decode cX5_meanReward 36 = .ok (.iload 7, 2) := by decide +kernel
theorem dX5_meanReward_38 : decode cX5_meanReward 38 = .ok (.ifCond .ne 13, 3) := by decide +kernel
theorem dX5_meanReward_41 : decode cX5_meanReward 41 = .ok (.new 157, 3) := by decide +kernel
theorem dX5_meanReward_44 : decode cX5_meanReward 44 = .ok (.dup, 1) := by decide +kernel
theorem dX5_meanReward_45 : decode cX5_meanReward 45 = .ok (.ldc 159, 2) := by decide +kernel
theorem dX5_meanReward_47 : decode cX5_meanReward 47 = .ok (.invokespecial 161, 3) := by decide +kernel
theorem dX5_meanReward_50 : decode cX5_meanReward 50 = .ok (.athrow, 1) := by decide +kernel
theorem dX5_meanReward_51 : decode cX5_meanReward 51 = .ok (.aload 5, 2) := by decide +kernel
theorem dX5_meanReward_53 : decode cX5_meanReward 53 = .ok (.getfield 151, 3) := by decide +kernel
theorem dX5_meanReward_56 : decode cX5_meanReward 56 = .ok (.iload 6, 2) := by decide +kernel
theorem dX5_meanReward_58 : decode cX5_meanReward 58 = .ok (.invokestatic 107, 3) := by decide +kernel
theorem dX5_meanReward_61 : decode cX5_meanReward 61 = .ok (.i2d, 1) := by decide +kernel
theorem dX5_meanReward_62 : decode cX5_meanReward 62 = .ok (.iload 7, 2) := by decide +kernel
theorem dX5_meanReward_64 : decode cX5_meanReward 64 = .ok (.i2d, 1) := by decide +kernel
theorem dX5_meanReward_65 : decode cX5_meanReward 65 = .ok (.ddiv, 1) := by decide +kernel
theorem dX5_meanReward_66 : decode cX5_meanReward 66 = .ok (.dreturn, 1) := by decide +kernel
theorem dX5_rightHabits_0 : decode cX5_rightHabits 0 = .ok (.aload_n 0, 1) := by decide +kernel
theorem dX5_rightHabits_1 : decode cX5_rightHabits 1 = .ok (.getfield 12, 3) := by decide +kernel
theorem dX5_rightHabits_4 : decode cX5_rightHabits 4 = .ok (.iload_n 1, 1) := by decide +kernel
theorem dX5_rightHabits_5 : decode cX5_rightHabits 5 = .ok (.invokevirtual 81, 3) := by decide +kernel
theorem dX5_rightHabits_8 : decode cX5_rightHabits 8 = .ok (.astore_n 2, 1) := by decide +kernel
theorem dX5_rightHabits_9 : decode cX5_rightHabits 9 = .ok (.iconst 0, 1) := by decide +kernel
theorem dX5_rightHabits_10 : decode cX5_rightHabits 10 = .ok (.istore_n 3, 1) := by decide +kernel
theorem dX5_rightHabits_11 : decode cX5_rightHabits 11 = .ok (.iconst 0, 1) := by decide +kernel
theorem dX5_rightHabits_12 : decode cX5_rightHabits 12 = .ok (.istore 4, 2) := by decide +kernel
theorem dX5_rightHabits_14 : decode cX5_rightHabits 14 = .ok (.iload 4, 2) := by decide +kernel
theorem dX5_rightHabits_16 : decode cX5_rightHabits 16 = .ok (.iconst 4, 1) := by decide +kernel
theorem dX5_rightHabits_17 : decode cX5_rightHabits 17 = .ok (.if_icmp .ge 22, 3) := by decide +kernel
theorem dX5_rightHabits_20 : decode cX5_rightHabits 20 = .ok (.iload_n 3, 1) := by decide +kernel
theorem dX5_rightHabits_21 : decode cX5_rightHabits 21 = .ok (.aload_n 0, 1) := by decide +kernel
theorem dX5_rightHabits_22 : decode cX5_rightHabits 22 = .ok (.getfield 12, 3) := by decide +kernel
theorem dX5_rightHabits_25 : decode cX5_rightHabits 25 = .ok (.aload_n 2, 1) := by decide +kernel
theorem dX5_rightHabits_26 : decode cX5_rightHabits 26 = .ok (.iload 4, 2) := by decide +kernel
theorem dX5_rightHabits_28 : decode cX5_rightHabits 28 = .ok (.invokevirtual 164, 3) := by decide +kernel
theorem dX5_rightHabits_31 : decode cX5_rightHabits 31 = .ok (.iadd, 1) := by decide +kernel
theorem dX5_rightHabits_32 : decode cX5_rightHabits 32 = .ok (.istore_n 3, 1) := by decide +kernel
theorem dX5_rightHabits_33 : decode cX5_rightHabits 33 = .ok (.iinc 4 1, 3) := by decide +kernel
theorem dX5_rightHabits_36 : decode cX5_rightHabits 36 = .ok (.goto (-22), 3) := by decide +kernel
theorem dX5_rightHabits_39 : decode cX5_rightHabits 39 = .ok (.iload_n 3, 1) := by decide +kernel
theorem dX5_rightHabits_40 : decode cX5_rightHabits 40 = .ok (.ireturn, 1) := by decide +kernel
theorem dX5_knownSituations_0 : decode cX5_knownSituations 0 = .ok (.aload_n 0, 1) := by decide +kernel
theorem dX5_knownSituations_1 : decode cX5_knownSituations 1 = .ok (.getfield 12, 3) := by decide +kernel
theorem dX5_knownSituations_4 : decode cX5_knownSituations 4 = .ok (.iload_n 1, 1) := by decide +kernel
theorem dX5_knownSituations_5 : decode cX5_knownSituations 5 = .ok (.invokevirtual 81, 3) := by decide +kernel
theorem dX5_knownSituations_8 : decode cX5_knownSituations 8 = .ok (.invokevirtual 167, 3) := by decide +kernel
theorem dX5_knownSituations_11 : decode cX5_knownSituations 11 = .ok (.ireturn, 1) := by decide +kernel
theorem dX5_situationRain_0 : decode cX5_situationRain 0 = .ok (.aload_n 0, 1) := by decide +kernel
theorem dX5_situationRain_1 : decode cX5_situationRain 1 = .ok (.iload_n 1, 1) := by decide +kernel
theorem dX5_situationRain_2 : decode cX5_situationRain 2 = .ok (.iload_n 2, 1) := by decide +kernel
theorem dX5_situationRain_3 : decode cX5_situationRain 3 = .ok (.invokevirtual 171, 3) := by decide +kernel
theorem dX5_situationRain_6 : decode cX5_situationRain 6 = .ok (.invokestatic 174, 3) := by decide +kernel
theorem dX5_situationRain_9 : decode cX5_situationRain 9 = .ok (.ireturn, 1) := by decide +kernel
theorem dX5_situationWind_0 : decode cX5_situationWind 0 = .ok (.aload_n 0, 1) := by decide +kernel
theorem dX5_situationWind_1 : decode cX5_situationWind 1 = .ok (.iload_n 1, 1) := by decide +kernel
theorem dX5_situationWind_2 : decode cX5_situationWind 2 = .ok (.iload_n 2, 1) := by decide +kernel
theorem dX5_situationWind_3 : decode cX5_situationWind 3 = .ok (.invokevirtual 171, 3) := by decide +kernel
theorem dX5_situationWind_6 : decode cX5_situationWind 6 = .ok (.invokestatic 177, 3) := by decide +kernel
theorem dX5_situationWind_9 : decode cX5_situationWind 9 = .ok (.ireturn, 1) := by decide +kernel
theorem dX5_hasExam_0 : decode cX5_hasExam 0 = .ok (.aload_n 0, 1) := by decide +kernel
theorem dX5_hasExam_1 : decode cX5_hasExam 1 = .ok (.getfield 12, 3) := by decide +kernel
theorem dX5_hasExam_4 : decode cX5_hasExam 4 = .ok (.iload_n 1, 1) := by decide +kernel
theorem dX5_hasExam_5 : decode cX5_hasExam 5 = .ok (.invokevirtual 81, 3) := by decide +kernel
theorem dX5_hasExam_8 : decode cX5_hasExam 8 = .ok (.astore_n 3, 1) := by decide +kernel
theorem dX5_hasExam_9 : decode cX5_hasExam 9 = .ok (.iload_n 2, 1) := by decide +kernel
theorem dX5_hasExam_10 : decode cX5_hasExam 10 = .ok (.invokestatic 180, 3) := by decide +kernel
theorem dX5_hasExam_13 : decode cX5_hasExam 13 = .ok (.ifCond .ne 13, 3) := by decide +kernel
theorem dX5_hasExam_16 : decode cX5_hasExam 16 = .ok (.new 183, 3) := by decide +kernel
theorem dX5_hasExam_19 : decode cX5_hasExam 19 = .ok (.dup, 1) := by decide +kernel
theorem dX5_hasExam_20 : decode cX5_hasExam 20 = .ok (.ldc 185, 2) := by decide +kernel
theorem dX5_hasExam_22 : decode cX5_hasExam 22 = .ok (.invokespecial 187, 3) := by decide +kernel
theorem dX5_hasExam_25 : decode cX5_hasExam 25 = .ok (.athrow, 1) := by decide +kernel
theorem dX5_hasExam_26 : decode cX5_hasExam 26 = .ok (.aload_n 3, 1) := by decide +kernel
theorem dX5_hasExam_27 : decode cX5_hasExam 27 = .ok (.iload_n 2, 1) := by decide +kernel
theorem dX5_hasExam_28 : decode cX5_hasExam 28 = .ok (.invokevirtual 188, 3) := by decide +kernel
theorem dX5_hasExam_31 : decode cX5_hasExam 31 = .ok (.ireturn, 1) := by decide +kernel
theorem dX5_isGraduate_0 : decode cX5_isGraduate 0 = .ok (.aload_n 0, 1) := by decide +kernel
theorem dX5_isGraduate_1 : decode cX5_isGraduate 1 = .ok (.getfield 12, 3) := by decide +kernel
theorem dX5_isGraduate_4 : decode cX5_isGraduate 4 = .ok (.iload_n 1, 1) := by decide +kernel
theorem dX5_isGraduate_5 : decode cX5_isGraduate 5 = .ok (.invokevirtual 81, 3) := by decide +kernel
theorem dX5_isGraduate_8 : decode cX5_isGraduate 8 = .ok (.getfield 191, 3) := by decide +kernel
theorem dX5_isGraduate_11 : decode cX5_isGraduate 11 = .ok (.bipush 15, 2) := by decide +kernel
theorem dX5_isGraduate_13 : decode cX5_isGraduate 13 = .ok (.if_icmp .ne 7, 3) := by decide +kernel
theorem dX5_isGraduate_16 : decode cX5_isGraduate 16 = .ok (.iconst 1, 1) := by decide +kernel
theorem dX5_isGraduate_17 : decode cX5_isGraduate 17 = .ok (.goto 4, 3) := by decide +kernel
theorem dX5_isGraduate_20 : decode cX5_isGraduate 20 = .ok (.iconst 0, 1) := by decide +kernel
theorem dX5_isGraduate_21 : decode cX5_isGraduate 21 = .ok (.ireturn, 1) := by decide +kernel
theorem dX5_totalReward_0 : decode cX5_totalReward 0 = .ok (.aload_n 0, 1) := by decide +kernel
theorem dX5_totalReward_1 : decode cX5_totalReward 1 = .ok (.getfield 12, 3) := by decide +kernel
theorem dX5_totalReward_4 : decode cX5_totalReward 4 = .ok (.iload_n 1, 1) := by decide +kernel
theorem dX5_totalReward_5 : decode cX5_totalReward 5 = .ok (.invokevirtual 81, 3) := by decide +kernel
theorem dX5_totalReward_8 : decode cX5_totalReward 8 = .ok (.getfield 194, 3) := by decide +kernel
theorem dX5_totalReward_11 : decode cX5_totalReward 11 = .ok (.ireturn, 1) := by decide +kernel
theorem dX5_termReward_0 : decode cX5_termReward 0 = .ok (.aload_n 0, 1) := by decide +kernel
theorem dX5_termReward_1 : decode cX5_termReward 1 = .ok (.getfield 12, 3) := by decide +kernel
theorem dX5_termReward_4 : decode cX5_termReward 4 = .ok (.iload_n 1, 1) := by decide +kernel
theorem dX5_termReward_5 : decode cX5_termReward 5 = .ok (.invokevirtual 81, 3) := by decide +kernel
theorem dX5_termReward_8 : decode cX5_termReward 8 = .ok (.getfield 197, 3) := by decide +kernel
theorem dX5_termReward_11 : decode cX5_termReward 11 = .ok (.ireturn, 1) := by decide +kernel
theorem dX5_stars_0 : decode cX5_stars 0 = .ok (.aload_n 0, 1) := by decide +kernel
theorem dX5_stars_1 : decode cX5_stars 1 = .ok (.getfield 12, 3) := by decide +kernel
theorem dX5_stars_4 : decode cX5_stars 4 = .ok (.iload_n 1, 1) := by decide +kernel
theorem dX5_stars_5 : decode cX5_stars 5 = .ok (.invokevirtual 81, 3) := by decide +kernel
theorem dX5_stars_8 : decode cX5_stars 8 = .ok (.getfield 200, 3) := by decide +kernel
theorem dX5_stars_11 : decode cX5_stars 11 = .ok (.ireturn, 1) := by decide +kernel
theorem dX5_umbrellaByStars_0 : decode cX5_umbrellaByStars 0 = .ok (.aload_n 0, 1) := by decide +kernel
theorem dX5_umbrellaByStars_1 : decode cX5_umbrellaByStars 1 = .ok (.getfield 12, 3) := by decide +kernel
theorem dX5_umbrellaByStars_4 : decode cX5_umbrellaByStars 4 = .ok (.iload_n 1, 1) := by decide +kernel
theorem dX5_umbrellaByStars_5 : decode cX5_umbrellaByStars 5 = .ok (.invokevirtual 203, 3) := by decide +kernel
theorem dX5_umbrellaByStars_8 : decode cX5_umbrellaByStars 8 = .ok (.istore_n 2, 1) := by decide +kernel
theorem dX5_umbrellaByStars_9 : decode cX5_umbrellaByStars 9 = .ok (.iload_n 2, 1) := by decide +kernel
theorem dX5_umbrellaByStars_10 : decode cX5_umbrellaByStars 10 = .ok (.iconst (-1), 1) := by decide +kernel
theorem dX5_umbrellaByStars_11 : decode cX5_umbrellaByStars 11 = .ok (.if_icmp .ne 13, 3) := by decide +kernel
theorem dX5_umbrellaByStars_14 : decode cX5_umbrellaByStars 14 = .ok (.new 157, 3) := by decide +kernel
theorem dX5_umbrellaByStars_17 : decode cX5_umbrellaByStars 17 = .ok (.dup, 1) := by decide +kernel
theorem dX5_umbrellaByStars_18 : decode cX5_umbrellaByStars 18 = .ok (.ldc 206, 2) := by decide +kernel
theorem dX5_umbrellaByStars_20 : decode cX5_umbrellaByStars 20 = .ok (.invokespecial 161, 3) := by decide +kernel
theorem dX5_umbrellaByStars_23 : decode cX5_umbrellaByStars 23 = .ok (.athrow, 1) := by decide +kernel
theorem dX5_umbrellaByStars_24 : decode cX5_umbrellaByStars 24 = .ok (.iload_n 2, 1) := by decide +kernel
theorem dX5_umbrellaByStars_25 : decode cX5_umbrellaByStars 25 = .ok (.ireturn, 1) := by decide +kernel
theorem dX5_wetPenalty_0 : decode cX5_wetPenalty 0 = .ok (.aload_n 0, 1) := by decide +kernel
theorem dX5_wetPenalty_1 : decode cX5_wetPenalty 1 = .ok (.getfield 12, 3) := by decide +kernel
theorem dX5_wetPenalty_4 : decode cX5_wetPenalty 4 = .ok (.getfield 208, 3) := by decide +kernel
theorem dX5_wetPenalty_7 : decode cX5_wetPenalty 7 = .ok (.ireturn, 1) := by decide +kernel
theorem dX5_galePenalty_0 : decode cX5_galePenalty 0 = .ok (.aload_n 0, 1) := by decide +kernel
theorem dX5_galePenalty_1 : decode cX5_galePenalty 1 = .ok (.getfield 12, 3) := by decide +kernel
theorem dX5_galePenalty_4 : decode cX5_galePenalty 4 = .ok (.getfield 211, 3) := by decide +kernel
theorem dX5_galePenalty_7 : decode cX5_galePenalty 7 = .ok (.ireturn, 1) := by decide +kernel
theorem dX5_term_0 : decode cX5_term 0 = .ok (.aload_n 0, 1) := by decide +kernel
theorem dX5_term_1 : decode cX5_term 1 = .ok (.getfield 12, 3) := by decide +kernel
theorem dX5_term_4 : decode cX5_term 4 = .ok (.getfield 214, 3) := by decide +kernel
theorem dX5_term_7 : decode cX5_term 7 = .ok (.ireturn, 1) := by decide +kernel
theorem dX5_schoolReward_0 : decode cX5_schoolReward 0 = .ok (.aload_n 0, 1) := by decide +kernel
theorem dX5_schoolReward_1 : decode cX5_schoolReward 1 = .ok (.getfield 12, 3) := by decide +kernel
theorem dX5_schoolReward_4 : decode cX5_schoolReward 4 = .ok (.invokevirtual 217, 3) := by decide +kernel
theorem dX5_schoolReward_7 : decode cX5_schoolReward 7 = .ok (.ireturn, 1) := by decide +kernel
theorem dX5_schoolRewardByActions_0 : decode cX5_schoolRewardByActions 0 = .ok (.aload_n 0, 1) := by decide +kernel
theorem dX5_schoolRewardByActions_1 : decode cX5_schoolRewardByActions 1 = .ok (.getfield 12, 3) := by decide +kernel
theorem dX5_schoolRewardByActions_4 : decode cX5_schoolRewardByActions 4 = .ok (.invokevirtual 220, 3) := by decide +kernel
theorem dX5_schoolRewardByActions_7 : decode cX5_schoolRewardByActions 7 = .ok (.ireturn, 1) := by decide +kernel
theorem dX5_meanSchoolReward_0 : decode cX5_meanSchoolReward 0 = .ok (.aload_n 0, 1) := by decide +kernel
theorem dX5_meanSchoolReward_1 : decode cX5_meanSchoolReward 1 = .ok (.getfield 12, 3) := by decide +kernel
theorem dX5_meanSchoolReward_4 : decode cX5_meanSchoolReward 4 = .ok (.invokevirtual 223, 3) := by decide +kernel
theorem dX5_meanSchoolReward_7 : decode cX5_meanSchoolReward 7 = .ok (.istore_n 1, 1) := by decide +kernel
theorem dX5_meanSchoolReward_8 : decode cX5_meanSchoolReward 8 = .ok (.iload_n 1, 1) := by decide +kernel
theorem dX5_meanSchoolReward_9 : decode cX5_meanSchoolReward 9 = .ok (.ifCond .ne 13, 3) := by decide +kernel
theorem dX5_meanSchoolReward_12 : decode cX5_meanSchoolReward 12 = .ok (.new 226, 3) := by decide +kernel
theorem dX5_meanSchoolReward_15 : decode cX5_meanSchoolReward 15 = .ok (.dup, 1) := by decide +kernel
theorem dX5_meanSchoolReward_16 : decode cX5_meanSchoolReward 16 = .ok (.ldc 228, 2) := by decide +kernel
theorem dX5_meanSchoolReward_18 : decode cX5_meanSchoolReward 18 = .ok (.invokespecial 230, 3) := by decide +kernel
theorem dX5_meanSchoolReward_21 : decode cX5_meanSchoolReward 21 = .ok (.athrow, 1) := by decide +kernel
theorem dX5_meanSchoolReward_22 : decode cX5_meanSchoolReward 22 = .ok (.aload_n 0, 1) := by decide +kernel
theorem dX5_meanSchoolReward_23 : decode cX5_meanSchoolReward 23 = .ok (.getfield 12, 3) := by decide +kernel
theorem dX5_meanSchoolReward_26 : decode cX5_meanSchoolReward 26 = .ok (.invokevirtual 217, 3) := by decide +kernel
theorem dX5_meanSchoolReward_29 : decode cX5_meanSchoolReward 29 = .ok (.i2d, 1) := by decide +kernel
theorem dX5_meanSchoolReward_30 : decode cX5_meanSchoolReward 30 = .ok (.iload_n 1, 1) := by decide +kernel
theorem dX5_meanSchoolReward_31 : decode cX5_meanSchoolReward 31 = .ok (.i2d, 1) := by decide +kernel
theorem dX5_meanSchoolReward_32 : decode cX5_meanSchoolReward 32 = .ok (.ddiv, 1) := by decide +kernel
theorem dX5_meanSchoolReward_33 : decode cX5_meanSchoolReward 33 = .ok (.dreturn, 1) := by decide +kernel
theorem dX5_openShare_0 : decode cX5_openShare 0 = .ok (.aload_n 0, 1) := by decide +kernel
theorem dX5_openShare_1 : decode cX5_openShare 1 = .ok (.getfield 12, 3) := by decide +kernel
theorem dX5_openShare_4 : decode cX5_openShare 4 = .ok (.invokevirtual 223, 3) := by decide +kernel
theorem dX5_openShare_7 : decode cX5_openShare 7 = .ok (.istore_n 1, 1) := by decide +kernel
theorem dX5_openShare_8 : decode cX5_openShare 8 = .ok (.iload_n 1, 1) := by decide +kernel
theorem dX5_openShare_9 : decode cX5_openShare 9 = .ok (.ifCond .ne 13, 3) := by decide +kernel
theorem dX5_openShare_12 : decode cX5_openShare 12 = .ok (.new 226, 3) := by decide +kernel
theorem dX5_openShare_15 : decode cX5_openShare 15 = .ok (.dup, 1) := by decide +kernel
theorem dX5_openShare_16 : decode cX5_openShare 16 = .ok (.ldc 228, 2) := by decide +kernel
theorem dX5_openShare_18 : decode cX5_openShare 18 = .ok (.invokespecial 230, 3) := by decide +kernel
theorem dX5_openShare_21 : decode cX5_openShare 21 = .ok (.athrow, 1) := by decide +kernel
theorem dX5_openShare_22 : decode cX5_openShare 22 = .ok (.aload_n 0, 1) := by decide +kernel
theorem dX5_openShare_23 : decode cX5_openShare 23 = .ok (.getfield 12, 3) := by decide +kernel
theorem dX5_openShare_26 : decode cX5_openShare 26 = .ok (.getfield 231, 3) := by decide +kernel
theorem dX5_openShare_29 : decode cX5_openShare 29 = .ok (.i2f, 1) := by decide +kernel
theorem dX5_openShare_30 : decode cX5_openShare 30 = .ok (.iload_n 1, 1) := by decide +kernel
theorem dX5_openShare_31 : decode cX5_openShare 31 = .ok (.i2f, 1) := by decide +kernel
theorem dX5_openShare_32 : decode cX5_openShare 32 = .ok (.fdiv, 1) := by decide +kernel
theorem dX5_openShare_33 : decode cX5_openShare 33 = .ok (.freturn, 1) := by decide +kernel
theorem dX5_isConsistent_0 : decode cX5_isConsistent 0 = .ok (.aload_n 0, 1) := by decide +kernel
theorem dX5_isConsistent_1 : decode cX5_isConsistent 1 = .ok (.getfield 12, 3) := by decide +kernel
theorem dX5_isConsistent_4 : decode cX5_isConsistent 4 = .ok (.invokevirtual 234, 3) := by decide +kernel
theorem dX5_isConsistent_7 : decode cX5_isConsistent 7 = .ok (.ireturn, 1) := by decide +kernel
theorem dX5_renderHabits_0 : decode cX5_renderHabits 0 = .ok (.aload_n 0, 1) := by decide +kernel
theorem dX5_renderHabits_1 : decode cX5_renderHabits 1 = .ok (.getfield 12, 3) := by decide +kernel
theorem dX5_renderHabits_4 : decode cX5_renderHabits 4 = .ok (.iload_n 1, 1) := by decide +kernel
theorem dX5_renderHabits_5 : decode cX5_renderHabits 5 = .ok (.invokevirtual 81, 3) := by decide +kernel
theorem dX5_renderHabits_8 : decode cX5_renderHabits 8 = .ok (.astore_n 2, 1) := by decide +kernel
theorem dX5_renderHabits_9 : decode cX5_renderHabits 9 = .ok (.aload_n 0, 1) := by decide +kernel
theorem dX5_renderHabits_10 : decode cX5_renderHabits 10 = .ok (.getfield 30, 3) := by decide +kernel
theorem dX5_renderHabits_13 : decode cX5_renderHabits 13 = .ok (.iconst 0, 1) := by decide +kernel
theorem dX5_renderHabits_14 : decode cX5_renderHabits 14 = .ok (.invokevirtual 237, 3) := by decide +kernel
theorem dX5_renderHabits_17 : decode cX5_renderHabits 17 = .ok (.iconst 0, 1) := by decide +kernel
theorem dX5_renderHabits_18 : decode cX5_renderHabits 18 = .ok (.istore_n 3, 1) := by decide +kernel
theorem dX5_renderHabits_19 : decode cX5_renderHabits 19 = .ok (.iload_n 3, 1) := by decide +kernel
theorem dX5_renderHabits_20 : decode cX5_renderHabits 20 = .ok (.bipush 16, 2) := by decide +kernel
theorem dX5_renderHabits_22 : decode cX5_renderHabits 22 = .ok (.if_icmp .ge 53, 3) := by decide +kernel
theorem dX5_renderHabits_25 : decode cX5_renderHabits 25 = .ok (.iload_n 3, 1) := by decide +kernel
theorem dX5_renderHabits_26 : decode cX5_renderHabits 26 = .ok (.ifCond .le 20, 3) := by decide +kernel
theorem dX5_renderHabits_29 : decode cX5_renderHabits 29 = .ok (.iload_n 3, 1) := by decide +kernel
theorem dX5_renderHabits_30 : decode cX5_renderHabits 30 = .ok (.invokestatic 177, 3) := by decide +kernel
theorem dX5_renderHabits_33 : decode cX5_renderHabits 33 = .ok (.ifCond .ne 13, 3) := by decide +kernel
theorem dX5_renderHabits_36 : decode cX5_renderHabits 36 = .ok (.aload_n 0, 1) := by decide +kernel
theorem dX5_renderHabits_37 : decode cX5_renderHabits 37 = .ok (.getfield 30, 3) := by decide +kernel
theorem dX5_renderHabits_40 : decode cX5_renderHabits 40 = .ok (.bipush 47, 2) := by decide +kernel
theorem dX5_renderHabits_42 : decode cX5_renderHabits 42 = .ok (.invokevirtual 241, 3) := by decide +kernel
theorem dX5_renderHabits_45 : decode cX5_renderHabits 45 = .ok (.pop, 1) := by decide +kernel
theorem dX5_renderHabits_46 : decode cX5_renderHabits 46 = .ok (.aload_n 0, 1) := by decide +kernel
theorem dX5_renderHabits_47 : decode cX5_renderHabits 47 = .ok (.getfield 30, 3) := by decide +kernel
theorem dX5_renderHabits_50 : decode cX5_renderHabits 50 = .ok (.aload_n 2, 1) := by decide +kernel
theorem dX5_renderHabits_51 : decode cX5_renderHabits 51 = .ok (.iload_n 3, 1) := by decide +kernel
theorem dX5_renderHabits_52 : decode cX5_renderHabits 52 = .ok (.invokevirtual 138, 3) := by decide +kernel
theorem dX5_renderHabits_55 : decode cX5_renderHabits 55 = .ok (.ifCond .eq 8, 3) := by decide +kernel
theorem dX5_renderHabits_58 : decode cX5_renderHabits 58 = .ok (.bipush 111, 2) := by decide +kernel
theorem dX5_renderHabits_60 : decode cX5_renderHabits 60 = .ok (.goto 5, 3) := by decide +kernel
theorem dX5_renderHabits_63 : decode cX5_renderHabits 63 = .ok (.bipush 99, 2) := by decide +kernel
theorem dX5_renderHabits_65 : decode cX5_renderHabits 65 = .ok (.invokevirtual 241, 3) := by decide +kernel
theorem dX5_renderHabits_68 : decode cX5_renderHabits 68 = .ok (.pop, 1) := by decide +kernel
theorem dX5_renderHabits_69 : decode cX5_renderHabits 69 = .ok (.iinc 3 1, 3) := by decide +kernel
theorem dX5_renderHabits_72 : decode cX5_renderHabits 72 = .ok (.goto (-53), 3) := by decide +kernel
theorem dX5_renderHabits_75 : decode cX5_renderHabits 75 = .ok (.aload_n 0, 1) := by decide +kernel
theorem dX5_renderHabits_76 : decode cX5_renderHabits 76 = .ok (.getfield 30, 3) := by decide +kernel
theorem dX5_renderHabits_79 : decode cX5_renderHabits 79 = .ok (.invokevirtual 245, 3) := by decide +kernel
theorem dX5_renderHabits_82 : decode cX5_renderHabits 82 = .ok (.ireturn, 1) := by decide +kernel
theorem dX5_renderUmbrella_0 : decode cX5_renderUmbrella 0 = .ok (.aload_n 0, 1) := by decide +kernel
theorem dX5_renderUmbrella_1 : decode cX5_renderUmbrella 1 = .ok (.getfield 12, 3) := by decide +kernel
theorem dX5_renderUmbrella_4 : decode cX5_renderUmbrella 4 = .ok (.iload_n 1, 1) := by decide +kernel
theorem dX5_renderUmbrella_5 : decode cX5_renderUmbrella 5 = .ok (.invokevirtual 81, 3) := by decide +kernel
theorem dX5_renderUmbrella_8 : decode cX5_renderUmbrella 8 = .ok (.astore_n 2, 1) := by decide +kernel
theorem dX5_renderUmbrella_9 : decode cX5_renderUmbrella 9 = .ok (.aload_n 0, 1) := by decide +kernel
theorem dX5_renderUmbrella_10 : decode cX5_renderUmbrella 10 = .ok (.getfield 30, 3) := by decide +kernel
theorem dX5_renderUmbrella_13 : decode cX5_renderUmbrella 13 = .ok (.iconst 0, 1) := by decide +kernel
theorem dX5_renderUmbrella_14 : decode cX5_renderUmbrella 14 = .ok (.invokevirtual 237, 3) := by decide +kernel
theorem dX5_renderUmbrella_17 : decode cX5_renderUmbrella 17 = .ok (.aload_n 0, 1) := by decide +kernel
theorem dX5_renderUmbrella_18 : decode cX5_renderUmbrella 18 = .ok (.getfield 30, 3) := by decide +kernel
theorem dX5_renderUmbrella_21 : decode cX5_renderUmbrella 21 = .ok (.aload_n 2, 1) := by decide +kernel
theorem dX5_renderUmbrella_22 : decode cX5_renderUmbrella 22 = .ok (.getfield 96, 3) := by decide +kernel
theorem dX5_renderUmbrella_25 : decode cX5_renderUmbrella 25 = .ok (.invokevirtual 248, 3) := by decide +kernel
theorem dX5_renderUmbrella_28 : decode cX5_renderUmbrella 28 = .ok (.pop, 1) := by decide +kernel
theorem dX5_renderUmbrella_29 : decode cX5_renderUmbrella 29 = .ok (.aload_n 0, 1) := by decide +kernel
theorem dX5_renderUmbrella_30 : decode cX5_renderUmbrella 30 = .ok (.getfield 30, 3) := by decide +kernel
theorem dX5_renderUmbrella_33 : decode cX5_renderUmbrella 33 = .ok (.bipush 47, 2) := by decide +kernel
theorem dX5_renderUmbrella_35 : decode cX5_renderUmbrella 35 = .ok (.invokevirtual 241, 3) := by decide +kernel
theorem dX5_renderUmbrella_38 : decode cX5_renderUmbrella 38 = .ok (.pop, 1) := by decide +kernel
theorem dX5_renderUmbrella_39 : decode cX5_renderUmbrella 39 = .ok (.aload_n 0, 1) := by decide +kernel
theorem dX5_renderUmbrella_40 : decode cX5_renderUmbrella 40 = .ok (.getfield 30, 3) := by decide +kernel
theorem dX5_renderUmbrella_43 : decode cX5_renderUmbrella 43 = .ok (.aload_n 2, 1) := by decide +kernel
theorem dX5_renderUmbrella_44 : decode cX5_renderUmbrella 44 = .ok (.getfield 85, 3) := by decide +kernel
theorem dX5_renderUmbrella_47 : decode cX5_renderUmbrella 47 = .ok (.invokevirtual 248, 3) := by decide +kernel
theorem dX5_renderUmbrella_50 : decode cX5_renderUmbrella 50 = .ok (.pop, 1) := by decide +kernel
theorem dX5_renderUmbrella_51 : decode cX5_renderUmbrella 51 = .ok (.aload_n 0, 1) := by decide +kernel
theorem dX5_renderUmbrella_52 : decode cX5_renderUmbrella 52 = .ok (.getfield 30, 3) := by decide +kernel
theorem dX5_renderUmbrella_55 : decode cX5_renderUmbrella 55 = .ok (.bipush 112, 2) := by decide +kernel
theorem dX5_renderUmbrella_57 : decode cX5_renderUmbrella 57 = .ok (.invokevirtual 241, 3) := by decide +kernel
theorem dX5_renderUmbrella_60 : decode cX5_renderUmbrella 60 = .ok (.pop, 1) := by decide +kernel
theorem dX5_renderUmbrella_61 : decode cX5_renderUmbrella 61 = .ok (.aload_n 0, 1) := by decide +kernel
theorem dX5_renderUmbrella_62 : decode cX5_renderUmbrella 62 = .ok (.getfield 30, 3) := by decide +kernel
theorem dX5_renderUmbrella_65 : decode cX5_renderUmbrella 65 = .ok (.aload_n 2, 1) := by decide +kernel
theorem dX5_renderUmbrella_66 : decode cX5_renderUmbrella 66 = .ok (.getfield 90, 3) := by decide +kernel
theorem dX5_renderUmbrella_69 : decode cX5_renderUmbrella 69 = .ok (.invokevirtual 248, 3) := by decide +kernel
theorem dX5_renderUmbrella_72 : decode cX5_renderUmbrella 72 = .ok (.pop, 1) := by decide +kernel
theorem dX5_renderUmbrella_73 : decode cX5_renderUmbrella 73 = .ok (.aload_n 0, 1) := by decide +kernel
theorem dX5_renderUmbrella_74 : decode cX5_renderUmbrella 74 = .ok (.getfield 30, 3) := by decide +kernel
theorem dX5_renderUmbrella_77 : decode cX5_renderUmbrella 77 = .ok (.bipush 42, 2) := by decide +kernel
theorem dX5_renderUmbrella_79 : decode cX5_renderUmbrella 79 = .ok (.invokevirtual 241, 3) := by decide +kernel
theorem dX5_renderUmbrella_82 : decode cX5_renderUmbrella 82 = .ok (.pop, 1) := by decide +kernel
theorem dX5_renderUmbrella_83 : decode cX5_renderUmbrella 83 = .ok (.aload_n 0, 1) := by decide +kernel
theorem dX5_renderUmbrella_84 : decode cX5_renderUmbrella 84 = .ok (.getfield 30, 3) := by decide +kernel
theorem dX5_renderUmbrella_87 : decode cX5_renderUmbrella 87 = .ok (.aload_n 2, 1) := by decide +kernel
theorem dX5_renderUmbrella_88 : decode cX5_renderUmbrella 88 = .ok (.getfield 200, 3) := by decide +kernel
theorem dX5_renderUmbrella_91 : decode cX5_renderUmbrella 91 = .ok (.invokevirtual 248, 3) := by decide +kernel
theorem dX5_renderUmbrella_94 : decode cX5_renderUmbrella 94 = .ok (.pop, 1) := by decide +kernel
theorem dX5_renderUmbrella_95 : decode cX5_renderUmbrella 95 = .ok (.aload_n 0, 1) := by decide +kernel
theorem dX5_renderUmbrella_96 : decode cX5_renderUmbrella 96 = .ok (.getfield 30, 3) := by decide +kernel
theorem dX5_renderUmbrella_99 : decode cX5_renderUmbrella 99 = .ok (.bipush 58, 2) := by decide +kernel
theorem dX5_renderUmbrella_101 : decode cX5_renderUmbrella 101 = .ok (.invokevirtual 241, 3) := by decide +kernel
theorem dX5_renderUmbrella_104 : decode cX5_renderUmbrella 104 = .ok (.pop, 1) := by decide +kernel
theorem dX5_renderUmbrella_105 : decode cX5_renderUmbrella 105 = .ok (.iconst 0, 1) := by decide +kernel
theorem dX5_renderUmbrella_106 : decode cX5_renderUmbrella 106 = .ok (.istore_n 3, 1) := by decide +kernel
theorem dX5_renderUmbrella_107 : decode cX5_renderUmbrella 107 = .ok (.iload_n 3, 1) := by decide +kernel
theorem dX5_renderUmbrella_108 : decode cX5_renderUmbrella 108 = .ok (.iconst 4, 1) := by decide +kernel
theorem dX5_renderUmbrella_109 : decode cX5_renderUmbrella 109 = .ok (.if_icmp .ge 26, 3) := by decide +kernel
theorem dX5_renderUmbrella_112 : decode cX5_renderUmbrella 112 = .ok (.aload_n 2, 1) := by decide +kernel
theorem dX5_renderUmbrella_113 : decode cX5_renderUmbrella 113 = .ok (.iload_n 3, 1) := by decide +kernel
theorem dX5_renderUmbrella_114 : decode cX5_renderUmbrella 114 = .ok (.invokevirtual 188, 3) := by decide +kernel
theorem dX5_renderUmbrella_117 : decode cX5_renderUmbrella 117 = .ok (.ifCond .eq 12, 3) := by decide +kernel
theorem dX5_renderUmbrella_120 : decode cX5_renderUmbrella 120 = .ok (.aload_n 0, 1) := by decide +kernel
theorem dX5_renderUmbrella_121 : decode cX5_renderUmbrella 121 = .ok (.getfield 30, 3) := by decide +kernel
theorem dX5_renderUmbrella_124 : decode cX5_renderUmbrella 124 = .ok (.iload_n 3, 1) := by decide +kernel
theorem dX5_renderUmbrella_125 : decode cX5_renderUmbrella 125 = .ok (.invokevirtual 248, 3) := by decide +kernel
theorem dX5_renderUmbrella_128 : decode cX5_renderUmbrella 128 = .ok (.pop, 1) := by decide +kernel
theorem dX5_renderUmbrella_129 : decode cX5_renderUmbrella 129 = .ok (.iinc 3 1, 3) := by decide +kernel
theorem dX5_renderUmbrella_132 : decode cX5_renderUmbrella 132 = .ok (.goto (-25), 3) := by decide +kernel
theorem dX5_renderUmbrella_135 : decode cX5_renderUmbrella 135 = .ok (.aload_n 0, 1) := by decide +kernel
theorem dX5_renderUmbrella_136 : decode cX5_renderUmbrella 136 = .ok (.getfield 30, 3) := by decide +kernel
theorem dX5_renderUmbrella_139 : decode cX5_renderUmbrella 139 = .ok (.invokevirtual 245, 3) := by decide +kernel
theorem dX5_renderUmbrella_142 : decode cX5_renderUmbrella 142 = .ok (.ireturn, 1) := by decide +kernel
theorem dX5_outputAt_0 : decode cX5_outputAt 0 = .ok (.iload_n 1, 1) := by decide +kernel
theorem dX5_outputAt_1 : decode cX5_outputAt 1 = .ok (.ifCond .lt 14, 3) := by decide +kernel
theorem dX5_outputAt_4 : decode cX5_outputAt 4 = .ok (.iload_n 1, 1) := by decide +kernel
theorem dX5_outputAt_5 : decode cX5_outputAt 5 = .ok (.aload_n 0, 1) := by decide +kernel
theorem dX5_outputAt_6 : decode cX5_outputAt 6 = .ok (.getfield 30, 3) := by decide +kernel
theorem dX5_outputAt_9 : decode cX5_outputAt 9 = .ok (.invokevirtual 245, 3) := by decide +kernel
theorem dX5_outputAt_12 : decode cX5_outputAt 12 = .ok (.if_icmp .lt 13, 3) := by decide +kernel
theorem dX5_outputAt_15 : decode cX5_outputAt 15 = .ok (.new 251, 3) := by decide +kernel
theorem dX5_outputAt_18 : decode cX5_outputAt 18 = .ok (.dup, 1) := by decide +kernel
theorem dX5_outputAt_19 : decode cX5_outputAt 19 = .ok (.ldc 253, 2) := by decide +kernel
theorem dX5_outputAt_21 : decode cX5_outputAt 21 = .ok (.invokespecial 255, 3) := by decide +kernel
theorem dX5_outputAt_24 : decode cX5_outputAt 24 = .ok (.athrow, 1) := by decide +kernel
theorem dX5_outputAt_25 : decode cX5_outputAt 25 = .ok (.aload_n 0, 1) := by decide +kernel
theorem dX5_outputAt_26 : decode cX5_outputAt 26 = .ok (.getfield 30, 3) := by decide +kernel
theorem dX5_outputAt_29 : decode cX5_outputAt 29 = .ok (.iload_n 1, 1) := by decide +kernel
theorem dX5_outputAt_30 : decode cX5_outputAt 30 = .ok (.invokevirtual 256, 3) := by decide +kernel
theorem dX5_outputAt_33 : decode cX5_outputAt 33 = .ok (.ireturn, 1) := by decide +kernel
theorem dX5_type_0 : decode cX5_type 0 = .ok (.iload_n 1, 1) := by decide +kernel
theorem dX5_type_1 : decode cX5_type 1 = .ok (.bipush 32, 2) := by decide +kernel
theorem dX5_type_3 : decode cX5_type 3 = .ok (.bipush 126, 2) := by decide +kernel
theorem dX5_type_5 : decode cX5_type 5 = .ok (.invokestatic 260, 3) := by decide +kernel
theorem dX5_type_8 : decode cX5_type 8 = .ok (.ifCond .ne 14, 3) := by decide +kernel
theorem dX5_type_11 : decode cX5_type 11 = .ok (.new 183, 3) := by decide +kernel
theorem dX5_type_14 : decode cX5_type 14 = .ok (.dup, 1) := by decide +kernel
theorem dX5_type_15 : decode cX5_type 15 = .ok (.ldc_w 264, 3) := by decide +kernel
theorem dX5_type_18 : decode cX5_type 18 = .ok (.invokespecial 187, 3) := by decide +kernel
theorem dX5_type_21 : decode cX5_type 21 = .ok (.athrow, 1) := by decide +kernel
theorem dX5_type_22 : decode cX5_type 22 = .ok (.aload_n 0, 1) := by decide +kernel
theorem dX5_type_23 : decode cX5_type 23 = .ok (.getfield 26, 3) := by decide +kernel
theorem dX5_type_26 : decode cX5_type 26 = .ok (.invokevirtual 245, 3) := by decide +kernel
theorem dX5_type_29 : decode cX5_type 29 = .ok (.bipush 60, 2) := by decide +kernel
theorem dX5_type_31 : decode cX5_type 31 = .ok (.if_icmp .lt 14, 3) := by decide +kernel
theorem dX5_type_34 : decode cX5_type 34 = .ok (.new 266, 3) := by decide +kernel
theorem dX5_type_37 : decode cX5_type 37 = .ok (.dup, 1) := by decide +kernel
theorem dX5_type_38 : decode cX5_type 38 = .ok (.ldc_w 268, 3) := by decide +kernel
theorem dX5_type_41 : decode cX5_type 41 = .ok (.invokespecial 270, 3) := by decide +kernel
theorem dX5_type_44 : decode cX5_type 44 = .ok (.athrow, 1) := by decide +kernel
theorem dX5_type_45 : decode cX5_type 45 = .ok (.aload_n 0, 1) := by decide +kernel
theorem dX5_type_46 : decode cX5_type 46 = .ok (.getfield 26, 3) := by decide +kernel
theorem dX5_type_49 : decode cX5_type 49 = .ok (.iload_n 1, 1) := by decide +kernel
theorem dX5_type_50 : decode cX5_type 50 = .ok (.invokevirtual 241, 3) := by decide +kernel
theorem dX5_type_53 : decode cX5_type 53 = .ok (.pop, 1) := by decide +kernel
theorem dX5_type_54 : decode cX5_type 54 = .ok (.aload_n 0, 1) := by decide +kernel
theorem dX5_type_55 : decode cX5_type 55 = .ok (.getfield 26, 3) := by decide +kernel
theorem dX5_type_58 : decode cX5_type 58 = .ok (.invokevirtual 245, 3) := by decide +kernel
theorem dX5_type_61 : decode cX5_type 61 = .ok (.ireturn, 1) := by decide +kernel
theorem dX5_runScript_0 : decode cX5_runScript 0 = .ok (.aload_n 0, 1) := by decide +kernel
theorem dX5_runScript_1 : decode cX5_runScript 1 = .ok (.invokevirtual 271, 3) := by decide +kernel
theorem dX5_runScript_4 : decode cX5_runScript 4 = .ok (.istore_n 1, 1) := by decide +kernel
theorem dX5_runScript_5 : decode cX5_runScript 5 = .ok (.iload_n 1, 1) := by decide +kernel
theorem dX5_runScript_6 : decode cX5_runScript 6 = .ok (.iconst (-1), 1) := by decide +kernel
theorem dX5_runScript_7 : decode cX5_runScript 7 = .ok (.if_icmp .eq 27, 3) := by decide +kernel
theorem dX5_runScript_10 : decode cX5_runScript 10 = .ok (.aload_n 0, 1) := by decide +kernel
theorem dX5_runScript_11 : decode cX5_runScript 11 = .ok (.getfield 26, 3) := by decide +kernel
theorem dX5_runScript_14 : decode cX5_runScript 14 = .ok (.iconst 0, 1) := by decide +kernel
theorem dX5_runScript_15 : decode cX5_runScript 15 = .ok (.invokevirtual 237, 3) := by decide +kernel
theorem dX5_runScript_18 : decode cX5_runScript 18 = .ok (.aload_n 0, 1) := by decide +kernel
theorem dX5_runScript_19 : decode cX5_runScript 19 = .ok (.iload_n 1, 1) := by decide +kernel
theorem dX5_runScript_20 : decode cX5_runScript 20 = .ok (.putfield 41, 3) := by decide +kernel
theorem dX5_runScript_23 : decode cX5_runScript 23 = .ok (.new 183, 3) := by decide +kernel
theorem dX5_runScript_26 : decode cX5_runScript 26 = .ok (.dup, 1) := by decide +kernel
theorem dX5_runScript_27 : decode cX5_runScript 27 = .ok (.ldc_w 274, 3) := by decide +kernel
theorem dX5_runScript_30 : decode cX5_runScript 30 = .ok (.invokespecial 187, 3) := by decide +kernel
theorem dX5_runScript_33 : decode cX5_runScript 33 = .ok (.athrow, 1) := by decide +kernel
theorem dX5_runScript_34 : decode cX5_runScript 34 = .ok (.aload_n 0, 1) := by decide +kernel
theorem dX5_runScript_35 : decode cX5_runScript 35 = .ok (.invokevirtual 276, 3) := by decide +kernel
theorem dX5_runScript_38 : decode cX5_runScript 38 = .ok (.aload_n 0, 1) := by decide +kernel
theorem dX5_runScript_39 : decode cX5_runScript 39 = .ok (.invokevirtual 279, 3) := by decide +kernel
theorem dX5_runScript_42 : decode cX5_runScript 42 = .ok (.istore_n 2, 1) := by decide +kernel
theorem dX5_runScript_43 : decode cX5_runScript 43 = .ok (.iconst 0, 1) := by decide +kernel
theorem dX5_runScript_44 : decode cX5_runScript 44 = .ok (.istore_n 3, 1) := by decide +kernel
theorem dX5_runScript_45 : decode cX5_runScript 45 = .ok (.iconst 0, 1) := by decide +kernel
theorem dX5_runScript_46 : decode cX5_runScript 46 = .ok (.istore 4, 2) := by decide +kernel
theorem dX5_runScript_48 : decode cX5_runScript 48 = .ok (.iload_n 3, 1) := by decide +kernel
theorem dX5_runScript_49 : decode cX5_runScript 49 = .ok (.iload_n 2, 1) := by decide +kernel
theorem dX5_runScript_50 : decode cX5_runScript 50 = .ok (.if_icmp .ge 28, 3) := by decide +kernel
theorem dX5_runScript_53 : decode cX5_runScript 53 = .ok (.aload_n 0, 1) := by decide +kernel
theorem dX5_runScript_54 : decode cX5_runScript 54 = .ok (.iload 4, 2) := by decide +kernel
theorem dX5_runScript_56 : decode cX5_runScript 56 = .ok (.invokevirtual 282, 3) := by decide +kernel
theorem dX5_runScript_59 : decode cX5_runScript 59 = .ok (.ifCond .eq 19, 3) := by decide +kernel
theorem dX5_runScript_62 : decode cX5_runScript 62 = .ok (.aload_n 0, 1) := by decide +kernel
theorem dX5_runScript_63 : decode cX5_runScript 63 = .ok (.iload 4, 2) := by decide +kernel
theorem dX5_runScript_65 : decode cX5_runScript 65 = .ok (.invokevirtual 285, 3) := by decide +kernel
theorem dX5_runScript_68 : decode cX5_runScript 68 = .ok (.iconst 1, 1) := by decide +kernel
theorem dX5_runScript_69 : decode cX5_runScript 69 = .ok (.iadd, 1) := by decide +kernel
theorem dX5_runScript_70 : decode cX5_runScript 70 = .ok (.istore 4, 2) := by decide +kernel
theorem dX5_runScript_72 : decode cX5_runScript 72 = .ok (.iinc 3 1, 3) := by decide +kernel
theorem dX5_runScript_75 : decode cX5_runScript 75 = .ok (.goto (-27), 3) := by decide +kernel
theorem dX5_runScript_78 : decode cX5_runScript 78 = .ok (.aload_n 0, 1) := by decide +kernel
theorem dX5_runScript_79 : decode cX5_runScript 79 = .ok (.getfield 26, 3) := by decide +kernel
theorem dX5_runScript_82 : decode cX5_runScript 82 = .ok (.iconst 0, 1) := by decide +kernel
theorem dX5_runScript_83 : decode cX5_runScript 83 = .ok (.invokevirtual 237, 3) := by decide +kernel
theorem dX5_runScript_86 : decode cX5_runScript 86 = .ok (.iload_n 3, 1) := by decide +kernel
theorem dX5_runScript_87 : decode cX5_runScript 87 = .ok (.iload_n 2, 1) := by decide +kernel
theorem dX5_runScript_88 : decode cX5_runScript 88 = .ok (.if_icmp .ge 23, 3) := by decide +kernel
theorem dX5_runScript_91 : decode cX5_runScript 91 = .ok (.aload_n 0, 1) := by decide +kernel
theorem dX5_runScript_92 : decode cX5_runScript 92 = .ok (.invokevirtual 288, 3) := by decide +kernel
theorem dX5_runScript_95 : decode cX5_runScript 95 = .ok (.aload_n 0, 1) := by decide +kernel
theorem dX5_runScript_96 : decode cX5_runScript 96 = .ok (.iload_n 3, 1) := by decide +kernel
theorem dX5_runScript_97 : decode cX5_runScript 97 = .ok (.putfield 44, 3) := by decide +kernel
theorem dX5_runScript_100 : decode cX5_runScript 100 = .ok (.new 266, 3) := by decide +kernel
theorem dX5_runScript_103 : decode cX5_runScript 103 = .ok (.dup, 1) := by decide +kernel
theorem dX5_runScript_104 : decode cX5_runScript 104 = .ok (.ldc_w 291, 3) := by decide +kernel
theorem dX5_runScript_107 : decode cX5_runScript 107 = .ok (.invokespecial 270, 3) := by decide +kernel
theorem dX5_runScript_110 : decode cX5_runScript 110 = .ok (.athrow, 1) := by decide +kernel
theorem dX5_runScript_111 : decode cX5_runScript 111 = .ok (.aload_n 0, 1) := by decide +kernel
theorem dX5_runScript_112 : decode cX5_runScript 112 = .ok (.invokevirtual 293, 3) := by decide +kernel
theorem dX5_runScript_115 : decode cX5_runScript 115 = .ok (.iload_n 2, 1) := by decide +kernel
theorem dX5_runScript_116 : decode cX5_runScript 116 = .ok (.ireturn, 1) := by decide +kernel
theorem dX5_errorPosition_0 : decode cX5_errorPosition 0 = .ok (.aload_n 0, 1) := by decide +kernel
theorem dX5_errorPosition_1 : decode cX5_errorPosition 1 = .ok (.getfield 41, 3) := by decide +kernel
theorem dX5_errorPosition_4 : decode cX5_errorPosition 4 = .ok (.iconst (-1), 1) := by decide +kernel
theorem dX5_errorPosition_5 : decode cX5_errorPosition 5 = .ok (.if_icmp .ne 14, 3) := by decide +kernel
theorem dX5_errorPosition_8 : decode cX5_errorPosition 8 = .ok (.new 157, 3) := by decide +kernel
theorem dX5_errorPosition_11 : decode cX5_errorPosition 11 = .ok (.dup, 1) := by decide +kernel
theorem dX5_errorPosition_12 : decode cX5_errorPosition 12 = .ok (.ldc_w 296, 3) := by decide +kernel
theorem dX5_errorPosition_15 : decode cX5_errorPosition 15 = .ok (.invokespecial 161, 3) := by decide +kernel
theorem dX5_errorPosition_18 : decode cX5_errorPosition 18 = .ok (.athrow, 1) := by decide +kernel
theorem dX5_errorPosition_19 : decode cX5_errorPosition 19 = .ok (.aload_n 0, 1) := by decide +kernel
theorem dX5_errorPosition_20 : decode cX5_errorPosition 20 = .ok (.getfield 41, 3) := by decide +kernel
theorem dX5_errorPosition_23 : decode cX5_errorPosition 23 = .ok (.ireturn, 1) := by decide +kernel
theorem dX5_failedCommand_0 : decode cX5_failedCommand 0 = .ok (.aload_n 0, 1) := by decide +kernel
theorem dX5_failedCommand_1 : decode cX5_failedCommand 1 = .ok (.getfield 44, 3) := by decide +kernel
theorem dX5_failedCommand_4 : decode cX5_failedCommand 4 = .ok (.iconst (-1), 1) := by decide +kernel
theorem dX5_failedCommand_5 : decode cX5_failedCommand 5 = .ok (.if_icmp .ne 14, 3) := by decide +kernel
theorem dX5_failedCommand_8 : decode cX5_failedCommand 8 = .ok (.new 157, 3) := by decide +kernel
theorem dX5_failedCommand_11 : decode cX5_failedCommand 11 = .ok (.dup, 1) := by decide +kernel
theorem dX5_failedCommand_12 : decode cX5_failedCommand 12 = .ok (.ldc_w 298, 3) := by decide +kernel
theorem dX5_failedCommand_15 : decode cX5_failedCommand 15 = .ok (.invokespecial 161, 3) := by decide +kernel
theorem dX5_failedCommand_18 : decode cX5_failedCommand 18 = .ok (.athrow, 1) := by decide +kernel
theorem dX5_failedCommand_19 : decode cX5_failedCommand 19 = .ok (.aload_n 0, 1) := by decide +kernel
theorem dX5_failedCommand_20 : decode cX5_failedCommand 20 = .ok (.getfield 44, 3) := by decide +kernel
theorem dX5_failedCommand_23 : decode cX5_failedCommand 23 = .ok (.ireturn, 1) := by decide +kernel
theorem dX5_undo_0 : decode cX5_undo 0 = .ok (.aload_n 0, 1) := by decide +kernel
theorem dX5_undo_1 : decode cX5_undo 1 = .ok (.getfield 33, 3) := by decide +kernel
theorem dX5_undo_4 : decode cX5_undo 4 = .ok (.ifCond .gt 14, 3) := by decide +kernel
theorem dX5_undo_7 : decode cX5_undo 7 = .ok (.new 266, 3) := by decide +kernel
theorem dX5_undo_10 : decode cX5_undo 10 = .ok (.dup, 1) := by decide +kernel
theorem dX5_undo_11 : decode cX5_undo 11 = .ok (.ldc_w 300, 3) := by decide +kernel
theorem dX5_undo_14 : decode cX5_undo 14 = .ok (.invokespecial 270, 3) := by decide +kernel
theorem dX5_undo_17 : decode cX5_undo 17 = .ok (.athrow, 1) := by decide +kernel
theorem dX5_undo_18 : decode cX5_undo 18 = .ok (.aload_n 0, 1) := by decide +kernel
theorem dX5_undo_19 : decode cX5_undo 19 = .ok (.dup, 1) := by decide +kernel
theorem dX5_undo_20 : decode cX5_undo 20 = .ok (.getfield 33, 3) := by decide +kernel
theorem dX5_undo_23 : decode cX5_undo 23 = .ok (.iconst 1, 1) := by decide +kernel
theorem dX5_undo_24 : decode cX5_undo 24 = .ok (.isub, 1) := by decide +kernel
theorem dX5_undo_25 : decode cX5_undo 25 = .ok (.putfield 33, 3) := by decide +kernel
theorem dX5_undo_28 : decode cX5_undo 28 = .ok (.aload_n 0, 1) := by decide +kernel
theorem dX5_undo_29 : decode cX5_undo 29 = .ok (.invokevirtual 288, 3) := by decide +kernel
theorem dX5_undo_32 : decode cX5_undo 32 = .ok (.aload_n 0, 1) := by decide +kernel
theorem dX5_undo_33 : decode cX5_undo 33 = .ok (.getfield 33, 3) := by decide +kernel
theorem dX5_undo_36 : decode cX5_undo 36 = .ok (.ireturn, 1) := by decide +kernel
theorem dX5_save_0 : decode cX5_save 0 = .ok (.aload_n 0, 1) := by decide +kernel
theorem dX5_save_1 : decode cX5_save 1 = .ok (.getfield 16, 3) := by decide +kernel
theorem dX5_save_4 : decode cX5_save 4 = .ok (.aload_n 0, 1) := by decide +kernel
theorem dX5_save_5 : decode cX5_save 5 = .ok (.getfield 12, 3) := by decide +kernel
theorem dX5_save_8 : decode cX5_save 8 = .ok (.invokevirtual 302, 3) := by decide +kernel
theorem dX5_save_11 : decode cX5_save 11 = .ok (.aload_n 0, 1) := by decide +kernel
theorem dX5_save_12 : decode cX5_save 12 = .ok (.iconst 1, 1) := by decide +kernel
theorem dX5_save_13 : decode cX5_save 13 = .ok (.putfield 37, 3) := by decide +kernel
theorem dX5_save_16 : decode cX5_save 16 = .ok (.aload_n 0, 1) := by decide +kernel
theorem dX5_save_17 : decode cX5_save 17 = .ok (.getfield 12, 3) := by decide +kernel
theorem dX5_save_20 : decode cX5_save 20 = .ok (.getfield 78, 3) := by decide +kernel
theorem dX5_save_23 : decode cX5_save 23 = .ok (.ireturn, 1) := by decide +kernel
theorem dX5_restore_0 : decode cX5_restore 0 = .ok (.aload_n 0, 1) := by decide +kernel
theorem dX5_restore_1 : decode cX5_restore 1 = .ok (.getfield 37, 3) := by decide +kernel
theorem dX5_restore_4 : decode cX5_restore 4 = .ok (.ifCond .ne 14, 3) := by decide +kernel
theorem dX5_restore_7 : decode cX5_restore 7 = .ok (.new 266, 3) := by decide +kernel
theorem dX5_restore_10 : decode cX5_restore 10 = .ok (.dup, 1) := by decide +kernel
theorem dX5_restore_11 : decode cX5_restore 11 = .ok (.ldc_w 306, 3) := by decide +kernel
theorem dX5_restore_14 : decode cX5_restore 14 = .ok (.invokespecial 270, 3) := by decide +kernel
theorem dX5_restore_17 : decode cX5_restore 17 = .ok (.athrow, 1) := by decide +kernel
theorem dX5_restore_18 : decode cX5_restore 18 = .ok (.aload_n 0, 1) := by decide +kernel
theorem dX5_restore_19 : decode cX5_restore 19 = .ok (.getfield 12, 3) := by decide +kernel
theorem dX5_restore_22 : decode cX5_restore 22 = .ok (.aload_n 0, 1) := by decide +kernel
theorem dX5_restore_23 : decode cX5_restore 23 = .ok (.getfield 16, 3) := by decide +kernel
theorem dX5_restore_26 : decode cX5_restore 26 = .ok (.invokevirtual 302, 3) := by decide +kernel
theorem dX5_restore_29 : decode cX5_restore 29 = .ok (.aload_n 0, 1) := by decide +kernel
theorem dX5_restore_30 : decode cX5_restore 30 = .ok (.iconst 0, 1) := by decide +kernel
theorem dX5_restore_31 : decode cX5_restore 31 = .ok (.putfield 33, 3) := by decide +kernel
theorem dX5_restore_34 : decode cX5_restore 34 = .ok (.aload_n 0, 1) := by decide +kernel
theorem dX5_restore_35 : decode cX5_restore 35 = .ok (.getfield 12, 3) := by decide +kernel
theorem dX5_restore_38 : decode cX5_restore 38 = .ok (.getfield 78, 3) := by decide +kernel
theorem dX5_restore_41 : decode cX5_restore 41 = .ok (.ireturn, 1) := by decide +kernel
theorem dX5_change_0 : decode cX5_change 0 = .ok (.aload_n 0, 1) := by decide +kernel
theorem dX5_change_1 : decode cX5_change 1 = .ok (.aload_n 1, 1) := by decide +kernel
theorem dX5_change_2 : decode cX5_change 2 = .ok (.iload_n 2, 1) := by decide +kernel
theorem dX5_change_3 : decode cX5_change 3 = .ok (.iload_n 3, 1) := by decide +kernel
theorem dX5_change_4 : decode cX5_change 4 = .ok (.iload 4, 2) := by decide +kernel
theorem dX5_change_6 : decode cX5_change 6 = .ok (.iload 5, 2) := by decide +kernel
theorem dX5_change_8 : decode cX5_change 8 = .ok (.invokevirtual 308, 3) := by decide +kernel
theorem dX5_change_11 : decode cX5_change 11 = .ok (.invokestatic 312, 3) := by decide +kernel
theorem dX5_change_14 : decode cX5_change 14 = .ok (.aload_n 0, 1) := by decide +kernel
theorem dX5_change_15 : decode cX5_change 15 = .ok (.invokevirtual 276, 3) := by decide +kernel
theorem dX5_change_18 : decode cX5_change 18 = .ok (.aload_n 0, 1) := by decide +kernel
theorem dX5_change_19 : decode cX5_change 19 = .ok (.aload_n 1, 1) := by decide +kernel
theorem dX5_change_20 : decode cX5_change 20 = .ok (.iload_n 2, 1) := by decide +kernel
theorem dX5_change_21 : decode cX5_change 21 = .ok (.iload_n 3, 1) := by decide +kernel
theorem dX5_change_22 : decode cX5_change 22 = .ok (.iload 4, 2) := by decide +kernel
theorem dX5_change_24 : decode cX5_change 24 = .ok (.iload 5, 2) := by decide +kernel
theorem dX5_change_26 : decode cX5_change 26 = .ok (.invokevirtual 316, 3) := by decide +kernel
theorem dX5_change_29 : decode cX5_change 29 = .ok (.istore 6, 2) := by decide +kernel
theorem dX5_change_31 : decode cX5_change 31 = .ok (.aload_n 0, 1) := by decide +kernel
theorem dX5_change_32 : decode cX5_change 32 = .ok (.invokevirtual 293, 3) := by decide +kernel
theorem dX5_change_35 : decode cX5_change 35 = .ok (.iload 6, 2) := by decide +kernel
theorem dX5_change_37 : decode cX5_change 37 = .ok (.ireturn, 1) := by decide +kernel
theorem dX5_refusalOf_0 : decode cX5_refusalOf 0 = .ok (.getstatic 319, 3) := by decide +kernel
theorem dX5_refusalOf_3 : decode cX5_refusalOf 3 = .ok (.aload_n 1, 1) := by decide +kernel
theorem dX5_refusalOf_4 : decode cX5_refusalOf 4 = .ok (.invokevirtual 324, 3) := by decide +kernel
theorem dX5_refusalOf_7 : decode cX5_refusalOf 7 = .ok (.iaload, 1) := by decide +kernel
theorem dX5_refusalOf_8 : decode cX5_refusalOf 8 = .ok (.tableswitch 160 1 7 #[44, 80, 117, 130, 130, 150, 150], 44) := by decide +kernel
theorem dX5_refusalOf_52 : decode cX5_refusalOf 52 = .ok (.iload_n 2, 1) := by decide +kernel
theorem dX5_refusalOf_53 : decode cX5_refusalOf 53 = .ok (.iconst 3, 1) := by decide +kernel
theorem dX5_refusalOf_54 : decode cX5_refusalOf 54 = .ok (.bipush 20, 2) := by decide +kernel
theorem dX5_refusalOf_56 : decode cX5_refusalOf 56 = .ok (.invokestatic 260, 3) := by decide +kernel
theorem dX5_refusalOf_59 : decode cX5_refusalOf 59 = .ok (.ifCond .ne 7, 3) := by decide +kernel
theorem dX5_refusalOf_62 : decode cX5_refusalOf 62 = .ok (.getstatic 327, 3) := by decide +kernel
theorem dX5_refusalOf_65 : decode cX5_refusalOf 65 = .ok (.areturn, 1) := by decide +kernel
theorem dX5_refusalOf_66 : decode cX5_refusalOf 66 = .ok (.aload_n 0, 1) := by decide +kernel
theorem dX5_refusalOf_67 : decode cX5_refusalOf 67 = .ok (.getfield 12, 3) := by decide +kernel
theorem dX5_refusalOf_70 : decode cX5_refusalOf 70 = .ok (.getfield 78, 3) := by decide +kernel
theorem dX5_refusalOf_73 : decode cX5_refusalOf 73 = .ok (.bipush 6, 2) := by decide +kernel
theorem dX5_refusalOf_75 : decode cX5_refusalOf 75 = .ok (.if_icmp .ge 9, 3) := by decide +kernel
theorem dX5_refusalOf_78 : decode cX5_refusalOf 78 = .ok (.getstatic 333, 3) := by decide +kernel
theorem dX5_refusalOf_81 : decode cX5_refusalOf 81 = .ok (.goto 6, 3) := by decide +kernel
theorem dX5_refusalOf_84 : decode cX5_refusalOf 84 = .ok (.getstatic 336, 3) := by decide +kernel
theorem dX5_refusalOf_87 : decode cX5_refusalOf 87 = .ok (.areturn, 1) := by decide +kernel
theorem dX5_refusalOf_88 : decode cX5_refusalOf 88 = .ok (.aload_n 0, 1) := by decide +kernel
theorem dX5_refusalOf_89 : decode cX5_refusalOf 89 = .ok (.iload_n 2, 1) := by decide +kernel
theorem dX5_refusalOf_90 : decode cX5_refusalOf 90 = .ok (.iload_n 3, 1) := by decide +kernel
theorem dX5_refusalOf_91 : decode cX5_refusalOf 91 = .ok (.invokestatic 180, 3) := by decide +kernel
theorem dX5_refusalOf_94 : decode cX5_refusalOf 94 = .ok (.ifCond .eq 26, 3) := by decide +kernel
theorem dX5_refusalOf_97 : decode cX5_refusalOf 97 = .ok (.iload 4, 2) := by decide +kernel
theorem dX5_refusalOf_99 : decode cX5_refusalOf 99 = .ok (.invokestatic 180, 3) := by decide +kernel
theorem dX5_refusalOf_102 : decode cX5_refusalOf 102 = .ok (.ifCond .eq 18, 3) := by decide +kernel
theorem dX5_refusalOf_105 : decode cX5_refusalOf 105 = .ok (.iload 5, 2) := by decide +kernel
theorem dX5_refusalOf_107 : decode cX5_refusalOf 107 = .ok (.iconst 1, 1) := by decide +kernel
theorem dX5_refusalOf_108 : decode cX5_refusalOf 108 = .ok (.bipush 9, 2) := by decide +kernel
theorem dX5_refusalOf_110 : decode cX5_refusalOf 110 = .ok (.invokestatic 260, 3) := by decide +kernel
theorem dX5_refusalOf_113 : decode cX5_refusalOf 113 = .ok (.ifCond .eq 7, 3) := by decide +kernel
theorem dX5_refusalOf_116 : decode cX5_refusalOf 116 = .ok (.iconst 1, 1) := by decide +kernel
theorem dX5_refusalOf_117 : decode cX5_refusalOf 117 = .ok (.goto 4, 3) := by decide +kernel
theorem dX5_refusalOf_120 : decode cX5_refusalOf 120 = .ok (.iconst 0, 1) := by decide +kernel
theorem dX5_refusalOf_121 : decode cX5_refusalOf 121 = .ok (.invokevirtual 339, 3) := by decide +kernel
theorem dX5_refusalOf_124 : decode cX5_refusalOf 124 = .ok (.areturn, 1) := by decide +kernel
theorem dX5_refusalOf_125 : decode cX5_refusalOf 125 = .ok (.aload_n 0, 1) := by decide +kernel
theorem dX5_refusalOf_126 : decode cX5_refusalOf 126 = .ok (.iload_n 2, 1) := by decide +kernel
theorem dX5_refusalOf_127 : decode cX5_refusalOf 127 = .ok (.iload_n 3, 1) := by decide +kernel
theorem dX5_refusalOf_128 : decode cX5_refusalOf 128 = .ok (.iconst 0, 1) := by decide +kernel
theorem dX5_refusalOf_129 : decode cX5_refusalOf 129 = .ok (.bipush 9, 2) := by decide +kernel
theorem dX5_refusalOf_131 : decode cX5_refusalOf 131 = .ok (.invokestatic 260, 3) := by decide +kernel
theorem dX5_refusalOf_134 : decode cX5_refusalOf 134 = .ok (.invokevirtual 339, 3) := by decide +kernel
theorem dX5_refusalOf_137 : decode cX5_refusalOf 137 = .ok (.areturn, 1) := by decide +kernel
theorem dX5_refusalOf_138 : decode cX5_refusalOf 138 = .ok (.iload_n 2, 1) := by decide +kernel
theorem dX5_refusalOf_139 : decode cX5_refusalOf 139 = .ok (.iconst 0, 1) := by decide +kernel
theorem dX5_refusalOf_140 : decode cX5_refusalOf 140 = .ok (.bipush 9, 2) := by decide +kernel
theorem dX5_refusalOf_142 : decode cX5_refusalOf 142 = .ok (.invokestatic 260, 3) := by decide +kernel
theorem dX5_refusalOf_145 : decode cX5_refusalOf 145 = .ok (.ifCond .eq 9, 3) := by decide +kernel
theorem dX5_refusalOf_148 : decode cX5_refusalOf 148 = .ok (.getstatic 333, 3) := by decide +kernel
theorem dX5_refusalOf_151 : decode cX5_refusalOf 151 = .ok (.goto 6, 3) := by decide +kernel
theorem dX5_refusalOf_154 : decode cX5_refusalOf 154 = .ok (.getstatic 327, 3) := by decide +kernel
theorem dX5_refusalOf_157 : decode cX5_refusalOf 157 = .ok (.areturn, 1) := by decide +kernel
theorem dX5_refusalOf_158 : decode cX5_refusalOf 158 = .ok (.aload_n 0, 1) := by decide +kernel
theorem dX5_refusalOf_159 : decode cX5_refusalOf 159 = .ok (.iload_n 2, 1) := by decide +kernel
theorem dX5_refusalOf_160 : decode cX5_refusalOf 160 = .ok (.iload_n 3, 1) := by decide +kernel
theorem dX5_refusalOf_161 : decode cX5_refusalOf 161 = .ok (.invokestatic 180, 3) := by decide +kernel
theorem dX5_refusalOf_164 : decode cX5_refusalOf 164 = .ok (.invokevirtual 339, 3) := by decide +kernel
theorem dX5_refusalOf_167 : decode cX5_refusalOf 167 = .ok (.areturn, 1) := by decide +kernel
theorem dX5_refusalOf_168 : decode cX5_refusalOf 168 = .ok (.aload_n 0, 1) := by decide +kernel
theorem dX5_refusalOf_169 : decode cX5_refusalOf 169 = .ok (.getfield 12, 3) := by decide +kernel
theorem dX5_refusalOf_172 : decode cX5_refusalOf 172 = .ok (.getfield 78, 3) := by decide +kernel
theorem dX5_refusalOf_175 : decode cX5_refusalOf 175 = .ok (.ifCond .le 9, 3) := by decide +kernel
theorem dX5_refusalOf_178 : decode cX5_refusalOf 178 = .ok (.getstatic 333, 3) := by decide +kernel
theorem dX5_refusalOf_181 : decode cX5_refusalOf 181 = .ok (.goto 6, 3) := by decide +kernel
theorem dX5_refusalOf_184 : decode cX5_refusalOf 184 = .ok (.getstatic 336, 3) := by decide +kernel
theorem dX5_refusalOf_187 : decode cX5_refusalOf 187 = .ok (.areturn, 1) := by decide +kernel
theorem dX5_refusalFor_0 : decode cX5_refusalFor 0 = .ok (.iload_n 1, 1) := by decide +kernel
theorem dX5_refusalFor_1 : decode cX5_refusalFor 1 = .ok (.iconst 0, 1) := by decide +kernel
theorem dX5_refusalFor_2 : decode cX5_refusalFor 2 = .ok (.aload_n 0, 1) := by decide +kernel
theorem dX5_refusalFor_3 : decode cX5_refusalFor 3 = .ok (.getfield 12, 3) := by decide +kernel
theorem dX5_refusalFor_6 : decode cX5_refusalFor 6 = .ok (.getfield 78, 3) := by decide +kernel
theorem dX5_refusalFor_9 : decode cX5_refusalFor 9 = .ok (.iconst 1, 1) := by decide +kernel
theorem dX5_refusalFor_10 : decode cX5_refusalFor 10 = .ok (.isub, 1) := by decide +kernel
theorem dX5_refusalFor_11 : decode cX5_refusalFor 11 = .ok (.invokestatic 260, 3) := by decide +kernel
theorem dX5_refusalFor_14 : decode cX5_refusalFor 14 = .ok (.ifCond .ne 7, 3) := by decide +kernel
theorem dX5_refusalFor_17 : decode cX5_refusalFor 17 = .ok (.getstatic 343, 3) := by decide +kernel
theorem dX5_refusalFor_20 : decode cX5_refusalFor 20 = .ok (.areturn, 1) := by decide +kernel
theorem dX5_refusalFor_21 : decode cX5_refusalFor 21 = .ok (.iload_n 2, 1) := by decide +kernel
theorem dX5_refusalFor_22 : decode cX5_refusalFor 22 = .ok (.ifCond .eq 9, 3) := by decide +kernel
theorem dX5_refusalFor_25 : decode cX5_refusalFor 25 = .ok (.getstatic 333, 3) := by decide +kernel
theorem dX5_refusalFor_28 : decode cX5_refusalFor 28 = .ok (.goto 6, 3) := by decide +kernel
theorem dX5_refusalFor_31 : decode cX5_refusalFor 31 = .ok (.getstatic 327, 3) := by decide +kernel
theorem dX5_refusalFor_34 : decode cX5_refusalFor 34 = .ok (.areturn, 1) := by decide +kernel
theorem dX5_raise_0 : decode cX5_raise 0 = .ok (.aload_n 0, 1) := by decide +kernel
theorem dX5_raise_1 : decode cX5_raise 1 = .ok (.getstatic 343, 3) := by decide +kernel
theorem dX5_raise_4 : decode cX5_raise 4 = .ok (.if_acmp .ne 14, 3) := by decide +kernel
theorem dX5_raise_7 : decode cX5_raise 7 = .ok (.new 251, 3) := by decide +kernel
theorem dX5_raise_10 : decode cX5_raise 10 = .ok (.dup, 1) := by decide +kernel
theorem dX5_raise_11 : decode cX5_raise 11 = .ok (.ldc_w 346, 3) := by decide +kernel
theorem dX5_raise_14 : decode cX5_raise 14 = .ok (.invokespecial 255, 3) := by decide +kernel
theorem dX5_raise_17 : decode cX5_raise 17 = .ok (.athrow, 1) := by decide +kernel
theorem dX5_raise_18 : decode cX5_raise 18 = .ok (.aload_n 0, 1) := by decide +kernel
theorem dX5_raise_19 : decode cX5_raise 19 = .ok (.getstatic 327, 3) := by decide +kernel
theorem dX5_raise_22 : decode cX5_raise 22 = .ok (.if_acmp .ne 14, 3) := by decide +kernel
theorem dX5_raise_25 : decode cX5_raise 25 = .ok (.new 183, 3) := by decide +kernel
theorem dX5_raise_28 : decode cX5_raise 28 = .ok (.dup, 1) := by decide +kernel
theorem dX5_raise_29 : decode cX5_raise 29 = .ok (.ldc_w 348, 3) := by decide +kernel
theorem dX5_raise_32 : decode cX5_raise 32 = .ok (.invokespecial 187, 3) := by decide +kernel
theorem dX5_raise_35 : decode cX5_raise 35 = .ok (.athrow, 1) := by decide +kernel
theorem dX5_raise_36 : decode cX5_raise 36 = .ok (.aload_n 0, 1) := by decide +kernel
theorem dX5_raise_37 : decode cX5_raise 37 = .ok (.getstatic 336, 3) := by decide +kernel
theorem dX5_raise_40 : decode cX5_raise 40 = .ok (.if_acmp .ne 14, 3) := by decide +kernel
theorem dX5_raise_43 : decode cX5_raise 43 = .ok (.new 266, 3) := by decide +kernel
theorem dX5_raise_46 : decode cX5_raise 46 = .ok (.dup, 1) := by decide +kernel
theorem dX5_raise_47 : decode cX5_raise 47 = .ok (.ldc_w 350, 3) := by decide +kernel
theorem dX5_raise_50 : decode cX5_raise 50 = .ok (.invokespecial 270, 3) := by decide +kernel
theorem dX5_raise_53 : decode cX5_raise 53 = .ok (.athrow, 1) := by decide +kernel
theorem dX5_raise_54 : decode cX5_raise 54 = .ok (.return_, 1) := by decide +kernel
theorem dX5_perform_0 : decode cX5_perform 0 = .ok (.getstatic 319, 3) := by decide +kernel
theorem dX5_perform_3 : decode cX5_perform 3 = .ok (.aload_n 1, 1) := by decide +kernel
theorem dX5_perform_4 : decode cX5_perform 4 = .ok (.invokevirtual 324, 3) := by decide +kernel
theorem dX5_perform_7 : decode cX5_perform 7 = .ok (.iaload, 1) := by decide +kernel
theorem dX5_perform_8 : decode cX5_perform 8 = .ok (.tableswitch 135 1 7 #[44, 53, 74, 87, 96, 105, 118], 44) := by decide +kernel
theorem dX5_perform_52 : decode cX5_perform 52 = .ok (.aload_n 0, 1) := by decide +kernel
theorem dX5_perform_53 : decode cX5_perform 53 = .ok (.getfield 12, 3) := by decide +kernel
theorem dX5_perform_56 : decode cX5_perform 56 = .ok (.iload_n 2, 1) := by decide +kernel
theorem dX5_perform_57 : decode cX5_perform 57 = .ok (.invokevirtual 352, 3) := by decide +kernel
theorem dX5_perform_60 : decode cX5_perform 60 = .ok (.ireturn, 1) := by decide +kernel
theorem dX5_perform_61 : decode cX5_perform 61 = .ok (.aload_n 0, 1) := by decide +kernel
theorem dX5_perform_62 : decode cX5_perform 62 = .ok (.getfield 12, 3) := by decide +kernel
theorem dX5_perform_65 : decode cX5_perform 65 = .ok (.aload_n 0, 1) := by decide +kernel
theorem dX5_perform_66 : decode cX5_perform 66 = .ok (.getfield 12, 3) := by decide +kernel
theorem dX5_perform_69 : decode cX5_perform 69 = .ok (.iload_n 2, 1) := by decide +kernel
theorem dX5_perform_70 : decode cX5_perform 70 = .ok (.invokevirtual 81, 3) := by decide +kernel
theorem dX5_perform_73 : decode cX5_perform 73 = .ok (.iload_n 3, 1) := by decide +kernel
theorem dX5_perform_74 : decode cX5_perform 74 = .ok (.iload 4, 2) := by decide +kernel
theorem dX5_perform_76 : decode cX5_perform 76 = .ok (.iload 5, 2) := by decide +kernel
theorem dX5_perform_78 : decode cX5_perform 78 = .ok (.invokevirtual 355, 3) := by decide +kernel
theorem dX5_perform_81 : decode cX5_perform 81 = .ok (.ireturn, 1) := by decide +kernel
theorem dX5_perform_82 : decode cX5_perform 82 = .ok (.aload_n 0, 1) := by decide +kernel
theorem dX5_perform_83 : decode cX5_perform 83 = .ok (.getfield 12, 3) := by decide +kernel
theorem dX5_perform_86 : decode cX5_perform 86 = .ok (.iload_n 2, 1) := by decide +kernel
theorem dX5_perform_87 : decode cX5_perform 87 = .ok (.invokevirtual 81, 3) := by decide +kernel
theorem dX5_perform_90 : decode cX5_perform 90 = .ok (.iload_n 3, 1) := by decide +kernel
theorem dX5_perform_91 : decode cX5_perform 91 = .ok (.invokevirtual 359, 3) := by decide +kernel
theorem dX5_perform_94 : decode cX5_perform 94 = .ok (.ireturn, 1) := by decide +kernel
theorem dX5_perform_95 : decode cX5_perform 95 = .ok (.aload_n 0, 1) := by decide +kernel
theorem dX5_perform_96 : decode cX5_perform 96 = .ok (.getfield 12, 3) := by decide +kernel
theorem dX5_perform_99 : decode cX5_perform 99 = .ok (.iload_n 2, 1) := by decide +kernel
theorem dX5_perform_100 : decode cX5_perform 100 = .ok (.invokevirtual 362, 3) := by decide +kernel
theorem dX5_perform_103 : decode cX5_perform 103 = .ok (.ireturn, 1) := by decide +kernel
theorem dX5_perform_104 : decode cX5_perform 104 = .ok (.aload_n 0, 1) := by decide +kernel
theorem dX5_perform_105 : decode cX5_perform 105 = .ok (.getfield 12, 3) := by decide +kernel
theorem dX5_perform_108 : decode cX5_perform 108 = .ok (.iload_n 2, 1) := by decide +kernel
theorem dX5_perform_109 : decode cX5_perform 109 = .ok (.invokevirtual 365, 3) := by decide +kernel
theorem dX5_perform_112 : decode cX5_perform 112 = .ok (.ireturn, 1) := by decide +kernel
theorem dX5_perform_113 : decode cX5_perform 113 = .ok (.aload_n 0, 1) := by decide +kernel
theorem dX5_perform_114 : decode cX5_perform 114 = .ok (.getfield 12, 3) := by decide +kernel
theorem dX5_perform_117 : decode cX5_perform 117 = .ok (.iload_n 2, 1) := by decide +kernel
theorem dX5_perform_118 : decode cX5_perform 118 = .ok (.invokevirtual 81, 3) := by decide +kernel
theorem dX5_perform_121 : decode cX5_perform 121 = .ok (.iload_n 3, 1) := by decide +kernel
theorem dX5_perform_122 : decode cX5_perform 122 = .ok (.invokevirtual 368, 3) := by decide +kernel
theorem dX5_perform_125 : decode cX5_perform 125 = .ok (.ireturn, 1) := by decide +kernel
theorem dX5_perform_126 : decode cX5_perform 126 = .ok (.aload_n 0, 1) := by decide +kernel
theorem dX5_perform_127 : decode cX5_perform 127 = .ok (.getfield 12, 3) := by decide +kernel
theorem dX5_perform_130 : decode cX5_perform 130 = .ok (.aload_n 0, 1) := by decide +kernel
theorem dX5_perform_131 : decode cX5_perform 131 = .ok (.getfield 12, 3) := by decide +kernel
theorem dX5_perform_134 : decode cX5_perform 134 = .ok (.iload_n 2, 1) := by decide +kernel
theorem dX5_perform_135 : decode cX5_perform 135 = .ok (.invokevirtual 81, 3) := by decide +kernel
theorem dX5_perform_138 : decode cX5_perform 138 = .ok (.iload_n 3, 1) := by decide +kernel
theorem dX5_perform_139 : decode cX5_perform 139 = .ok (.invokevirtual 371, 3) := by decide +kernel
theorem dX5_perform_142 : decode cX5_perform 142 = .ok (.ireturn, 1) := by decide +kernel
theorem dX5_perform_143 : decode cX5_perform 143 = .ok (.aload_n 0, 1) := by decide +kernel
theorem dX5_perform_144 : decode cX5_perform 144 = .ok (.getfield 12, 3) := by decide +kernel
theorem dX5_perform_147 : decode cX5_perform 147 = .ok (.invokevirtual 374, 3) := by decide +kernel
theorem dX5_perform_150 : decode cX5_perform 150 = .ok (.ireturn, 1) := by decide +kernel
theorem dX5_keepForUndo_0 : decode cX5_keepForUndo 0 = .ok (.aload_n 0, 1) := by decide +kernel
theorem dX5_keepForUndo_1 : decode cX5_keepForUndo 1 = .ok (.getfield 33, 3) := by decide +kernel
theorem dX5_keepForUndo_4 : decode cX5_keepForUndo 4 = .ok (.ifCond .lt 31, 3) := by decide +kernel
theorem dX5_keepForUndo_7 : decode cX5_keepForUndo 7 = .ok (.aload_n 0, 1) := by decide +kernel
theorem dX5_keepForUndo_8 : decode cX5_keepForUndo 8 = .ok (.getfield 33, 3) := by decide +kernel
theorem dX5_keepForUndo_11 : decode cX5_keepForUndo 11 = .ok (.aload_n 0, 1) := by decide +kernel
theorem dX5_keepForUndo_12 : decode cX5_keepForUndo 12 = .ok (.getfield 19, 3) := by decide +kernel
theorem dX5_keepForUndo_15 : decode cX5_keepForUndo 15 = .ok (.arraylength, 1) := by decide +kernel
theorem dX5_keepForUndo_16 : decode cX5_keepForUndo 16 = .ok (.if_icmp .ge 19, 3) := by decide +kernel
theorem dX5_keepForUndo_19 : decode cX5_keepForUndo 19 = .ok (.aload_n 0, 1) := by decide +kernel
theorem dX5_keepForUndo_20 : decode cX5_keepForUndo 20 = .ok (.getfield 19, 3) := by decide +kernel
theorem dX5_keepForUndo_23 : decode cX5_keepForUndo 23 = .ok (.aload_n 0, 1) := by decide +kernel
theorem dX5_keepForUndo_24 : decode cX5_keepForUndo 24 = .ok (.getfield 33, 3) := by decide +kernel
theorem dX5_keepForUndo_27 : decode cX5_keepForUndo 27 = .ok (.aaload, 1) := by decide +kernel
theorem dX5_keepForUndo_28 : decode cX5_keepForUndo 28 = .ok (.aload_n 0, 1) := by decide +kernel
theorem dX5_keepForUndo_29 : decode cX5_keepForUndo 29 = .ok (.getfield 12, 3) := by decide +kernel
theorem dX5_keepForUndo_32 : decode cX5_keepForUndo 32 = .ok (.invokevirtual 302, 3) := by decide +kernel
theorem dX5_keepForUndo_35 : decode cX5_keepForUndo 35 = .ok (.return_, 1) := by decide +kernel
theorem dX5_takeBack_0 : decode cX5_takeBack 0 = .ok (.aload_n 0, 1) := by decide +kernel
theorem dX5_takeBack_1 : decode cX5_takeBack 1 = .ok (.getfield 33, 3) := by decide +kernel
theorem dX5_takeBack_4 : decode cX5_takeBack 4 = .ok (.ifCond .lt 31, 3) := by decide +kernel
theorem dX5_takeBack_7 : decode cX5_takeBack 7 = .ok (.aload_n 0, 1) := by decide +kernel
theorem dX5_takeBack_8 : decode cX5_takeBack 8 = .ok (.getfield 33, 3) := by decide +kernel
theorem dX5_takeBack_11 : decode cX5_takeBack 11 = .ok (.aload_n 0, 1) := by decide +kernel
theorem dX5_takeBack_12 : decode cX5_takeBack 12 = .ok (.getfield 19, 3) := by decide +kernel
theorem dX5_takeBack_15 : decode cX5_takeBack 15 = .ok (.arraylength, 1) := by decide +kernel
theorem dX5_takeBack_16 : decode cX5_takeBack 16 = .ok (.if_icmp .ge 19, 3) := by decide +kernel
theorem dX5_takeBack_19 : decode cX5_takeBack 19 = .ok (.aload_n 0, 1) := by decide +kernel
theorem dX5_takeBack_20 : decode cX5_takeBack 20 = .ok (.getfield 12, 3) := by decide +kernel
theorem dX5_takeBack_23 : decode cX5_takeBack 23 = .ok (.aload_n 0, 1) := by decide +kernel
theorem dX5_takeBack_24 : decode cX5_takeBack 24 = .ok (.getfield 19, 3) := by decide +kernel
theorem dX5_takeBack_27 : decode cX5_takeBack 27 = .ok (.aload_n 0, 1) := by decide +kernel
theorem dX5_takeBack_28 : decode cX5_takeBack 28 = .ok (.getfield 33, 3) := by decide +kernel
theorem dX5_takeBack_31 : decode cX5_takeBack 31 = .ok (.aaload, 1) := by decide +kernel
theorem dX5_takeBack_32 : decode cX5_takeBack 32 = .ok (.invokevirtual 302, 3) := by decide +kernel
theorem dX5_takeBack_35 : decode cX5_takeBack 35 = .ok (.return_, 1) := by decide +kernel
theorem dX5_countChange_0 : decode cX5_countChange 0 = .ok (.aload_n 0, 1) := by decide +kernel
theorem dX5_countChange_1 : decode cX5_countChange 1 = .ok (.getfield 33, 3) := by decide +kernel
theorem dX5_countChange_4 : decode cX5_countChange 4 = .ok (.bipush 8, 2) := by decide +kernel
theorem dX5_countChange_6 : decode cX5_countChange 6 = .ok (.if_icmp .ge 16, 3) := by decide +kernel
theorem dX5_countChange_9 : decode cX5_countChange 9 = .ok (.aload_n 0, 1) := by decide +kernel
theorem dX5_countChange_10 : decode cX5_countChange 10 = .ok (.dup, 1) := by decide +kernel
theorem dX5_countChange_11 : decode cX5_countChange 11 = .ok (.getfield 33, 3) := by decide +kernel
theorem dX5_countChange_14 : decode cX5_countChange 14 = .ok (.iconst 1, 1) := by decide +kernel
theorem dX5_countChange_15 : decode cX5_countChange 15 = .ok (.iadd, 1) := by decide +kernel
theorem dX5_countChange_16 : decode cX5_countChange 16 = .ok (.putfield 33, 3) := by decide +kernel
theorem dX5_countChange_19 : decode cX5_countChange 19 = .ok (.goto 7, 3) := by decide +kernel
theorem dX5_countChange_22 : decode cX5_countChange 22 = .ok (.aload_n 0, 1) := by decide +kernel
theorem dX5_countChange_23 : decode cX5_countChange 23 = .ok (.invokevirtual 377, 3) := by decide +kernel
theorem dX5_countChange_26 : decode cX5_countChange 26 = .ok (.return_, 1) := by decide +kernel
theorem dX5_moveOldestToEnd_0 : decode cX5_moveOldestToEnd 0 = .ok (.iconst 1, 1) := by decide +kernel
theorem dX5_moveOldestToEnd_1 : decode cX5_moveOldestToEnd 1 = .ok (.istore_n 1, 1) := by decide +kernel
theorem dX5_moveOldestToEnd_2 : decode cX5_moveOldestToEnd 2 = .ok (.iload_n 1, 1) := by decide +kernel
theorem dX5_moveOldestToEnd_3 : decode cX5_moveOldestToEnd 3 = .ok (.aload_n 0, 1) := by decide +kernel
theorem dX5_moveOldestToEnd_4 : decode cX5_moveOldestToEnd 4 = .ok (.getfield 19, 3) := by decide +kernel
theorem dX5_moveOldestToEnd_7 : decode cX5_moveOldestToEnd 7 = .ok (.arraylength, 1) := by decide +kernel
theorem dX5_moveOldestToEnd_8 : decode cX5_moveOldestToEnd 8 = .ok (.if_icmp .ge 39, 3) := by decide +kernel
theorem dX5_moveOldestToEnd_11 : decode cX5_moveOldestToEnd 11 = .ok (.aload_n 0, 1) := by decide +kernel
theorem dX5_moveOldestToEnd_12 : decode cX5_moveOldestToEnd 12 = .ok (.getfield 19, 3) := by decide +kernel
theorem dX5_moveOldestToEnd_15 : decode cX5_moveOldestToEnd 15 = .ok (.iload_n 1, 1) := by decide +kernel
theorem dX5_moveOldestToEnd_16 : decode cX5_moveOldestToEnd 16 = .ok (.iconst 1, 1) := by decide +kernel
theorem dX5_moveOldestToEnd_17 : decode cX5_moveOldestToEnd 17 = .ok (.isub, 1) := by decide +kernel
theorem dX5_moveOldestToEnd_18 : decode cX5_moveOldestToEnd 18 = .ok (.aaload, 1) := by decide +kernel
theorem dX5_moveOldestToEnd_19 : decode cX5_moveOldestToEnd 19 = .ok (.astore_n 2, 1) := by decide +kernel
theorem dX5_moveOldestToEnd_20 : decode cX5_moveOldestToEnd 20 = .ok (.aload_n 0, 1) := by decide +kernel
theorem dX5_moveOldestToEnd_21 : decode cX5_moveOldestToEnd 21 = .ok (.getfield 19, 3) := by decide +kernel
theorem dX5_moveOldestToEnd_24 : decode cX5_moveOldestToEnd 24 = .ok (.iload_n 1, 1) := by decide +kernel
theorem dX5_moveOldestToEnd_25 : decode cX5_moveOldestToEnd 25 = .ok (.iconst 1, 1) := by decide +kernel
theorem dX5_moveOldestToEnd_26 : decode cX5_moveOldestToEnd 26 = .ok (.isub, 1) := by decide +kernel
theorem dX5_moveOldestToEnd_27 : decode cX5_moveOldestToEnd 27 = .ok (.aload_n 0, 1) := by decide +kernel
theorem dX5_moveOldestToEnd_28 : decode cX5_moveOldestToEnd 28 = .ok (.getfield 19, 3) := by decide +kernel
theorem dX5_moveOldestToEnd_31 : decode cX5_moveOldestToEnd 31 = .ok (.iload_n 1, 1) := by decide +kernel
theorem dX5_moveOldestToEnd_32 : decode cX5_moveOldestToEnd 32 = .ok (.aaload, 1) := by decide +kernel
theorem dX5_moveOldestToEnd_33 : decode cX5_moveOldestToEnd 33 = .ok (.aastore, 1) := by decide +kernel
theorem dX5_moveOldestToEnd_34 : decode cX5_moveOldestToEnd 34 = .ok (.aload_n 0, 1) := by decide +kernel
theorem dX5_moveOldestToEnd_35 : decode cX5_moveOldestToEnd 35 = .ok (.getfield 19, 3) := by decide +kernel
theorem dX5_moveOldestToEnd_38 : decode cX5_moveOldestToEnd 38 = .ok (.iload_n 1, 1) := by decide +kernel
theorem dX5_moveOldestToEnd_39 : decode cX5_moveOldestToEnd 39 = .ok (.aload_n 2, 1) := by decide +kernel
theorem dX5_moveOldestToEnd_40 : decode cX5_moveOldestToEnd 40 = .ok (.aastore, 1) := by decide +kernel
theorem dX5_moveOldestToEnd_41 : decode cX5_moveOldestToEnd 41 = .ok (.iinc 1 1, 3) := by decide +kernel
theorem dX5_moveOldestToEnd_44 : decode cX5_moveOldestToEnd 44 = .ok (.goto (-42), 3) := by decide +kernel
theorem dX5_moveOldestToEnd_47 : decode cX5_moveOldestToEnd 47 = .ok (.return_, 1) := by decide +kernel
theorem dX5_findFormError_0 : decode cX5_findFormError 0 = .ok (.iconst 0, 1) := by decide +kernel
theorem dX5_findFormError_1 : decode cX5_findFormError 1 = .ok (.istore_n 1, 1) := by decide +kernel
theorem dX5_findFormError_2 : decode cX5_findFormError 2 = .ok (.iconst 0, 1) := by decide +kernel
theorem dX5_findFormError_3 : decode cX5_findFormError 3 = .ok (.istore_n 2, 1) := by decide +kernel
theorem dX5_findFormError_4 : decode cX5_findFormError 4 = .ok (.iload_n 2, 1) := by decide +kernel
theorem dX5_findFormError_5 : decode cX5_findFormError 5 = .ok (.aload_n 0, 1) := by decide +kernel
theorem dX5_findFormError_6 : decode cX5_findFormError 6 = .ok (.getfield 26, 3) := by decide +kernel
theorem dX5_findFormError_9 : decode cX5_findFormError 9 = .ok (.invokevirtual 245, 3) := by decide +kernel
theorem dX5_findFormError_12 : decode cX5_findFormError 12 = .ok (.if_icmp .gt 49, 3) := by decide +kernel
theorem dX5_findFormError_15 : decode cX5_findFormError 15 = .ok (.aload_n 0, 1) := by decide +kernel
theorem dX5_findFormError_16 : decode cX5_findFormError 16 = .ok (.iload_n 1, 1) := by decide +kernel
theorem dX5_findFormError_17 : decode cX5_findFormError 17 = .ok (.invokevirtual 285, 3) := by decide +kernel
theorem dX5_findFormError_20 : decode cX5_findFormError 20 = .ok (.istore_n 3, 1) := by decide +kernel
theorem dX5_findFormError_21 : decode cX5_findFormError 21 = .ok (.aload_n 0, 1) := by decide +kernel
theorem dX5_findFormError_22 : decode cX5_findFormError 22 = .ok (.iload_n 1, 1) := by decide +kernel
theorem dX5_findFormError_23 : decode cX5_findFormError 23 = .ok (.iload_n 3, 1) := by decide +kernel
theorem dX5_findFormError_24 : decode cX5_findFormError 24 = .ok (.invokevirtual 380, 3) := by decide +kernel
theorem dX5_findFormError_27 : decode cX5_findFormError 27 = .ok (.ifnonnull 11, 3) := by decide +kernel
theorem dX5_findFormError_30 : decode cX5_findFormError 30 = .ok (.iload_n 1, 1) := by decide +kernel
theorem dX5_findFormError_31 : decode cX5_findFormError 31 = .ok (.aload_n 0, 1) := by decide +kernel
theorem dX5_findFormError_32 : decode cX5_findFormError 32 = .ok (.iload_n 1, 1) := by decide +kernel
theorem dX5_findFormError_33 : decode cX5_findFormError 33 = .ok (.invokevirtual 384, 3) := by decide +kernel
theorem dX5_findFormError_36 : decode cX5_findFormError 36 = .ok (.iadd, 1) := by decide +kernel
theorem dX5_findFormError_37 : decode cX5_findFormError 37 = .ok (.ireturn, 1) := by decide +kernel
theorem dX5_findFormError_38 : decode cX5_findFormError 38 = .ok (.iload_n 3, 1) := by decide +kernel
theorem dX5_findFormError_39 : decode cX5_findFormError 39 = .ok (.aload_n 0, 1) := by decide +kernel
theorem dX5_findFormError_40 : decode cX5_findFormError 40 = .ok (.getfield 26, 3) := by decide +kernel
theorem dX5_findFormError_43 : decode cX5_findFormError 43 = .ok (.invokevirtual 245, 3) := by decide +kernel
theorem dX5_findFormError_46 : decode cX5_findFormError 46 = .ok (.if_icmp .lt 5, 3) := by decide +kernel
theorem dX5_findFormError_49 : decode cX5_findFormError 49 = .ok (.iconst (-1), 1) := by decide +kernel
theorem dX5_findFormError_50 : decode cX5_findFormError 50 = .ok (.ireturn, 1) := by decide +kernel
theorem dX5_findFormError_51 : decode cX5_findFormError 51 = .ok (.iload_n 3, 1) := by decide +kernel
theorem dX5_findFormError_52 : decode cX5_findFormError 52 = .ok (.iconst 1, 1) := by decide +kernel
theorem dX5_findFormError_53 : decode cX5_findFormError 53 = .ok (.iadd, 1) := by decide +kernel
theorem dX5_findFormError_54 : decode cX5_findFormError 54 = .ok (.istore_n 1, 1) := by decide +kernel
theorem dX5_findFormError_55 : decode cX5_findFormError 55 = .ok (.iinc 2 1, 3) := by decide +kernel
theorem dX5_findFormError_58 : decode cX5_findFormError 58 = .ok (.goto (-54), 3) := by decide +kernel
theorem dX5_findFormError_61 : decode cX5_findFormError 61 = .ok (.iconst (-1), 1) := by decide +kernel
theorem dX5_findFormError_62 : decode cX5_findFormError 62 = .ok (.ireturn, 1) := by decide +kernel
theorem dX5_countCommands_0 : decode cX5_countCommands 0 = .ok (.iconst 1, 1) := by decide +kernel
theorem dX5_countCommands_1 : decode cX5_countCommands 1 = .ok (.istore_n 1, 1) := by decide +kernel
theorem dX5_countCommands_2 : decode cX5_countCommands 2 = .ok (.iconst 0, 1) := by decide +kernel
theorem dX5_countCommands_3 : decode cX5_countCommands 3 = .ok (.istore_n 2, 1) := by decide +kernel
theorem dX5_countCommands_4 : decode cX5_countCommands 4 = .ok (.iload_n 2, 1) := by decide +kernel
theorem dX5_countCommands_5 : decode cX5_countCommands 5 = .ok (.aload_n 0, 1) := by decide +kernel
theorem dX5_countCommands_6 : decode cX5_countCommands 6 = .ok (.getfield 26, 3) := by decide +kernel
theorem dX5_countCommands_9 : decode cX5_countCommands 9 = .ok (.invokevirtual 245, 3) := by decide +kernel
theorem dX5_countCommands_12 : decode cX5_countCommands 12 = .ok (.if_icmp .ge 25, 3) := by decide +kernel
theorem dX5_countCommands_15 : decode cX5_countCommands 15 = .ok (.aload_n 0, 1) := by decide +kernel
theorem dX5_countCommands_16 : decode cX5_countCommands 16 = .ok (.getfield 26, 3) := by decide +kernel
theorem dX5_countCommands_19 : decode cX5_countCommands 19 = .ok (.iload_n 2, 1) := by decide +kernel
theorem dX5_countCommands_20 : decode cX5_countCommands 20 = .ok (.invokevirtual 256, 3) := by decide +kernel
theorem dX5_countCommands_23 : decode cX5_countCommands 23 = .ok (.bipush 59, 2) := by decide +kernel
theorem dX5_countCommands_25 : decode cX5_countCommands 25 = .ok (.if_icmp .ne 6, 3) := by decide +kernel
theorem dX5_countCommands_28 : decode cX5_countCommands 28 = .ok (.iinc 1 1, 3) := by decide +kernel
theorem dX5_countCommands_31 : decode cX5_countCommands 31 = .ok (.iinc 2 1, 3) := by decide +kernel
theorem dX5_countCommands_34 : decode cX5_countCommands 34 = .ok (.goto (-30), 3) := by decide +kernel
theorem dX5_countCommands_37 : decode cX5_countCommands 37 = .ok (.iload_n 1, 1) := by decide +kernel
theorem dX5_countCommands_38 : decode cX5_countCommands 38 = .ok (.ireturn, 1) := by decide +kernel
theorem dX5_runCommand_0 : decode cX5_runCommand 0 = .ok (.aload_n 0, 1) := by decide +kernel
theorem dX5_runCommand_1 : decode cX5_runCommand 1 = .ok (.iload_n 1, 1) := by decide +kernel
theorem dX5_runCommand_2 : decode cX5_runCommand 2 = .ok (.invokevirtual 285, 3) := by decide +kernel
theorem dX5_runCommand_5 : decode cX5_runCommand 5 = .ok (.istore_n 2, 1) := by decide +kernel
theorem dX5_runCommand_6 : decode cX5_runCommand 6 = .ok (.aload_n 0, 1) := by decide +kernel
theorem dX5_runCommand_7 : decode cX5_runCommand 7 = .ok (.iload_n 1, 1) := by decide +kernel
theorem dX5_runCommand_8 : decode cX5_runCommand 8 = .ok (.iload_n 2, 1) := by decide +kernel
theorem dX5_runCommand_9 : decode cX5_runCommand 9 = .ok (.invokevirtual 380, 3) := by decide +kernel
theorem dX5_runCommand_12 : decode cX5_runCommand 12 = .ok (.astore_n 3, 1) := by decide +kernel
theorem dX5_runCommand_13 : decode cX5_runCommand 13 = .ok (.aload_n 3, 1) := by decide +kernel
theorem dX5_runCommand_14 : decode cX5_runCommand 14 = .ok (.ifnonnull 5, 3) := by decide +kernel
theorem dX5_runCommand_17 : decode cX5_runCommand 17 = .ok (.iconst 0, 1) := by decide +kernel
theorem dX5_runCommand_18 : decode cX5_runCommand 18 = .ok (.ireturn, 1) := by decide +kernel
theorem dX5_runCommand_19 : decode cX5_runCommand 19 = .ok (.aload_n 0, 1) := by decide +kernel
theorem dX5_runCommand_20 : decode cX5_runCommand 20 = .ok (.iload_n 1, 1) := by decide +kernel
theorem dX5_runCommand_21 : decode cX5_runCommand 21 = .ok (.iload_n 2, 1) := by decide +kernel
theorem dX5_runCommand_22 : decode cX5_runCommand 22 = .ok (.iconst 0, 1) := by decide +kernel
theorem dX5_runCommand_23 : decode cX5_runCommand 23 = .ok (.invokevirtual 387, 3) := by decide +kernel
theorem dX5_runCommand_26 : decode cX5_runCommand 26 = .ok (.istore 4, 2) := by decide +kernel
theorem dX5_runCommand_28 : decode cX5_runCommand 28 = .ok (.aload_n 0, 1) := by decide +kernel
theorem dX5_runCommand_29 : decode cX5_runCommand 29 = .ok (.iload_n 1, 1) := by decide +kernel
theorem dX5_runCommand_30 : decode cX5_runCommand 30 = .ok (.iload_n 2, 1) := by decide +kernel
theorem dX5_runCommand_31 : decode cX5_runCommand 31 = .ok (.iconst 1, 1) := by decide +kernel
theorem dX5_runCommand_32 : decode cX5_runCommand 32 = .ok (.invokevirtual 387, 3) := by decide +kernel
theorem dX5_runCommand_35 : decode cX5_runCommand 35 = .ok (.istore 5, 2) := by decide +kernel
theorem dX5_runCommand_37 : decode cX5_runCommand 37 = .ok (.aload_n 0, 1) := by decide +kernel
theorem dX5_runCommand_38 : decode cX5_runCommand 38 = .ok (.iload_n 1, 1) := by decide +kernel
theorem dX5_runCommand_39 : decode cX5_runCommand 39 = .ok (.iload_n 2, 1) := by decide +kernel
theorem dX5_runCommand_40 : decode cX5_runCommand 40 = .ok (.iconst 2, 1) := by decide +kernel
theorem dX5_runCommand_41 : decode cX5_runCommand 41 = .ok (.invokevirtual 387, 3) := by decide +kernel
theorem dX5_runCommand_44 : decode cX5_runCommand 44 = .ok (.istore 6, 2) := by decide +kernel
theorem dX5_runCommand_46 : decode cX5_runCommand 46 = .ok (.aload_n 0, 1) := by decide +kernel
theorem dX5_runCommand_47 : decode cX5_runCommand 47 = .ok (.iload_n 1, 1) := by decide +kernel
theorem dX5_runCommand_48 : decode cX5_runCommand 48 = .ok (.iload_n 2, 1) := by decide +kernel
theorem dX5_runCommand_49 : decode cX5_runCommand 49 = .ok (.iconst 3, 1) := by decide +kernel
theorem dX5_runCommand_50 : decode cX5_runCommand 50 = .ok (.invokevirtual 387, 3) := by decide +kernel
theorem dX5_runCommand_53 : decode cX5_runCommand 53 = .ok (.istore 7, 2) := by decide +kernel
theorem dX5_runCommand_55 : decode cX5_runCommand 55 = .ok (.aload_n 3, 1) := by decide +kernel
theorem dX5_runCommand_56 : decode cX5_runCommand 56 = .ok (.getstatic 47, 3) := by decide +kernel
theorem dX5_runCommand_59 : decode cX5_runCommand 59 = .ok (.if_acmp .ne 19, 3) := by decide +kernel
theorem dX5_runCommand_62 : decode cX5_runCommand 62 = .ok (.iload 5, 2) := by decide +kernel
theorem dX5_runCommand_64 : decode cX5_runCommand 64 = .ok (.iconst (-1), 1) := by decide +kernel
theorem dX5_runCommand_65 : decode cX5_runCommand 65 = .ok (.if_icmp .eq 13, 3) := by decide +kernel
theorem dX5_runCommand_68 : decode cX5_runCommand 68 = .ok (.bipush 10, 2) := by decide +kernel
theorem dX5_runCommand_70 : decode cX5_runCommand 70 = .ok (.iload 4, 2) := by decide +kernel
theorem dX5_runCommand_72 : decode cX5_runCommand 72 = .ok (.imul, 1) := by decide +kernel
theorem dX5_runCommand_73 : decode cX5_runCommand 73 = .ok (.iload 5, 2) := by decide +kernel
theorem dX5_runCommand_75 : decode cX5_runCommand 75 = .ok (.iadd, 1) := by decide +kernel
theorem dX5_runCommand_76 : decode cX5_runCommand 76 = .ok (.istore 4, 2) := by decide +kernel
theorem dX5_runCommand_78 : decode cX5_runCommand 78 = .ok (.aload_n 3, 1) := by decide +kernel
theorem dX5_runCommand_79 : decode cX5_runCommand 79 = .ok (.getstatic 57, 3) := by decide +kernel
theorem dX5_runCommand_82 : decode cX5_runCommand 82 = .ok (.if_acmp .ne 12, 3) := by decide +kernel
theorem dX5_runCommand_85 : decode cX5_runCommand 85 = .ok (.iload 7, 2) := by decide +kernel
theorem dX5_runCommand_87 : decode cX5_runCommand 87 = .ok (.iconst (-1), 1) := by decide +kernel
theorem dX5_runCommand_88 : decode cX5_runCommand 88 = .ok (.if_icmp .ne 6, 3) := by decide +kernel
theorem dX5_runCommand_91 : decode cX5_runCommand 91 = .ok (.iconst 1, 1) := by decide +kernel
theorem dX5_runCommand_92 : decode cX5_runCommand 92 = .ok (.istore 7, 2) := by decide +kernel
theorem dX5_runCommand_94 : decode cX5_runCommand 94 = .ok (.aload_n 0, 1) := by decide +kernel
theorem dX5_runCommand_95 : decode cX5_runCommand 95 = .ok (.aload_n 3, 1) := by decide +kernel
theorem dX5_runCommand_96 : decode cX5_runCommand 96 = .ok (.iload 4, 2) := by decide +kernel
theorem dX5_runCommand_98 : decode cX5_runCommand 98 = .ok (.iload 5, 2) := by decide +kernel
theorem dX5_runCommand_100 : decode cX5_runCommand 100 = .ok (.iload 6, 2) := by decide +kernel
theorem dX5_runCommand_102 : decode cX5_runCommand 102 = .ok (.iload 7, 2) := by decide +kernel
theorem dX5_runCommand_104 : decode cX5_runCommand 104 = .ok (.invokevirtual 308, 3) := by decide +kernel
theorem dX5_runCommand_107 : decode cX5_runCommand 107 = .ok (.getstatic 333, 3) := by decide +kernel
theorem dX5_runCommand_110 : decode cX5_runCommand 110 = .ok (.if_acmp .eq 5, 3) := by decide +kernel
theorem dX5_runCommand_113 : decode cX5_runCommand 113 = .ok (.iconst 0, 1) := by decide +kernel
theorem dX5_runCommand_114 : decode cX5_runCommand 114 = .ok (.ireturn, 1) := by decide +kernel
theorem dX5_runCommand_115 : decode cX5_runCommand 115 = .ok (.aload_n 0, 1) := by decide +kernel
theorem dX5_runCommand_116 : decode cX5_runCommand 116 = .ok (.aload_n 3, 1) := by decide +kernel
theorem dX5_runCommand_117 : decode cX5_runCommand 117 = .ok (.iload 4, 2) := by decide +kernel
theorem dX5_runCommand_119 : decode cX5_runCommand 119 = .ok (.iload 5, 2) := by decide +kernel
theorem dX5_runCommand_121 : decode cX5_runCommand 121 = .ok (.iload 6, 2) := by decide +kernel
theorem dX5_runCommand_123 : decode cX5_runCommand 123 = .ok (.iload 7, 2) := by decide +kernel
theorem dX5_runCommand_125 : decode cX5_runCommand 125 = .ok (.invokevirtual 316, 3) := by decide +kernel
theorem dX5_runCommand_128 : decode cX5_runCommand 128 = .ok (.pop, 1) := by decide +kernel
theorem dX5_runCommand_129 : decode cX5_runCommand 129 = .ok (.iconst 1, 1) := by decide +kernel
theorem dX5_runCommand_130 : decode cX5_runCommand 130 = .ok (.ireturn, 1) := by decide +kernel
theorem dX5_commandEnd_0 : decode cX5_commandEnd 0 = .ok (.iload_n 1, 1) := by decide +kernel
theorem dX5_commandEnd_1 : decode cX5_commandEnd 1 = .ok (.istore_n 2, 1) := by decide +kernel
theorem dX5_commandEnd_2 : decode cX5_commandEnd 2 = .ok (.iload_n 2, 1) := by decide +kernel
theorem dX5_commandEnd_3 : decode cX5_commandEnd 3 = .ok (.aload_n 0, 1) := by decide +kernel
theorem dX5_commandEnd_4 : decode cX5_commandEnd 4 = .ok (.getfield 26, 3) := by decide +kernel
theorem dX5_commandEnd_7 : decode cX5_commandEnd 7 = .ok (.invokevirtual 245, 3) := by decide +kernel
theorem dX5_commandEnd_10 : decode cX5_commandEnd 10 = .ok (.if_icmp .ge 24, 3) := by decide +kernel
theorem dX5_commandEnd_13 : decode cX5_commandEnd 13 = .ok (.aload_n 0, 1) := by decide +kernel
theorem dX5_commandEnd_14 : decode cX5_commandEnd 14 = .ok (.getfield 26, 3) := by decide +kernel
theorem dX5_commandEnd_17 : decode cX5_commandEnd 17 = .ok (.iload_n 2, 1) := by decide +kernel
theorem dX5_commandEnd_18 : decode cX5_commandEnd 18 = .ok (.invokevirtual 256, 3) := by decide +kernel
theorem dX5_commandEnd_21 : decode cX5_commandEnd 21 = .ok (.bipush 59, 2) := by decide +kernel
theorem dX5_commandEnd_23 : decode cX5_commandEnd 23 = .ok (.if_icmp .ne 5, 3) := by decide +kernel
theorem dX5_commandEnd_26 : decode cX5_commandEnd 26 = .ok (.iload_n 2, 1) := by decide +kernel
theorem dX5_commandEnd_27 : decode cX5_commandEnd 27 = .ok (.ireturn, 1) := by decide +kernel
theorem dX5_commandEnd_28 : decode cX5_commandEnd 28 = .ok (.iinc 2 1, 3) := by decide +kernel
theorem dX5_commandEnd_31 : decode cX5_commandEnd 31 = .ok (.goto (-29), 3) := by decide +kernel
theorem dX5_commandEnd_34 : decode cX5_commandEnd 34 = .ok (.aload_n 0, 1) := by decide +kernel
theorem dX5_commandEnd_35 : decode cX5_commandEnd 35 = .ok (.getfield 26, 3) := by decide +kernel
theorem dX5_commandEnd_38 : decode cX5_commandEnd 38 = .ok (.invokevirtual 245, 3) := by decide +kernel
theorem dX5_commandEnd_41 : decode cX5_commandEnd 41 = .ok (.ireturn, 1) := by decide +kernel
theorem dX5_commandAt_0 : decode cX5_commandAt 0 = .ok (.getstatic 391, 3) := by decide +kernel
theorem dX5_commandAt_3 : decode cX5_commandAt 3 = .ok (.astore_n 3, 1) := by decide +kernel
theorem dX5_commandAt_4 : decode cX5_commandAt 4 = .ok (.aload_n 3, 1) := by decide +kernel
theorem dX5_commandAt_5 : decode cX5_commandAt 5 = .ok (.arraylength, 1) := by decide +kernel
theorem dX5_commandAt_6 : decode cX5_commandAt 6 = .ok (.istore 4, 2) := by decide +kernel
theorem dX5_commandAt_8 : decode cX5_commandAt 8 = .ok (.iconst 0, 1) := by decide +kernel
theorem dX5_commandAt_9 : decode cX5_commandAt 9 = .ok (.istore 5, 2) := by decide +kernel
theorem dX5_commandAt_11 : decode cX5_commandAt 11 = .ok (.iload 5, 2) := by decide +kernel
theorem dX5_commandAt_13 : decode cX5_commandAt 13 = .ok (.iload 4, 2) := by decide +kernel
theorem dX5_commandAt_15 : decode cX5_commandAt 15 = .ok (.if_icmp .ge 73, 3) := by decide +kernel
theorem dX5_commandAt_18 : decode cX5_commandAt 18 = .ok (.aload_n 3, 1) := by decide +kernel
theorem dX5_commandAt_19 : decode cX5_commandAt 19 = .ok (.iload 5, 2) := by decide +kernel
theorem dX5_commandAt_21 : decode cX5_commandAt 21 = .ok (.aaload, 1) := by decide +kernel
theorem dX5_commandAt_22 : decode cX5_commandAt 22 = .ok (.astore 6, 2) := by decide +kernel
theorem dX5_commandAt_24 : decode cX5_commandAt 24 = .ok (.aload_n 0, 1) := by decide +kernel
theorem dX5_commandAt_25 : decode cX5_commandAt 25 = .ok (.aload 6, 2) := by decide +kernel
theorem dX5_commandAt_27 : decode cX5_commandAt 27 = .ok (.getfield 395, 3) := by decide +kernel
theorem dX5_commandAt_30 : decode cX5_commandAt 30 = .ok (.iload_n 1, 1) := by decide +kernel
theorem dX5_commandAt_31 : decode cX5_commandAt 31 = .ok (.invokevirtual 399, 3) := by decide +kernel
theorem dX5_commandAt_34 : decode cX5_commandAt 34 = .ok (.istore 7, 2) := by decide +kernel
theorem dX5_commandAt_36 : decode cX5_commandAt 36 = .ok (.iload 7, 2) := by decide +kernel
theorem dX5_commandAt_38 : decode cX5_commandAt 38 = .ok (.aload 6, 2) := by decide +kernel
theorem dX5_commandAt_40 : decode cX5_commandAt 40 = .ok (.getfield 403, 3) := by decide +kernel
theorem dX5_commandAt_43 : decode cX5_commandAt 43 = .ok (.if_icmp .eq 16, 3) := by decide +kernel
theorem dX5_commandAt_46 : decode cX5_commandAt 46 = .ok (.iload 7, 2) := by decide +kernel
theorem dX5_commandAt_48 : decode cX5_commandAt 48 = .ok (.aload 6, 2) := by decide +kernel
theorem dX5_commandAt_50 : decode cX5_commandAt 50 = .ok (.getfield 395, 3) := by decide +kernel
theorem dX5_commandAt_53 : decode cX5_commandAt 53 = .ok (.invokevirtual 406, 3) := by decide +kernel
theorem dX5_commandAt_56 : decode cX5_commandAt 56 = .ok (.if_icmp .ne 7, 3) := by decide +kernel
theorem dX5_commandAt_59 : decode cX5_commandAt 59 = .ok (.iconst 1, 1) := by decide +kernel
theorem dX5_commandAt_60 : decode cX5_commandAt 60 = .ok (.goto 4, 3) := by decide +kernel
theorem dX5_commandAt_63 : decode cX5_commandAt 63 = .ok (.iconst 0, 1) := by decide +kernel
theorem dX5_commandAt_64 : decode cX5_commandAt 64 = .ok (.istore 8, 2) := by decide +kernel
theorem dX5_commandAt_66 : decode cX5_commandAt 66 = .ok (.iload 8, 2) := by decide +kernel
theorem dX5_commandAt_68 : decode cX5_commandAt 68 = .ok (.ifCond .eq 14, 3) := by decide +kernel
theorem dX5_commandAt_71 : decode cX5_commandAt 71 = .ok (.iload 7, 2) := by decide +kernel
theorem dX5_commandAt_73 : decode cX5_commandAt 73 = .ok (.iload_n 2, 1) := by decide +kernel
theorem dX5_commandAt_74 : decode cX5_commandAt 74 = .ok (.iload_n 1, 1) := by decide +kernel
theorem dX5_commandAt_75 : decode cX5_commandAt 75 = .ok (.isub, 1) := by decide +kernel
theorem dX5_commandAt_76 : decode cX5_commandAt 76 = .ok (.if_icmp .ne 6, 3) := by decide +kernel
theorem dX5_commandAt_79 : decode cX5_commandAt 79 = .ok (.aload 6, 2) := by decide +kernel
theorem dX5_commandAt_81 : decode cX5_commandAt 81 = .ok (.areturn, 1) := by decide +kernel
theorem dX5_commandAt_82 : decode cX5_commandAt 82 = .ok (.iinc 5 1, 3) := by decide +kernel
theorem dX5_commandAt_85 : decode cX5_commandAt 85 = .ok (.goto (-74), 3) := by decide +kernel
theorem dX5_commandAt_88 : decode cX5_commandAt 88 = .ok (.aconst_null, 1) := by decide +kernel
theorem dX5_commandAt_89 : decode cX5_commandAt 89 = .ok (.areturn, 1) := by decide +kernel
theorem dX5_longestMatch_0 : decode cX5_longestMatch 0 = .ok (.iconst 0, 1) := by decide +kernel
theorem dX5_longestMatch_1 : decode cX5_longestMatch 1 = .ok (.istore_n 2, 1) := by decide +kernel
theorem dX5_longestMatch_2 : decode cX5_longestMatch 2 = .ok (.getstatic 391, 3) := by decide +kernel
theorem dX5_longestMatch_5 : decode cX5_longestMatch 5 = .ok (.astore_n 3, 1) := by decide +kernel
theorem dX5_longestMatch_6 : decode cX5_longestMatch 6 = .ok (.aload_n 3, 1) := by decide +kernel
theorem dX5_longestMatch_7 : decode cX5_longestMatch 7 = .ok (.arraylength, 1) := by decide +kernel
theorem dX5_longestMatch_8 : decode cX5_longestMatch 8 = .ok (.istore 4, 2) := by decide +kernel
theorem dX5_longestMatch_10 : decode cX5_longestMatch 10 = .ok (.iconst 0, 1) := by decide +kernel
theorem dX5_longestMatch_11 : decode cX5_longestMatch 11 = .ok (.istore 5, 2) := by decide +kernel
theorem dX5_longestMatch_13 : decode cX5_longestMatch 13 = .ok (.iload 5, 2) := by decide +kernel
theorem dX5_longestMatch_15 : decode cX5_longestMatch 15 = .ok (.iload 4, 2) := by decide +kernel
theorem dX5_longestMatch_17 : decode cX5_longestMatch 17 = .ok (.if_icmp .ge 30, 3) := by decide +kernel
theorem dX5_longestMatch_20 : decode cX5_longestMatch 20 = .ok (.aload_n 3, 1) := by decide +kernel
theorem dX5_longestMatch_21 : decode cX5_longestMatch 21 = .ok (.iload 5, 2) := by decide +kernel
theorem dX5_longestMatch_23 : decode cX5_longestMatch 23 = .ok (.aaload, 1) := by decide +kernel
theorem dX5_longestMatch_24 : decode cX5_longestMatch 24 = .ok (.astore 6, 2) := by decide +kernel
theorem dX5_longestMatch_26 : decode cX5_longestMatch 26 = .ok (.iload_n 2, 1) := by decide +kernel
theorem dX5_longestMatch_27 : decode cX5_longestMatch 27 = .ok (.aload_n 0, 1) := by decide +kernel
theorem dX5_longestMatch_28 : decode cX5_longestMatch 28 = .ok (.aload 6, 2) := by decide +kernel
theorem dX5_longestMatch_30 : decode cX5_longestMatch 30 = .ok (.getfield 395, 3) := by decide +kernel
theorem dX5_longestMatch_33 : decode cX5_longestMatch 33 = .ok (.iload_n 1, 1) := by decide +kernel
theorem dX5_longestMatch_34 : decode cX5_longestMatch 34 = .ok (.invokevirtual 399, 3) := by decide +kernel
theorem dX5_longestMatch_37 : decode cX5_longestMatch 37 = .ok (.invokestatic 409, 3) := by decide +kernel
theorem dX5_longestMatch_40 : decode cX5_longestMatch 40 = .ok (.istore_n 2, 1) := by decide +kernel
theorem dX5_longestMatch_41 : decode cX5_longestMatch 41 = .ok (.iinc 5 1, 3) := by decide +kernel
theorem dX5_longestMatch_44 : decode cX5_longestMatch 44 = .ok (.goto (-31), 3) := by decide +kernel
theorem dX5_longestMatch_47 : decode cX5_longestMatch 47 = .ok (.iload_n 2, 1) := by decide +kernel
theorem dX5_longestMatch_48 : decode cX5_longestMatch 48 = .ok (.ireturn, 1) := by decide +kernel
theorem dX5_matchedLength_0 : decode cX5_matchedLength 0 = .ok (.iconst 0, 1) := by decide +kernel
theorem dX5_matchedLength_1 : decode cX5_matchedLength 1 = .ok (.istore_n 3, 1) := by decide +kernel
theorem dX5_matchedLength_2 : decode cX5_matchedLength 2 = .ok (.iload_n 3, 1) := by decide +kernel
theorem dX5_matchedLength_3 : decode cX5_matchedLength 3 = .ok (.aload_n 1, 1) := by decide +kernel
theorem dX5_matchedLength_4 : decode cX5_matchedLength 4 = .ok (.invokevirtual 406, 3) := by decide +kernel
theorem dX5_matchedLength_7 : decode cX5_matchedLength 7 = .ok (.if_icmp .ge 43, 3) := by decide +kernel
theorem dX5_matchedLength_10 : decode cX5_matchedLength 10 = .ok (.iload_n 2, 1) := by decide +kernel
theorem dX5_matchedLength_11 : decode cX5_matchedLength 11 = .ok (.iload_n 3, 1) := by decide +kernel
theorem dX5_matchedLength_12 : decode cX5_matchedLength 12 = .ok (.iadd, 1) := by decide +kernel
theorem dX5_matchedLength_13 : decode cX5_matchedLength 13 = .ok (.aload_n 0, 1) := by decide +kernel
theorem dX5_matchedLength_14 : decode cX5_matchedLength 14 = .ok (.getfield 26, 3) := by decide +kernel
theorem dX5_matchedLength_17 : decode cX5_matchedLength 17 = .ok (.invokevirtual 245, 3) := by decide +kernel
theorem dX5_matchedLength_20 : decode cX5_matchedLength 20 = .ok (.if_icmp .ge 30, 3) := by decide +kernel
theorem dX5_matchedLength_23 : decode cX5_matchedLength 23 = .ok (.aload_n 1, 1) := by decide +kernel
theorem dX5_matchedLength_24 : decode cX5_matchedLength 24 = .ok (.iload_n 3, 1) := by decide +kernel
theorem dX5_matchedLength_25 : decode cX5_matchedLength 25 = .ok (.invokevirtual 414, 3) := by decide +kernel
theorem dX5_matchedLength_28 : decode cX5_matchedLength 28 = .ok (.aload_n 0, 1) := by decide +kernel
theorem dX5_matchedLength_29 : decode cX5_matchedLength 29 = .ok (.getfield 26, 3) := by decide +kernel
theorem dX5_matchedLength_32 : decode cX5_matchedLength 32 = .ok (.iload_n 2, 1) := by decide +kernel
theorem dX5_matchedLength_33 : decode cX5_matchedLength 33 = .ok (.iload_n 3, 1) := by decide +kernel
theorem dX5_matchedLength_34 : decode cX5_matchedLength 34 = .ok (.iadd, 1) := by decide +kernel
theorem dX5_matchedLength_35 : decode cX5_matchedLength 35 = .ok (.invokevirtual 256, 3) := by decide +kernel
theorem dX5_matchedLength_38 : decode cX5_matchedLength 38 = .ok (.invokestatic 415, 3) := by decide +kernel
theorem dX5_matchedLength_41 : decode cX5_matchedLength 41 = .ok (.ifCond .eq 9, 3) := by decide +kernel
theorem dX5_matchedLength_44 : decode cX5_matchedLength 44 = .ok (.iinc 3 1, 3) := by decide +kernel
theorem dX5_matchedLength_47 : decode cX5_matchedLength 47 = .ok (.goto (-45), 3) := by decide +kernel
theorem dX5_matchedLength_50 : decode cX5_matchedLength 50 = .ok (.iload_n 3, 1) := by decide +kernel
theorem dX5_matchedLength_51 : decode cX5_matchedLength 51 = .ok (.ireturn, 1) := by decide +kernel
theorem dX5_fits_0 : decode cX5_fits 0 = .ok (.iload_n 0, 1) := by decide +kernel
theorem dX5_fits_1 : decode cX5_fits 1 = .ok (.bipush 35, 2) := by decide +kernel
theorem dX5_fits_3 : decode cX5_fits 3 = .ok (.if_icmp .ne 10, 3) := by decide +kernel
theorem dX5_fits_6 : decode cX5_fits 6 = .ok (.iload_n 1, 1) := by decide +kernel
theorem dX5_fits_7 : decode cX5_fits 7 = .ok (.invokestatic 419, 3) := by decide +kernel
theorem dX5_fits_10 : decode cX5_fits 10 = .ok (.goto 13, 3) := by decide +kernel
theorem dX5_fits_13 : decode cX5_fits 13 = .ok (.iload_n 0, 1) := by decide +kernel
theorem dX5_fits_14 : decode cX5_fits 14 = .ok (.iload_n 1, 1) := by decide +kernel
theorem dX5_fits_15 : decode cX5_fits 15 = .ok (.if_icmp .ne 7, 3) := by decide +kernel
theorem dX5_fits_18 : decode cX5_fits 18 = .ok (.iconst 1, 1) := by decide +kernel
theorem dX5_fits_19 : decode cX5_fits 19 = .ok (.goto 4, 3) := by decide +kernel
theorem dX5_fits_22 : decode cX5_fits 22 = .ok (.iconst 0, 1) := by decide +kernel
theorem dX5_fits_23 : decode cX5_fits 23 = .ok (.ireturn, 1) := by decide +kernel
theorem dX5_digitAt_0 : decode cX5_digitAt 0 = .ok (.iconst 0, 1) := by decide +kernel
theorem dX5_digitAt_1 : decode cX5_digitAt 1 = .ok (.istore 4, 2) := by decide +kernel
theorem dX5_digitAt_3 : decode cX5_digitAt 3 = .ok (.iload_n 1, 1) := by decide +kernel
theorem dX5_digitAt_4 : decode cX5_digitAt 4 = .ok (.istore 5, 2) := by decide +kernel
theorem dX5_digitAt_6 : decode cX5_digitAt 6 = .ok (.iload 5, 2) := by decide +kernel
theorem dX5_digitAt_8 : decode cX5_digitAt 8 = .ok (.iload_n 2, 1) := by decide +kernel
theorem dX5_digitAt_9 : decode cX5_digitAt 9 = .ok (.if_icmp .ge 55, 3) := by decide +kernel
theorem dX5_digitAt_12 : decode cX5_digitAt 12 = .ok (.iload 5, 2) := by decide +kernel
theorem dX5_digitAt_14 : decode cX5_digitAt 14 = .ok (.aload_n 0, 1) := by decide +kernel
theorem dX5_digitAt_15 : decode cX5_digitAt 15 = .ok (.getfield 26, 3) := by decide +kernel
theorem dX5_digitAt_18 : decode cX5_digitAt 18 = .ok (.invokevirtual 245, 3) := by decide +kernel
theorem dX5_digitAt_21 : decode cX5_digitAt 21 = .ok (.if_icmp .ge 43, 3) := by decide +kernel
theorem dX5_digitAt_24 : decode cX5_digitAt 24 = .ok (.aload_n 0, 1) := by decide +kernel
theorem dX5_digitAt_25 : decode cX5_digitAt 25 = .ok (.getfield 26, 3) := by decide +kernel
theorem dX5_digitAt_28 : decode cX5_digitAt 28 = .ok (.iload 5, 2) := by decide +kernel
theorem dX5_digitAt_30 : decode cX5_digitAt 30 = .ok (.invokevirtual 256, 3) := by decide +kernel
theorem dX5_digitAt_33 : decode cX5_digitAt 33 = .ok (.istore 6, 2) := by decide +kernel
theorem dX5_digitAt_35 : decode cX5_digitAt 35 = .ok (.iload 6, 2) := by decide +kernel
theorem dX5_digitAt_37 : decode cX5_digitAt 37 = .ok (.invokestatic 419, 3) := by decide +kernel
theorem dX5_digitAt_40 : decode cX5_digitAt 40 = .ok (.ifCond .eq 18, 3) := by decide +kernel
theorem dX5_digitAt_43 : decode cX5_digitAt 43 = .ok (.iload 4, 2) := by decide +kernel
theorem dX5_digitAt_45 : decode cX5_digitAt 45 = .ok (.iload_n 3, 1) := by decide +kernel
theorem dX5_digitAt_46 : decode cX5_digitAt 46 = .ok (.if_icmp .ne 9, 3) := by decide +kernel
theorem dX5_digitAt_49 : decode cX5_digitAt 49 = .ok (.iload 6, 2) := by decide +kernel
theorem dX5_digitAt_51 : decode cX5_digitAt 51 = .ok (.bipush 48, 2) := by decide +kernel
theorem dX5_digitAt_53 : decode cX5_digitAt 53 = .ok (.isub, 1) := by decide +kernel
theorem dX5_digitAt_54 : decode cX5_digitAt 54 = .ok (.ireturn, 1) := by decide +kernel
theorem dX5_digitAt_55 : decode cX5_digitAt 55 = .ok (.iinc 4 1, 3) := by decide +kernel
theorem dX5_digitAt_58 : decode cX5_digitAt 58 = .ok (.iinc 5 1, 3) := by decide +kernel
theorem dX5_digitAt_61 : decode cX5_digitAt 61 = .ok (.goto (-55), 3) := by decide +kernel
theorem dX5_digitAt_64 : decode cX5_digitAt 64 = .ok (.iconst (-1), 1) := by decide +kernel
theorem dX5_digitAt_65 : decode cX5_digitAt 65 = .ok (.ireturn, 1) := by decide +kernel
theorem dX5_isDigit_0 : decode cX5_isDigit 0 = .ok (.iload_n 0, 1) := by decide +kernel
theorem dX5_isDigit_1 : decode cX5_isDigit 1 = .ok (.bipush 48, 2) := by decide +kernel
theorem dX5_isDigit_3 : decode cX5_isDigit 3 = .ok (.if_icmp .lt 13, 3) := by decide +kernel
theorem dX5_isDigit_6 : decode cX5_isDigit 6 = .ok (.iload_n 0, 1) := by decide +kernel
theorem dX5_isDigit_7 : decode cX5_isDigit 7 = .ok (.bipush 57, 2) := by decide +kernel
theorem dX5_isDigit_9 : decode cX5_isDigit 9 = .ok (.if_icmp .gt 7, 3) := by decide +kernel
theorem dX5_isDigit_12 : decode cX5_isDigit 12 = .ok (.iconst 1, 1) := by decide +kernel
theorem dX5_isDigit_13 : decode cX5_isDigit 13 = .ok (.goto 4, 3) := by decide +kernel
theorem dX5_isDigit_16 : decode cX5_isDigit 16 = .ok (.iconst 0, 1) := by decide +kernel
theorem dX5_isDigit_17 : decode cX5_isDigit 17 = .ok (.ireturn, 1) := by decide +kernel
theorem dX5_isBetween_0 : decode cX5_isBetween 0 = .ok (.iload_n 0, 1) := by decide +kernel
theorem dX5_isBetween_1 : decode cX5_isBetween 1 = .ok (.iload_n 1, 1) := by decide +kernel
theorem dX5_isBetween_2 : decode cX5_isBetween 2 = .ok (.if_icmp .lt 12, 3) := by decide +kernel
theorem dX5_isBetween_5 : decode cX5_isBetween 5 = .ok (.iload_n 0, 1) := by decide +kernel
theorem dX5_isBetween_6 : decode cX5_isBetween 6 = .ok (.iload_n 2, 1) := by decide +kernel
theorem dX5_isBetween_7 : decode cX5_isBetween 7 = .ok (.if_icmp .gt 7, 3) := by decide +kernel
theorem dX5_isBetween_10 : decode cX5_isBetween 10 = .ok (.iconst 1, 1) := by decide +kernel
theorem dX5_isBetween_11 : decode cX5_isBetween 11 = .ok (.goto 4, 3) := by decide +kernel
theorem dX5_isBetween_14 : decode cX5_isBetween 14 = .ok (.iconst 0, 1) := by decide +kernel
theorem dX5_isBetween_15 : decode cX5_isBetween 15 = .ok (.ireturn, 1) := by decide +kernel
theorem dX5_isLevel_0 : decode cX5_isLevel 0 = .ok (.iload_n 0, 1) := by decide +kernel
theorem dX5_isLevel_1 : decode cX5_isLevel 1 = .ok (.iconst 0, 1) := by decide +kernel
theorem dX5_isLevel_2 : decode cX5_isLevel 2 = .ok (.iconst 3, 1) := by decide +kernel
theorem dX5_isLevel_3 : decode cX5_isLevel 3 = .ok (.invokestatic 260, 3) := by decide +kernel
theorem dX5_isLevel_6 : decode cX5_isLevel 6 = .ok (.ireturn, 1) := by decide +kernel
theorem dX5_requireSituation_0 : decode cX5_requireSituation 0 = .ok (.iload_n 0, 1) := by decide +kernel
theorem dX5_requireSituation_1 : decode cX5_requireSituation 1 = .ok (.invokestatic 180, 3) := by decide +kernel
theorem dX5_requireSituation_4 : decode cX5_requireSituation 4 = .ok (.ifCond .eq 10, 3) := by decide +kernel
theorem dX5_requireSituation_7 : decode cX5_requireSituation 7 = .ok (.iload_n 1, 1) := by decide +kernel
theorem dX5_requireSituation_8 : decode cX5_requireSituation 8 = .ok (.invokestatic 180, 3) := by decide +kernel
theorem dX5_requireSituation_11 : decode cX5_requireSituation 11 = .ok (.ifCond .ne 14, 3) := by decide +kernel
theorem dX5_requireSituation_14 : decode cX5_requireSituation 14 = .ok (.new 183, 3) := by decide +kernel
theorem dX5_requireSituation_17 : decode cX5_requireSituation 17 = .ok (.dup, 1) := by decide +kernel
theorem dX5_requireSituation_18 : decode cX5_requireSituation 18 = .ok (.ldc_w 423, 3) := by decide +kernel
theorem dX5_requireSituation_21 : decode cX5_requireSituation 21 = .ok (.invokespecial 187, 3) := by decide +kernel
theorem dX5_requireSituation_24 : decode cX5_requireSituation 24 = .ok (.athrow, 1) := by decide +kernel
theorem dX5_requireSituation_25 : decode cX5_requireSituation 25 = .ok (.return_, 1) := by decide +kernel
theorem dX5_trialIndex_0 : decode cX5_trialIndex 0 = .ok (.iload_n 1, 1) := by decide +kernel
theorem dX5_trialIndex_1 : decode cX5_trialIndex 1 = .ok (.ifCond .lt 11, 3) := by decide +kernel
theorem dX5_trialIndex_4 : decode cX5_trialIndex 4 = .ok (.iload_n 1, 1) := by decide +kernel
theorem dX5_trialIndex_5 : decode cX5_trialIndex 5 = .ok (.aload_n 0, 1) := by decide +kernel
theorem dX5_trialIndex_6 : decode cX5_trialIndex 6 = .ok (.getfield 96, 3) := by decide +kernel
theorem dX5_trialIndex_9 : decode cX5_trialIndex 9 = .ok (.if_icmp .lt 13, 3) := by decide +kernel
theorem dX5_trialIndex_12 : decode cX5_trialIndex 12 = .ok (.new 157, 3) := by decide +kernel
theorem dX5_trialIndex_15 : decode cX5_trialIndex 15 = .ok (.dup, 1) := by decide +kernel
theorem dX5_trialIndex_16 : decode cX5_trialIndex 16 = .ok (.ldc 159, 2) := by decide +kernel
theorem dX5_trialIndex_18 : decode cX5_trialIndex 18 = .ok (.invokespecial 161, 3) := by decide +kernel
theorem dX5_trialIndex_21 : decode cX5_trialIndex 21 = .ok (.athrow, 1) := by decide +kernel
theorem dX5_trialIndex_22 : decode cX5_trialIndex 22 = .ok (.aload_n 0, 1) := by decide +kernel
theorem dX5_trialIndex_23 : decode cX5_trialIndex 23 = .ok (.getfield 96, 3) := by decide +kernel
theorem dX5_trialIndex_26 : decode cX5_trialIndex 26 = .ok (.iconst 1, 1) := by decide +kernel
theorem dX5_trialIndex_27 : decode cX5_trialIndex 27 = .ok (.isub, 1) := by decide +kernel
theorem dX5_trialIndex_28 : decode cX5_trialIndex 28 = .ok (.iload_n 1, 1) := by decide +kernel
theorem dX5_trialIndex_29 : decode cX5_trialIndex 29 = .ok (.isub, 1) := by decide +kernel
theorem dX5_trialIndex_30 : decode cX5_trialIndex 30 = .ok (.ireturn, 1) := by decide +kernel
theorem dX5_rankedSituation_0 : decode cX5_rankedSituation 0 = .ok (.aload_n 0, 1) := by decide +kernel
theorem dX5_rankedSituation_1 : decode cX5_rankedSituation 1 = .ok (.getfield 12, 3) := by decide +kernel
theorem dX5_rankedSituation_4 : decode cX5_rankedSituation 4 = .ok (.iload_n 1, 1) := by decide +kernel
theorem dX5_rankedSituation_5 : decode cX5_rankedSituation 5 = .ok (.invokevirtual 81, 3) := by decide +kernel
theorem dX5_rankedSituation_8 : decode cX5_rankedSituation 8 = .ok (.iload_n 2, 1) := by decide +kernel
theorem dX5_rankedSituation_9 : decode cX5_rankedSituation 9 = .ok (.invokevirtual 425, 3) := by decide +kernel
theorem dX5_rankedSituation_12 : decode cX5_rankedSituation 12 = .ok (.istore_n 3, 1) := by decide +kernel
theorem dX5_rankedSituation_13 : decode cX5_rankedSituation 13 = .ok (.iload_n 3, 1) := by decide +kernel
theorem dX5_rankedSituation_14 : decode cX5_rankedSituation 14 = .ok (.iconst (-1), 1) := by decide +kernel
theorem dX5_rankedSituation_15 : decode cX5_rankedSituation 15 = .ok (.if_icmp .ne 13, 3) := by decide +kernel
theorem dX5_rankedSituation_18 : decode cX5_rankedSituation 18 = .ok (.new 157, 3) := by decide +kernel
theorem dX5_rankedSituation_21 : decode cX5_rankedSituation 21 = .ok (.dup, 1) := by decide +kernel
theorem dX5_rankedSituation_22 : decode cX5_rankedSituation 22 = .ok (.ldc 206, 2) := by decide +kernel
theorem dX5_rankedSituation_24 : decode cX5_rankedSituation 24 = .ok (.invokespecial 161, 3) := by decide +kernel
theorem dX5_rankedSituation_27 : decode cX5_rankedSituation 27 = .ok (.athrow, 1) := by decide +kernel
theorem dX5_rankedSituation_28 : decode cX5_rankedSituation 28 = .ok (.iload_n 3, 1) := by decide +kernel
theorem dX5_rankedSituation_29 : decode cX5_rankedSituation 29 = .ok (.ireturn, 1) := by decide +kernel
theorem dX5_situationOf_0 : decode cX5_situationOf 0 = .ok (.iload_n 0, 1) := by decide +kernel
theorem dX5_situationOf_1 : decode cX5_situationOf 1 = .ok (.iconst 4, 1) := by decide +kernel
theorem dX5_situationOf_2 : decode cX5_situationOf 2 = .ok (.imul, 1) := by decide +kernel
theorem dX5_situationOf_3 : decode cX5_situationOf 3 = .ok (.iload_n 1, 1) := by decide +kernel
theorem dX5_situationOf_4 : decode cX5_situationOf 4 = .ok (.iadd, 1) := by decide +kernel
theorem dX5_situationOf_5 : decode cX5_situationOf 5 = .ok (.ireturn, 1) := by decide +kernel
theorem dX5_rainOfSituation_0 : decode cX5_rainOfSituation 0 = .ok (.iload_n 0, 1) := by decide +kernel
theorem dX5_rainOfSituation_1 : decode cX5_rainOfSituation 1 = .ok (.iconst 4, 1) := by decide +kernel
theorem dX5_rainOfSituation_2 : decode cX5_rainOfSituation 2 = .ok (.idiv, 1) := by decide +kernel
theorem dX5_rainOfSituation_3 : decode cX5_rainOfSituation 3 = .ok (.ireturn, 1) := by decide +kernel
theorem dX5_windOfSituation_0 : decode cX5_windOfSituation 0 = .ok (.iload_n 0, 1) := by decide +kernel
theorem dX5_windOfSituation_1 : decode cX5_windOfSituation 1 = .ok (.iconst 4, 1) := by decide +kernel
theorem dX5_windOfSituation_2 : decode cX5_windOfSituation 2 = .ok (.irem, 1) := by decide +kernel
theorem dX5_windOfSituation_3 : decode cX5_windOfSituation 3 = .ok (.ireturn, 1) := by decide +kernel
theorem dX5_caseInSituation_0 : decode cX5_caseInSituation 0 = .ok (.iconst 2, 1) := by decide +kernel
theorem dX5_caseInSituation_1 : decode cX5_caseInSituation 1 = .ok (.iload_n 0, 1) := by decide +kernel
theorem dX5_caseInSituation_2 : decode cX5_caseInSituation 2 = .ok (.imul, 1) := by decide +kernel
theorem dX5_caseInSituation_3 : decode cX5_caseInSituation 3 = .ok (.iload_n 1, 1) := by decide +kernel
theorem dX5_caseInSituation_4 : decode cX5_caseInSituation 4 = .ok (.ifCond .eq 7, 3) := by decide +kernel
theorem dX5_caseInSituation_7 : decode cX5_caseInSituation 7 = .ok (.iconst 1, 1) := by decide +kernel
theorem dX5_caseInSituation_8 : decode cX5_caseInSituation 8 = .ok (.goto 4, 3) := by decide +kernel
theorem dX5_caseInSituation_11 : decode cX5_caseInSituation 11 = .ok (.iconst 0, 1) := by decide +kernel
theorem dX5_caseInSituation_12 : decode cX5_caseInSituation 12 = .ok (.iadd, 1) := by decide +kernel
theorem dX5_caseInSituation_13 : decode cX5_caseInSituation 13 = .ok (.ireturn, 1) := by decide +kernel
theorem dX5_caseOf_0 : decode cX5_caseOf 0 = .ok (.iload_n 0, 1) := by decide +kernel
theorem dX5_caseOf_1 : decode cX5_caseOf 1 = .ok (.iload_n 1, 1) := by decide +kernel
theorem dX5_caseOf_2 : decode cX5_caseOf 2 = .ok (.invokestatic 134, 3) := by decide +kernel
theorem dX5_caseOf_5 : decode cX5_caseOf 5 = .ok (.iload_n 2, 1) := by decide +kernel
theorem dX5_caseOf_6 : decode cX5_caseOf 6 = .ok (.invokestatic 428, 3) := by decide +kernel
theorem dX5_caseOf_9 : decode cX5_caseOf 9 = .ok (.ireturn, 1) := by decide +kernel
theorem dX5_rainOfCase_0 : decode cX5_rainOfCase 0 = .ok (.iload_n 0, 1) := by decide +kernel
theorem dX5_rainOfCase_1 : decode cX5_rainOfCase 1 = .ok (.iconst 2, 1) := by decide +kernel
theorem dX5_rainOfCase_2 : decode cX5_rainOfCase 2 = .ok (.idiv, 1) := by decide +kernel
theorem dX5_rainOfCase_3 : decode cX5_rainOfCase 3 = .ok (.invokestatic 174, 3) := by decide +kernel
theorem dX5_rainOfCase_6 : decode cX5_rainOfCase 6 = .ok (.ireturn, 1) := by decide +kernel
theorem dX5_isOpenCase_0 : decode cX5_isOpenCase 0 = .ok (.iload_n 0, 1) := by decide +kernel
theorem dX5_isOpenCase_1 : decode cX5_isOpenCase 1 = .ok (.iconst 2, 1) := by decide +kernel
theorem dX5_isOpenCase_2 : decode cX5_isOpenCase 2 = .ok (.irem, 1) := by decide +kernel
theorem dX5_isOpenCase_3 : decode cX5_isOpenCase 3 = .ok (.iconst 1, 1) := by decide +kernel
theorem dX5_isOpenCase_4 : decode cX5_isOpenCase 4 = .ok (.if_icmp .ne 7, 3) := by decide +kernel
theorem dX5_isOpenCase_7 : decode cX5_isOpenCase 7 = .ok (.iconst 1, 1) := by decide +kernel
theorem dX5_isOpenCase_8 : decode cX5_isOpenCase 8 = .ok (.goto 4, 3) := by decide +kernel
theorem dX5_isOpenCase_11 : decode cX5_isOpenCase 11 = .ok (.iconst 0, 1) := by decide +kernel
theorem dX5_isOpenCase_12 : decode cX5_isOpenCase 12 = .ok (.ireturn, 1) := by decide +kernel
theorem dX5_valueAt_0 : decode cX5_valueAt 0 = .ok (.iload_n 1, 1) := by decide +kernel
theorem dX5_valueAt_1 : decode cX5_valueAt 1 = .ok (.ifCond .lt 15, 3) := by decide +kernel
theorem dX5_valueAt_4 : decode cX5_valueAt 4 = .ok (.iload_n 1, 1) := by decide +kernel
theorem dX5_valueAt_5 : decode cX5_valueAt 5 = .ok (.aload_n 0, 1) := by decide +kernel
theorem dX5_valueAt_6 : decode cX5_valueAt 6 = .ok (.arraylength, 1) := by decide +kernel
theorem dX5_valueAt_7 : decode cX5_valueAt 7 = .ok (.if_icmp .ge 9, 3) := by decide +kernel
theorem dX5_valueAt_10 : decode cX5_valueAt 10 = .ok (.aload_n 0, 1) := by decide +kernel
theorem dX5_valueAt_11 : decode cX5_valueAt 11 = .ok (.iload_n 1, 1) := by decide +kernel
theorem dX5_valueAt_12 : decode cX5_valueAt 12 = .ok (.iaload, 1) := by decide +kernel
theorem dX5_valueAt_13 : decode cX5_valueAt 13 = .ok (.goto 4, 3) := by decide +kernel
theorem dX5_valueAt_16 : decode cX5_valueAt 16 = .ok (.iconst 0, 1) := by decide +kernel
theorem dX5_valueAt_17 : decode cX5_valueAt 17 = .ok (.ireturn, 1) := by decide +kernel
theorem dX5_putAt_0 : decode cX5_putAt 0 = .ok (.iload_n 1, 1) := by decide +kernel
theorem dX5_putAt_1 : decode cX5_putAt 1 = .ok (.ifCond .lt 13, 3) := by decide +kernel
theorem dX5_putAt_4 : decode cX5_putAt 4 = .ok (.iload_n 1, 1) := by decide +kernel
theorem dX5_putAt_5 : decode cX5_putAt 5 = .ok (.aload_n 0, 1) := by decide +kernel
theorem dX5_putAt_6 : decode cX5_putAt 6 = .ok (.arraylength, 1) := by decide +kernel
theorem dX5_putAt_7 : decode cX5_putAt 7 = .ok (.if_icmp .ge 7, 3) := by decide +kernel
theorem dX5_putAt_10 : decode cX5_putAt 10 = .ok (.aload_n 0, 1) := by decide +kernel
theorem dX5_putAt_11 : decode cX5_putAt 11 = .ok (.iload_n 1, 1) := by decide +kernel
theorem dX5_putAt_12 : decode cX5_putAt 12 = .ok (.iload_n 2, 1) := by decide +kernel
theorem dX5_putAt_13 : decode cX5_putAt 13 = .ok (.iastore, 1) := by decide +kernel
theorem dX5_putAt_14 : decode cX5_putAt 14 = .ok (.return_, 1) := by decide +kernel
theorem dX5_addAt_0 : decode cX5_addAt 0 = .ok (.iload_n 1, 1) := by decide +kernel
theorem dX5_addAt_1 : decode cX5_addAt 1 = .ok (.ifCond .lt 16, 3) := by decide +kernel
theorem dX5_addAt_4 : decode cX5_addAt 4 = .ok (.iload_n 1, 1) := by decide +kernel
theorem dX5_addAt_5 : decode cX5_addAt 5 = .ok (.aload_n 0, 1) := by decide +kernel
theorem dX5_addAt_6 : decode cX5_addAt 6 = .ok (.arraylength, 1) := by decide +kernel
theorem dX5_addAt_7 : decode cX5_addAt 7 = .ok (.if_icmp .ge 10, 3) := by decide +kernel
theorem dX5_addAt_10 : decode cX5_addAt 10 = .ok (.aload_n 0, 1) := by decide +kernel
theorem dX5_addAt_11 : decode cX5_addAt 11 = .ok (.iload_n 1, 1) := by decide +kernel
theorem dX5_addAt_12 : decode cX5_addAt 12 = .ok (.dup2, 1) := by decide +kernel
theorem dX5_addAt_13 : decode cX5_addAt 13 = .ok (.iaload, 1) := by decide +kernel
theorem dX5_addAt_14 : decode cX5_addAt 14 = .ok (.iload_n 2, 1) := by decide +kernel
theorem dX5_addAt_15 : decode cX5_addAt 15 = .ok (.iadd, 1) := by decide +kernel
theorem dX5_addAt_16 : decode cX5_addAt 16 = .ok (.iastore, 1) := by decide +kernel
theorem dX5_addAt_17 : decode cX5_addAt 17 = .ok (.return_, 1) := by decide +kernel
theorem dX5_copyRow_0 : decode cX5_copyRow 0 = .ok (.aload_n 0, 1) := by decide +kernel
theorem dX5_copyRow_1 : decode cX5_copyRow 1 = .ok (.iconst 0, 1) := by decide +kernel
theorem dX5_copyRow_2 : decode cX5_copyRow 2 = .ok (.aload_n 1, 1) := by decide +kernel
theorem dX5_copyRow_3 : decode cX5_copyRow 3 = .ok (.iconst 0, 1) := by decide +kernel
theorem dX5_copyRow_4 : decode cX5_copyRow 4 = .ok (.aload_n 0, 1) := by decide +kernel
theorem dX5_copyRow_5 : decode cX5_copyRow 5 = .ok (.arraylength, 1) := by decide +kernel
theorem dX5_copyRow_6 : decode cX5_copyRow 6 = .ok (.aload_n 1, 1) := by decide +kernel
theorem dX5_copyRow_7 : decode cX5_copyRow 7 = .ok (.arraylength, 1) := by decide +kernel
theorem dX5_copyRow_8 : decode cX5_copyRow 8 = .ok (.invokestatic 432, 3) := by decide +kernel
theorem dX5_copyRow_11 : decode cX5_copyRow 11 = .ok (.invokestatic 435, 3) := by decide +kernel
theorem dX5_copyRow_14 : decode cX5_copyRow 14 = .ok (.return_, 1) := by decide +kernel
