theorem dX6_thrown_0 : decode cX6_thrown 0 = .ok (.aload_n 0, 1) := by decide +kernel
theorem dX6_thrown_1 : decode cX6_thrown 1 = .ok (.getfield 1, 3) := by decide +kernel
theorem dX6_thrown_4 : decode cX6_thrown 4 = .ok (.ireturn, 1) := by decide +kernel
theorem dX6_fails_0 : decode cX6_fails 0 = .ok (.aload_n 0, 1) := by decide +kernel
theorem dX6_fails_1 : decode cX6_fails 1 = .ok (.iload_n 1, 1) := by decide +kernel
theorem dX6_fails_2 : decode cX6_fails 2 = .ok (.putfield 1, 3) := by decide +kernel
theorem dX6_fails_5 : decode cX6_fails 5 = .ok (.iconst 0, 1) := by decide +kernel
theorem dX6_fails_6 : decode cX6_fails 6 = .ok (.ireturn, 1) := by decide +kernel
theorem dX6_isBetween_0 : decode cX6_isBetween 0 = .ok (.iload_n 1, 1) := by decide +kernel
theorem dX6_isBetween_1 : decode cX6_isBetween 1 = .ok (.iload_n 0, 1) := by decide +kernel
theorem dX6_isBetween_2 : decode cX6_isBetween 2 = .ok (.if_icmp .gt 12, 3) := by decide +kernel
theorem dX6_isBetween_5 : decode cX6_isBetween 5 = .ok (.iload_n 0, 1) := by decide +kernel
theorem dX6_isBetween_6 : decode cX6_isBetween 6 = .ok (.iload_n 2, 1) := by decide +kernel
theorem dX6_isBetween_7 : decode cX6_isBetween 7 = .ok (.if_icmp .gt 7, 3) := by decide +kernel
theorem dX6_isBetween_10 : decode cX6_isBetween 10 = .ok (.iconst 1, 1) := by decide +kernel
theorem dX6_isBetween_11 : decode cX6_isBetween 11 = .ok (.goto 4, 3) := by decide +kernel
theorem dX6_isBetween_14 : decode cX6_isBetween 14 = .ok (.iconst 0, 1) := by decide +kernel
theorem dX6_isBetween_15 : decode cX6_isBetween 15 = .ok (.ireturn, 1) := by decide +kernel
theorem dX6_init_0 : decode cX6_init 0 = .ok (.aload_n 0, 1) := by decide +kernel
theorem dX6_init_1 : decode cX6_init 1 = .ok (.invokespecial 7, 3) := by decide +kernel
theorem dX6_init_4 : decode cX6_init 4 = .ok (.aload_n 0, 1) := by decide +kernel
theorem dX6_init_5 : decode cX6_init 5 = .ok (.sipush 176, 3) := by decide +kernel
theorem dX6_init_8 : decode cX6_init 8 = .ok (.newarray .int, 2) := by decide +kernel
theorem dX6_init_10 : decode cX6_init 10 = .ok (.putfield 13, 3) := by decide +kernel
theorem dX6_init_13 : decode cX6_init 13 = .ok (.aload_n 0, 1) := by decide +kernel
theorem dX6_init_14 : decode cX6_init 14 = .ok (.sipush 1408, 3) := by decide +kernel
theorem dX6_init_17 : decode cX6_init 17 = .ok (.newarray .int, 2) := by decide +kernel
theorem dX6_init_19 : decode cX6_init 19 = .ok (.putfield 17, 3) := by decide +kernel
theorem dX6_init_22 : decode cX6_init 22 = .ok (.aload_n 0, 1) := by decide +kernel
theorem dX6_init_23 : decode cX6_init 23 = .ok (.sipush 176, 3) := by decide +kernel
theorem dX6_init_26 : decode cX6_init 26 = .ok (.newarray .int, 2) := by decide +kernel
theorem dX6_init_28 : decode cX6_init 28 = .ok (.putfield 20, 3) := by decide +kernel
theorem dX6_init_31 : decode cX6_init 31 = .ok (.aload_n 0, 1) := by decide +kernel
theorem dX6_init_32 : decode cX6_init 32 = .ok (.sipush 176, 3) := by decide +kernel
theorem dX6_init_35 : decode cX6_init 35 = .ok (.newarray .int, 2) := by decide +kernel
theorem dX6_init_37 : decode cX6_init 37 = .ok (.putfield 23, 3) := by decide +kernel
theorem dX6_init_40 : decode cX6_init 40 = .ok (.aload_n 0, 1) := by decide +kernel
theorem dX6_init_41 : decode cX6_init 41 = .ok (.bipush 60, 2) := by decide +kernel
theorem dX6_init_43 : decode cX6_init 43 = .ok (.newarray .char, 2) := by decide +kernel
theorem dX6_init_45 : decode cX6_init 45 = .ok (.putfield 26, 3) := by decide +kernel
theorem dX6_init_48 : decode cX6_init 48 = .ok (.aload_n 0, 1) := by decide +kernel
theorem dX6_init_49 : decode cX6_init 49 = .ok (.bipush 60, 2) := by decide +kernel
theorem dX6_init_51 : decode cX6_init 51 = .ok (.newarray .char, 2) := by decide +kernel
theorem dX6_init_53 : decode cX6_init 53 = .ok (.putfield 30, 3) := by decide +kernel
theorem dX6_init_56 : decode cX6_init 56 = .ok (.aload_n 0, 1) := by decide +kernel
theorem dX6_init_57 : decode cX6_init 57 = .ok (.iconst (-1), 1) := by decide +kernel
theorem dX6_init_58 : decode cX6_init 58 = .ok (.putfield 33, 3) := by decide +kernel
theorem dX6_init_61 : decode cX6_init 61 = .ok (.aload_n 0, 1) := by decide +kernel
theorem dX6_init_62 : decode cX6_init 62 = .ok (.iconst (-1), 1) := by decide +kernel
theorem dX6_init_63 : decode cX6_init 63 = .ok (.putfield 36, 3) := by decide +kernel
theorem dX6_init_66 : decode cX6_init 66 = .ok (.aload_n 0, 1) := by decide +kernel
theorem dX6_init_67 : decode cX6_init 67 = .ok (.iconst 4, 1) := by decide +kernel
theorem dX6_init_68 : decode cX6_init 68 = .ok (.newarray .int, 2) := by decide +kernel
theorem dX6_init_70 : decode cX6_init 70 = .ok (.putfield 39, 3) := by decide +kernel
theorem dX6_init_73 : decode cX6_init 73 = .ok (.aload_n 0, 1) := by decide +kernel
theorem dX6_init_74 : decode cX6_init 74 = .ok (.getfield 13, 3) := by decide +kernel
theorem dX6_init_77 : decode cX6_init 77 = .ok (.iconst 1, 1) := by decide +kernel
theorem dX6_init_78 : decode cX6_init 78 = .ok (.iconst 2, 1) := by decide +kernel
theorem dX6_init_79 : decode cX6_init 79 = .ok (.iastore, 1) := by decide +kernel
theorem dX6_init_80 : decode cX6_init 80 = .ok (.aload_n 0, 1) := by decide +kernel
theorem dX6_init_81 : decode cX6_init 81 = .ok (.getfield 13, 3) := by decide +kernel
theorem dX6_init_84 : decode cX6_init 84 = .ok (.iconst 2, 1) := by decide +kernel
theorem dX6_init_85 : decode cX6_init 85 = .ok (.iconst 3, 1) := by decide +kernel
theorem dX6_init_86 : decode cX6_init 86 = .ok (.iastore, 1) := by decide +kernel
theorem dX6_init_87 : decode cX6_init 87 = .ok (.return_, 1) := by decide +kernel
theorem dX6_copies_0 : decode cX6_copies 0 = .ok (.iconst 0, 1) := by decide +kernel
theorem dX6_copies_1 : decode cX6_copies 1 = .ok (.istore_n 1, 1) := by decide +kernel
theorem dX6_copies_2 : decode cX6_copies 2 = .ok (.iload_n 1, 1) := by decide +kernel
theorem dX6_copies_3 : decode cX6_copies 3 = .ok (.sipush 176, 3) := by decide +kernel
theorem dX6_copies_6 : decode cX6_copies 6 = .ok (.if_icmp .ge 21, 3) := by decide +kernel
theorem dX6_copies_9 : decode cX6_copies 9 = .ok (.aload_n 0, 1) := by decide +kernel
theorem dX6_copies_10 : decode cX6_copies 10 = .ok (.getfield 23, 3) := by decide +kernel
theorem dX6_copies_13 : decode cX6_copies 13 = .ok (.iload_n 1, 1) := by decide +kernel
theorem dX6_copies_14 : decode cX6_copies 14 = .ok (.aload_n 0, 1) := by decide +kernel
theorem dX6_copies_15 : decode cX6_copies 15 = .ok (.getfield 13, 3) := by decide +kernel
theorem dX6_copies_18 : decode cX6_copies 18 = .ok (.iload_n 1, 1) := by decide +kernel
theorem dX6_copies_19 : decode cX6_copies 19 = .ok (.iaload, 1) := by decide +kernel
theorem dX6_copies_20 : decode cX6_copies 20 = .ok (.iastore, 1) := by decide +kernel
theorem dX6_copies_21 : decode cX6_copies 21 = .ok (.iinc 1 1, 3) := by decide +kernel
theorem dX6_copies_24 : decode cX6_copies 24 = .ok (.goto (-22), 3) := by decide +kernel
theorem dX6_copies_27 : decode cX6_copies 27 = .ok (.return_, 1) := by decide +kernel
theorem dX6_goesBack_0 : decode cX6_goesBack 0 = .ok (.iconst 0, 1) := by decide +kernel
theorem dX6_goesBack_1 : decode cX6_goesBack 1 = .ok (.istore_n 1, 1) := by decide +kernel
theorem dX6_goesBack_2 : decode cX6_goesBack 2 = .ok (.iload_n 1, 1) := by decide +kernel
theorem dX6_goesBack_3 : decode cX6_goesBack 3 = .ok (.sipush 176, 3) := by decide +kernel
theorem dX6_goesBack_6 : decode cX6_goesBack 6 = .ok (.if_icmp .ge 21, 3) := by decide +kernel
theorem dX6_goesBack_9 : decode cX6_goesBack 9 = .ok (.aload_n 0, 1) := by decide +kernel
theorem dX6_goesBack_10 : decode cX6_goesBack 10 = .ok (.getfield 13, 3) := by decide +kernel
theorem dX6_goesBack_13 : decode cX6_goesBack 13 = .ok (.iload_n 1, 1) := by decide +kernel
theorem dX6_goesBack_14 : decode cX6_goesBack 14 = .ok (.aload_n 0, 1) := by decide +kernel
theorem dX6_goesBack_15 : decode cX6_goesBack 15 = .ok (.getfield 23, 3) := by decide +kernel
theorem dX6_goesBack_18 : decode cX6_goesBack 18 = .ok (.iload_n 1, 1) := by decide +kernel
theorem dX6_goesBack_19 : decode cX6_goesBack 19 = .ok (.iaload, 1) := by decide +kernel
theorem dX6_goesBack_20 : decode cX6_goesBack 20 = .ok (.iastore, 1) := by decide +kernel
theorem dX6_goesBack_21 : decode cX6_goesBack 21 = .ok (.iinc 1 1, 3) := by decide +kernel
theorem dX6_goesBack_24 : decode cX6_goesBack 24 = .ok (.goto (-22), 3) := by decide +kernel
theorem dX6_goesBack_27 : decode cX6_goesBack 27 = .ok (.return_, 1) := by decide +kernel
theorem dX6_keeps_0 : decode cX6_keeps 0 = .ok (.aload_n 0, 1) := by decide +kernel
theorem dX6_keeps_1 : decode cX6_keeps 1 = .ok (.getfield 42, 3) := by decide +kernel
theorem dX6_keeps_4 : decode cX6_keeps 4 = .ok (.bipush 8, 2) := by decide +kernel
theorem dX6_keeps_6 : decode cX6_keeps 6 = .ok (.if_icmp .ne 26, 3) := by decide +kernel
theorem dX6_keeps_9 : decode cX6_keeps 9 = .ok (.aload_n 0, 1) := by decide +kernel
theorem dX6_keeps_10 : decode cX6_keeps 10 = .ok (.aload_n 0, 1) := by decide +kernel
theorem dX6_keeps_11 : decode cX6_keeps 11 = .ok (.getfield 45, 3) := by decide +kernel
theorem dX6_keeps_14 : decode cX6_keeps 14 = .ok (.iconst 1, 1) := by decide +kernel
theorem dX6_keeps_15 : decode cX6_keeps 15 = .ok (.iadd, 1) := by decide +kernel
theorem dX6_keeps_16 : decode cX6_keeps 16 = .ok (.bipush 8, 2) := by decide +kernel
theorem dX6_keeps_18 : decode cX6_keeps 18 = .ok (.irem, 1) := by decide +kernel
theorem dX6_keeps_19 : decode cX6_keeps 19 = .ok (.putfield 45, 3) := by decide +kernel
theorem dX6_keeps_22 : decode cX6_keeps 22 = .ok (.aload_n 0, 1) := by decide +kernel
theorem dX6_keeps_23 : decode cX6_keeps 23 = .ok (.dup, 1) := by decide +kernel
theorem dX6_keeps_24 : decode cX6_keeps 24 = .ok (.getfield 42, 3) := by decide +kernel
theorem dX6_keeps_27 : decode cX6_keeps 27 = .ok (.iconst 1, 1) := by decide +kernel
theorem dX6_keeps_28 : decode cX6_keeps 28 = .ok (.isub, 1) := by decide +kernel
theorem dX6_keeps_29 : decode cX6_keeps 29 = .ok (.putfield 42, 3) := by decide +kernel
theorem dX6_keeps_32 : decode cX6_keeps 32 = .ok (.aload_n 0, 1) := by decide +kernel
theorem dX6_keeps_33 : decode cX6_keeps 33 = .ok (.getfield 45, 3) := by decide +kernel
theorem dX6_keeps_36 : decode cX6_keeps 36 = .ok (.aload_n 0, 1) := by decide +kernel
theorem dX6_keeps_37 : decode cX6_keeps 37 = .ok (.getfield 42, 3) := by decide +kernel
theorem dX6_keeps_40 : decode cX6_keeps 40 = .ok (.iadd, 1) := by decide +kernel
theorem dX6_keeps_41 : decode cX6_keeps 41 = .ok (.bipush 8, 2) := by decide +kernel
theorem dX6_keeps_43 : decode cX6_keeps 43 = .ok (.irem, 1) := by decide +kernel
theorem dX6_keeps_44 : decode cX6_keeps 44 = .ok (.istore_n 1, 1) := by decide +kernel
theorem dX6_keeps_45 : decode cX6_keeps 45 = .ok (.iconst 0, 1) := by decide +kernel
theorem dX6_keeps_46 : decode cX6_keeps 46 = .ok (.istore_n 2, 1) := by decide +kernel
theorem dX6_keeps_47 : decode cX6_keeps 47 = .ok (.iload_n 2, 1) := by decide +kernel
theorem dX6_keeps_48 : decode cX6_keeps 48 = .ok (.sipush 176, 3) := by decide +kernel
theorem dX6_keeps_51 : decode cX6_keeps 51 = .ok (.if_icmp .ge 27, 3) := by decide +kernel
theorem dX6_keeps_54 : decode cX6_keeps 54 = .ok (.aload_n 0, 1) := by decide +kernel
theorem dX6_keeps_55 : decode cX6_keeps 55 = .ok (.getfield 17, 3) := by decide +kernel
theorem dX6_keeps_58 : decode cX6_keeps 58 = .ok (.sipush 176, 3) := by decide +kernel
theorem dX6_keeps_61 : decode cX6_keeps 61 = .ok (.iload_n 1, 1) := by decide +kernel
theorem dX6_keeps_62 : decode cX6_keeps 62 = .ok (.imul, 1) := by decide +kernel
theorem dX6_keeps_63 : decode cX6_keeps 63 = .ok (.iload_n 2, 1) := by decide +kernel
theorem dX6_keeps_64 : decode cX6_keeps 64 = .ok (.iadd, 1) := by decide +kernel
theorem dX6_keeps_65 : decode cX6_keeps 65 = .ok (.aload_n 0, 1) := by decide +kernel
theorem dX6_keeps_66 : decode cX6_keeps 66 = .ok (.getfield 23, 3) := by decide +kernel
theorem dX6_keeps_69 : decode cX6_keeps 69 = .ok (.iload_n 2, 1) := by decide +kernel
theorem dX6_keeps_70 : decode cX6_keeps 70 = .ok (.iaload, 1) := by decide +kernel
theorem dX6_keeps_71 : decode cX6_keeps 71 = .ok (.iastore, 1) := by decide +kernel
theorem dX6_keeps_72 : decode cX6_keeps 72 = .ok (.iinc 2 1, 3) := by decide +kernel
theorem dX6_keeps_75 : decode cX6_keeps 75 = .ok (.goto (-28), 3) := by decide +kernel
theorem dX6_keeps_78 : decode cX6_keeps 78 = .ok (.aload_n 0, 1) := by decide +kernel
theorem dX6_keeps_79 : decode cX6_keeps 79 = .ok (.dup, 1) := by decide +kernel
theorem dX6_keeps_80 : decode cX6_keeps 80 = .ok (.getfield 42, 3) := by decide +kernel
theorem dX6_keeps_83 : decode cX6_keeps 83 = .ok (.iconst 1, 1) := by decide +kernel
theorem dX6_keeps_84 : decode cX6_keeps 84 = .ok (.iadd, 1) := by decide +kernel
theorem dX6_keeps_85 : decode cX6_keeps 85 = .ok (.putfield 42, 3) := by decide +kernel
theorem dX6_keeps_88 : decode cX6_keeps 88 = .ok (.return_, 1) := by decide +kernel
theorem dX6_remembers_0 : decode cX6_remembers 0 = .ok (.aload_n 0, 1) := by decide +kernel
theorem dX6_remembers_1 : decode cX6_remembers 1 = .ok (.invokevirtual 48, 3) := by decide +kernel
theorem dX6_remembers_4 : decode cX6_remembers 4 = .ok (.aload_n 0, 1) := by decide +kernel
theorem dX6_remembers_5 : decode cX6_remembers 5 = .ok (.invokevirtual 51, 3) := by decide +kernel
theorem dX6_remembers_8 : decode cX6_remembers 8 = .ok (.return_, 1) := by decide +kernel
theorem dX6_isUmbrella_0 : decode cX6_isUmbrella 0 = .ok (.iload_n 1, 1) := by decide +kernel
theorem dX6_isUmbrella_1 : decode cX6_isUmbrella 1 = .ok (.iconst 0, 1) := by decide +kernel
theorem dX6_isUmbrella_2 : decode cX6_isUmbrella 2 = .ok (.aload_n 0, 1) := by decide +kernel
theorem dX6_isUmbrella_3 : decode cX6_isUmbrella 3 = .ok (.getfield 13, 3) := by decide +kernel
theorem dX6_isUmbrella_6 : decode cX6_isUmbrella 6 = .ok (.iconst 0, 1) := by decide +kernel
theorem dX6_isUmbrella_7 : decode cX6_isUmbrella 7 = .ok (.iaload, 1) := by decide +kernel
theorem dX6_isUmbrella_8 : decode cX6_isUmbrella 8 = .ok (.iconst 1, 1) := by decide +kernel
theorem dX6_isUmbrella_9 : decode cX6_isUmbrella 9 = .ok (.isub, 1) := by decide +kernel
theorem dX6_isUmbrella_10 : decode cX6_isUmbrella 10 = .ok (.invokestatic 54, 3) := by decide +kernel
theorem dX6_isUmbrella_13 : decode cX6_isUmbrella 13 = .ok (.ireturn, 1) := by decide +kernel
theorem dX6_of_0 : decode cX6_of 0 = .ok (.aload_n 0, 1) := by decide +kernel
theorem dX6_of_1 : decode cX6_of 1 = .ok (.getfield 13, 3) := by decide +kernel
theorem dX6_of_4 : decode cX6_of 4 = .ok (.bipush 8, 2) := by decide +kernel
theorem dX6_of_6 : decode cX6_of 6 = .ok (.bipush 28, 2) := by decide +kernel
theorem dX6_of_8 : decode cX6_of 8 = .ok (.iload_n 1, 1) := by decide +kernel
theorem dX6_of_9 : decode cX6_of 9 = .ok (.imul, 1) := by decide +kernel
theorem dX6_of_10 : decode cX6_of 10 = .ok (.iadd, 1) := by decide +kernel
theorem dX6_of_11 : decode cX6_of 11 = .ok (.iload_n 2, 1) := by decide +kernel
theorem dX6_of_12 : decode cX6_of 12 = .ok (.iadd, 1) := by decide +kernel
theorem dX6_of_13 : decode cX6_of 13 = .ok (.iaload, 1) := by decide +kernel
theorem dX6_of_14 : decode cX6_of 14 = .ok (.ireturn, 1) := by decide +kernel
theorem dX6_puts_0 : decode cX6_puts 0 = .ok (.aload_n 0, 1) := by decide +kernel
theorem dX6_puts_1 : decode cX6_puts 1 = .ok (.getfield 13, 3) := by decide +kernel
theorem dX6_puts_4 : decode cX6_puts 4 = .ok (.bipush 8, 2) := by decide +kernel
theorem dX6_puts_6 : decode cX6_puts 6 = .ok (.bipush 28, 2) := by decide +kernel
theorem dX6_puts_8 : decode cX6_puts 8 = .ok (.iload_n 1, 1) := by decide +kernel
theorem dX6_puts_9 : decode cX6_puts 9 = .ok (.imul, 1) := by decide +kernel
theorem dX6_puts_10 : decode cX6_puts 10 = .ok (.iadd, 1) := by decide +kernel
theorem dX6_puts_11 : decode cX6_puts 11 = .ok (.iload_n 2, 1) := by decide +kernel
theorem dX6_puts_12 : decode cX6_puts 12 = .ok (.iadd, 1) := by decide +kernel
theorem dX6_puts_13 : decode cX6_puts 13 = .ok (.iload_n 3, 1) := by decide +kernel
theorem dX6_puts_14 : decode cX6_puts 14 = .ok (.iastore, 1) := by decide +kernel
theorem dX6_puts_15 : decode cX6_puts 15 = .ok (.return_, 1) := by decide +kernel
theorem dX6_adds_0 : decode cX6_adds 0 = .ok (.aload_n 0, 1) := by decide +kernel
theorem dX6_adds_1 : decode cX6_adds 1 = .ok (.getfield 13, 3) := by decide +kernel
theorem dX6_adds_4 : decode cX6_adds 4 = .ok (.bipush 8, 2) := by decide +kernel
theorem dX6_adds_6 : decode cX6_adds 6 = .ok (.bipush 28, 2) := by decide +kernel
theorem dX6_adds_8 : decode cX6_adds 8 = .ok (.iload_n 1, 1) := by decide +kernel
theorem dX6_adds_9 : decode cX6_adds 9 = .ok (.imul, 1) := by decide +kernel
theorem dX6_adds_10 : decode cX6_adds 10 = .ok (.iadd, 1) := by decide +kernel
theorem dX6_adds_11 : decode cX6_adds 11 = .ok (.iload_n 2, 1) := by decide +kernel
theorem dX6_adds_12 : decode cX6_adds 12 = .ok (.iadd, 1) := by decide +kernel
theorem dX6_adds_13 : decode cX6_adds 13 = .ok (.dup2, 1) := by decide +kernel
theorem dX6_adds_14 : decode cX6_adds 14 = .ok (.iaload, 1) := by decide +kernel
theorem dX6_adds_15 : decode cX6_adds 15 = .ok (.iload_n 3, 1) := by decide +kernel
theorem dX6_adds_16 : decode cX6_adds 16 = .ok (.iadd, 1) := by decide +kernel
theorem dX6_adds_17 : decode cX6_adds 17 = .ok (.iastore, 1) := by decide +kernel
theorem dX6_adds_18 : decode cX6_adds 18 = .ok (.return_, 1) := by decide +kernel
theorem dX6_trialOf_0 : decode cX6_trialOf 0 = .ok (.iload_n 0, 1) := by decide +kernel
theorem dX6_trialOf_1 : decode cX6_trialOf 1 = .ok (.iconst 4, 1) := by decide +kernel
theorem dX6_trialOf_2 : decode cX6_trialOf 2 = .ok (.iload_n 1, 1) := by decide +kernel
theorem dX6_trialOf_3 : decode cX6_trialOf 3 = .ok (.imul, 1) := by decide +kernel
theorem dX6_trialOf_4 : decode cX6_trialOf 4 = .ok (.iadd, 1) := by decide +kernel
theorem dX6_trialOf_5 : decode cX6_trialOf 5 = .ok (.bipush 16, 2) := by decide +kernel
theorem dX6_trialOf_7 : decode cX6_trialOf 7 = .ok (.iload_n 2, 1) := by decide +kernel
theorem dX6_trialOf_8 : decode cX6_trialOf 8 = .ok (.imul, 1) := by decide +kernel
theorem dX6_trialOf_9 : decode cX6_trialOf 9 = .ok (.iadd, 1) := by decide +kernel
theorem dX6_trialOf_10 : decode cX6_trialOf 10 = .ok (.bipush 32, 2) := by decide +kernel
theorem dX6_trialOf_12 : decode cX6_trialOf 12 = .ok (.iload_n 3, 1) := by decide +kernel
theorem dX6_trialOf_13 : decode cX6_trialOf 13 = .ok (.bipush 64, 2) := by decide +kernel
theorem dX6_trialOf_15 : decode cX6_trialOf 15 = .ok (.iadd, 1) := by decide +kernel
theorem dX6_trialOf_16 : decode cX6_trialOf 16 = .ok (.imul, 1) := by decide +kernel
theorem dX6_trialOf_17 : decode cX6_trialOf 17 = .ok (.iadd, 1) := by decide +kernel
theorem dX6_trialOf_18 : decode cX6_trialOf 18 = .ok (.ireturn, 1) := by decide +kernel
theorem dX6_rainOf_0 : decode cX6_rainOf 0 = .ok (.iload_n 0, 1) := by decide +kernel
theorem dX6_rainOf_1 : decode cX6_rainOf 1 = .ok (.iconst 4, 1) := by decide +kernel
theorem dX6_rainOf_2 : decode cX6_rainOf 2 = .ok (.irem, 1) := by decide +kernel
theorem dX6_rainOf_3 : decode cX6_rainOf 3 = .ok (.ireturn, 1) := by decide +kernel
theorem dX6_rewardOf_0 : decode cX6_rewardOf 0 = .ok (.iload_n 0, 1) := by decide +kernel
theorem dX6_rewardOf_1 : decode cX6_rewardOf 1 = .ok (.bipush 32, 2) := by decide +kernel
theorem dX6_rewardOf_3 : decode cX6_rewardOf 3 = .ok (.idiv, 1) := by decide +kernel
theorem dX6_rewardOf_4 : decode cX6_rewardOf 4 = .ok (.bipush 64, 2) := by decide +kernel
theorem dX6_rewardOf_6 : decode cX6_rewardOf 6 = .ok (.isub, 1) := by decide +kernel
theorem dX6_rewardOf_7 : decode cX6_rewardOf 7 = .ok (.ireturn, 1) := by decide +kernel
theorem dX6_isSituation_0 : decode cX6_isSituation 0 = .ok (.iload_n 0, 1) := by decide +kernel
theorem dX6_isSituation_1 : decode cX6_isSituation 1 = .ok (.iconst 0, 1) := by decide +kernel
theorem dX6_isSituation_2 : decode cX6_isSituation 2 = .ok (.iconst 3, 1) := by decide +kernel
theorem dX6_isSituation_3 : decode cX6_isSituation 3 = .ok (.invokestatic 54, 3) := by decide +kernel
theorem dX6_isSituation_6 : decode cX6_isSituation 6 = .ok (.ifCond .eq 16, 3) := by decide +kernel
theorem dX6_isSituation_9 : decode cX6_isSituation 9 = .ok (.iload_n 1, 1) := by decide +kernel
theorem dX6_isSituation_10 : decode cX6_isSituation 10 = .ok (.iconst 0, 1) := by decide +kernel
theorem dX6_isSituation_11 : decode cX6_isSituation 11 = .ok (.iconst 3, 1) := by decide +kernel
theorem dX6_isSituation_12 : decode cX6_isSituation 12 = .ok (.invokestatic 54, 3) := by decide +kernel
theorem dX6_isSituation_15 : decode cX6_isSituation 15 = .ok (.ifCond .eq 7, 3) := by decide +kernel
theorem dX6_isSituation_18 : decode cX6_isSituation 18 = .ok (.iconst 1, 1) := by decide +kernel
theorem dX6_isSituation_19 : decode cX6_isSituation 19 = .ok (.goto 4, 3) := by decide +kernel
theorem dX6_isSituation_22 : decode cX6_isSituation 22 = .ok (.iconst 0, 1) := by decide +kernel
theorem dX6_isSituation_23 : decode cX6_isSituation 23 = .ok (.ireturn, 1) := by decide +kernel
theorem dX6_rewardNow_0 : decode cX6_rewardNow 0 = .ok (.iload_n 3, 1) := by decide +kernel
theorem dX6_rewardNow_1 : decode cX6_rewardNow 1 = .ok (.iconst 1, 1) := by decide +kernel
theorem dX6_rewardNow_2 : decode cX6_rewardNow 2 = .ok (.if_icmp .ne 18, 3) := by decide +kernel
theorem dX6_rewardNow_5 : decode cX6_rewardNow 5 = .ok (.iconst 4, 1) := by decide +kernel
theorem dX6_rewardNow_6 : decode cX6_rewardNow 6 = .ok (.iload_n 1, 1) := by decide +kernel
theorem dX6_rewardNow_7 : decode cX6_rewardNow 7 = .ok (.imul, 1) := by decide +kernel
theorem dX6_rewardNow_8 : decode cX6_rewardNow 8 = .ok (.aload_n 0, 1) := by decide +kernel
theorem dX6_rewardNow_9 : decode cX6_rewardNow 9 = .ok (.getfield 13, 3) := by decide +kernel
theorem dX6_rewardNow_12 : decode cX6_rewardNow 12 = .ok (.iconst 2, 1) := by decide +kernel
theorem dX6_rewardNow_13 : decode cX6_rewardNow 13 = .ok (.iaload, 1) := by decide +kernel
theorem dX6_rewardNow_14 : decode cX6_rewardNow 14 = .ok (.iload_n 2, 1) := by decide +kernel
theorem dX6_rewardNow_15 : decode cX6_rewardNow 15 = .ok (.imul, 1) := by decide +kernel
theorem dX6_rewardNow_16 : decode cX6_rewardNow 16 = .ok (.isub, 1) := by decide +kernel
theorem dX6_rewardNow_17 : decode cX6_rewardNow 17 = .ok (.goto 12, 3) := by decide +kernel
theorem dX6_rewardNow_20 : decode cX6_rewardNow 20 = .ok (.aload_n 0, 1) := by decide +kernel
theorem dX6_rewardNow_21 : decode cX6_rewardNow 21 = .ok (.getfield 13, 3) := by decide +kernel
theorem dX6_rewardNow_24 : decode cX6_rewardNow 24 = .ok (.iconst 1, 1) := by decide +kernel
theorem dX6_rewardNow_25 : decode cX6_rewardNow 25 = .ok (.iaload, 1) := by decide +kernel
theorem dX6_rewardNow_26 : decode cX6_rewardNow 26 = .ok (.ineg, 1) := by decide +kernel
theorem dX6_rewardNow_27 : decode cX6_rewardNow 27 = .ok (.iload_n 1, 1) := by decide +kernel
theorem dX6_rewardNow_28 : decode cX6_rewardNow 28 = .ok (.imul, 1) := by decide +kernel
theorem dX6_rewardNow_29 : decode cX6_rewardNow 29 = .ok (.ireturn, 1) := by decide +kernel
theorem dX6_isRightToOpen_0 : decode cX6_isRightToOpen 0 = .ok (.aload_n 0, 1) := by decide +kernel
theorem dX6_isRightToOpen_1 : decode cX6_isRightToOpen 1 = .ok (.iload_n 1, 1) := by decide +kernel
theorem dX6_isRightToOpen_2 : decode cX6_isRightToOpen 2 = .ok (.iload_n 2, 1) := by decide +kernel
theorem dX6_isRightToOpen_3 : decode cX6_isRightToOpen 3 = .ok (.iconst 1, 1) := by decide +kernel
theorem dX6_isRightToOpen_4 : decode cX6_isRightToOpen 4 = .ok (.invokevirtual 58, 3) := by decide +kernel
theorem dX6_isRightToOpen_7 : decode cX6_isRightToOpen 7 = .ok (.aload_n 0, 1) := by decide +kernel
theorem dX6_isRightToOpen_8 : decode cX6_isRightToOpen 8 = .ok (.iload_n 1, 1) := by decide +kernel
theorem dX6_isRightToOpen_9 : decode cX6_isRightToOpen 9 = .ok (.iload_n 2, 1) := by decide +kernel
theorem dX6_isRightToOpen_10 : decode cX6_isRightToOpen 10 = .ok (.iconst 0, 1) := by decide +kernel
theorem dX6_isRightToOpen_11 : decode cX6_isRightToOpen 11 = .ok (.invokevirtual 58, 3) := by decide +kernel
theorem dX6_isRightToOpen_14 : decode cX6_isRightToOpen 14 = .ok (.if_icmp .le 7, 3) := by decide +kernel
theorem dX6_isRightToOpen_17 : decode cX6_isRightToOpen 17 = .ok (.iconst 1, 1) := by decide +kernel
theorem dX6_isRightToOpen_18 : decode cX6_isRightToOpen 18 = .ok (.goto 4, 3) := by decide +kernel
theorem dX6_isRightToOpen_21 : decode cX6_isRightToOpen 21 = .ok (.iconst 0, 1) := by decide +kernel
theorem dX6_isRightToOpen_22 : decode cX6_isRightToOpen 22 = .ok (.ireturn, 1) := by decide +kernel
theorem dX6_triedTimes_0 : decode cX6_triedTimes 0 = .ok (.iconst 0, 1) := by decide +kernel
theorem dX6_triedTimes_1 : decode cX6_triedTimes 1 = .ok (.istore 5, 2) := by decide +kernel
theorem dX6_triedTimes_3 : decode cX6_triedTimes 3 = .ok (.iconst 0, 1) := by decide +kernel
theorem dX6_triedTimes_4 : decode cX6_triedTimes 4 = .ok (.istore 6, 2) := by decide +kernel
theorem dX6_triedTimes_6 : decode cX6_triedTimes 6 = .ok (.iload 6, 2) := by decide +kernel
theorem dX6_triedTimes_8 : decode cX6_triedTimes 8 = .ok (.aload_n 0, 1) := by decide +kernel
theorem dX6_triedTimes_9 : decode cX6_triedTimes 9 = .ok (.iload_n 1, 1) := by decide +kernel
theorem dX6_triedTimes_10 : decode cX6_triedTimes 10 = .ok (.iconst 3, 1) := by decide +kernel
theorem dX6_triedTimes_11 : decode cX6_triedTimes 11 = .ok (.invokevirtual 62, 3) := by decide +kernel
theorem dX6_triedTimes_14 : decode cX6_triedTimes 14 = .ok (.if_icmp .ge 46, 3) := by decide +kernel
theorem dX6_triedTimes_17 : decode cX6_triedTimes 17 = .ok (.iload 5, 2) := by decide +kernel
theorem dX6_triedTimes_19 : decode cX6_triedTimes 19 = .ok (.aload_n 0, 1) := by decide +kernel
theorem dX6_triedTimes_20 : decode cX6_triedTimes 20 = .ok (.iload_n 1, 1) := by decide +kernel
theorem dX6_triedTimes_21 : decode cX6_triedTimes 21 = .ok (.bipush 8, 2) := by decide +kernel
theorem dX6_triedTimes_23 : decode cX6_triedTimes 23 = .ok (.iload 6, 2) := by decide +kernel
theorem dX6_triedTimes_25 : decode cX6_triedTimes 25 = .ok (.iadd, 1) := by decide +kernel
theorem dX6_triedTimes_26 : decode cX6_triedTimes 26 = .ok (.invokevirtual 62, 3) := by decide +kernel
theorem dX6_triedTimes_29 : decode cX6_triedTimes 29 = .ok (.bipush 32, 2) := by decide +kernel
theorem dX6_triedTimes_31 : decode cX6_triedTimes 31 = .ok (.irem, 1) := by decide +kernel
theorem dX6_triedTimes_32 : decode cX6_triedTimes 32 = .ok (.iload_n 2, 1) := by decide +kernel
theorem dX6_triedTimes_33 : decode cX6_triedTimes 33 = .ok (.iconst 4, 1) := by decide +kernel
theorem dX6_triedTimes_34 : decode cX6_triedTimes 34 = .ok (.iload_n 3, 1) := by decide +kernel
theorem dX6_triedTimes_35 : decode cX6_triedTimes 35 = .ok (.imul, 1) := by decide +kernel
theorem dX6_triedTimes_36 : decode cX6_triedTimes 36 = .ok (.iadd, 1) := by decide +kernel
theorem dX6_triedTimes_37 : decode cX6_triedTimes 37 = .ok (.bipush 16, 2) := by decide +kernel
theorem dX6_triedTimes_39 : decode cX6_triedTimes 39 = .ok (.iload 4, 2) := by decide +kernel
theorem dX6_triedTimes_41 : decode cX6_triedTimes 41 = .ok (.imul, 1) := by decide +kernel
theorem dX6_triedTimes_42 : decode cX6_triedTimes 42 = .ok (.iadd, 1) := by decide +kernel
theorem dX6_triedTimes_43 : decode cX6_triedTimes 43 = .ok (.if_icmp .ne 7, 3) := by decide +kernel
theorem dX6_triedTimes_46 : decode cX6_triedTimes 46 = .ok (.iconst 1, 1) := by decide +kernel
theorem dX6_triedTimes_47 : decode cX6_triedTimes 47 = .ok (.goto 4, 3) := by decide +kernel
theorem dX6_triedTimes_50 : decode cX6_triedTimes 50 = .ok (.iconst 0, 1) := by decide +kernel
theorem dX6_triedTimes_51 : decode cX6_triedTimes 51 = .ok (.iadd, 1) := by decide +kernel
theorem dX6_triedTimes_52 : decode cX6_triedTimes 52 = .ok (.istore 5, 2) := by decide +kernel
theorem dX6_triedTimes_54 : decode cX6_triedTimes 54 = .ok (.iinc 6 1, 3) := by decide +kernel
theorem dX6_triedTimes_57 : decode cX6_triedTimes 57 = .ok (.goto (-51), 3) := by decide +kernel
theorem dX6_triedTimes_60 : decode cX6_triedTimes 60 = .ok (.iload 5, 2) := by decide +kernel
theorem dX6_triedTimes_62 : decode cX6_triedTimes 62 = .ok (.ireturn, 1) := by decide +kernel
theorem dX6_sumOf_0 : decode cX6_sumOf 0 = .ok (.iconst 0, 1) := by decide +kernel
theorem dX6_sumOf_1 : decode cX6_sumOf 1 = .ok (.istore 5, 2) := by decide +kernel
theorem dX6_sumOf_3 : decode cX6_sumOf 3 = .ok (.iconst 0, 1) := by decide +kernel
theorem dX6_sumOf_4 : decode cX6_sumOf 4 = .ok (.istore 6, 2) := by decide +kernel
theorem dX6_sumOf_6 : decode cX6_sumOf 6 = .ok (.iload 6, 2) := by decide +kernel
theorem dX6_sumOf_8 : decode cX6_sumOf 8 = .ok (.aload_n 0, 1) := by decide +kernel
theorem dX6_sumOf_9 : decode cX6_sumOf 9 = .ok (.iload_n 1, 1) := by decide +kernel
theorem dX6_sumOf_10 : decode cX6_sumOf 10 = .ok (.iconst 3, 1) := by decide +kernel
theorem dX6_sumOf_11 : decode cX6_sumOf 11 = .ok (.invokevirtual 62, 3) := by decide +kernel
theorem dX6_sumOf_14 : decode cX6_sumOf 14 = .ok (.if_icmp .ge 54, 3) := by decide +kernel
theorem dX6_sumOf_17 : decode cX6_sumOf 17 = .ok (.aload_n 0, 1) := by decide +kernel
theorem dX6_sumOf_18 : decode cX6_sumOf 18 = .ok (.iload_n 1, 1) := by decide +kernel
theorem dX6_sumOf_19 : decode cX6_sumOf 19 = .ok (.bipush 8, 2) := by decide +kernel
theorem dX6_sumOf_21 : decode cX6_sumOf 21 = .ok (.iload 6, 2) := by decide +kernel
theorem dX6_sumOf_23 : decode cX6_sumOf 23 = .ok (.iadd, 1) := by decide +kernel
theorem dX6_sumOf_24 : decode cX6_sumOf 24 = .ok (.invokevirtual 62, 3) := by decide +kernel
theorem dX6_sumOf_27 : decode cX6_sumOf 27 = .ok (.bipush 32, 2) := by decide +kernel
theorem dX6_sumOf_29 : decode cX6_sumOf 29 = .ok (.irem, 1) := by decide +kernel
theorem dX6_sumOf_30 : decode cX6_sumOf 30 = .ok (.iload_n 2, 1) := by decide +kernel
theorem dX6_sumOf_31 : decode cX6_sumOf 31 = .ok (.iconst 4, 1) := by decide +kernel
theorem dX6_sumOf_32 : decode cX6_sumOf 32 = .ok (.iload_n 3, 1) := by decide +kernel
theorem dX6_sumOf_33 : decode cX6_sumOf 33 = .ok (.imul, 1) := by decide +kernel
theorem dX6_sumOf_34 : decode cX6_sumOf 34 = .ok (.iadd, 1) := by decide +kernel
theorem dX6_sumOf_35 : decode cX6_sumOf 35 = .ok (.bipush 16, 2) := by decide +kernel
theorem dX6_sumOf_37 : decode cX6_sumOf 37 = .ok (.iload 4, 2) := by decide +kernel
theorem dX6_sumOf_39 : decode cX6_sumOf 39 = .ok (.imul, 1) := by decide +kernel
theorem dX6_sumOf_40 : decode cX6_sumOf 40 = .ok (.iadd, 1) := by decide +kernel
theorem dX6_sumOf_41 : decode cX6_sumOf 41 = .ok (.if_icmp .ne 21, 3) := by decide +kernel
theorem dX6_sumOf_44 : decode cX6_sumOf 44 = .ok (.iload 5, 2) := by decide +kernel
theorem dX6_sumOf_46 : decode cX6_sumOf 46 = .ok (.aload_n 0, 1) := by decide +kernel
theorem dX6_sumOf_47 : decode cX6_sumOf 47 = .ok (.iload_n 1, 1) := by decide +kernel
theorem dX6_sumOf_48 : decode cX6_sumOf 48 = .ok (.bipush 8, 2) := by decide +kernel
theorem dX6_sumOf_50 : decode cX6_sumOf 50 = .ok (.iload 6, 2) := by decide +kernel
theorem dX6_sumOf_52 : decode cX6_sumOf 52 = .ok (.iadd, 1) := by decide +kernel
theorem dX6_sumOf_53 : decode cX6_sumOf 53 = .ok (.invokevirtual 62, 3) := by decide +kernel
theorem dX6_sumOf_56 : decode cX6_sumOf 56 = .ok (.invokestatic 66, 3) := by decide +kernel
theorem dX6_sumOf_59 : decode cX6_sumOf 59 = .ok (.iadd, 1) := by decide +kernel
theorem dX6_sumOf_60 : decode cX6_sumOf 60 = .ok (.istore 5, 2) := by decide +kernel
theorem dX6_sumOf_62 : decode cX6_sumOf 62 = .ok (.iinc 6 1, 3) := by decide +kernel
theorem dX6_sumOf_65 : decode cX6_sumOf 65 = .ok (.goto (-59), 3) := by decide +kernel
theorem dX6_sumOf_68 : decode cX6_sumOf 68 = .ok (.iload 5, 2) := by decide +kernel
theorem dX6_sumOf_70 : decode cX6_sumOf 70 = .ok (.ireturn, 1) := by decide +kernel
theorem dX6_habit_0 : decode cX6_habit 0 = .ok (.aload_n 0, 1) := by decide +kernel
theorem dX6_habit_1 : decode cX6_habit 1 = .ok (.iload_n 1, 1) := by decide +kernel
theorem dX6_habit_2 : decode cX6_habit 2 = .ok (.iload_n 2, 1) := by decide +kernel
theorem dX6_habit_3 : decode cX6_habit 3 = .ok (.iload_n 3, 1) := by decide +kernel
theorem dX6_habit_4 : decode cX6_habit 4 = .ok (.iconst 1, 1) := by decide +kernel
theorem dX6_habit_5 : decode cX6_habit 5 = .ok (.invokevirtual 70, 3) := by decide +kernel
theorem dX6_habit_8 : decode cX6_habit 8 = .ok (.istore 4, 2) := by decide +kernel
theorem dX6_habit_10 : decode cX6_habit 10 = .ok (.aload_n 0, 1) := by decide +kernel
theorem dX6_habit_11 : decode cX6_habit 11 = .ok (.iload_n 1, 1) := by decide +kernel
theorem dX6_habit_12 : decode cX6_habit 12 = .ok (.iload_n 2, 1) := by decide +kernel
theorem dX6_habit_13 : decode cX6_habit 13 = .ok (.iload_n 3, 1) := by decide +kernel
theorem dX6_habit_14 : decode cX6_habit 14 = .ok (.iconst 0, 1) := by decide +kernel
theorem dX6_habit_15 : decode cX6_habit 15 = .ok (.invokevirtual 70, 3) := by decide +kernel
theorem dX6_habit_18 : decode cX6_habit 18 = .ok (.istore 5, 2) := by decide +kernel
theorem dX6_habit_20 : decode cX6_habit 20 = .ok (.iload 4, 2) := by decide +kernel
theorem dX6_habit_22 : decode cX6_habit 22 = .ok (.ifCond .ne 5, 3) := by decide +kernel
theorem dX6_habit_25 : decode cX6_habit 25 = .ok (.iconst 0, 1) := by decide +kernel
theorem dX6_habit_26 : decode cX6_habit 26 = .ok (.ireturn, 1) := by decide +kernel
theorem dX6_habit_27 : decode cX6_habit 27 = .ok (.iload 5, 2) := by decide +kernel
theorem dX6_habit_29 : decode cX6_habit 29 = .ok (.ifCond .ne 5, 3) := by decide +kernel
theorem dX6_habit_32 : decode cX6_habit 32 = .ok (.iconst 1, 1) := by decide +kernel
theorem dX6_habit_33 : decode cX6_habit 33 = .ok (.ireturn, 1) := by decide +kernel
theorem dX6_habit_34 : decode cX6_habit 34 = .ok (.aload_n 0, 1) := by decide +kernel
theorem dX6_habit_35 : decode cX6_habit 35 = .ok (.iload_n 1, 1) := by decide +kernel
theorem dX6_habit_36 : decode cX6_habit 36 = .ok (.iload_n 2, 1) := by decide +kernel
theorem dX6_habit_37 : decode cX6_habit 37 = .ok (.iload_n 3, 1) := by decide +kernel
theorem dX6_habit_38 : decode cX6_habit 38 = .ok (.iconst 1, 1) := by decide +kernel
theorem dX6_habit_39 : decode cX6_habit 39 = .ok (.invokevirtual 74, 3) := by decide +kernel
theorem dX6_habit_42 : decode cX6_habit 42 = .ok (.iload 5, 2) := by decide +kernel
theorem dX6_habit_44 : decode cX6_habit 44 = .ok (.imul, 1) := by decide +kernel
theorem dX6_habit_45 : decode cX6_habit 45 = .ok (.aload_n 0, 1) := by decide +kernel
theorem dX6_habit_46 : decode cX6_habit 46 = .ok (.iload_n 1, 1) := by decide +kernel
theorem dX6_habit_47 : decode cX6_habit 47 = .ok (.iload_n 2, 1) := by decide +kernel
theorem dX6_habit_48 : decode cX6_habit 48 = .ok (.iload_n 3, 1) := by decide +kernel
theorem dX6_habit_49 : decode cX6_habit 49 = .ok (.iconst 0, 1) := by decide +kernel
theorem dX6_habit_50 : decode cX6_habit 50 = .ok (.invokevirtual 74, 3) := by decide +kernel
theorem dX6_habit_53 : decode cX6_habit 53 = .ok (.iload 4, 2) := by decide +kernel
theorem dX6_habit_55 : decode cX6_habit 55 = .ok (.imul, 1) := by decide +kernel
theorem dX6_habit_56 : decode cX6_habit 56 = .ok (.if_icmp .le 7, 3) := by decide +kernel
theorem dX6_habit_59 : decode cX6_habit 59 = .ok (.iconst 1, 1) := by decide +kernel
theorem dX6_habit_60 : decode cX6_habit 60 = .ok (.goto 4, 3) := by decide +kernel
theorem dX6_habit_63 : decode cX6_habit 63 = .ok (.iconst 0, 1) := by decide +kernel
theorem dX6_habit_64 : decode cX6_habit 64 = .ok (.ireturn, 1) := by decide +kernel
theorem dX6_notAdd_0 : decode cX6_notAdd 0 = .ok (.iload_n 1, 1) := by decide +kernel
theorem dX6_notAdd_1 : decode cX6_notAdd 1 = .ok (.iconst 3, 1) := by decide +kernel
theorem dX6_notAdd_2 : decode cX6_notAdd 2 = .ok (.bipush 20, 2) := by decide +kernel
theorem dX6_notAdd_4 : decode cX6_notAdd 4 = .ok (.invokestatic 54, 3) := by decide +kernel
theorem dX6_notAdd_7 : decode cX6_notAdd 7 = .ok (.ifCond .ne 5, 3) := by decide +kernel
theorem dX6_notAdd_10 : decode cX6_notAdd 10 = .ok (.iconst 1, 1) := by decide +kernel
theorem dX6_notAdd_11 : decode cX6_notAdd 11 = .ok (.ireturn, 1) := by decide +kernel
theorem dX6_notAdd_12 : decode cX6_notAdd 12 = .ok (.aload_n 0, 1) := by decide +kernel
theorem dX6_notAdd_13 : decode cX6_notAdd 13 = .ok (.getfield 13, 3) := by decide +kernel
theorem dX6_notAdd_16 : decode cX6_notAdd 16 = .ok (.iconst 0, 1) := by decide +kernel
theorem dX6_notAdd_17 : decode cX6_notAdd 17 = .ok (.iaload, 1) := by decide +kernel
theorem dX6_notAdd_18 : decode cX6_notAdd 18 = .ok (.bipush 6, 2) := by decide +kernel
theorem dX6_notAdd_20 : decode cX6_notAdd 20 = .ok (.if_icmp .ne 7, 3) := by decide +kernel
theorem dX6_notAdd_23 : decode cX6_notAdd 23 = .ok (.iconst 2, 1) := by decide +kernel
theorem dX6_notAdd_24 : decode cX6_notAdd 24 = .ok (.goto 4, 3) := by decide +kernel
theorem dX6_notAdd_27 : decode cX6_notAdd 27 = .ok (.iconst 0, 1) := by decide +kernel
theorem dX6_notAdd_28 : decode cX6_notAdd 28 = .ok (.ireturn, 1) := by decide +kernel
theorem dX6_addsUmbrella_0 : decode cX6_addsUmbrella 0 = .ok (.aload_n 0, 1) := by decide +kernel
theorem dX6_addsUmbrella_1 : decode cX6_addsUmbrella 1 = .ok (.getfield 13, 3) := by decide +kernel
theorem dX6_addsUmbrella_4 : decode cX6_addsUmbrella 4 = .ok (.iconst 0, 1) := by decide +kernel
theorem dX6_addsUmbrella_5 : decode cX6_addsUmbrella 5 = .ok (.iaload, 1) := by decide +kernel
theorem dX6_addsUmbrella_6 : decode cX6_addsUmbrella 6 = .ok (.istore_n 2, 1) := by decide +kernel
theorem dX6_addsUmbrella_7 : decode cX6_addsUmbrella 7 = .ok (.aload_n 0, 1) := by decide +kernel
theorem dX6_addsUmbrella_8 : decode cX6_addsUmbrella 8 = .ok (.getfield 13, 3) := by decide +kernel
theorem dX6_addsUmbrella_11 : decode cX6_addsUmbrella 11 = .ok (.iconst 0, 1) := by decide +kernel
theorem dX6_addsUmbrella_12 : decode cX6_addsUmbrella 12 = .ok (.dup2, 1) := by decide +kernel
theorem dX6_addsUmbrella_13 : decode cX6_addsUmbrella 13 = .ok (.iaload, 1) := by decide +kernel
theorem dX6_addsUmbrella_14 : decode cX6_addsUmbrella 14 = .ok (.iconst 1, 1) := by decide +kernel
theorem dX6_addsUmbrella_15 : decode cX6_addsUmbrella 15 = .ok (.iadd, 1) := by decide +kernel
theorem dX6_addsUmbrella_16 : decode cX6_addsUmbrella 16 = .ok (.iastore, 1) := by decide +kernel
theorem dX6_addsUmbrella_17 : decode cX6_addsUmbrella 17 = .ok (.iconst 0, 1) := by decide +kernel
theorem dX6_addsUmbrella_18 : decode cX6_addsUmbrella 18 = .ok (.istore_n 3, 1) := by decide +kernel
theorem dX6_addsUmbrella_19 : decode cX6_addsUmbrella 19 = .ok (.iload_n 3, 1) := by decide +kernel
theorem dX6_addsUmbrella_20 : decode cX6_addsUmbrella 20 = .ok (.bipush 28, 2) := by decide +kernel
theorem dX6_addsUmbrella_22 : decode cX6_addsUmbrella 22 = .ok (.if_icmp .ge 16, 3) := by decide +kernel
theorem dX6_addsUmbrella_25 : decode cX6_addsUmbrella 25 = .ok (.aload_n 0, 1) := by decide +kernel
theorem dX6_addsUmbrella_26 : decode cX6_addsUmbrella 26 = .ok (.iload_n 2, 1) := by decide +kernel
theorem dX6_addsUmbrella_27 : decode cX6_addsUmbrella 27 = .ok (.iload_n 3, 1) := by decide +kernel
theorem dX6_addsUmbrella_28 : decode cX6_addsUmbrella 28 = .ok (.iconst 0, 1) := by decide +kernel
theorem dX6_addsUmbrella_29 : decode cX6_addsUmbrella 29 = .ok (.invokevirtual 77, 3) := by decide +kernel
theorem dX6_addsUmbrella_32 : decode cX6_addsUmbrella 32 = .ok (.iinc 3 1, 3) := by decide +kernel
theorem dX6_addsUmbrella_35 : decode cX6_addsUmbrella 35 = .ok (.goto (-16), 3) := by decide +kernel
theorem dX6_addsUmbrella_38 : decode cX6_addsUmbrella 38 = .ok (.aload_n 0, 1) := by decide +kernel
theorem dX6_addsUmbrella_39 : decode cX6_addsUmbrella 39 = .ok (.iload_n 2, 1) := by decide +kernel
theorem dX6_addsUmbrella_40 : decode cX6_addsUmbrella 40 = .ok (.iconst 0, 1) := by decide +kernel
theorem dX6_addsUmbrella_41 : decode cX6_addsUmbrella 41 = .ok (.iload_n 1, 1) := by decide +kernel
theorem dX6_addsUmbrella_42 : decode cX6_addsUmbrella 42 = .ok (.invokevirtual 77, 3) := by decide +kernel
theorem dX6_addsUmbrella_45 : decode cX6_addsUmbrella 45 = .ok (.iload_n 2, 1) := by decide +kernel
theorem dX6_addsUmbrella_46 : decode cX6_addsUmbrella 46 = .ok (.ireturn, 1) := by decide +kernel
theorem dX6_addUmbrella_0 : decode cX6_addUmbrella 0 = .ok (.aload_n 0, 1) := by decide +kernel
theorem dX6_addUmbrella_1 : decode cX6_addUmbrella 1 = .ok (.iconst 0, 1) := by decide +kernel
theorem dX6_addUmbrella_2 : decode cX6_addUmbrella 2 = .ok (.putfield 1, 3) := by decide +kernel
theorem dX6_addUmbrella_5 : decode cX6_addUmbrella 5 = .ok (.aload_n 0, 1) := by decide +kernel
theorem dX6_addUmbrella_6 : decode cX6_addUmbrella 6 = .ok (.iload_n 1, 1) := by decide +kernel
theorem dX6_addUmbrella_7 : decode cX6_addUmbrella 7 = .ok (.invokevirtual 81, 3) := by decide +kernel
theorem dX6_addUmbrella_10 : decode cX6_addUmbrella 10 = .ok (.istore_n 2, 1) := by decide +kernel
theorem dX6_addUmbrella_11 : decode cX6_addUmbrella 11 = .ok (.iload_n 2, 1) := by decide +kernel
theorem dX6_addUmbrella_12 : decode cX6_addUmbrella 12 = .ok (.ifCond .eq 9, 3) := by decide +kernel
theorem dX6_addUmbrella_15 : decode cX6_addUmbrella 15 = .ok (.aload_n 0, 1) := by decide +kernel
theorem dX6_addUmbrella_16 : decode cX6_addUmbrella 16 = .ok (.iload_n 2, 1) := by decide +kernel
theorem dX6_addUmbrella_17 : decode cX6_addUmbrella 17 = .ok (.invokevirtual 84, 3) := by decide +kernel
theorem dX6_addUmbrella_20 : decode cX6_addUmbrella 20 = .ok (.ireturn, 1) := by decide +kernel
theorem dX6_addUmbrella_21 : decode cX6_addUmbrella 21 = .ok (.aload_n 0, 1) := by decide +kernel
theorem dX6_addUmbrella_22 : decode cX6_addUmbrella 22 = .ok (.invokevirtual 87, 3) := by decide +kernel
theorem dX6_addUmbrella_25 : decode cX6_addUmbrella 25 = .ok (.aload_n 0, 1) := by decide +kernel
theorem dX6_addUmbrella_26 : decode cX6_addUmbrella 26 = .ok (.iload_n 1, 1) := by decide +kernel
theorem dX6_addUmbrella_27 : decode cX6_addUmbrella 27 = .ok (.invokevirtual 90, 3) := by decide +kernel
theorem dX6_addUmbrella_30 : decode cX6_addUmbrella 30 = .ok (.ireturn, 1) := by decide +kernel
theorem dX6_explores_0 : decode cX6_explores 0 = .ok (.aload_n 0, 1) := by decide +kernel
theorem dX6_explores_1 : decode cX6_explores 1 = .ok (.iload_n 1, 1) := by decide +kernel
theorem dX6_explores_2 : decode cX6_explores 2 = .ok (.iconst 1, 1) := by decide +kernel
theorem dX6_explores_3 : decode cX6_explores 3 = .ok (.invokevirtual 62, 3) := by decide +kernel
theorem dX6_explores_6 : decode cX6_explores 6 = .ok (.ifCond .le 25, 3) := by decide +kernel
theorem dX6_explores_9 : decode cX6_explores 9 = .ok (.aload_n 0, 1) := by decide +kernel
theorem dX6_explores_10 : decode cX6_explores 10 = .ok (.iload_n 1, 1) := by decide +kernel
theorem dX6_explores_11 : decode cX6_explores 11 = .ok (.iconst 2, 1) := by decide +kernel
theorem dX6_explores_12 : decode cX6_explores 12 = .ok (.invokevirtual 62, 3) := by decide +kernel
theorem dX6_explores_15 : decode cX6_explores 15 = .ok (.iconst 1, 1) := by decide +kernel
theorem dX6_explores_16 : decode cX6_explores 16 = .ok (.iadd, 1) := by decide +kernel
theorem dX6_explores_17 : decode cX6_explores 17 = .ok (.aload_n 0, 1) := by decide +kernel
theorem dX6_explores_18 : decode cX6_explores 18 = .ok (.iload_n 1, 1) := by decide +kernel
theorem dX6_explores_19 : decode cX6_explores 19 = .ok (.iconst 1, 1) := by decide +kernel
theorem dX6_explores_20 : decode cX6_explores 20 = .ok (.invokevirtual 62, 3) := by decide +kernel
theorem dX6_explores_23 : decode cX6_explores 23 = .ok (.irem, 1) := by decide +kernel
theorem dX6_explores_24 : decode cX6_explores 24 = .ok (.ifCond .ne 7, 3) := by decide +kernel
theorem dX6_explores_27 : decode cX6_explores 27 = .ok (.iconst 1, 1) := by decide +kernel
theorem dX6_explores_28 : decode cX6_explores 28 = .ok (.goto 4, 3) := by decide +kernel
theorem dX6_explores_31 : decode cX6_explores 31 = .ok (.iconst 0, 1) := by decide +kernel
theorem dX6_explores_32 : decode cX6_explores 32 = .ok (.ireturn, 1) := by decide +kernel
theorem dX6_learns_0 : decode cX6_learns 0 = .ok (.aload_n 0, 1) := by decide +kernel
theorem dX6_learns_1 : decode cX6_learns 1 = .ok (.iload_n 1, 1) := by decide +kernel
theorem dX6_learns_2 : decode cX6_learns 2 = .ok (.iconst 3, 1) := by decide +kernel
theorem dX6_learns_3 : decode cX6_learns 3 = .ok (.invokevirtual 62, 3) := by decide +kernel
theorem dX6_learns_6 : decode cX6_learns 6 = .ok (.aload_n 0, 1) := by decide +kernel
theorem dX6_learns_7 : decode cX6_learns 7 = .ok (.iload_n 1, 1) := by decide +kernel
theorem dX6_learns_8 : decode cX6_learns 8 = .ok (.iconst 0, 1) := by decide +kernel
theorem dX6_learns_9 : decode cX6_learns 9 = .ok (.invokevirtual 62, 3) := by decide +kernel
theorem dX6_learns_12 : decode cX6_learns 12 = .ok (.if_icmp .ne 48, 3) := by decide +kernel
theorem dX6_learns_15 : decode cX6_learns 15 = .ok (.aload_n 0, 1) := by decide +kernel
theorem dX6_learns_16 : decode cX6_learns 16 = .ok (.iload_n 1, 1) := by decide +kernel
theorem dX6_learns_17 : decode cX6_learns 17 = .ok (.iconst 3, 1) := by decide +kernel
theorem dX6_learns_18 : decode cX6_learns 18 = .ok (.iconst (-1), 1) := by decide +kernel
theorem dX6_learns_19 : decode cX6_learns 19 = .ok (.invokevirtual 93, 3) := by decide +kernel
theorem dX6_learns_22 : decode cX6_learns 22 = .ok (.iconst 0, 1) := by decide +kernel
theorem dX6_learns_23 : decode cX6_learns 23 = .ok (.istore_n 3, 1) := by decide +kernel
theorem dX6_learns_24 : decode cX6_learns 24 = .ok (.iload_n 3, 1) := by decide +kernel
theorem dX6_learns_25 : decode cX6_learns 25 = .ok (.aload_n 0, 1) := by decide +kernel
theorem dX6_learns_26 : decode cX6_learns 26 = .ok (.iload_n 1, 1) := by decide +kernel
theorem dX6_learns_27 : decode cX6_learns 27 = .ok (.iconst 3, 1) := by decide +kernel
theorem dX6_learns_28 : decode cX6_learns 28 = .ok (.invokevirtual 62, 3) := by decide +kernel
theorem dX6_learns_31 : decode cX6_learns 31 = .ok (.if_icmp .ge 29, 3) := by decide +kernel
theorem dX6_learns_34 : decode cX6_learns 34 = .ok (.aload_n 0, 1) := by decide +kernel
theorem dX6_learns_35 : decode cX6_learns 35 = .ok (.iload_n 1, 1) := by decide +kernel
theorem dX6_learns_36 : decode cX6_learns 36 = .ok (.bipush 8, 2) := by decide +kernel
theorem dX6_learns_38 : decode cX6_learns 38 = .ok (.iload_n 3, 1) := by decide +kernel
theorem dX6_learns_39 : decode cX6_learns 39 = .ok (.iadd, 1) := by decide +kernel
theorem dX6_learns_40 : decode cX6_learns 40 = .ok (.aload_n 0, 1) := by decide +kernel
theorem dX6_learns_41 : decode cX6_learns 41 = .ok (.iload_n 1, 1) := by decide +kernel
theorem dX6_learns_42 : decode cX6_learns 42 = .ok (.bipush 8, 2) := by decide +kernel
theorem dX6_learns_44 : decode cX6_learns 44 = .ok (.iload_n 3, 1) := by decide +kernel
theorem dX6_learns_45 : decode cX6_learns 45 = .ok (.iadd, 1) := by decide +kernel
theorem dX6_learns_46 : decode cX6_learns 46 = .ok (.iconst 1, 1) := by decide +kernel
theorem dX6_learns_47 : decode cX6_learns 47 = .ok (.iadd, 1) := by decide +kernel
theorem dX6_learns_48 : decode cX6_learns 48 = .ok (.invokevirtual 62, 3) := by decide +kernel
theorem dX6_learns_51 : decode cX6_learns 51 = .ok (.invokevirtual 77, 3) := by decide +kernel
theorem dX6_learns_54 : decode cX6_learns 54 = .ok (.iinc 3 1, 3) := by decide +kernel
theorem dX6_learns_57 : decode cX6_learns 57 = .ok (.goto (-33), 3) := by decide +kernel
theorem dX6_learns_60 : decode cX6_learns 60 = .ok (.aload_n 0, 1) := by decide +kernel
theorem dX6_learns_61 : decode cX6_learns 61 = .ok (.iload_n 1, 1) := by decide +kernel
theorem dX6_learns_62 : decode cX6_learns 62 = .ok (.bipush 8, 2) := by decide +kernel
theorem dX6_learns_64 : decode cX6_learns 64 = .ok (.aload_n 0, 1) := by decide +kernel
theorem dX6_learns_65 : decode cX6_learns 65 = .ok (.iload_n 1, 1) := by decide +kernel
theorem dX6_learns_66 : decode cX6_learns 66 = .ok (.iconst 3, 1) := by decide +kernel
theorem dX6_learns_67 : decode cX6_learns 67 = .ok (.invokevirtual 62, 3) := by decide +kernel
theorem dX6_learns_70 : decode cX6_learns 70 = .ok (.iadd, 1) := by decide +kernel
theorem dX6_learns_71 : decode cX6_learns 71 = .ok (.iload_n 2, 1) := by decide +kernel
theorem dX6_learns_72 : decode cX6_learns 72 = .ok (.invokevirtual 77, 3) := by decide +kernel
theorem dX6_learns_75 : decode cX6_learns 75 = .ok (.aload_n 0, 1) := by decide +kernel
theorem dX6_learns_76 : decode cX6_learns 76 = .ok (.iload_n 1, 1) := by decide +kernel
theorem dX6_learns_77 : decode cX6_learns 77 = .ok (.iconst 3, 1) := by decide +kernel
theorem dX6_learns_78 : decode cX6_learns 78 = .ok (.iconst 1, 1) := by decide +kernel
theorem dX6_learns_79 : decode cX6_learns 79 = .ok (.invokevirtual 93, 3) := by decide +kernel
theorem dX6_learns_82 : decode cX6_learns 82 = .ok (.return_, 1) := by decide +kernel
theorem dX6_tries_0 : decode cX6_tries 0 = .ok (.aload_n 0, 1) := by decide +kernel
theorem dX6_tries_1 : decode cX6_tries 1 = .ok (.iload_n 1, 1) := by decide +kernel
theorem dX6_tries_2 : decode cX6_tries 2 = .ok (.iload_n 2, 1) := by decide +kernel
theorem dX6_tries_3 : decode cX6_tries 3 = .ok (.iload_n 3, 1) := by decide +kernel
theorem dX6_tries_4 : decode cX6_tries 4 = .ok (.invokevirtual 96, 3) := by decide +kernel
theorem dX6_tries_7 : decode cX6_tries 7 = .ok (.istore 4, 2) := by decide +kernel
theorem dX6_tries_9 : decode cX6_tries 9 = .ok (.aload_n 0, 1) := by decide +kernel
theorem dX6_tries_10 : decode cX6_tries 10 = .ok (.iload_n 1, 1) := by decide +kernel
theorem dX6_tries_11 : decode cX6_tries 11 = .ok (.invokevirtual 99, 3) := by decide +kernel
theorem dX6_tries_14 : decode cX6_tries 14 = .ok (.ifCond .eq 9, 3) := by decide +kernel
theorem dX6_tries_17 : decode cX6_tries 17 = .ok (.iconst 1, 1) := by decide +kernel
theorem dX6_tries_18 : decode cX6_tries 18 = .ok (.iload 4, 2) := by decide +kernel
theorem dX6_tries_20 : decode cX6_tries 20 = .ok (.isub, 1) := by decide +kernel
theorem dX6_tries_21 : decode cX6_tries 21 = .ok (.istore 4, 2) := by decide +kernel
theorem dX6_tries_23 : decode cX6_tries 23 = .ok (.aload_n 0, 1) := by decide +kernel
theorem dX6_tries_24 : decode cX6_tries 24 = .ok (.iload_n 2, 1) := by decide +kernel
theorem dX6_tries_25 : decode cX6_tries 25 = .ok (.iload_n 3, 1) := by decide +kernel
theorem dX6_tries_26 : decode cX6_tries 26 = .ok (.iload 4, 2) := by decide +kernel
theorem dX6_tries_28 : decode cX6_tries 28 = .ok (.invokevirtual 58, 3) := by decide +kernel
theorem dX6_tries_31 : decode cX6_tries 31 = .ok (.istore 5, 2) := by decide +kernel
theorem dX6_tries_33 : decode cX6_tries 33 = .ok (.aload_n 0, 1) := by decide +kernel
theorem dX6_tries_34 : decode cX6_tries 34 = .ok (.iload_n 1, 1) := by decide +kernel
theorem dX6_tries_35 : decode cX6_tries 35 = .ok (.iload_n 2, 1) := by decide +kernel
theorem dX6_tries_36 : decode cX6_tries 36 = .ok (.iload_n 3, 1) := by decide +kernel
theorem dX6_tries_37 : decode cX6_tries 37 = .ok (.iload 4, 2) := by decide +kernel
theorem dX6_tries_39 : decode cX6_tries 39 = .ok (.iload 5, 2) := by decide +kernel
theorem dX6_tries_41 : decode cX6_tries 41 = .ok (.invokestatic 103, 3) := by decide +kernel
theorem dX6_tries_44 : decode cX6_tries 44 = .ok (.invokevirtual 106, 3) := by decide +kernel
theorem dX6_tries_47 : decode cX6_tries 47 = .ok (.aload_n 0, 1) := by decide +kernel
theorem dX6_tries_48 : decode cX6_tries 48 = .ok (.iload_n 1, 1) := by decide +kernel
theorem dX6_tries_49 : decode cX6_tries 49 = .ok (.iconst 2, 1) := by decide +kernel
theorem dX6_tries_50 : decode cX6_tries 50 = .ok (.iconst 1, 1) := by decide +kernel
theorem dX6_tries_51 : decode cX6_tries 51 = .ok (.invokevirtual 93, 3) := by decide +kernel
theorem dX6_tries_54 : decode cX6_tries 54 = .ok (.aload_n 0, 1) := by decide +kernel
theorem dX6_tries_55 : decode cX6_tries 55 = .ok (.iload_n 1, 1) := by decide +kernel
theorem dX6_tries_56 : decode cX6_tries 56 = .ok (.iconst 4, 1) := by decide +kernel
theorem dX6_tries_57 : decode cX6_tries 57 = .ok (.iload 5, 2) := by decide +kernel
theorem dX6_tries_59 : decode cX6_tries 59 = .ok (.invokevirtual 93, 3) := by decide +kernel
theorem dX6_tries_62 : decode cX6_tries 62 = .ok (.aload_n 0, 1) := by decide +kernel
theorem dX6_tries_63 : decode cX6_tries 63 = .ok (.iload_n 1, 1) := by decide +kernel
theorem dX6_tries_64 : decode cX6_tries 64 = .ok (.iconst 5, 1) := by decide +kernel
theorem dX6_tries_65 : decode cX6_tries 65 = .ok (.iload 5, 2) := by decide +kernel
theorem dX6_tries_67 : decode cX6_tries 67 = .ok (.invokevirtual 93, 3) := by decide +kernel
theorem dX6_tries_70 : decode cX6_tries 70 = .ok (.aload_n 0, 1) := by decide +kernel
theorem dX6_tries_71 : decode cX6_tries 71 = .ok (.getfield 13, 3) := by decide +kernel
theorem dX6_tries_74 : decode cX6_tries 74 = .ok (.iload 4, 2) := by decide +kernel
theorem dX6_tries_76 : decode cX6_tries 76 = .ok (.iconst 1, 1) := by decide +kernel
theorem dX6_tries_77 : decode cX6_tries 77 = .ok (.if_icmp .ne 7, 3) := by decide +kernel
theorem dX6_tries_80 : decode cX6_tries 80 = .ok (.iconst 4, 1) := by decide +kernel
theorem dX6_tries_81 : decode cX6_tries 81 = .ok (.goto 4, 3) := by decide +kernel
theorem dX6_tries_84 : decode cX6_tries 84 = .ok (.iconst 5, 1) := by decide +kernel
theorem dX6_tries_85 : decode cX6_tries 85 = .ok (.dup2, 1) := by decide +kernel
theorem dX6_tries_86 : decode cX6_tries 86 = .ok (.iaload, 1) := by decide +kernel
theorem dX6_tries_87 : decode cX6_tries 87 = .ok (.iload 5, 2) := by decide +kernel
theorem dX6_tries_89 : decode cX6_tries 89 = .ok (.iadd, 1) := by decide +kernel
theorem dX6_tries_90 : decode cX6_tries 90 = .ok (.iastore, 1) := by decide +kernel
theorem dX6_tries_91 : decode cX6_tries 91 = .ok (.aload_n 0, 1) := by decide +kernel
theorem dX6_tries_92 : decode cX6_tries 92 = .ok (.getfield 13, 3) := by decide +kernel
theorem dX6_tries_95 : decode cX6_tries 95 = .ok (.bipush 6, 2) := by decide +kernel
theorem dX6_tries_97 : decode cX6_tries 97 = .ok (.dup2, 1) := by decide +kernel
theorem dX6_tries_98 : decode cX6_tries 98 = .ok (.iaload, 1) := by decide +kernel
theorem dX6_tries_99 : decode cX6_tries 99 = .ok (.iload 4, 2) := by decide +kernel
theorem dX6_tries_101 : decode cX6_tries 101 = .ok (.iadd, 1) := by decide +kernel
theorem dX6_tries_102 : decode cX6_tries 102 = .ok (.iastore, 1) := by decide +kernel
theorem dX6_tries_103 : decode cX6_tries 103 = .ok (.aload_n 0, 1) := by decide +kernel
theorem dX6_tries_104 : decode cX6_tries 104 = .ok (.getfield 13, 3) := by decide +kernel
theorem dX6_tries_107 : decode cX6_tries 107 = .ok (.bipush 7, 2) := by decide +kernel
theorem dX6_tries_109 : decode cX6_tries 109 = .ok (.dup2, 1) := by decide +kernel
theorem dX6_tries_110 : decode cX6_tries 110 = .ok (.iaload, 1) := by decide +kernel
theorem dX6_tries_111 : decode cX6_tries 111 = .ok (.iconst 1, 1) := by decide +kernel
theorem dX6_tries_112 : decode cX6_tries 112 = .ok (.iadd, 1) := by decide +kernel
theorem dX6_tries_113 : decode cX6_tries 113 = .ok (.iastore, 1) := by decide +kernel
theorem dX6_tries_114 : decode cX6_tries 114 = .ok (.iload 5, 2) := by decide +kernel
theorem dX6_tries_116 : decode cX6_tries 116 = .ok (.ireturn, 1) := by decide +kernel
theorem dX6_notTrain_0 : decode cX6_notTrain 0 = .ok (.aload_n 0, 1) := by decide +kernel
theorem dX6_notTrain_1 : decode cX6_notTrain 1 = .ok (.iload_n 1, 1) := by decide +kernel
theorem dX6_notTrain_2 : decode cX6_notTrain 2 = .ok (.invokevirtual 110, 3) := by decide +kernel
theorem dX6_notTrain_5 : decode cX6_notTrain 5 = .ok (.ifCond .ne 5, 3) := by decide +kernel
theorem dX6_notTrain_8 : decode cX6_notTrain 8 = .ok (.iconst 1, 1) := by decide +kernel
theorem dX6_notTrain_9 : decode cX6_notTrain 9 = .ok (.ireturn, 1) := by decide +kernel
theorem dX6_notTrain_10 : decode cX6_notTrain 10 = .ok (.iload_n 2, 1) := by decide +kernel
theorem dX6_notTrain_11 : decode cX6_notTrain 11 = .ok (.iload_n 3, 1) := by decide +kernel
theorem dX6_notTrain_12 : decode cX6_notTrain 12 = .ok (.invokestatic 113, 3) := by decide +kernel
theorem dX6_notTrain_15 : decode cX6_notTrain 15 = .ok (.ifCond .eq 18, 3) := by decide +kernel
theorem dX6_notTrain_18 : decode cX6_notTrain 18 = .ok (.iload 4, 2) := by decide +kernel
theorem dX6_notTrain_20 : decode cX6_notTrain 20 = .ok (.iconst 1, 1) := by decide +kernel
theorem dX6_notTrain_21 : decode cX6_notTrain 21 = .ok (.bipush 9, 2) := by decide +kernel
theorem dX6_notTrain_23 : decode cX6_notTrain 23 = .ok (.invokestatic 54, 3) := by decide +kernel
theorem dX6_notTrain_26 : decode cX6_notTrain 26 = .ok (.ifCond .eq 7, 3) := by decide +kernel
theorem dX6_notTrain_29 : decode cX6_notTrain 29 = .ok (.iconst 0, 1) := by decide +kernel
theorem dX6_notTrain_30 : decode cX6_notTrain 30 = .ok (.goto 4, 3) := by decide +kernel
theorem dX6_notTrain_33 : decode cX6_notTrain 33 = .ok (.iconst 2, 1) := by decide +kernel
theorem dX6_notTrain_34 : decode cX6_notTrain 34 = .ok (.ireturn, 1) := by decide +kernel
theorem dX6_trains_0 : decode cX6_trains 0 = .ok (.iconst 0, 1) := by decide +kernel
theorem dX6_trains_1 : decode cX6_trains 1 = .ok (.istore 5, 2) := by decide +kernel
theorem dX6_trains_3 : decode cX6_trains 3 = .ok (.iconst 0, 1) := by decide +kernel
theorem dX6_trains_4 : decode cX6_trains 4 = .ok (.istore 6, 2) := by decide +kernel
theorem dX6_trains_6 : decode cX6_trains 6 = .ok (.iload 6, 2) := by decide +kernel
theorem dX6_trains_8 : decode cX6_trains 8 = .ok (.iload 4, 2) := by decide +kernel
theorem dX6_trains_10 : decode cX6_trains 10 = .ok (.if_icmp .ge 21, 3) := by decide +kernel
theorem dX6_trains_13 : decode cX6_trains 13 = .ok (.iload 5, 2) := by decide +kernel
theorem dX6_trains_15 : decode cX6_trains 15 = .ok (.aload_n 0, 1) := by decide +kernel
theorem dX6_trains_16 : decode cX6_trains 16 = .ok (.iload_n 1, 1) := by decide +kernel
theorem dX6_trains_17 : decode cX6_trains 17 = .ok (.iload_n 2, 1) := by decide +kernel
theorem dX6_trains_18 : decode cX6_trains 18 = .ok (.iload_n 3, 1) := by decide +kernel
theorem dX6_trains_19 : decode cX6_trains 19 = .ok (.invokevirtual 117, 3) := by decide +kernel
theorem dX6_trains_22 : decode cX6_trains 22 = .ok (.iadd, 1) := by decide +kernel
theorem dX6_trains_23 : decode cX6_trains 23 = .ok (.istore 5, 2) := by decide +kernel
theorem dX6_trains_25 : decode cX6_trains 25 = .ok (.iinc 6 1, 3) := by decide +kernel
theorem dX6_trains_28 : decode cX6_trains 28 = .ok (.goto (-22), 3) := by decide +kernel
theorem dX6_trains_31 : decode cX6_trains 31 = .ok (.iload 5, 2) := by decide +kernel
theorem dX6_trains_33 : decode cX6_trains 33 = .ok (.ireturn, 1) := by decide +kernel
theorem dX6_train_0 : decode cX6_train 0 = .ok (.aload_n 0, 1) := by decide +kernel
theorem dX6_train_1 : decode cX6_train 1 = .ok (.iconst 0, 1) := by decide +kernel
theorem dX6_train_2 : decode cX6_train 2 = .ok (.putfield 1, 3) := by decide +kernel
theorem dX6_train_5 : decode cX6_train 5 = .ok (.aload_n 0, 1) := by decide +kernel
theorem dX6_train_6 : decode cX6_train 6 = .ok (.iload_n 1, 1) := by decide +kernel
theorem dX6_train_7 : decode cX6_train 7 = .ok (.iload_n 2, 1) := by decide +kernel
theorem dX6_train_8 : decode cX6_train 8 = .ok (.iload_n 3, 1) := by decide +kernel
theorem dX6_train_9 : decode cX6_train 9 = .ok (.iload 4, 2) := by decide +kernel
theorem dX6_train_11 : decode cX6_train 11 = .ok (.invokevirtual 120, 3) := by decide +kernel
theorem dX6_train_14 : decode cX6_train 14 = .ok (.istore 5, 2) := by decide +kernel
theorem dX6_train_16 : decode cX6_train 16 = .ok (.iload 5, 2) := by decide +kernel
theorem dX6_train_18 : decode cX6_train 18 = .ok (.ifCond .eq 10, 3) := by decide +kernel
theorem dX6_train_21 : decode cX6_train 21 = .ok (.aload_n 0, 1) := by decide +kernel
theorem dX6_train_22 : decode cX6_train 22 = .ok (.iload 5, 2) := by decide +kernel
theorem dX6_train_24 : decode cX6_train 24 = .ok (.invokevirtual 84, 3) := by decide +kernel
theorem dX6_train_27 : decode cX6_train 27 = .ok (.ireturn, 1) := by decide +kernel
theorem dX6_train_28 : decode cX6_train 28 = .ok (.aload_n 0, 1) := by decide +kernel
theorem dX6_train_29 : decode cX6_train 29 = .ok (.invokevirtual 87, 3) := by decide +kernel
theorem dX6_train_32 : decode cX6_train 32 = .ok (.aload_n 0, 1) := by decide +kernel
theorem dX6_train_33 : decode cX6_train 33 = .ok (.iload_n 1, 1) := by decide +kernel
theorem dX6_train_34 : decode cX6_train 34 = .ok (.iload_n 2, 1) := by decide +kernel
theorem dX6_train_35 : decode cX6_train 35 = .ok (.iload_n 3, 1) := by decide +kernel
theorem dX6_train_36 : decode cX6_train 36 = .ok (.iload 4, 2) := by decide +kernel
theorem dX6_train_38 : decode cX6_train 38 = .ok (.invokevirtual 123, 3) := by decide +kernel
theorem dX6_train_41 : decode cX6_train 41 = .ok (.ireturn, 1) := by decide +kernel
theorem dX6_notPeriod_0 : decode cX6_notPeriod 0 = .ok (.aload_n 0, 1) := by decide +kernel
theorem dX6_notPeriod_1 : decode cX6_notPeriod 1 = .ok (.iload_n 1, 1) := by decide +kernel
theorem dX6_notPeriod_2 : decode cX6_notPeriod 2 = .ok (.invokevirtual 110, 3) := by decide +kernel
theorem dX6_notPeriod_5 : decode cX6_notPeriod 5 = .ok (.ifCond .ne 5, 3) := by decide +kernel
theorem dX6_notPeriod_8 : decode cX6_notPeriod 8 = .ok (.iconst 1, 1) := by decide +kernel
theorem dX6_notPeriod_9 : decode cX6_notPeriod 9 = .ok (.ireturn, 1) := by decide +kernel
theorem dX6_notPeriod_10 : decode cX6_notPeriod 10 = .ok (.iload_n 2, 1) := by decide +kernel
theorem dX6_notPeriod_11 : decode cX6_notPeriod 11 = .ok (.iconst 0, 1) := by decide +kernel
theorem dX6_notPeriod_12 : decode cX6_notPeriod 12 = .ok (.bipush 9, 2) := by decide +kernel
theorem dX6_notPeriod_14 : decode cX6_notPeriod 14 = .ok (.invokestatic 54, 3) := by decide +kernel
theorem dX6_notPeriod_17 : decode cX6_notPeriod 17 = .ok (.ifCond .eq 7, 3) := by decide +kernel
theorem dX6_notPeriod_20 : decode cX6_notPeriod 20 = .ok (.iconst 0, 1) := by decide +kernel
theorem dX6_notPeriod_21 : decode cX6_notPeriod 21 = .ok (.goto 4, 3) := by decide +kernel
theorem dX6_notPeriod_24 : decode cX6_notPeriod 24 = .ok (.iconst 2, 1) := by decide +kernel
theorem dX6_notPeriod_25 : decode cX6_notPeriod 25 = .ok (.ireturn, 1) := by decide +kernel
theorem dX6_setsPeriod_0 : decode cX6_setsPeriod 0 = .ok (.aload_n 0, 1) := by decide +kernel
theorem dX6_setsPeriod_1 : decode cX6_setsPeriod 1 = .ok (.iload_n 1, 1) := by decide +kernel
theorem dX6_setsPeriod_2 : decode cX6_setsPeriod 2 = .ok (.iconst 1, 1) := by decide +kernel
theorem dX6_setsPeriod_3 : decode cX6_setsPeriod 3 = .ok (.invokevirtual 62, 3) := by decide +kernel
theorem dX6_setsPeriod_6 : decode cX6_setsPeriod 6 = .ok (.istore_n 3, 1) := by decide +kernel
theorem dX6_setsPeriod_7 : decode cX6_setsPeriod 7 = .ok (.aload_n 0, 1) := by decide +kernel
theorem dX6_setsPeriod_8 : decode cX6_setsPeriod 8 = .ok (.iload_n 1, 1) := by decide +kernel
theorem dX6_setsPeriod_9 : decode cX6_setsPeriod 9 = .ok (.iconst 1, 1) := by decide +kernel
theorem dX6_setsPeriod_10 : decode cX6_setsPeriod 10 = .ok (.iload_n 2, 1) := by decide +kernel
theorem dX6_setsPeriod_11 : decode cX6_setsPeriod 11 = .ok (.invokevirtual 77, 3) := by decide +kernel
theorem dX6_setsPeriod_14 : decode cX6_setsPeriod 14 = .ok (.iload_n 3, 1) := by decide +kernel
theorem dX6_setsPeriod_15 : decode cX6_setsPeriod 15 = .ok (.ireturn, 1) := by decide +kernel
theorem dX6_setPeriod_0 : decode cX6_setPeriod 0 = .ok (.aload_n 0, 1) := by decide +kernel
theorem dX6_setPeriod_1 : decode cX6_setPeriod 1 = .ok (.iconst 0, 1) := by decide +kernel
theorem dX6_setPeriod_2 : decode cX6_setPeriod 2 = .ok (.putfield 1, 3) := by decide +kernel
theorem dX6_setPeriod_5 : decode cX6_setPeriod 5 = .ok (.aload_n 0, 1) := by decide +kernel
theorem dX6_setPeriod_6 : decode cX6_setPeriod 6 = .ok (.iload_n 1, 1) := by decide +kernel
theorem dX6_setPeriod_7 : decode cX6_setPeriod 7 = .ok (.iload_n 2, 1) := by decide +kernel
theorem dX6_setPeriod_8 : decode cX6_setPeriod 8 = .ok (.invokevirtual 126, 3) := by decide +kernel
theorem dX6_setPeriod_11 : decode cX6_setPeriod 11 = .ok (.istore_n 3, 1) := by decide +kernel
theorem dX6_setPeriod_12 : decode cX6_setPeriod 12 = .ok (.iload_n 3, 1) := by decide +kernel
theorem dX6_setPeriod_13 : decode cX6_setPeriod 13 = .ok (.ifCond .eq 9, 3) := by decide +kernel
theorem dX6_setPeriod_16 : decode cX6_setPeriod 16 = .ok (.aload_n 0, 1) := by decide +kernel
theorem dX6_setPeriod_17 : decode cX6_setPeriod 17 = .ok (.iload_n 3, 1) := by decide +kernel
theorem dX6_setPeriod_18 : decode cX6_setPeriod 18 = .ok (.invokevirtual 84, 3) := by decide +kernel
theorem dX6_setPeriod_21 : decode cX6_setPeriod 21 = .ok (.ireturn, 1) := by decide +kernel
theorem dX6_setPeriod_22 : decode cX6_setPeriod 22 = .ok (.aload_n 0, 1) := by decide +kernel
theorem dX6_setPeriod_23 : decode cX6_setPeriod 23 = .ok (.invokevirtual 87, 3) := by decide +kernel
theorem dX6_setPeriod_26 : decode cX6_setPeriod 26 = .ok (.aload_n 0, 1) := by decide +kernel
theorem dX6_setPeriod_27 : decode cX6_setPeriod 27 = .ok (.iload_n 1, 1) := by decide +kernel
theorem dX6_setPeriod_28 : decode cX6_setPeriod 28 = .ok (.iload_n 2, 1) := by decide +kernel
theorem dX6_setPeriod_29 : decode cX6_setPeriod 29 = .ok (.invokevirtual 129, 3) := by decide +kernel
theorem dX6_setPeriod_32 : decode cX6_setPeriod 32 = .ok (.ireturn, 1) := by decide +kernel
theorem dX6_notPenalty_0 : decode cX6_notPenalty 0 = .ok (.iload_n 0, 1) := by decide +kernel
theorem dX6_notPenalty_1 : decode cX6_notPenalty 1 = .ok (.iconst 0, 1) := by decide +kernel
theorem dX6_notPenalty_2 : decode cX6_notPenalty 2 = .ok (.bipush 9, 2) := by decide +kernel
theorem dX6_notPenalty_4 : decode cX6_notPenalty 4 = .ok (.invokestatic 54, 3) := by decide +kernel
theorem dX6_notPenalty_7 : decode cX6_notPenalty 7 = .ok (.ifCond .eq 7, 3) := by decide +kernel
theorem dX6_notPenalty_10 : decode cX6_notPenalty 10 = .ok (.iconst 0, 1) := by decide +kernel
theorem dX6_notPenalty_11 : decode cX6_notPenalty 11 = .ok (.goto 4, 3) := by decide +kernel
theorem dX6_notPenalty_14 : decode cX6_notPenalty 14 = .ok (.iconst 1, 1) := by decide +kernel
theorem dX6_notPenalty_15 : decode cX6_notPenalty 15 = .ok (.ireturn, 1) := by decide +kernel
theorem dX6_sets_0 : decode cX6_sets 0 = .ok (.aload_n 0, 1) := by decide +kernel
theorem dX6_sets_1 : decode cX6_sets 1 = .ok (.getfield 13, 3) := by decide +kernel
theorem dX6_sets_4 : decode cX6_sets 4 = .ok (.iload_n 1, 1) := by decide +kernel
theorem dX6_sets_5 : decode cX6_sets 5 = .ok (.iaload, 1) := by decide +kernel
theorem dX6_sets_6 : decode cX6_sets 6 = .ok (.istore_n 3, 1) := by decide +kernel
theorem dX6_sets_7 : decode cX6_sets 7 = .ok (.aload_n 0, 1) := by decide +kernel
theorem dX6_sets_8 : decode cX6_sets 8 = .ok (.getfield 13, 3) := by decide +kernel
theorem dX6_sets_11 : decode cX6_sets 11 = .ok (.iload_n 1, 1) := by decide +kernel
theorem dX6_sets_12 : decode cX6_sets 12 = .ok (.iload_n 2, 1) := by decide +kernel
theorem dX6_sets_13 : decode cX6_sets 13 = .ok (.iastore, 1) := by decide +kernel
theorem dX6_sets_14 : decode cX6_sets 14 = .ok (.iload_n 3, 1) := by decide +kernel
theorem dX6_sets_15 : decode cX6_sets 15 = .ok (.ireturn, 1) := by decide +kernel
theorem dX6_setsChecked_0 : decode cX6_setsChecked 0 = .ok (.aload_n 0, 1) := by decide +kernel
theorem dX6_setsChecked_1 : decode cX6_setsChecked 1 = .ok (.iconst 0, 1) := by decide +kernel
theorem dX6_setsChecked_2 : decode cX6_setsChecked 2 = .ok (.putfield 1, 3) := by decide +kernel
theorem dX6_setsChecked_5 : decode cX6_setsChecked 5 = .ok (.iload_n 2, 1) := by decide +kernel
theorem dX6_setsChecked_6 : decode cX6_setsChecked 6 = .ok (.invokestatic 132, 3) := by decide +kernel
theorem dX6_setsChecked_9 : decode cX6_setsChecked 9 = .ok (.ifCond .eq 9, 3) := by decide +kernel
theorem dX6_setsChecked_12 : decode cX6_setsChecked 12 = .ok (.aload_n 0, 1) := by decide +kernel
theorem dX6_setsChecked_13 : decode cX6_setsChecked 13 = .ok (.iconst 1, 1) := by decide +kernel
theorem dX6_setsChecked_14 : decode cX6_setsChecked 14 = .ok (.invokevirtual 84, 3) := by decide +kernel
theorem dX6_setsChecked_17 : decode cX6_setsChecked 17 = .ok (.ireturn, 1) := by decide +kernel
theorem dX6_setsChecked_18 : decode cX6_setsChecked 18 = .ok (.aload_n 0, 1) := by decide +kernel
theorem dX6_setsChecked_19 : decode cX6_setsChecked 19 = .ok (.invokevirtual 87, 3) := by decide +kernel
theorem dX6_setsChecked_22 : decode cX6_setsChecked 22 = .ok (.aload_n 0, 1) := by decide +kernel
theorem dX6_setsChecked_23 : decode cX6_setsChecked 23 = .ok (.iload_n 1, 1) := by decide +kernel
theorem dX6_setsChecked_24 : decode cX6_setsChecked 24 = .ok (.iload_n 2, 1) := by decide +kernel
theorem dX6_setsChecked_25 : decode cX6_setsChecked 25 = .ok (.invokevirtual 135, 3) := by decide +kernel
theorem dX6_setsChecked_28 : decode cX6_setsChecked 28 = .ok (.ireturn, 1) := by decide +kernel
theorem dX6_setWetPenalty_0 : decode cX6_setWetPenalty 0 = .ok (.aload_n 0, 1) := by decide +kernel
theorem dX6_setWetPenalty_1 : decode cX6_setWetPenalty 1 = .ok (.iconst 1, 1) := by decide +kernel
theorem dX6_setWetPenalty_2 : decode cX6_setWetPenalty 2 = .ok (.iload_n 1, 1) := by decide +kernel
theorem dX6_setWetPenalty_3 : decode cX6_setWetPenalty 3 = .ok (.invokevirtual 138, 3) := by decide +kernel
theorem dX6_setWetPenalty_6 : decode cX6_setWetPenalty 6 = .ok (.ireturn, 1) := by decide +kernel
theorem dX6_setGalePenalty_0 : decode cX6_setGalePenalty 0 = .ok (.aload_n 0, 1) := by decide +kernel
theorem dX6_setGalePenalty_1 : decode cX6_setGalePenalty 1 = .ok (.iconst 2, 1) := by decide +kernel
theorem dX6_setGalePenalty_2 : decode cX6_setGalePenalty 2 = .ok (.iload_n 1, 1) := by decide +kernel
theorem dX6_setGalePenalty_3 : decode cX6_setGalePenalty 3 = .ok (.invokevirtual 138, 3) := by decide +kernel
theorem dX6_setGalePenalty_6 : decode cX6_setGalePenalty 6 = .ok (.ireturn, 1) := by decide +kernel
theorem dX6_notOne_0 : decode cX6_notOne 0 = .ok (.aload_n 0, 1) := by decide +kernel
theorem dX6_notOne_1 : decode cX6_notOne 1 = .ok (.iload_n 1, 1) := by decide +kernel
theorem dX6_notOne_2 : decode cX6_notOne 2 = .ok (.invokevirtual 110, 3) := by decide +kernel
theorem dX6_notOne_5 : decode cX6_notOne 5 = .ok (.ifCond .ne 5, 3) := by decide +kernel
theorem dX6_notOne_8 : decode cX6_notOne 8 = .ok (.iconst 1, 1) := by decide +kernel
theorem dX6_notOne_9 : decode cX6_notOne 9 = .ok (.ireturn, 1) := by decide +kernel
theorem dX6_notOne_10 : decode cX6_notOne 10 = .ok (.iload_n 2, 1) := by decide +kernel
theorem dX6_notOne_11 : decode cX6_notOne 11 = .ok (.iconst 0, 1) := by decide +kernel
theorem dX6_notOne_12 : decode cX6_notOne 12 = .ok (.iconst 3, 1) := by decide +kernel
theorem dX6_notOne_13 : decode cX6_notOne 13 = .ok (.invokestatic 54, 3) := by decide +kernel
theorem dX6_notOne_16 : decode cX6_notOne 16 = .ok (.ifCond .eq 7, 3) := by decide +kernel
theorem dX6_notOne_19 : decode cX6_notOne 19 = .ok (.iconst 0, 1) := by decide +kernel
theorem dX6_notOne_20 : decode cX6_notOne 20 = .ok (.goto 4, 3) := by decide +kernel
theorem dX6_notOne_23 : decode cX6_notOne 23 = .ok (.iconst 2, 1) := by decide +kernel
theorem dX6_notOne_24 : decode cX6_notOne 24 = .ok (.ireturn, 1) := by decide +kernel
theorem dX6_forgets_0 : decode cX6_forgets 0 = .ok (.iconst 0, 1) := by decide +kernel
theorem dX6_forgets_1 : decode cX6_forgets 1 = .ok (.istore_n 3, 1) := by decide +kernel
theorem dX6_forgets_2 : decode cX6_forgets 2 = .ok (.aload_n 0, 1) := by decide +kernel
theorem dX6_forgets_3 : decode cX6_forgets 3 = .ok (.iload_n 1, 1) := by decide +kernel
theorem dX6_forgets_4 : decode cX6_forgets 4 = .ok (.iconst 3, 1) := by decide +kernel
theorem dX6_forgets_5 : decode cX6_forgets 5 = .ok (.invokevirtual 62, 3) := by decide +kernel
theorem dX6_forgets_8 : decode cX6_forgets 8 = .ok (.istore 4, 2) := by decide +kernel
theorem dX6_forgets_10 : decode cX6_forgets 10 = .ok (.iconst 0, 1) := by decide +kernel
theorem dX6_forgets_11 : decode cX6_forgets 11 = .ok (.istore 5, 2) := by decide +kernel
theorem dX6_forgets_13 : decode cX6_forgets 13 = .ok (.iload 5, 2) := by decide +kernel
theorem dX6_forgets_15 : decode cX6_forgets 15 = .ok (.iload 4, 2) := by decide +kernel
theorem dX6_forgets_17 : decode cX6_forgets 17 = .ok (.if_icmp .ge 47, 3) := by decide +kernel
theorem dX6_forgets_20 : decode cX6_forgets 20 = .ok (.aload_n 0, 1) := by decide +kernel
theorem dX6_forgets_21 : decode cX6_forgets 21 = .ok (.iload_n 1, 1) := by decide +kernel
theorem dX6_forgets_22 : decode cX6_forgets 22 = .ok (.bipush 8, 2) := by decide +kernel
theorem dX6_forgets_24 : decode cX6_forgets 24 = .ok (.iload 5, 2) := by decide +kernel
theorem dX6_forgets_26 : decode cX6_forgets 26 = .ok (.iadd, 1) := by decide +kernel
theorem dX6_forgets_27 : decode cX6_forgets 27 = .ok (.invokevirtual 62, 3) := by decide +kernel
theorem dX6_forgets_30 : decode cX6_forgets 30 = .ok (.istore 6, 2) := by decide +kernel
theorem dX6_forgets_32 : decode cX6_forgets 32 = .ok (.iload 6, 2) := by decide +kernel
theorem dX6_forgets_34 : decode cX6_forgets 34 = .ok (.invokestatic 141, 3) := by decide +kernel
theorem dX6_forgets_37 : decode cX6_forgets 37 = .ok (.iload_n 2, 1) := by decide +kernel
theorem dX6_forgets_38 : decode cX6_forgets 38 = .ok (.if_icmp .ne 6, 3) := by decide +kernel
theorem dX6_forgets_41 : decode cX6_forgets 41 = .ok (.goto 17, 3) := by decide +kernel
theorem dX6_forgets_44 : decode cX6_forgets 44 = .ok (.aload_n 0, 1) := by decide +kernel
theorem dX6_forgets_45 : decode cX6_forgets 45 = .ok (.iload_n 1, 1) := by decide +kernel
theorem dX6_forgets_46 : decode cX6_forgets 46 = .ok (.bipush 8, 2) := by decide +kernel
theorem dX6_forgets_48 : decode cX6_forgets 48 = .ok (.iload_n 3, 1) := by decide +kernel
theorem dX6_forgets_49 : decode cX6_forgets 49 = .ok (.iadd, 1) := by decide +kernel
theorem dX6_forgets_50 : decode cX6_forgets 50 = .ok (.iload 6, 2) := by decide +kernel
theorem dX6_forgets_52 : decode cX6_forgets 52 = .ok (.invokevirtual 77, 3) := by decide +kernel
theorem dX6_forgets_55 : decode cX6_forgets 55 = .ok (.iinc 3 1, 3) := by decide +kernel
theorem dX6_forgets_58 : decode cX6_forgets 58 = .ok (.iinc 5 1, 3) := by decide +kernel
theorem dX6_forgets_61 : decode cX6_forgets 61 = .ok (.goto (-48), 3) := by decide +kernel
theorem dX6_forgets_64 : decode cX6_forgets 64 = .ok (.iload_n 3, 1) := by decide +kernel
theorem dX6_forgets_65 : decode cX6_forgets 65 = .ok (.istore 5, 2) := by decide +kernel
theorem dX6_forgets_67 : decode cX6_forgets 67 = .ok (.iload 5, 2) := by decide +kernel
theorem dX6_forgets_69 : decode cX6_forgets 69 = .ok (.iload 4, 2) := by decide +kernel
theorem dX6_forgets_71 : decode cX6_forgets 71 = .ok (.if_icmp .ge 20, 3) := by decide +kernel
theorem dX6_forgets_74 : decode cX6_forgets 74 = .ok (.aload_n 0, 1) := by decide +kernel
theorem dX6_forgets_75 : decode cX6_forgets 75 = .ok (.iload_n 1, 1) := by decide +kernel
theorem dX6_forgets_76 : decode cX6_forgets 76 = .ok (.bipush 8, 2) := by decide +kernel
theorem dX6_forgets_78 : decode cX6_forgets 78 = .ok (.iload 5, 2) := by decide +kernel
theorem dX6_forgets_80 : decode cX6_forgets 80 = .ok (.iadd, 1) := by decide +kernel
theorem dX6_forgets_81 : decode cX6_forgets 81 = .ok (.iconst 0, 1) := by decide +kernel
theorem dX6_forgets_82 : decode cX6_forgets 82 = .ok (.invokevirtual 77, 3) := by decide +kernel
theorem dX6_forgets_85 : decode cX6_forgets 85 = .ok (.iinc 5 1, 3) := by decide +kernel
theorem dX6_forgets_88 : decode cX6_forgets 88 = .ok (.goto (-21), 3) := by decide +kernel
theorem dX6_forgets_91 : decode cX6_forgets 91 = .ok (.aload_n 0, 1) := by decide +kernel
theorem dX6_forgets_92 : decode cX6_forgets 92 = .ok (.iload_n 1, 1) := by decide +kernel
theorem dX6_forgets_93 : decode cX6_forgets 93 = .ok (.iconst 3, 1) := by decide +kernel
theorem dX6_forgets_94 : decode cX6_forgets 94 = .ok (.iload_n 3, 1) := by decide +kernel
theorem dX6_forgets_95 : decode cX6_forgets 95 = .ok (.invokevirtual 77, 3) := by decide +kernel
theorem dX6_forgets_98 : decode cX6_forgets 98 = .ok (.iload 4, 2) := by decide +kernel
theorem dX6_forgets_100 : decode cX6_forgets 100 = .ok (.iload_n 3, 1) := by decide +kernel
theorem dX6_forgets_101 : decode cX6_forgets 101 = .ok (.isub, 1) := by decide +kernel
theorem dX6_forgets_102 : decode cX6_forgets 102 = .ok (.ireturn, 1) := by decide +kernel
theorem dX6_forgetRain_0 : decode cX6_forgetRain 0 = .ok (.aload_n 0, 1) := by decide +kernel
theorem dX6_forgetRain_1 : decode cX6_forgetRain 1 = .ok (.iconst 0, 1) := by decide +kernel
theorem dX6_forgetRain_2 : decode cX6_forgetRain 2 = .ok (.putfield 1, 3) := by decide +kernel
theorem dX6_forgetRain_5 : decode cX6_forgetRain 5 = .ok (.aload_n 0, 1) := by decide +kernel
theorem dX6_forgetRain_6 : decode cX6_forgetRain 6 = .ok (.iload_n 1, 1) := by decide +kernel
theorem dX6_forgetRain_7 : decode cX6_forgetRain 7 = .ok (.iload_n 2, 1) := by decide +kernel
theorem dX6_forgetRain_8 : decode cX6_forgetRain 8 = .ok (.invokevirtual 144, 3) := by decide +kernel
theorem dX6_forgetRain_11 : decode cX6_forgetRain 11 = .ok (.istore_n 3, 1) := by decide +kernel
theorem dX6_forgetRain_12 : decode cX6_forgetRain 12 = .ok (.iload_n 3, 1) := by decide +kernel
theorem dX6_forgetRain_13 : decode cX6_forgetRain 13 = .ok (.ifCond .eq 9, 3) := by decide +kernel
theorem dX6_forgetRain_16 : decode cX6_forgetRain 16 = .ok (.aload_n 0, 1) := by decide +kernel
theorem dX6_forgetRain_17 : decode cX6_forgetRain 17 = .ok (.iload_n 3, 1) := by decide +kernel
theorem dX6_forgetRain_18 : decode cX6_forgetRain 18 = .ok (.invokevirtual 84, 3) := by decide +kernel
theorem dX6_forgetRain_21 : decode cX6_forgetRain 21 = .ok (.ireturn, 1) := by decide +kernel
theorem dX6_forgetRain_22 : decode cX6_forgetRain 22 = .ok (.aload_n 0, 1) := by decide +kernel
theorem dX6_forgetRain_23 : decode cX6_forgetRain 23 = .ok (.invokevirtual 87, 3) := by decide +kernel
theorem dX6_forgetRain_26 : decode cX6_forgetRain 26 = .ok (.aload_n 0, 1) := by decide +kernel
theorem dX6_forgetRain_27 : decode cX6_forgetRain 27 = .ok (.iload_n 1, 1) := by decide +kernel
theorem dX6_forgetRain_28 : decode cX6_forgetRain 28 = .ok (.iload_n 2, 1) := by decide +kernel
theorem dX6_forgetRain_29 : decode cX6_forgetRain 29 = .ok (.invokevirtual 147, 3) := by decide +kernel
theorem dX6_forgetRain_32 : decode cX6_forgetRain 32 = .ok (.ireturn, 1) := by decide +kernel
theorem dX6_isRight_0 : decode cX6_isRight 0 = .ok (.aload_n 0, 1) := by decide +kernel
theorem dX6_isRight_1 : decode cX6_isRight 1 = .ok (.iload_n 1, 1) := by decide +kernel
theorem dX6_isRight_2 : decode cX6_isRight 2 = .ok (.iload_n 2, 1) := by decide +kernel
theorem dX6_isRight_3 : decode cX6_isRight 3 = .ok (.iload_n 3, 1) := by decide +kernel
theorem dX6_isRight_4 : decode cX6_isRight 4 = .ok (.invokevirtual 96, 3) := by decide +kernel
theorem dX6_isRight_7 : decode cX6_isRight 7 = .ok (.iconst 1, 1) := by decide +kernel
theorem dX6_isRight_8 : decode cX6_isRight 8 = .ok (.if_icmp .ne 7, 3) := by decide +kernel
theorem dX6_isRight_11 : decode cX6_isRight 11 = .ok (.iconst 1, 1) := by decide +kernel
theorem dX6_isRight_12 : decode cX6_isRight 12 = .ok (.goto 4, 3) := by decide +kernel
theorem dX6_isRight_15 : decode cX6_isRight 15 = .ok (.iconst 0, 1) := by decide +kernel
theorem dX6_isRight_16 : decode cX6_isRight 16 = .ok (.aload_n 0, 1) := by decide +kernel
theorem dX6_isRight_17 : decode cX6_isRight 17 = .ok (.iload_n 2, 1) := by decide +kernel
theorem dX6_isRight_18 : decode cX6_isRight 18 = .ok (.iload_n 3, 1) := by decide +kernel
theorem dX6_isRight_19 : decode cX6_isRight 19 = .ok (.invokevirtual 150, 3) := by decide +kernel
theorem dX6_isRight_22 : decode cX6_isRight 22 = .ok (.if_icmp .ne 7, 3) := by decide +kernel
theorem dX6_isRight_25 : decode cX6_isRight 25 = .ok (.iconst 1, 1) := by decide +kernel
theorem dX6_isRight_26 : decode cX6_isRight 26 = .ok (.goto 4, 3) := by decide +kernel
theorem dX6_isRight_29 : decode cX6_isRight 29 = .ok (.iconst 0, 1) := by decide +kernel
theorem dX6_isRight_30 : decode cX6_isRight 30 = .ok (.ireturn, 1) := by decide +kernel
theorem dX6_hasExamOf_0 : decode cX6_hasExamOf 0 = .ok (.aload_n 0, 1) := by decide +kernel
theorem dX6_hasExamOf_1 : decode cX6_hasExamOf 1 = .ok (.iload_n 1, 1) := by decide +kernel
theorem dX6_hasExamOf_2 : decode cX6_hasExamOf 2 = .ok (.bipush 7, 2) := by decide +kernel
theorem dX6_hasExamOf_4 : decode cX6_hasExamOf 4 = .ok (.invokevirtual 62, 3) := by decide +kernel
theorem dX6_hasExamOf_7 : decode cX6_hasExamOf 7 = .ok (.iload_n 2, 1) := by decide +kernel
theorem dX6_hasExamOf_8 : decode cX6_hasExamOf 8 = .ok (.ishr, 1) := by decide +kernel
theorem dX6_hasExamOf_9 : decode cX6_hasExamOf 9 = .ok (.iconst 1, 1) := by decide +kernel
theorem dX6_hasExamOf_10 : decode cX6_hasExamOf 10 = .ok (.iand, 1) := by decide +kernel
theorem dX6_hasExamOf_11 : decode cX6_hasExamOf 11 = .ok (.iconst 1, 1) := by decide +kernel
theorem dX6_hasExamOf_12 : decode cX6_hasExamOf 12 = .ok (.if_icmp .ne 7, 3) := by decide +kernel
theorem dX6_hasExamOf_15 : decode cX6_hasExamOf 15 = .ok (.iconst 1, 1) := by decide +kernel
theorem dX6_hasExamOf_16 : decode cX6_hasExamOf 16 = .ok (.goto 4, 3) := by decide +kernel
theorem dX6_hasExamOf_19 : decode cX6_hasExamOf 19 = .ok (.iconst 0, 1) := by decide +kernel
theorem dX6_hasExamOf_20 : decode cX6_hasExamOf 20 = .ok (.ireturn, 1) := by decide +kernel
theorem dX6_examines_0 : decode cX6_examines 0 = .ok (.iconst 0, 1) := by decide +kernel
theorem dX6_examines_1 : decode cX6_examines 1 = .ok (.istore_n 3, 1) := by decide +kernel
theorem dX6_examines_2 : decode cX6_examines 2 = .ok (.iconst 0, 1) := by decide +kernel
theorem dX6_examines_3 : decode cX6_examines 3 = .ok (.istore 4, 2) := by decide +kernel
theorem dX6_examines_5 : decode cX6_examines 5 = .ok (.iload 4, 2) := by decide +kernel
theorem dX6_examines_7 : decode cX6_examines 7 = .ok (.iconst 4, 1) := by decide +kernel
theorem dX6_examines_8 : decode cX6_examines 8 = .ok (.if_icmp .ge 28, 3) := by decide +kernel
theorem dX6_examines_11 : decode cX6_examines 11 = .ok (.iload_n 3, 1) := by decide +kernel
theorem dX6_examines_12 : decode cX6_examines 12 = .ok (.aload_n 0, 1) := by decide +kernel
theorem dX6_examines_13 : decode cX6_examines 13 = .ok (.iload_n 1, 1) := by decide +kernel
theorem dX6_examines_14 : decode cX6_examines 14 = .ok (.iload 4, 2) := by decide +kernel
theorem dX6_examines_16 : decode cX6_examines 16 = .ok (.iload_n 2, 1) := by decide +kernel
theorem dX6_examines_17 : decode cX6_examines 17 = .ok (.invokevirtual 153, 3) := by decide +kernel
theorem dX6_examines_20 : decode cX6_examines 20 = .ok (.ifCond .eq 7, 3) := by decide +kernel
theorem dX6_examines_23 : decode cX6_examines 23 = .ok (.iconst 1, 1) := by decide +kernel
theorem dX6_examines_24 : decode cX6_examines 24 = .ok (.goto 4, 3) := by decide +kernel
theorem dX6_examines_27 : decode cX6_examines 27 = .ok (.iconst 0, 1) := by decide +kernel
theorem dX6_examines_28 : decode cX6_examines 28 = .ok (.iadd, 1) := by decide +kernel
theorem dX6_examines_29 : decode cX6_examines 29 = .ok (.istore_n 3, 1) := by decide +kernel
theorem dX6_examines_30 : decode cX6_examines 30 = .ok (.iinc 4 1, 3) := by decide +kernel
theorem dX6_examines_33 : decode cX6_examines 33 = .ok (.goto (-28), 3) := by decide +kernel
theorem dX6_examines_36 : decode cX6_examines 36 = .ok (.iload_n 3, 1) := by decide +kernel
theorem dX6_examines_37 : decode cX6_examines 37 = .ok (.iconst 3, 1) := by decide +kernel
theorem dX6_examines_38 : decode cX6_examines 38 = .ok (.if_icmp .lt 7, 3) := by decide +kernel
theorem dX6_examines_41 : decode cX6_examines 41 = .ok (.iconst 1, 1) := by decide +kernel
theorem dX6_examines_42 : decode cX6_examines 42 = .ok (.goto 4, 3) := by decide +kernel
theorem dX6_examines_45 : decode cX6_examines 45 = .ok (.iconst 0, 1) := by decide +kernel
theorem dX6_examines_46 : decode cX6_examines 46 = .ok (.aload_n 0, 1) := by decide +kernel
theorem dX6_examines_47 : decode cX6_examines 47 = .ok (.iload_n 1, 1) := by decide +kernel
theorem dX6_examines_48 : decode cX6_examines 48 = .ok (.iload_n 2, 1) := by decide +kernel
theorem dX6_examines_49 : decode cX6_examines 49 = .ok (.invokevirtual 156, 3) := by decide +kernel
theorem dX6_examines_52 : decode cX6_examines 52 = .ok (.if_icmp .eq 25, 3) := by decide +kernel
theorem dX6_examines_55 : decode cX6_examines 55 = .ok (.aload_n 0, 1) := by decide +kernel
theorem dX6_examines_56 : decode cX6_examines 56 = .ok (.iload_n 1, 1) := by decide +kernel
theorem dX6_examines_57 : decode cX6_examines 57 = .ok (.bipush 7, 2) := by decide +kernel
theorem dX6_examines_59 : decode cX6_examines 59 = .ok (.iload_n 3, 1) := by decide +kernel
theorem dX6_examines_60 : decode cX6_examines 60 = .ok (.iconst 3, 1) := by decide +kernel
theorem dX6_examines_61 : decode cX6_examines 61 = .ok (.if_icmp .lt 9, 3) := by decide +kernel
theorem dX6_examines_64 : decode cX6_examines 64 = .ok (.iconst 1, 1) := by decide +kernel
theorem dX6_examines_65 : decode cX6_examines 65 = .ok (.iload_n 2, 1) := by decide +kernel
theorem dX6_examines_66 : decode cX6_examines 66 = .ok (.ishl, 1) := by decide +kernel
theorem dX6_examines_67 : decode cX6_examines 67 = .ok (.goto 7, 3) := by decide +kernel
theorem dX6_examines_70 : decode cX6_examines 70 = .ok (.iconst 1, 1) := by decide +kernel
theorem dX6_examines_71 : decode cX6_examines 71 = .ok (.iload_n 2, 1) := by decide +kernel
theorem dX6_examines_72 : decode cX6_examines 72 = .ok (.ishl, 1) := by decide +kernel
theorem dX6_examines_73 : decode cX6_examines 73 = .ok (.ineg, 1) := by decide +kernel
theorem dX6_examines_74 : decode cX6_examines 74 = .ok (.invokevirtual 93, 3) := by decide +kernel
theorem dX6_examines_77 : decode cX6_examines 77 = .ok (.iload_n 3, 1) := by decide +kernel
theorem dX6_examines_78 : decode cX6_examines 78 = .ok (.ireturn, 1) := by decide +kernel
theorem dX6_examine_0 : decode cX6_examine 0 = .ok (.aload_n 0, 1) := by decide +kernel
theorem dX6_examine_1 : decode cX6_examine 1 = .ok (.iconst 0, 1) := by decide +kernel
theorem dX6_examine_2 : decode cX6_examine 2 = .ok (.putfield 1, 3) := by decide +kernel
theorem dX6_examine_5 : decode cX6_examine 5 = .ok (.aload_n 0, 1) := by decide +kernel
theorem dX6_examine_6 : decode cX6_examine 6 = .ok (.iload_n 1, 1) := by decide +kernel
theorem dX6_examine_7 : decode cX6_examine 7 = .ok (.iload_n 2, 1) := by decide +kernel
theorem dX6_examine_8 : decode cX6_examine 8 = .ok (.invokevirtual 144, 3) := by decide +kernel
theorem dX6_examine_11 : decode cX6_examine 11 = .ok (.istore_n 3, 1) := by decide +kernel
theorem dX6_examine_12 : decode cX6_examine 12 = .ok (.iload_n 3, 1) := by decide +kernel
theorem dX6_examine_13 : decode cX6_examine 13 = .ok (.ifCond .eq 9, 3) := by decide +kernel
theorem dX6_examine_16 : decode cX6_examine 16 = .ok (.aload_n 0, 1) := by decide +kernel
theorem dX6_examine_17 : decode cX6_examine 17 = .ok (.iload_n 3, 1) := by decide +kernel
theorem dX6_examine_18 : decode cX6_examine 18 = .ok (.invokevirtual 84, 3) := by decide +kernel
theorem dX6_examine_21 : decode cX6_examine 21 = .ok (.ireturn, 1) := by decide +kernel
theorem dX6_examine_22 : decode cX6_examine 22 = .ok (.aload_n 0, 1) := by decide +kernel
theorem dX6_examine_23 : decode cX6_examine 23 = .ok (.invokevirtual 87, 3) := by decide +kernel
theorem dX6_examine_26 : decode cX6_examine 26 = .ok (.aload_n 0, 1) := by decide +kernel
theorem dX6_examine_27 : decode cX6_examine 27 = .ok (.iload_n 1, 1) := by decide +kernel
theorem dX6_examine_28 : decode cX6_examine 28 = .ok (.iload_n 2, 1) := by decide +kernel
theorem dX6_examine_29 : decode cX6_examine 29 = .ok (.invokevirtual 159, 3) := by decide +kernel
theorem dX6_examine_32 : decode cX6_examine 32 = .ok (.ireturn, 1) := by decide +kernel
theorem dX6_notEnd_0 : decode cX6_notEnd 0 = .ok (.aload_n 0, 1) := by decide +kernel
theorem dX6_notEnd_1 : decode cX6_notEnd 1 = .ok (.getfield 13, 3) := by decide +kernel
theorem dX6_notEnd_4 : decode cX6_notEnd 4 = .ok (.iconst 0, 1) := by decide +kernel
theorem dX6_notEnd_5 : decode cX6_notEnd 5 = .ok (.iaload, 1) := by decide +kernel
theorem dX6_notEnd_6 : decode cX6_notEnd 6 = .ok (.ifCond .ne 7, 3) := by decide +kernel
theorem dX6_notEnd_9 : decode cX6_notEnd 9 = .ok (.iconst 1, 1) := by decide +kernel
theorem dX6_notEnd_10 : decode cX6_notEnd 10 = .ok (.goto 4, 3) := by decide +kernel
theorem dX6_notEnd_13 : decode cX6_notEnd 13 = .ok (.iconst 0, 1) := by decide +kernel
theorem dX6_notEnd_14 : decode cX6_notEnd 14 = .ok (.ireturn, 1) := by decide +kernel
theorem dX6_endsTerm_0 : decode cX6_endsTerm 0 = .ok (.iconst 0, 1) := by decide +kernel
theorem dX6_endsTerm_1 : decode cX6_endsTerm 1 = .ok (.istore_n 1, 1) := by decide +kernel
theorem dX6_endsTerm_2 : decode cX6_endsTerm 2 = .ok (.iconst 1, 1) := by decide +kernel
theorem dX6_endsTerm_3 : decode cX6_endsTerm 3 = .ok (.istore_n 2, 1) := by decide +kernel
theorem dX6_endsTerm_4 : decode cX6_endsTerm 4 = .ok (.iload_n 2, 1) := by decide +kernel
theorem dX6_endsTerm_5 : decode cX6_endsTerm 5 = .ok (.aload_n 0, 1) := by decide +kernel
theorem dX6_endsTerm_6 : decode cX6_endsTerm 6 = .ok (.getfield 13, 3) := by decide +kernel
theorem dX6_endsTerm_9 : decode cX6_endsTerm 9 = .ok (.iconst 0, 1) := by decide +kernel
theorem dX6_endsTerm_10 : decode cX6_endsTerm 10 = .ok (.iaload, 1) := by decide +kernel
theorem dX6_endsTerm_11 : decode cX6_endsTerm 11 = .ok (.if_icmp .ge 26, 3) := by decide +kernel
theorem dX6_endsTerm_14 : decode cX6_endsTerm 14 = .ok (.aload_n 0, 1) := by decide +kernel
theorem dX6_endsTerm_15 : decode cX6_endsTerm 15 = .ok (.iload_n 2, 1) := by decide +kernel
theorem dX6_endsTerm_16 : decode cX6_endsTerm 16 = .ok (.iconst 5, 1) := by decide +kernel
theorem dX6_endsTerm_17 : decode cX6_endsTerm 17 = .ok (.invokevirtual 62, 3) := by decide +kernel
theorem dX6_endsTerm_20 : decode cX6_endsTerm 20 = .ok (.aload_n 0, 1) := by decide +kernel
theorem dX6_endsTerm_21 : decode cX6_endsTerm 21 = .ok (.iload_n 1, 1) := by decide +kernel
theorem dX6_endsTerm_22 : decode cX6_endsTerm 22 = .ok (.iconst 5, 1) := by decide +kernel
theorem dX6_endsTerm_23 : decode cX6_endsTerm 23 = .ok (.invokevirtual 62, 3) := by decide +kernel
theorem dX6_endsTerm_26 : decode cX6_endsTerm 26 = .ok (.if_icmp .le 5, 3) := by decide +kernel
theorem dX6_endsTerm_29 : decode cX6_endsTerm 29 = .ok (.iload_n 2, 1) := by decide +kernel
theorem dX6_endsTerm_30 : decode cX6_endsTerm 30 = .ok (.istore_n 1, 1) := by decide +kernel
theorem dX6_endsTerm_31 : decode cX6_endsTerm 31 = .ok (.iinc 2 1, 3) := by decide +kernel
theorem dX6_endsTerm_34 : decode cX6_endsTerm 34 = .ok (.goto (-30), 3) := by decide +kernel
theorem dX6_endsTerm_37 : decode cX6_endsTerm 37 = .ok (.aload_n 0, 1) := by decide +kernel
theorem dX6_endsTerm_38 : decode cX6_endsTerm 38 = .ok (.iload_n 1, 1) := by decide +kernel
theorem dX6_endsTerm_39 : decode cX6_endsTerm 39 = .ok (.bipush 6, 2) := by decide +kernel
theorem dX6_endsTerm_41 : decode cX6_endsTerm 41 = .ok (.iconst 1, 1) := by decide +kernel
theorem dX6_endsTerm_42 : decode cX6_endsTerm 42 = .ok (.invokevirtual 93, 3) := by decide +kernel
theorem dX6_endsTerm_45 : decode cX6_endsTerm 45 = .ok (.iconst 0, 1) := by decide +kernel
theorem dX6_endsTerm_46 : decode cX6_endsTerm 46 = .ok (.istore_n 2, 1) := by decide +kernel
theorem dX6_endsTerm_47 : decode cX6_endsTerm 47 = .ok (.iload_n 2, 1) := by decide +kernel
theorem dX6_endsTerm_48 : decode cX6_endsTerm 48 = .ok (.aload_n 0, 1) := by decide +kernel
theorem dX6_endsTerm_49 : decode cX6_endsTerm 49 = .ok (.getfield 13, 3) := by decide +kernel
theorem dX6_endsTerm_52 : decode cX6_endsTerm 52 = .ok (.iconst 0, 1) := by decide +kernel
theorem dX6_endsTerm_53 : decode cX6_endsTerm 53 = .ok (.iaload, 1) := by decide +kernel
theorem dX6_endsTerm_54 : decode cX6_endsTerm 54 = .ok (.if_icmp .ge 16, 3) := by decide +kernel
theorem dX6_endsTerm_57 : decode cX6_endsTerm 57 = .ok (.aload_n 0, 1) := by decide +kernel
theorem dX6_endsTerm_58 : decode cX6_endsTerm 58 = .ok (.iload_n 2, 1) := by decide +kernel
theorem dX6_endsTerm_59 : decode cX6_endsTerm 59 = .ok (.iconst 5, 1) := by decide +kernel
theorem dX6_endsTerm_60 : decode cX6_endsTerm 60 = .ok (.iconst 0, 1) := by decide +kernel
theorem dX6_endsTerm_61 : decode cX6_endsTerm 61 = .ok (.invokevirtual 77, 3) := by decide +kernel
theorem dX6_endsTerm_64 : decode cX6_endsTerm 64 = .ok (.iinc 2 1, 3) := by decide +kernel
theorem dX6_endsTerm_67 : decode cX6_endsTerm 67 = .ok (.goto (-20), 3) := by decide +kernel
theorem dX6_endsTerm_70 : decode cX6_endsTerm 70 = .ok (.aload_n 0, 1) := by decide +kernel
theorem dX6_endsTerm_71 : decode cX6_endsTerm 71 = .ok (.getfield 13, 3) := by decide +kernel
theorem dX6_endsTerm_74 : decode cX6_endsTerm 74 = .ok (.iconst 3, 1) := by decide +kernel
theorem dX6_endsTerm_75 : decode cX6_endsTerm 75 = .ok (.dup2, 1) := by decide +kernel
theorem dX6_endsTerm_76 : decode cX6_endsTerm 76 = .ok (.iaload, 1) := by decide +kernel
theorem dX6_endsTerm_77 : decode cX6_endsTerm 77 = .ok (.iconst 1, 1) := by decide +kernel
theorem dX6_endsTerm_78 : decode cX6_endsTerm 78 = .ok (.iadd, 1) := by decide +kernel
theorem dX6_endsTerm_79 : decode cX6_endsTerm 79 = .ok (.iastore, 1) := by decide +kernel
theorem dX6_endsTerm_80 : decode cX6_endsTerm 80 = .ok (.iload_n 1, 1) := by decide +kernel
theorem dX6_endsTerm_81 : decode cX6_endsTerm 81 = .ok (.ireturn, 1) := by decide +kernel
theorem dX6_endTerm_0 : decode cX6_endTerm 0 = .ok (.aload_n 0, 1) := by decide +kernel
theorem dX6_endTerm_1 : decode cX6_endTerm 1 = .ok (.iconst 0, 1) := by decide +kernel
theorem dX6_endTerm_2 : decode cX6_endTerm 2 = .ok (.putfield 1, 3) := by decide +kernel
theorem dX6_endTerm_5 : decode cX6_endTerm 5 = .ok (.aload_n 0, 1) := by decide +kernel
theorem dX6_endTerm_6 : decode cX6_endTerm 6 = .ok (.invokevirtual 162, 3) := by decide +kernel
theorem dX6_endTerm_9 : decode cX6_endTerm 9 = .ok (.ifCond .eq 9, 3) := by decide +kernel
theorem dX6_endTerm_12 : decode cX6_endTerm 12 = .ok (.aload_n 0, 1) := by decide +kernel
theorem dX6_endTerm_13 : decode cX6_endTerm 13 = .ok (.iconst 1, 1) := by decide +kernel
theorem dX6_endTerm_14 : decode cX6_endTerm 14 = .ok (.invokevirtual 84, 3) := by decide +kernel
theorem dX6_endTerm_17 : decode cX6_endTerm 17 = .ok (.ireturn, 1) := by decide +kernel
theorem dX6_endTerm_18 : decode cX6_endTerm 18 = .ok (.aload_n 0, 1) := by decide +kernel
theorem dX6_endTerm_19 : decode cX6_endTerm 19 = .ok (.invokevirtual 87, 3) := by decide +kernel
theorem dX6_endTerm_22 : decode cX6_endTerm 22 = .ok (.aload_n 0, 1) := by decide +kernel
theorem dX6_endTerm_23 : decode cX6_endTerm 23 = .ok (.invokevirtual 166, 3) := by decide +kernel
theorem dX6_endTerm_26 : decode cX6_endTerm 26 = .ok (.ireturn, 1) := by decide +kernel
theorem dX6_asks_0 : decode cX6_asks 0 = .ok (.aload_n 0, 1) := by decide +kernel
theorem dX6_asks_1 : decode cX6_asks 1 = .ok (.iconst 0, 1) := by decide +kernel
theorem dX6_asks_2 : decode cX6_asks 2 = .ok (.putfield 1, 3) := by decide +kernel
theorem dX6_asks_5 : decode cX6_asks 5 = .ok (.aload_n 0, 1) := by decide +kernel
theorem dX6_asks_6 : decode cX6_asks 6 = .ok (.getfield 13, 3) := by decide +kernel
theorem dX6_asks_9 : decode cX6_asks 9 = .ok (.iload_n 1, 1) := by decide +kernel
theorem dX6_asks_10 : decode cX6_asks 10 = .ok (.iaload, 1) := by decide +kernel
theorem dX6_asks_11 : decode cX6_asks 11 = .ok (.ireturn, 1) := by decide +kernel
theorem dX6_umbrellaCount_0 : decode cX6_umbrellaCount 0 = .ok (.aload_n 0, 1) := by decide +kernel
theorem dX6_umbrellaCount_1 : decode cX6_umbrellaCount 1 = .ok (.iconst 0, 1) := by decide +kernel
theorem dX6_umbrellaCount_2 : decode cX6_umbrellaCount 2 = .ok (.invokevirtual 169, 3) := by decide +kernel
theorem dX6_umbrellaCount_5 : decode cX6_umbrellaCount 5 = .ok (.ireturn, 1) := by decide +kernel
theorem dX6_asksUmbrella_0 : decode cX6_asksUmbrella 0 = .ok (.aload_n 0, 1) := by decide +kernel
theorem dX6_asksUmbrella_1 : decode cX6_asksUmbrella 1 = .ok (.iconst 0, 1) := by decide +kernel
theorem dX6_asksUmbrella_2 : decode cX6_asksUmbrella 2 = .ok (.putfield 1, 3) := by decide +kernel
theorem dX6_asksUmbrella_5 : decode cX6_asksUmbrella 5 = .ok (.aload_n 0, 1) := by decide +kernel
theorem dX6_asksUmbrella_6 : decode cX6_asksUmbrella 6 = .ok (.iload_n 1, 1) := by decide +kernel
theorem dX6_asksUmbrella_7 : decode cX6_asksUmbrella 7 = .ok (.invokevirtual 110, 3) := by decide +kernel
theorem dX6_asksUmbrella_10 : decode cX6_asksUmbrella 10 = .ok (.ifCond .eq 12, 3) := by decide +kernel
theorem dX6_asksUmbrella_13 : decode cX6_asksUmbrella 13 = .ok (.aload_n 0, 1) := by decide +kernel
theorem dX6_asksUmbrella_14 : decode cX6_asksUmbrella 14 = .ok (.iload_n 1, 1) := by decide +kernel
theorem dX6_asksUmbrella_15 : decode cX6_asksUmbrella 15 = .ok (.iload_n 2, 1) := by decide +kernel
theorem dX6_asksUmbrella_16 : decode cX6_asksUmbrella 16 = .ok (.invokevirtual 62, 3) := by decide +kernel
theorem dX6_asksUmbrella_19 : decode cX6_asksUmbrella 19 = .ok (.goto 8, 3) := by decide +kernel
theorem dX6_asksUmbrella_22 : decode cX6_asksUmbrella 22 = .ok (.aload_n 0, 1) := by decide +kernel
theorem dX6_asksUmbrella_23 : decode cX6_asksUmbrella 23 = .ok (.iconst 1, 1) := by decide +kernel
theorem dX6_asksUmbrella_24 : decode cX6_asksUmbrella 24 = .ok (.invokevirtual 84, 3) := by decide +kernel
theorem dX6_asksUmbrella_27 : decode cX6_asksUmbrella 27 = .ok (.ireturn, 1) := by decide +kernel
theorem dX6_memory_0 : decode cX6_memory 0 = .ok (.aload_n 0, 1) := by decide +kernel
theorem dX6_memory_1 : decode cX6_memory 1 = .ok (.iload_n 1, 1) := by decide +kernel
theorem dX6_memory_2 : decode cX6_memory 2 = .ok (.iconst 0, 1) := by decide +kernel
theorem dX6_memory_3 : decode cX6_memory 3 = .ok (.invokevirtual 172, 3) := by decide +kernel
theorem dX6_memory_6 : decode cX6_memory 6 = .ok (.ireturn, 1) := by decide +kernel
theorem dX6_period_0 : decode cX6_period 0 = .ok (.aload_n 0, 1) := by decide +kernel
theorem dX6_period_1 : decode cX6_period 1 = .ok (.iload_n 1, 1) := by decide +kernel
theorem dX6_period_2 : decode cX6_period 2 = .ok (.iconst 1, 1) := by decide +kernel
theorem dX6_period_3 : decode cX6_period 3 = .ok (.invokevirtual 172, 3) := by decide +kernel
theorem dX6_period_6 : decode cX6_period 6 = .ok (.ireturn, 1) := by decide +kernel
theorem dX6_trials_0 : decode cX6_trials 0 = .ok (.aload_n 0, 1) := by decide +kernel
theorem dX6_trials_1 : decode cX6_trials 1 = .ok (.iload_n 1, 1) := by decide +kernel
theorem dX6_trials_2 : decode cX6_trials 2 = .ok (.iconst 2, 1) := by decide +kernel
theorem dX6_trials_3 : decode cX6_trials 3 = .ok (.invokevirtual 172, 3) := by decide +kernel
theorem dX6_trials_6 : decode cX6_trials 6 = .ok (.ireturn, 1) := by decide +kernel
theorem dX6_rememberedTrials_0 : decode cX6_rememberedTrials 0 = .ok (.aload_n 0, 1) := by decide +kernel
theorem dX6_rememberedTrials_1 : decode cX6_rememberedTrials 1 = .ok (.iload_n 1, 1) := by decide +kernel
theorem dX6_rememberedTrials_2 : decode cX6_rememberedTrials 2 = .ok (.iconst 3, 1) := by decide +kernel
theorem dX6_rememberedTrials_3 : decode cX6_rememberedTrials 3 = .ok (.invokevirtual 172, 3) := by decide +kernel
theorem dX6_rememberedTrials_6 : decode cX6_rememberedTrials 6 = .ok (.ireturn, 1) := by decide +kernel
theorem dX6_trialAt_0 : decode cX6_trialAt 0 = .ok (.aload_n 0, 1) := by decide +kernel
theorem dX6_trialAt_1 : decode cX6_trialAt 1 = .ok (.iconst 0, 1) := by decide +kernel
theorem dX6_trialAt_2 : decode cX6_trialAt 2 = .ok (.putfield 1, 3) := by decide +kernel
theorem dX6_trialAt_5 : decode cX6_trialAt 5 = .ok (.aload_n 0, 1) := by decide +kernel
theorem dX6_trialAt_6 : decode cX6_trialAt 6 = .ok (.iload_n 1, 1) := by decide +kernel
theorem dX6_trialAt_7 : decode cX6_trialAt 7 = .ok (.invokevirtual 110, 3) := by decide +kernel
theorem dX6_trialAt_10 : decode cX6_trialAt 10 = .ok (.ifCond .ne 9, 3) := by decide +kernel
theorem dX6_trialAt_13 : decode cX6_trialAt 13 = .ok (.aload_n 0, 1) := by decide +kernel
theorem dX6_trialAt_14 : decode cX6_trialAt 14 = .ok (.iconst 1, 1) := by decide +kernel
theorem dX6_trialAt_15 : decode cX6_trialAt 15 = .ok (.invokevirtual 84, 3) := by decide +kernel
theorem dX6_trialAt_18 : decode cX6_trialAt 18 = .ok (.ireturn, 1) := by decide +kernel
theorem dX6_trialAt_19 : decode cX6_trialAt 19 = .ok (.iload_n 2, 1) := by decide +kernel
theorem dX6_trialAt_20 : decode cX6_trialAt 20 = .ok (.iconst 0, 1) := by decide +kernel
theorem dX6_trialAt_21 : decode cX6_trialAt 21 = .ok (.aload_n 0, 1) := by decide +kernel
theorem dX6_trialAt_22 : decode cX6_trialAt 22 = .ok (.iload_n 1, 1) := by decide +kernel
theorem dX6_trialAt_23 : decode cX6_trialAt 23 = .ok (.iconst 3, 1) := by decide +kernel
theorem dX6_trialAt_24 : decode cX6_trialAt 24 = .ok (.invokevirtual 62, 3) := by decide +kernel
theorem dX6_trialAt_27 : decode cX6_trialAt 27 = .ok (.iconst 1, 1) := by decide +kernel
theorem dX6_trialAt_28 : decode cX6_trialAt 28 = .ok (.isub, 1) := by decide +kernel
theorem dX6_trialAt_29 : decode cX6_trialAt 29 = .ok (.invokestatic 54, 3) := by decide +kernel
theorem dX6_trialAt_32 : decode cX6_trialAt 32 = .ok (.ifCond .ne 9, 3) := by decide +kernel
theorem dX6_trialAt_35 : decode cX6_trialAt 35 = .ok (.aload_n 0, 1) := by decide +kernel
theorem dX6_trialAt_36 : decode cX6_trialAt 36 = .ok (.iconst 2, 1) := by decide +kernel
theorem dX6_trialAt_37 : decode cX6_trialAt 37 = .ok (.invokevirtual 84, 3) := by decide +kernel
theorem dX6_trialAt_40 : decode cX6_trialAt 40 = .ok (.ireturn, 1) := by decide +kernel
theorem dX6_trialAt_41 : decode cX6_trialAt 41 = .ok (.aload_n 0, 1) := by decide +kernel
theorem dX6_trialAt_42 : decode cX6_trialAt 42 = .ok (.iload_n 1, 1) := by decide +kernel
theorem dX6_trialAt_43 : decode cX6_trialAt 43 = .ok (.bipush 8, 2) := by decide +kernel
theorem dX6_trialAt_45 : decode cX6_trialAt 45 = .ok (.aload_n 0, 1) := by decide +kernel
theorem dX6_trialAt_46 : decode cX6_trialAt 46 = .ok (.iload_n 1, 1) := by decide +kernel
theorem dX6_trialAt_47 : decode cX6_trialAt 47 = .ok (.iconst 3, 1) := by decide +kernel
theorem dX6_trialAt_48 : decode cX6_trialAt 48 = .ok (.invokevirtual 62, 3) := by decide +kernel
theorem dX6_trialAt_51 : decode cX6_trialAt 51 = .ok (.iadd, 1) := by decide +kernel
theorem dX6_trialAt_52 : decode cX6_trialAt 52 = .ok (.iconst 1, 1) := by decide +kernel
theorem dX6_trialAt_53 : decode cX6_trialAt 53 = .ok (.isub, 1) := by decide +kernel
theorem dX6_trialAt_54 : decode cX6_trialAt 54 = .ok (.iload_n 2, 1) := by decide +kernel
theorem dX6_trialAt_55 : decode cX6_trialAt 55 = .ok (.isub, 1) := by decide +kernel
theorem dX6_trialAt_56 : decode cX6_trialAt 56 = .ok (.invokevirtual 62, 3) := by decide +kernel
theorem dX6_trialAt_59 : decode cX6_trialAt 59 = .ok (.ireturn, 1) := by decide +kernel
theorem dX6_trialRain_0 : decode cX6_trialRain 0 = .ok (.aload_n 0, 1) := by decide +kernel
theorem dX6_trialRain_1 : decode cX6_trialRain 1 = .ok (.iload_n 1, 1) := by decide +kernel
theorem dX6_trialRain_2 : decode cX6_trialRain 2 = .ok (.iload_n 2, 1) := by decide +kernel
theorem dX6_trialRain_3 : decode cX6_trialRain 3 = .ok (.invokevirtual 175, 3) := by decide +kernel
theorem dX6_trialRain_6 : decode cX6_trialRain 6 = .ok (.invokestatic 141, 3) := by decide +kernel
theorem dX6_trialRain_9 : decode cX6_trialRain 9 = .ok (.ireturn, 1) := by decide +kernel
theorem dX6_trialOpened_0 : decode cX6_trialOpened 0 = .ok (.aload_n 0, 1) := by decide +kernel
theorem dX6_trialOpened_1 : decode cX6_trialOpened 1 = .ok (.iload_n 1, 1) := by decide +kernel
theorem dX6_trialOpened_2 : decode cX6_trialOpened 2 = .ok (.iload_n 2, 1) := by decide +kernel
theorem dX6_trialOpened_3 : decode cX6_trialOpened 3 = .ok (.invokevirtual 175, 3) := by decide +kernel
theorem dX6_trialOpened_6 : decode cX6_trialOpened 6 = .ok (.bipush 16, 2) := by decide +kernel
theorem dX6_trialOpened_8 : decode cX6_trialOpened 8 = .ok (.idiv, 1) := by decide +kernel
theorem dX6_trialOpened_9 : decode cX6_trialOpened 9 = .ok (.iconst 2, 1) := by decide +kernel
theorem dX6_trialOpened_10 : decode cX6_trialOpened 10 = .ok (.irem, 1) := by decide +kernel
theorem dX6_trialOpened_11 : decode cX6_trialOpened 11 = .ok (.iconst 1, 1) := by decide +kernel
theorem dX6_trialOpened_12 : decode cX6_trialOpened 12 = .ok (.if_icmp .ne 7, 3) := by decide +kernel
theorem dX6_trialOpened_15 : decode cX6_trialOpened 15 = .ok (.iconst 1, 1) := by decide +kernel
theorem dX6_trialOpened_16 : decode cX6_trialOpened 16 = .ok (.goto 4, 3) := by decide +kernel
theorem dX6_trialOpened_19 : decode cX6_trialOpened 19 = .ok (.iconst 0, 1) := by decide +kernel
theorem dX6_trialOpened_20 : decode cX6_trialOpened 20 = .ok (.ireturn, 1) := by decide +kernel
theorem dX6_trialReward_0 : decode cX6_trialReward 0 = .ok (.aload_n 0, 1) := by decide +kernel
theorem dX6_trialReward_1 : decode cX6_trialReward 1 = .ok (.iload_n 1, 1) := by decide +kernel
theorem dX6_trialReward_2 : decode cX6_trialReward 2 = .ok (.iload_n 2, 1) := by decide +kernel
theorem dX6_trialReward_3 : decode cX6_trialReward 3 = .ok (.invokevirtual 175, 3) := by decide +kernel
theorem dX6_trialReward_6 : decode cX6_trialReward 6 = .ok (.istore_n 3, 1) := by decide +kernel
theorem dX6_trialReward_7 : decode cX6_trialReward 7 = .ok (.aload_n 0, 1) := by decide +kernel
theorem dX6_trialReward_8 : decode cX6_trialReward 8 = .ok (.getfield 1, 3) := by decide +kernel
theorem dX6_trialReward_11 : decode cX6_trialReward 11 = .ok (.ifCond .eq 7, 3) := by decide +kernel
theorem dX6_trialReward_14 : decode cX6_trialReward 14 = .ok (.iconst 0, 1) := by decide +kernel
theorem dX6_trialReward_15 : decode cX6_trialReward 15 = .ok (.goto 7, 3) := by decide +kernel
theorem dX6_trialReward_18 : decode cX6_trialReward 18 = .ok (.iload_n 3, 1) := by decide +kernel
theorem dX6_trialReward_19 : decode cX6_trialReward 19 = .ok (.invokestatic 66, 3) := by decide +kernel
theorem dX6_trialReward_22 : decode cX6_trialReward 22 = .ok (.ireturn, 1) := by decide +kernel
theorem dX6_reward_0 : decode cX6_reward 0 = .ok (.aload_n 0, 1) := by decide +kernel
theorem dX6_reward_1 : decode cX6_reward 1 = .ok (.iconst 0, 1) := by decide +kernel
theorem dX6_reward_2 : decode cX6_reward 2 = .ok (.putfield 1, 3) := by decide +kernel
theorem dX6_reward_5 : decode cX6_reward 5 = .ok (.iload_n 1, 1) := by decide +kernel
theorem dX6_reward_6 : decode cX6_reward 6 = .ok (.iload_n 2, 1) := by decide +kernel
theorem dX6_reward_7 : decode cX6_reward 7 = .ok (.invokestatic 113, 3) := by decide +kernel
theorem dX6_reward_10 : decode cX6_reward 10 = .ok (.ifCond .eq 21, 3) := by decide +kernel
theorem dX6_reward_13 : decode cX6_reward 13 = .ok (.aload_n 0, 1) := by decide +kernel
theorem dX6_reward_14 : decode cX6_reward 14 = .ok (.iload_n 1, 1) := by decide +kernel
theorem dX6_reward_15 : decode cX6_reward 15 = .ok (.iload_n 2, 1) := by decide +kernel
theorem dX6_reward_16 : decode cX6_reward 16 = .ok (.iload_n 3, 1) := by decide +kernel
theorem dX6_reward_17 : decode cX6_reward 17 = .ok (.ifCond .eq 7, 3) := by decide +kernel
theorem dX6_reward_20 : decode cX6_reward 20 = .ok (.iconst 1, 1) := by decide +kernel
theorem dX6_reward_21 : decode cX6_reward 21 = .ok (.goto 4, 3) := by decide +kernel
theorem dX6_reward_24 : decode cX6_reward 24 = .ok (.iconst 0, 1) := by decide +kernel
theorem dX6_reward_25 : decode cX6_reward 25 = .ok (.invokevirtual 58, 3) := by decide +kernel
theorem dX6_reward_28 : decode cX6_reward 28 = .ok (.goto 8, 3) := by decide +kernel
theorem dX6_reward_31 : decode cX6_reward 31 = .ok (.aload_n 0, 1) := by decide +kernel
theorem dX6_reward_32 : decode cX6_reward 32 = .ok (.iconst 1, 1) := by decide +kernel
theorem dX6_reward_33 : decode cX6_reward 33 = .ok (.invokevirtual 84, 3) := by decide +kernel
theorem dX6_reward_36 : decode cX6_reward 36 = .ok (.ireturn, 1) := by decide +kernel
theorem dX6_shouldOpen_0 : decode cX6_shouldOpen 0 = .ok (.aload_n 0, 1) := by decide +kernel
theorem dX6_shouldOpen_1 : decode cX6_shouldOpen 1 = .ok (.iconst 0, 1) := by decide +kernel
theorem dX6_shouldOpen_2 : decode cX6_shouldOpen 2 = .ok (.putfield 1, 3) := by decide +kernel
theorem dX6_shouldOpen_5 : decode cX6_shouldOpen 5 = .ok (.iload_n 1, 1) := by decide +kernel
theorem dX6_shouldOpen_6 : decode cX6_shouldOpen 6 = .ok (.iload_n 2, 1) := by decide +kernel
theorem dX6_shouldOpen_7 : decode cX6_shouldOpen 7 = .ok (.invokestatic 113, 3) := by decide +kernel
theorem dX6_shouldOpen_10 : decode cX6_shouldOpen 10 = .ok (.ifCond .ne 17, 3) := by decide +kernel
theorem dX6_shouldOpen_13 : decode cX6_shouldOpen 13 = .ok (.aload_n 0, 1) := by decide +kernel
theorem dX6_shouldOpen_14 : decode cX6_shouldOpen 14 = .ok (.iconst 1, 1) := by decide +kernel
theorem dX6_shouldOpen_15 : decode cX6_shouldOpen 15 = .ok (.invokevirtual 84, 3) := by decide +kernel
theorem dX6_shouldOpen_18 : decode cX6_shouldOpen 18 = .ok (.ifCond .le 7, 3) := by decide +kernel
theorem dX6_shouldOpen_21 : decode cX6_shouldOpen 21 = .ok (.iconst 1, 1) := by decide +kernel
theorem dX6_shouldOpen_22 : decode cX6_shouldOpen 22 = .ok (.goto 4, 3) := by decide +kernel
theorem dX6_shouldOpen_25 : decode cX6_shouldOpen 25 = .ok (.iconst 0, 1) := by decide +kernel
theorem dX6_shouldOpen_26 : decode cX6_shouldOpen 26 = .ok (.ireturn, 1) := by decide +kernel
theorem dX6_shouldOpen_27 : decode cX6_shouldOpen 27 = .ok (.aload_n 0, 1) := by decide +kernel
theorem dX6_shouldOpen_28 : decode cX6_shouldOpen 28 = .ok (.iload_n 1, 1) := by decide +kernel
theorem dX6_shouldOpen_29 : decode cX6_shouldOpen 29 = .ok (.iload_n 2, 1) := by decide +kernel
theorem dX6_shouldOpen_30 : decode cX6_shouldOpen 30 = .ok (.invokevirtual 150, 3) := by decide +kernel
theorem dX6_shouldOpen_33 : decode cX6_shouldOpen 33 = .ok (.ireturn, 1) := by decide +kernel
theorem dX6_notAsk_0 : decode cX6_notAsk 0 = .ok (.aload_n 0, 1) := by decide +kernel
theorem dX6_notAsk_1 : decode cX6_notAsk 1 = .ok (.iload_n 1, 1) := by decide +kernel
theorem dX6_notAsk_2 : decode cX6_notAsk 2 = .ok (.iload_n 2, 1) := by decide +kernel
theorem dX6_notAsk_3 : decode cX6_notAsk 3 = .ok (.iload_n 3, 1) := by decide +kernel
theorem dX6_notAsk_4 : decode cX6_notAsk 4 = .ok (.iconst 1, 1) := by decide +kernel
theorem dX6_notAsk_5 : decode cX6_notAsk 5 = .ok (.invokevirtual 120, 3) := by decide +kernel
theorem dX6_notAsk_8 : decode cX6_notAsk 8 = .ok (.ireturn, 1) := by decide +kernel
theorem dX6_wouldOpen_0 : decode cX6_wouldOpen 0 = .ok (.aload_n 0, 1) := by decide +kernel
theorem dX6_wouldOpen_1 : decode cX6_wouldOpen 1 = .ok (.iconst 0, 1) := by decide +kernel
theorem dX6_wouldOpen_2 : decode cX6_wouldOpen 2 = .ok (.putfield 1, 3) := by decide +kernel
theorem dX6_wouldOpen_5 : decode cX6_wouldOpen 5 = .ok (.aload_n 0, 1) := by decide +kernel
theorem dX6_wouldOpen_6 : decode cX6_wouldOpen 6 = .ok (.iload_n 1, 1) := by decide +kernel
theorem dX6_wouldOpen_7 : decode cX6_wouldOpen 7 = .ok (.iload_n 2, 1) := by decide +kernel
theorem dX6_wouldOpen_8 : decode cX6_wouldOpen 8 = .ok (.iload_n 3, 1) := by decide +kernel
theorem dX6_wouldOpen_9 : decode cX6_wouldOpen 9 = .ok (.invokevirtual 178, 3) := by decide +kernel
theorem dX6_wouldOpen_12 : decode cX6_wouldOpen 12 = .ok (.istore 4, 2) := by decide +kernel
theorem dX6_wouldOpen_14 : decode cX6_wouldOpen 14 = .ok (.iload 4, 2) := by decide +kernel
theorem dX6_wouldOpen_16 : decode cX6_wouldOpen 16 = .ok (.ifCond .eq 18, 3) := by decide +kernel
theorem dX6_wouldOpen_19 : decode cX6_wouldOpen 19 = .ok (.aload_n 0, 1) := by decide +kernel
theorem dX6_wouldOpen_20 : decode cX6_wouldOpen 20 = .ok (.iload 4, 2) := by decide +kernel
theorem dX6_wouldOpen_22 : decode cX6_wouldOpen 22 = .ok (.invokevirtual 84, 3) := by decide +kernel
theorem dX6_wouldOpen_25 : decode cX6_wouldOpen 25 = .ok (.ifCond .le 7, 3) := by decide +kernel
theorem dX6_wouldOpen_28 : decode cX6_wouldOpen 28 = .ok (.iconst 1, 1) := by decide +kernel
theorem dX6_wouldOpen_29 : decode cX6_wouldOpen 29 = .ok (.goto 4, 3) := by decide +kernel
theorem dX6_wouldOpen_32 : decode cX6_wouldOpen 32 = .ok (.iconst 0, 1) := by decide +kernel
theorem dX6_wouldOpen_33 : decode cX6_wouldOpen 33 = .ok (.ireturn, 1) := by decide +kernel
theorem dX6_wouldOpen_34 : decode cX6_wouldOpen 34 = .ok (.aload_n 0, 1) := by decide +kernel
theorem dX6_wouldOpen_35 : decode cX6_wouldOpen 35 = .ok (.iload_n 1, 1) := by decide +kernel
theorem dX6_wouldOpen_36 : decode cX6_wouldOpen 36 = .ok (.iload_n 2, 1) := by decide +kernel
theorem dX6_wouldOpen_37 : decode cX6_wouldOpen 37 = .ok (.iload_n 3, 1) := by decide +kernel
theorem dX6_wouldOpen_38 : decode cX6_wouldOpen 38 = .ok (.invokevirtual 96, 3) := by decide +kernel
theorem dX6_wouldOpen_41 : decode cX6_wouldOpen 41 = .ok (.iconst 1, 1) := by decide +kernel
theorem dX6_wouldOpen_42 : decode cX6_wouldOpen 42 = .ok (.if_icmp .ne 7, 3) := by decide +kernel
theorem dX6_wouldOpen_45 : decode cX6_wouldOpen 45 = .ok (.iconst 1, 1) := by decide +kernel
theorem dX6_wouldOpen_46 : decode cX6_wouldOpen 46 = .ok (.goto 4, 3) := by decide +kernel
theorem dX6_wouldOpen_49 : decode cX6_wouldOpen 49 = .ok (.iconst 0, 1) := by decide +kernel
theorem dX6_wouldOpen_50 : decode cX6_wouldOpen 50 = .ok (.ireturn, 1) := by decide +kernel
theorem dX6_exploresNext_0 : decode cX6_exploresNext 0 = .ok (.aload_n 0, 1) := by decide +kernel
theorem dX6_exploresNext_1 : decode cX6_exploresNext 1 = .ok (.iconst 0, 1) := by decide +kernel
theorem dX6_exploresNext_2 : decode cX6_exploresNext 2 = .ok (.putfield 1, 3) := by decide +kernel
theorem dX6_exploresNext_5 : decode cX6_exploresNext 5 = .ok (.aload_n 0, 1) := by decide +kernel
theorem dX6_exploresNext_6 : decode cX6_exploresNext 6 = .ok (.iload_n 1, 1) := by decide +kernel
theorem dX6_exploresNext_7 : decode cX6_exploresNext 7 = .ok (.invokevirtual 110, 3) := by decide +kernel
theorem dX6_exploresNext_10 : decode cX6_exploresNext 10 = .ok (.ifCond .ne 17, 3) := by decide +kernel
theorem dX6_exploresNext_13 : decode cX6_exploresNext 13 = .ok (.aload_n 0, 1) := by decide +kernel
theorem dX6_exploresNext_14 : decode cX6_exploresNext 14 = .ok (.iconst 1, 1) := by decide +kernel
theorem dX6_exploresNext_15 : decode cX6_exploresNext 15 = .ok (.invokevirtual 84, 3) := by decide +kernel
theorem dX6_exploresNext_18 : decode cX6_exploresNext 18 = .ok (.ifCond .le 7, 3) := by decide +kernel
theorem dX6_exploresNext_21 : decode cX6_exploresNext 21 = .ok (.iconst 1, 1) := by decide +kernel
theorem dX6_exploresNext_22 : decode cX6_exploresNext 22 = .ok (.goto 4, 3) := by decide +kernel
theorem dX6_exploresNext_25 : decode cX6_exploresNext 25 = .ok (.iconst 0, 1) := by decide +kernel
theorem dX6_exploresNext_26 : decode cX6_exploresNext 26 = .ok (.ireturn, 1) := by decide +kernel
theorem dX6_exploresNext_27 : decode cX6_exploresNext 27 = .ok (.aload_n 0, 1) := by decide +kernel
theorem dX6_exploresNext_28 : decode cX6_exploresNext 28 = .ok (.iload_n 1, 1) := by decide +kernel
theorem dX6_exploresNext_29 : decode cX6_exploresNext 29 = .ok (.invokevirtual 99, 3) := by decide +kernel
theorem dX6_exploresNext_32 : decode cX6_exploresNext 32 = .ok (.ireturn, 1) := by decide +kernel
theorem dX6_timesTried_0 : decode cX6_timesTried 0 = .ok (.aload_n 0, 1) := by decide +kernel
theorem dX6_timesTried_1 : decode cX6_timesTried 1 = .ok (.iconst 0, 1) := by decide +kernel
theorem dX6_timesTried_2 : decode cX6_timesTried 2 = .ok (.putfield 1, 3) := by decide +kernel
theorem dX6_timesTried_5 : decode cX6_timesTried 5 = .ok (.aload_n 0, 1) := by decide +kernel
theorem dX6_timesTried_6 : decode cX6_timesTried 6 = .ok (.iload_n 1, 1) := by decide +kernel
theorem dX6_timesTried_7 : decode cX6_timesTried 7 = .ok (.iload_n 2, 1) := by decide +kernel
theorem dX6_timesTried_8 : decode cX6_timesTried 8 = .ok (.iload_n 3, 1) := by decide +kernel
theorem dX6_timesTried_9 : decode cX6_timesTried 9 = .ok (.invokevirtual 178, 3) := by decide +kernel
theorem dX6_timesTried_12 : decode cX6_timesTried 12 = .ok (.istore 5, 2) := by decide +kernel
theorem dX6_timesTried_14 : decode cX6_timesTried 14 = .ok (.iload 5, 2) := by decide +kernel
theorem dX6_timesTried_16 : decode cX6_timesTried 16 = .ok (.ifCond .eq 12, 3) := by decide +kernel
theorem dX6_timesTried_19 : decode cX6_timesTried 19 = .ok (.aload_n 0, 1) := by decide +kernel
theorem dX6_timesTried_20 : decode cX6_timesTried 20 = .ok (.iload 5, 2) := by decide +kernel
theorem dX6_timesTried_22 : decode cX6_timesTried 22 = .ok (.invokevirtual 84, 3) := by decide +kernel
theorem dX6_timesTried_25 : decode cX6_timesTried 25 = .ok (.goto 20, 3) := by decide +kernel
theorem dX6_timesTried_28 : decode cX6_timesTried 28 = .ok (.aload_n 0, 1) := by decide +kernel
theorem dX6_timesTried_29 : decode cX6_timesTried 29 = .ok (.iload_n 1, 1) := by decide +kernel
theorem dX6_timesTried_30 : decode cX6_timesTried 30 = .ok (.iload_n 2, 1) := by decide +kernel
theorem dX6_timesTried_31 : decode cX6_timesTried 31 = .ok (.iload_n 3, 1) := by decide +kernel
theorem dX6_timesTried_32 : decode cX6_timesTried 32 = .ok (.iload 4, 2) := by decide +kernel
theorem dX6_timesTried_34 : decode cX6_timesTried 34 = .ok (.ifCond .eq 7, 3) := by decide +kernel
theorem dX6_timesTried_37 : decode cX6_timesTried 37 = .ok (.iconst 1, 1) := by decide +kernel
theorem dX6_timesTried_38 : decode cX6_timesTried 38 = .ok (.goto 4, 3) := by decide +kernel
theorem dX6_timesTried_41 : decode cX6_timesTried 41 = .ok (.iconst 0, 1) := by decide +kernel
theorem dX6_timesTried_42 : decode cX6_timesTried 42 = .ok (.invokevirtual 70, 3) := by decide +kernel
theorem dX6_timesTried_45 : decode cX6_timesTried 45 = .ok (.ireturn, 1) := by decide +kernel
theorem dX6_rewardSum_0 : decode cX6_rewardSum 0 = .ok (.aload_n 0, 1) := by decide +kernel
theorem dX6_rewardSum_1 : decode cX6_rewardSum 1 = .ok (.iconst 0, 1) := by decide +kernel
theorem dX6_rewardSum_2 : decode cX6_rewardSum 2 = .ok (.putfield 1, 3) := by decide +kernel
theorem dX6_rewardSum_5 : decode cX6_rewardSum 5 = .ok (.aload_n 0, 1) := by decide +kernel
theorem dX6_rewardSum_6 : decode cX6_rewardSum 6 = .ok (.iload_n 1, 1) := by decide +kernel
theorem dX6_rewardSum_7 : decode cX6_rewardSum 7 = .ok (.iload_n 2, 1) := by decide +kernel
theorem dX6_rewardSum_8 : decode cX6_rewardSum 8 = .ok (.iload_n 3, 1) := by decide +kernel
theorem dX6_rewardSum_9 : decode cX6_rewardSum 9 = .ok (.invokevirtual 178, 3) := by decide +kernel
theorem dX6_rewardSum_12 : decode cX6_rewardSum 12 = .ok (.istore 5, 2) := by decide +kernel
theorem dX6_rewardSum_14 : decode cX6_rewardSum 14 = .ok (.iload 5, 2) := by decide +kernel
theorem dX6_rewardSum_16 : decode cX6_rewardSum 16 = .ok (.ifCond .eq 12, 3) := by decide +kernel
theorem dX6_rewardSum_19 : decode cX6_rewardSum 19 = .ok (.aload_n 0, 1) := by decide +kernel
theorem dX6_rewardSum_20 : decode cX6_rewardSum 20 = .ok (.iload 5, 2) := by decide +kernel
theorem dX6_rewardSum_22 : decode cX6_rewardSum 22 = .ok (.invokevirtual 84, 3) := by decide +kernel
theorem dX6_rewardSum_25 : decode cX6_rewardSum 25 = .ok (.goto 20, 3) := by decide +kernel
theorem dX6_rewardSum_28 : decode cX6_rewardSum 28 = .ok (.aload_n 0, 1) := by decide +kernel
theorem dX6_rewardSum_29 : decode cX6_rewardSum 29 = .ok (.iload_n 1, 1) := by decide +kernel
theorem dX6_rewardSum_30 : decode cX6_rewardSum 30 = .ok (.iload_n 2, 1) := by decide +kernel
theorem dX6_rewardSum_31 : decode cX6_rewardSum 31 = .ok (.iload_n 3, 1) := by decide +kernel
theorem dX6_rewardSum_32 : decode cX6_rewardSum 32 = .ok (.iload 4, 2) := by decide +kernel
theorem dX6_rewardSum_34 : decode cX6_rewardSum 34 = .ok (.ifCond .eq 7, 3) := by decide +kernel
theorem dX6_rewardSum_37 : decode cX6_rewardSum 37 = .ok (.iconst 1, 1) := by decide +kernel
theorem dX6_rewardSum_38 : decode cX6_rewardSum 38 = .ok (.goto 4, 3) := by decide +kernel
theorem dX6_rewardSum_41 : decode cX6_rewardSum 41 = .ok (.iconst 0, 1) := by decide +kernel
theorem dX6_rewardSum_42 : decode cX6_rewardSum 42 = .ok (.invokevirtual 74, 3) := by decide +kernel
theorem dX6_rewardSum_45 : decode cX6_rewardSum 45 = .ok (.ireturn, 1) := by decide +kernel
theorem dX6_rewardSumByTrials_0 : decode cX6_rewardSumByTrials 0 = .ok (.aload_n 0, 1) := by decide +kernel
theorem dX6_rewardSumByTrials_1 : decode cX6_rewardSumByTrials 1 = .ok (.iload_n 1, 1) := by decide +kernel
theorem dX6_rewardSumByTrials_2 : decode cX6_rewardSumByTrials 2 = .ok (.iload_n 2, 1) := by decide +kernel
theorem dX6_rewardSumByTrials_3 : decode cX6_rewardSumByTrials 3 = .ok (.iload_n 3, 1) := by decide +kernel
theorem dX6_rewardSumByTrials_4 : decode cX6_rewardSumByTrials 4 = .ok (.iload 4, 2) := by decide +kernel
theorem dX6_rewardSumByTrials_6 : decode cX6_rewardSumByTrials 6 = .ok (.invokevirtual 181, 3) := by decide +kernel
theorem dX6_rewardSumByTrials_9 : decode cX6_rewardSumByTrials 9 = .ok (.ireturn, 1) := by decide +kernel
theorem dX6_meanReward_0 : decode cX6_meanReward 0 = .ok (.aload_n 0, 1) := by decide +kernel
theorem dX6_meanReward_1 : decode cX6_meanReward 1 = .ok (.iload_n 1, 1) := by decide +kernel
theorem dX6_meanReward_2 : decode cX6_meanReward 2 = .ok (.iload_n 2, 1) := by decide +kernel
theorem dX6_meanReward_3 : decode cX6_meanReward 3 = .ok (.iload_n 3, 1) := by decide +kernel
theorem dX6_meanReward_4 : decode cX6_meanReward 4 = .ok (.iload 4, 2) := by decide +kernel
theorem dX6_meanReward_6 : decode cX6_meanReward 6 = .ok (.invokevirtual 181, 3) := by decide +kernel
theorem dX6_meanReward_9 : decode cX6_meanReward 9 = .ok (.istore 5, 2) := by decide +kernel
theorem dX6_meanReward_11 : decode cX6_meanReward 11 = .ok (.aload_n 0, 1) := by decide +kernel
theorem dX6_meanReward_12 : decode cX6_meanReward 12 = .ok (.getfield 1, 3) := by decide +kernel
theorem dX6_meanReward_15 : decode cX6_meanReward 15 = .ok (.ifCond .eq 5, 3) := by decide +kernel
theorem dX6_meanReward_18 : decode cX6_meanReward 18 = .ok (.dconst 0, 1) := by decide +kernel
theorem dX6_meanReward_19 : decode cX6_meanReward 19 = .ok (.dreturn, 1) := by decide +kernel
theorem dX6_meanReward_20 : decode cX6_meanReward 20 = .ok (.aload_n 0, 1) := by decide +kernel
theorem dX6_meanReward_21 : decode cX6_meanReward 21 = .ok (.iload_n 1, 1) := by decide +kernel
theorem dX6_meanReward_22 : decode cX6_meanReward 22 = .ok (.iload_n 2, 1) := by decide +kernel
theorem dX6_meanReward_23 : decode cX6_meanReward 23 = .ok (.iload_n 3, 1) := by decide +kernel
theorem dX6_meanReward_24 : decode cX6_meanReward 24 = .ok (.iload 4, 2) := by decide +kernel
theorem dX6_meanReward_26 : decode cX6_meanReward 26 = .ok (.ifCond .eq 7, 3) := by decide +kernel
theorem dX6_meanReward_29 : decode cX6_meanReward 29 = .ok (.iconst 1, 1) := by decide +kernel
theorem dX6_meanReward_30 : decode cX6_meanReward 30 = .ok (.goto 4, 3) := by decide +kernel
theorem dX6_meanReward_33 : decode cX6_meanReward 33 = .ok (.iconst 0, 1) := by decide +kernel
theorem dX6_meanReward_34 : decode cX6_meanReward 34 = .ok (.invokevirtual 70, 3) := by decide +kernel
theorem dX6_meanReward_37 : decode cX6_meanReward 37 = .ok (.istore 6, 2) := by decide +kernel
theorem dX6_meanReward_39 : decode cX6_meanReward 39 = .ok (.iload 6, 2) := by decide +kernel
theorem dX6_meanReward_41 : decode cX6_meanReward 41 = .ok (.ifCond .ne 12, 3) := by decide +kernel
theorem dX6_meanReward_44 : decode cX6_meanReward 44 = .ok (.aload_n 0, 1) := by decide +kernel
theorem dX6_meanReward_45 : decode cX6_meanReward 45 = .ok (.iconst 3, 1) := by decide +kernel
theorem dX6_meanReward_46 : decode cX6_meanReward 46 = .ok (.invokevirtual 84, 3) := by decide +kernel
theorem dX6_meanReward_49 : decode cX6_meanReward 49 = .ok (.i2d, 1) := by decide +kernel
theorem dX6_meanReward_50 : decode cX6_meanReward 50 = .ok (.goto 10, 3) := by decide +kernel
theorem dX6_meanReward_53 : decode cX6_meanReward 53 = .ok (.iload 5, 2) := by decide +kernel
theorem dX6_meanReward_55 : decode cX6_meanReward 55 = .ok (.i2d, 1) := by decide +kernel
theorem dX6_meanReward_56 : decode cX6_meanReward 56 = .ok (.iload 6, 2) := by decide +kernel
theorem dX6_meanReward_58 : decode cX6_meanReward 58 = .ok (.i2d, 1) := by decide +kernel
theorem dX6_meanReward_59 : decode cX6_meanReward 59 = .ok (.ddiv, 1) := by decide +kernel
theorem dX6_meanReward_60 : decode cX6_meanReward 60 = .ok (.dreturn, 1) := by decide +kernel
theorem dX6_rightHabits_0 : decode cX6_rightHabits 0 = .ok (.aload_n 0, 1) := by decide +kernel
theorem dX6_rightHabits_1 : decode cX6_rightHabits 1 = .ok (.iconst 0, 1) := by decide +kernel
theorem dX6_rightHabits_2 : decode cX6_rightHabits 2 = .ok (.putfield 1, 3) := by decide +kernel
theorem dX6_rightHabits_5 : decode cX6_rightHabits 5 = .ok (.aload_n 0, 1) := by decide +kernel
theorem dX6_rightHabits_6 : decode cX6_rightHabits 6 = .ok (.iload_n 1, 1) := by decide +kernel
theorem dX6_rightHabits_7 : decode cX6_rightHabits 7 = .ok (.invokevirtual 110, 3) := by decide +kernel
theorem dX6_rightHabits_10 : decode cX6_rightHabits 10 = .ok (.ifCond .ne 9, 3) := by decide +kernel
theorem dX6_rightHabits_13 : decode cX6_rightHabits 13 = .ok (.aload_n 0, 1) := by decide +kernel
theorem dX6_rightHabits_14 : decode cX6_rightHabits 14 = .ok (.iconst 1, 1) := by decide +kernel
theorem dX6_rightHabits_15 : decode cX6_rightHabits 15 = .ok (.invokevirtual 84, 3) := by decide +kernel
theorem dX6_rightHabits_18 : decode cX6_rightHabits 18 = .ok (.ireturn, 1) := by decide +kernel
theorem dX6_rightHabits_19 : decode cX6_rightHabits 19 = .ok (.iconst 0, 1) := by decide +kernel
theorem dX6_rightHabits_20 : decode cX6_rightHabits 20 = .ok (.istore_n 2, 1) := by decide +kernel
theorem dX6_rightHabits_21 : decode cX6_rightHabits 21 = .ok (.iconst 0, 1) := by decide +kernel
theorem dX6_rightHabits_22 : decode cX6_rightHabits 22 = .ok (.istore_n 3, 1) := by decide +kernel
theorem dX6_rightHabits_23 : decode cX6_rightHabits 23 = .ok (.iload_n 3, 1) := by decide +kernel
theorem dX6_rightHabits_24 : decode cX6_rightHabits 24 = .ok (.bipush 16, 2) := by decide +kernel
theorem dX6_rightHabits_26 : decode cX6_rightHabits 26 = .ok (.if_icmp .ge 31, 3) := by decide +kernel
theorem dX6_rightHabits_29 : decode cX6_rightHabits 29 = .ok (.iload_n 2, 1) := by decide +kernel
theorem dX6_rightHabits_30 : decode cX6_rightHabits 30 = .ok (.aload_n 0, 1) := by decide +kernel
theorem dX6_rightHabits_31 : decode cX6_rightHabits 31 = .ok (.iload_n 1, 1) := by decide +kernel
theorem dX6_rightHabits_32 : decode cX6_rightHabits 32 = .ok (.iload_n 3, 1) := by decide +kernel
theorem dX6_rightHabits_33 : decode cX6_rightHabits 33 = .ok (.iconst 4, 1) := by decide +kernel
theorem dX6_rightHabits_34 : decode cX6_rightHabits 34 = .ok (.idiv, 1) := by decide +kernel
theorem dX6_rightHabits_35 : decode cX6_rightHabits 35 = .ok (.iload_n 3, 1) := by decide +kernel
theorem dX6_rightHabits_36 : decode cX6_rightHabits 36 = .ok (.iconst 4, 1) := by decide +kernel
theorem dX6_rightHabits_37 : decode cX6_rightHabits 37 = .ok (.irem, 1) := by decide +kernel
theorem dX6_rightHabits_38 : decode cX6_rightHabits 38 = .ok (.invokevirtual 153, 3) := by decide +kernel
theorem dX6_rightHabits_41 : decode cX6_rightHabits 41 = .ok (.ifCond .eq 7, 3) := by decide +kernel
theorem dX6_rightHabits_44 : decode cX6_rightHabits 44 = .ok (.iconst 1, 1) := by decide +kernel
theorem dX6_rightHabits_45 : decode cX6_rightHabits 45 = .ok (.goto 4, 3) := by decide +kernel
theorem dX6_rightHabits_48 : decode cX6_rightHabits 48 = .ok (.iconst 0, 1) := by decide +kernel
theorem dX6_rightHabits_49 : decode cX6_rightHabits 49 = .ok (.iadd, 1) := by decide +kernel
theorem dX6_rightHabits_50 : decode cX6_rightHabits 50 = .ok (.istore_n 2, 1) := by decide +kernel
theorem dX6_rightHabits_51 : decode cX6_rightHabits 51 = .ok (.iinc 3 1, 3) := by decide +kernel
theorem dX6_rightHabits_54 : decode cX6_rightHabits 54 = .ok (.goto (-31), 3) := by decide +kernel
theorem dX6_rightHabits_57 : decode cX6_rightHabits 57 = .ok (.iload_n 2, 1) := by decide +kernel
theorem dX6_rightHabits_58 : decode cX6_rightHabits 58 = .ok (.ireturn, 1) := by decide +kernel
theorem dX6_trialsIn_0 : decode cX6_trialsIn 0 = .ok (.aload_n 0, 1) := by decide +kernel
theorem dX6_trialsIn_1 : decode cX6_trialsIn 1 = .ok (.iload_n 1, 1) := by decide +kernel
theorem dX6_trialsIn_2 : decode cX6_trialsIn 2 = .ok (.iload_n 2, 1) := by decide +kernel
theorem dX6_trialsIn_3 : decode cX6_trialsIn 3 = .ok (.iconst 4, 1) := by decide +kernel
theorem dX6_trialsIn_4 : decode cX6_trialsIn 4 = .ok (.idiv, 1) := by decide +kernel
theorem dX6_trialsIn_5 : decode cX6_trialsIn 5 = .ok (.iload_n 2, 1) := by decide +kernel
theorem dX6_trialsIn_6 : decode cX6_trialsIn 6 = .ok (.iconst 4, 1) := by decide +kernel
theorem dX6_trialsIn_7 : decode cX6_trialsIn 7 = .ok (.irem, 1) := by decide +kernel
theorem dX6_trialsIn_8 : decode cX6_trialsIn 8 = .ok (.iconst 0, 1) := by decide +kernel
theorem dX6_trialsIn_9 : decode cX6_trialsIn 9 = .ok (.invokevirtual 70, 3) := by decide +kernel
theorem dX6_trialsIn_12 : decode cX6_trialsIn 12 = .ok (.aload_n 0, 1) := by decide +kernel
theorem dX6_trialsIn_13 : decode cX6_trialsIn 13 = .ok (.iload_n 1, 1) := by decide +kernel
theorem dX6_trialsIn_14 : decode cX6_trialsIn 14 = .ok (.iload_n 2, 1) := by decide +kernel
theorem dX6_trialsIn_15 : decode cX6_trialsIn 15 = .ok (.iconst 4, 1) := by decide +kernel
theorem dX6_trialsIn_16 : decode cX6_trialsIn 16 = .ok (.idiv, 1) := by decide +kernel
theorem dX6_trialsIn_17 : decode cX6_trialsIn 17 = .ok (.iload_n 2, 1) := by decide +kernel
theorem dX6_trialsIn_18 : decode cX6_trialsIn 18 = .ok (.iconst 4, 1) := by decide +kernel
theorem dX6_trialsIn_19 : decode cX6_trialsIn 19 = .ok (.irem, 1) := by decide +kernel
theorem dX6_trialsIn_20 : decode cX6_trialsIn 20 = .ok (.iconst 1, 1) := by decide +kernel
theorem dX6_trialsIn_21 : decode cX6_trialsIn 21 = .ok (.invokevirtual 70, 3) := by decide +kernel
theorem dX6_trialsIn_24 : decode cX6_trialsIn 24 = .ok (.iadd, 1) := by decide +kernel
theorem dX6_trialsIn_25 : decode cX6_trialsIn 25 = .ok (.ireturn, 1) := by decide +kernel
theorem dX6_knownSituations_0 : decode cX6_knownSituations 0 = .ok (.aload_n 0, 1) := by decide +kernel
theorem dX6_knownSituations_1 : decode cX6_knownSituations 1 = .ok (.iconst 0, 1) := by decide +kernel
theorem dX6_knownSituations_2 : decode cX6_knownSituations 2 = .ok (.putfield 1, 3) := by decide +kernel
theorem dX6_knownSituations_5 : decode cX6_knownSituations 5 = .ok (.aload_n 0, 1) := by decide +kernel
theorem dX6_knownSituations_6 : decode cX6_knownSituations 6 = .ok (.iload_n 1, 1) := by decide +kernel
theorem dX6_knownSituations_7 : decode cX6_knownSituations 7 = .ok (.invokevirtual 110, 3) := by decide +kernel
theorem dX6_knownSituations_10 : decode cX6_knownSituations 10 = .ok (.ifCond .ne 9, 3) := by decide +kernel
theorem dX6_knownSituations_13 : decode cX6_knownSituations 13 = .ok (.aload_n 0, 1) := by decide +kernel
theorem dX6_knownSituations_14 : decode cX6_knownSituations 14 = .ok (.iconst 1, 1) := by decide +kernel
theorem dX6_knownSituations_15 : decode cX6_knownSituations 15 = .ok (.invokevirtual 84, 3) := by decide +kernel
theorem dX6_knownSituations_18 : decode cX6_knownSituations 18 = .ok (.ireturn, 1) := by decide +kernel
theorem dX6_knownSituations_19 : decode cX6_knownSituations 19 = .ok (.iconst 0, 1) := by decide +kernel
theorem dX6_knownSituations_20 : decode cX6_knownSituations 20 = .ok (.istore_n 2, 1) := by decide +kernel
theorem dX6_knownSituations_21 : decode cX6_knownSituations 21 = .ok (.iconst 0, 1) := by decide +kernel
theorem dX6_knownSituations_22 : decode cX6_knownSituations 22 = .ok (.istore_n 3, 1) := by decide +kernel
theorem dX6_knownSituations_23 : decode cX6_knownSituations 23 = .ok (.iload_n 3, 1) := by decide +kernel
theorem dX6_knownSituations_24 : decode cX6_knownSituations 24 = .ok (.bipush 16, 2) := by decide +kernel
theorem dX6_knownSituations_26 : decode cX6_knownSituations 26 = .ok (.if_icmp .ge 26, 3) := by decide +kernel
theorem dX6_knownSituations_29 : decode cX6_knownSituations 29 = .ok (.iload_n 2, 1) := by decide +kernel
theorem dX6_knownSituations_30 : decode cX6_knownSituations 30 = .ok (.aload_n 0, 1) := by decide +kernel
theorem dX6_knownSituations_31 : decode cX6_knownSituations 31 = .ok (.iload_n 1, 1) := by decide +kernel
theorem dX6_knownSituations_32 : decode cX6_knownSituations 32 = .ok (.iload_n 3, 1) := by decide +kernel
theorem dX6_knownSituations_33 : decode cX6_knownSituations 33 = .ok (.invokevirtual 185, 3) := by decide +kernel
theorem dX6_knownSituations_36 : decode cX6_knownSituations 36 = .ok (.ifCond .le 7, 3) := by decide +kernel
theorem dX6_knownSituations_39 : decode cX6_knownSituations 39 = .ok (.iconst 1, 1) := by decide +kernel
theorem dX6_knownSituations_40 : decode cX6_knownSituations 40 = .ok (.goto 4, 3) := by decide +kernel
theorem dX6_knownSituations_43 : decode cX6_knownSituations 43 = .ok (.iconst 0, 1) := by decide +kernel
theorem dX6_knownSituations_44 : decode cX6_knownSituations 44 = .ok (.iadd, 1) := by decide +kernel
theorem dX6_knownSituations_45 : decode cX6_knownSituations 45 = .ok (.istore_n 2, 1) := by decide +kernel
theorem dX6_knownSituations_46 : decode cX6_knownSituations 46 = .ok (.iinc 3 1, 3) := by decide +kernel
theorem dX6_knownSituations_49 : decode cX6_knownSituations 49 = .ok (.goto (-26), 3) := by decide +kernel
theorem dX6_knownSituations_52 : decode cX6_knownSituations 52 = .ok (.iload_n 2, 1) := by decide +kernel
theorem dX6_knownSituations_53 : decode cX6_knownSituations 53 = .ok (.ireturn, 1) := by decide +kernel
theorem dX6_situationAt_0 : decode cX6_situationAt 0 = .ok (.aload_n 0, 1) := by decide +kernel
theorem dX6_situationAt_1 : decode cX6_situationAt 1 = .ok (.iconst 0, 1) := by decide +kernel
theorem dX6_situationAt_2 : decode cX6_situationAt 2 = .ok (.putfield 1, 3) := by decide +kernel
theorem dX6_situationAt_5 : decode cX6_situationAt 5 = .ok (.aload_n 0, 1) := by decide +kernel
theorem dX6_situationAt_6 : decode cX6_situationAt 6 = .ok (.iload_n 1, 1) := by decide +kernel
theorem dX6_situationAt_7 : decode cX6_situationAt 7 = .ok (.invokevirtual 110, 3) := by decide +kernel
theorem dX6_situationAt_10 : decode cX6_situationAt 10 = .ok (.ifCond .ne 9, 3) := by decide +kernel
theorem dX6_situationAt_13 : decode cX6_situationAt 13 = .ok (.aload_n 0, 1) := by decide +kernel
theorem dX6_situationAt_14 : decode cX6_situationAt 14 = .ok (.iconst 1, 1) := by decide +kernel
theorem dX6_situationAt_15 : decode cX6_situationAt 15 = .ok (.invokevirtual 84, 3) := by decide +kernel
theorem dX6_situationAt_18 : decode cX6_situationAt 18 = .ok (.ireturn, 1) := by decide +kernel
theorem dX6_situationAt_19 : decode cX6_situationAt 19 = .ok (.iconst 0, 1) := by decide +kernel
theorem dX6_situationAt_20 : decode cX6_situationAt 20 = .ok (.istore_n 3, 1) := by decide +kernel
theorem dX6_situationAt_21 : decode cX6_situationAt 21 = .ok (.iload_n 3, 1) := by decide +kernel
theorem dX6_situationAt_22 : decode cX6_situationAt 22 = .ok (.bipush 16, 2) := by decide +kernel
theorem dX6_situationAt_24 : decode cX6_situationAt 24 = .ok (.if_icmp .ge 90, 3) := by decide +kernel
theorem dX6_situationAt_27 : decode cX6_situationAt 27 = .ok (.aload_n 0, 1) := by decide +kernel
theorem dX6_situationAt_28 : decode cX6_situationAt 28 = .ok (.iload_n 1, 1) := by decide +kernel
theorem dX6_situationAt_29 : decode cX6_situationAt 29 = .ok (.iload_n 3, 1) := by decide +kernel
theorem dX6_situationAt_30 : decode cX6_situationAt 30 = .ok (.invokevirtual 185, 3) := by decide +kernel
theorem dX6_situationAt_33 : decode cX6_situationAt 33 = .ok (.ifCond .ne 6, 3) := by decide +kernel
theorem dX6_situationAt_36 : decode cX6_situationAt 36 = .ok (.goto 72, 3) := by decide +kernel
theorem dX6_situationAt_39 : decode cX6_situationAt 39 = .ok (.iconst 0, 1) := by decide +kernel
theorem dX6_situationAt_40 : decode cX6_situationAt 40 = .ok (.istore 4, 2) := by decide +kernel
theorem dX6_situationAt_42 : decode cX6_situationAt 42 = .ok (.iconst 0, 1) := by decide +kernel
theorem dX6_situationAt_43 : decode cX6_situationAt 43 = .ok (.istore 5, 2) := by decide +kernel
theorem dX6_situationAt_45 : decode cX6_situationAt 45 = .ok (.iload 5, 2) := by decide +kernel
theorem dX6_situationAt_47 : decode cX6_situationAt 47 = .ok (.bipush 16, 2) := by decide +kernel
theorem dX6_situationAt_49 : decode cX6_situationAt 49 = .ok (.if_icmp .ge 51, 3) := by decide +kernel
theorem dX6_situationAt_52 : decode cX6_situationAt 52 = .ok (.aload_n 0, 1) := by decide +kernel
theorem dX6_situationAt_53 : decode cX6_situationAt 53 = .ok (.iload_n 1, 1) := by decide +kernel
theorem dX6_situationAt_54 : decode cX6_situationAt 54 = .ok (.iload 5, 2) := by decide +kernel
theorem dX6_situationAt_56 : decode cX6_situationAt 56 = .ok (.invokevirtual 185, 3) := by decide +kernel
theorem dX6_situationAt_59 : decode cX6_situationAt 59 = .ok (.aload_n 0, 1) := by decide +kernel
theorem dX6_situationAt_60 : decode cX6_situationAt 60 = .ok (.iload_n 1, 1) := by decide +kernel
theorem dX6_situationAt_61 : decode cX6_situationAt 61 = .ok (.iload_n 3, 1) := by decide +kernel
theorem dX6_situationAt_62 : decode cX6_situationAt 62 = .ok (.invokevirtual 185, 3) := by decide +kernel
theorem dX6_situationAt_65 : decode cX6_situationAt 65 = .ok (.isub, 1) := by decide +kernel
theorem dX6_situationAt_66 : decode cX6_situationAt 66 = .ok (.istore 6, 2) := by decide +kernel
theorem dX6_situationAt_68 : decode cX6_situationAt 68 = .ok (.iload 4, 2) := by decide +kernel
theorem dX6_situationAt_70 : decode cX6_situationAt 70 = .ok (.iload 6, 2) := by decide +kernel
theorem dX6_situationAt_72 : decode cX6_situationAt 72 = .ok (.ifCond .gt 14, 3) := by decide +kernel
theorem dX6_situationAt_75 : decode cX6_situationAt 75 = .ok (.iload 6, 2) := by decide +kernel
theorem dX6_situationAt_77 : decode cX6_situationAt 77 = .ok (.ifCond .ne 13, 3) := by decide +kernel
theorem dX6_situationAt_80 : decode cX6_situationAt 80 = .ok (.iload 5, 2) := by decide +kernel
theorem dX6_situationAt_82 : decode cX6_situationAt 82 = .ok (.iload_n 3, 1) := by decide +kernel
theorem dX6_situationAt_83 : decode cX6_situationAt 83 = .ok (.if_icmp .ge 7, 3) := by decide +kernel
theorem dX6_situationAt_86 : decode cX6_situationAt 86 = .ok (.iconst 1, 1) := by decide +kernel
theorem dX6_situationAt_87 : decode cX6_situationAt 87 = .ok (.goto 4, 3) := by decide +kernel
theorem dX6_situationAt_90 : decode cX6_situationAt 90 = .ok (.iconst 0, 1) := by decide +kernel
theorem dX6_situationAt_91 : decode cX6_situationAt 91 = .ok (.iadd, 1) := by decide +kernel
theorem dX6_situationAt_92 : decode cX6_situationAt 92 = .ok (.istore 4, 2) := by decide +kernel
theorem dX6_situationAt_94 : decode cX6_situationAt 94 = .ok (.iinc 5 1, 3) := by decide +kernel
theorem dX6_situationAt_97 : decode cX6_situationAt 97 = .ok (.goto (-52), 3) := by decide +kernel
theorem dX6_situationAt_100 : decode cX6_situationAt 100 = .ok (.iload 4, 2) := by decide +kernel
theorem dX6_situationAt_102 : decode cX6_situationAt 102 = .ok (.iload_n 2, 1) := by decide +kernel
theorem dX6_situationAt_103 : decode cX6_situationAt 103 = .ok (.if_icmp .ne 5, 3) := by decide +kernel
theorem dX6_situationAt_106 : decode cX6_situationAt 106 = .ok (.iload_n 3, 1) := by decide +kernel
theorem dX6_situationAt_107 : decode cX6_situationAt 107 = .ok (.ireturn, 1) := by decide +kernel
theorem dX6_situationAt_108 : decode cX6_situationAt 108 = .ok (.iinc 3 1, 3) := by decide +kernel
theorem dX6_situationAt_111 : decode cX6_situationAt 111 = .ok (.goto (-90), 3) := by decide +kernel
theorem dX6_situationAt_114 : decode cX6_situationAt 114 = .ok (.aload_n 0, 1) := by decide +kernel
theorem dX6_situationAt_115 : decode cX6_situationAt 115 = .ok (.iconst 2, 1) := by decide +kernel
theorem dX6_situationAt_116 : decode cX6_situationAt 116 = .ok (.invokevirtual 84, 3) := by decide +kernel
theorem dX6_situationAt_119 : decode cX6_situationAt 119 = .ok (.ireturn, 1) := by decide +kernel
theorem dX6_situationRain_0 : decode cX6_situationRain 0 = .ok (.aload_n 0, 1) := by decide +kernel
theorem dX6_situationRain_1 : decode cX6_situationRain 1 = .ok (.iload_n 1, 1) := by decide +kernel
theorem dX6_situationRain_2 : decode cX6_situationRain 2 = .ok (.iload_n 2, 1) := by decide +kernel
theorem dX6_situationRain_3 : decode cX6_situationRain 3 = .ok (.invokevirtual 188, 3) := by decide +kernel
theorem dX6_situationRain_6 : decode cX6_situationRain 6 = .ok (.iconst 4, 1) := by decide +kernel
theorem dX6_situationRain_7 : decode cX6_situationRain 7 = .ok (.idiv, 1) := by decide +kernel
theorem dX6_situationRain_8 : decode cX6_situationRain 8 = .ok (.ireturn, 1) := by decide +kernel
theorem dX6_situationWind_0 : decode cX6_situationWind 0 = .ok (.aload_n 0, 1) := by decide +kernel
theorem dX6_situationWind_1 : decode cX6_situationWind 1 = .ok (.iload_n 1, 1) := by decide +kernel
theorem dX6_situationWind_2 : decode cX6_situationWind 2 = .ok (.iload_n 2, 1) := by decide +kernel
theorem dX6_situationWind_3 : decode cX6_situationWind 3 = .ok (.invokevirtual 188, 3) := by decide +kernel
theorem dX6_situationWind_6 : decode cX6_situationWind 6 = .ok (.iconst 4, 1) := by decide +kernel
theorem dX6_situationWind_7 : decode cX6_situationWind 7 = .ok (.irem, 1) := by decide +kernel
theorem dX6_situationWind_8 : decode cX6_situationWind 8 = .ok (.ireturn, 1) := by decide +kernel
theorem dX6_hasExam_0 : decode cX6_hasExam 0 = .ok (.aload_n 0, 1) := by decide +kernel
theorem dX6_hasExam_1 : decode cX6_hasExam 1 = .ok (.iconst 0, 1) := by decide +kernel
theorem dX6_hasExam_2 : decode cX6_hasExam 2 = .ok (.putfield 1, 3) := by decide +kernel
theorem dX6_hasExam_5 : decode cX6_hasExam 5 = .ok (.aload_n 0, 1) := by decide +kernel
theorem dX6_hasExam_6 : decode cX6_hasExam 6 = .ok (.iload_n 1, 1) := by decide +kernel
theorem dX6_hasExam_7 : decode cX6_hasExam 7 = .ok (.iload_n 2, 1) := by decide +kernel
theorem dX6_hasExam_8 : decode cX6_hasExam 8 = .ok (.invokevirtual 144, 3) := by decide +kernel
theorem dX6_hasExam_11 : decode cX6_hasExam 11 = .ok (.istore_n 3, 1) := by decide +kernel
theorem dX6_hasExam_12 : decode cX6_hasExam 12 = .ok (.iload_n 3, 1) := by decide +kernel
theorem dX6_hasExam_13 : decode cX6_hasExam 13 = .ok (.ifCond .eq 17, 3) := by decide +kernel
theorem dX6_hasExam_16 : decode cX6_hasExam 16 = .ok (.aload_n 0, 1) := by decide +kernel
theorem dX6_hasExam_17 : decode cX6_hasExam 17 = .ok (.iload_n 3, 1) := by decide +kernel
theorem dX6_hasExam_18 : decode cX6_hasExam 18 = .ok (.invokevirtual 84, 3) := by decide +kernel
theorem dX6_hasExam_21 : decode cX6_hasExam 21 = .ok (.ifCond .le 7, 3) := by decide +kernel
theorem dX6_hasExam_24 : decode cX6_hasExam 24 = .ok (.iconst 1, 1) := by decide +kernel
theorem dX6_hasExam_25 : decode cX6_hasExam 25 = .ok (.goto 4, 3) := by decide +kernel
theorem dX6_hasExam_28 : decode cX6_hasExam 28 = .ok (.iconst 0, 1) := by decide +kernel
theorem dX6_hasExam_29 : decode cX6_hasExam 29 = .ok (.ireturn, 1) := by decide +kernel
theorem dX6_hasExam_30 : decode cX6_hasExam 30 = .ok (.aload_n 0, 1) := by decide +kernel
theorem dX6_hasExam_31 : decode cX6_hasExam 31 = .ok (.iload_n 1, 1) := by decide +kernel
theorem dX6_hasExam_32 : decode cX6_hasExam 32 = .ok (.iload_n 2, 1) := by decide +kernel
theorem dX6_hasExam_33 : decode cX6_hasExam 33 = .ok (.invokevirtual 156, 3) := by decide +kernel
theorem dX6_hasExam_36 : decode cX6_hasExam 36 = .ok (.ireturn, 1) := by decide +kernel
theorem dX6_isGraduate_0 : decode cX6_isGraduate 0 = .ok (.aload_n 0, 1) := by decide +kernel
theorem dX6_isGraduate_1 : decode cX6_isGraduate 1 = .ok (.iconst 0, 1) := by decide +kernel
theorem dX6_isGraduate_2 : decode cX6_isGraduate 2 = .ok (.putfield 1, 3) := by decide +kernel
theorem dX6_isGraduate_5 : decode cX6_isGraduate 5 = .ok (.aload_n 0, 1) := by decide +kernel
theorem dX6_isGraduate_6 : decode cX6_isGraduate 6 = .ok (.iload_n 1, 1) := by decide +kernel
theorem dX6_isGraduate_7 : decode cX6_isGraduate 7 = .ok (.invokevirtual 110, 3) := by decide +kernel
theorem dX6_isGraduate_10 : decode cX6_isGraduate 10 = .ok (.ifCond .ne 17, 3) := by decide +kernel
theorem dX6_isGraduate_13 : decode cX6_isGraduate 13 = .ok (.aload_n 0, 1) := by decide +kernel
theorem dX6_isGraduate_14 : decode cX6_isGraduate 14 = .ok (.iconst 1, 1) := by decide +kernel
theorem dX6_isGraduate_15 : decode cX6_isGraduate 15 = .ok (.invokevirtual 84, 3) := by decide +kernel
theorem dX6_isGraduate_18 : decode cX6_isGraduate 18 = .ok (.ifCond .le 7, 3) := by decide +kernel
theorem dX6_isGraduate_21 : decode cX6_isGraduate 21 = .ok (.iconst 1, 1) := by decide +kernel
theorem dX6_isGraduate_22 : decode cX6_isGraduate 22 = .ok (.goto 4, 3) := by decide +kernel
theorem dX6_isGraduate_25 : decode cX6_isGraduate 25 = .ok (.iconst 0, 1) := by decide +kernel
theorem dX6_isGraduate_26 : decode cX6_isGraduate 26 = .ok (.ireturn, 1) := by decide +kernel
theorem dX6_isGraduate_27 : decode cX6_isGraduate 27 = .ok (.aload_n 0, 1) := by decide +kernel
theorem dX6_isGraduate_28 : decode cX6_isGraduate 28 = .ok (.iload_n 1, 1) := by decide +kernel
theorem dX6_isGraduate_29 : decode cX6_isGraduate 29 = .ok (.bipush 7, 2) := by decide +kernel
theorem dX6_isGraduate_31 : decode cX6_isGraduate 31 = .ok (.invokevirtual 62, 3) := by decide +kernel
theorem dX6_isGraduate_34 : decode cX6_isGraduate 34 = .ok (.bipush 15, 2) := by decide +kernel
theorem dX6_isGraduate_36 : decode cX6_isGraduate 36 = .ok (.if_icmp .ne 7, 3) := by decide +kernel
theorem dX6_isGraduate_39 : decode cX6_isGraduate 39 = .ok (.iconst 1, 1) := by decide +kernel
theorem dX6_isGraduate_40 : decode cX6_isGraduate 40 = .ok (.goto 4, 3) := by decide +kernel
theorem dX6_isGraduate_43 : decode cX6_isGraduate 43 = .ok (.iconst 0, 1) := by decide +kernel
theorem dX6_isGraduate_44 : decode cX6_isGraduate 44 = .ok (.ireturn, 1) := by decide +kernel
theorem dX6_totalReward_0 : decode cX6_totalReward 0 = .ok (.aload_n 0, 1) := by decide +kernel
theorem dX6_totalReward_1 : decode cX6_totalReward 1 = .ok (.iload_n 1, 1) := by decide +kernel
theorem dX6_totalReward_2 : decode cX6_totalReward 2 = .ok (.iconst 4, 1) := by decide +kernel
theorem dX6_totalReward_3 : decode cX6_totalReward 3 = .ok (.invokevirtual 172, 3) := by decide +kernel
theorem dX6_totalReward_6 : decode cX6_totalReward 6 = .ok (.ireturn, 1) := by decide +kernel
theorem dX6_termReward_0 : decode cX6_termReward 0 = .ok (.aload_n 0, 1) := by decide +kernel
theorem dX6_termReward_1 : decode cX6_termReward 1 = .ok (.iload_n 1, 1) := by decide +kernel
theorem dX6_termReward_2 : decode cX6_termReward 2 = .ok (.iconst 5, 1) := by decide +kernel
theorem dX6_termReward_3 : decode cX6_termReward 3 = .ok (.invokevirtual 172, 3) := by decide +kernel
theorem dX6_termReward_6 : decode cX6_termReward 6 = .ok (.ireturn, 1) := by decide +kernel
theorem dX6_stars_0 : decode cX6_stars 0 = .ok (.aload_n 0, 1) := by decide +kernel
theorem dX6_stars_1 : decode cX6_stars 1 = .ok (.iload_n 1, 1) := by decide +kernel
theorem dX6_stars_2 : decode cX6_stars 2 = .ok (.bipush 6, 2) := by decide +kernel
theorem dX6_stars_4 : decode cX6_stars 4 = .ok (.invokevirtual 172, 3) := by decide +kernel
theorem dX6_stars_7 : decode cX6_stars 7 = .ok (.ireturn, 1) := by decide +kernel
theorem dX6_isAhead_0 : decode cX6_isAhead 0 = .ok (.aload_n 0, 1) := by decide +kernel
theorem dX6_isAhead_1 : decode cX6_isAhead 1 = .ok (.iload_n 1, 1) := by decide +kernel
theorem dX6_isAhead_2 : decode cX6_isAhead 2 = .ok (.bipush 6, 2) := by decide +kernel
theorem dX6_isAhead_4 : decode cX6_isAhead 4 = .ok (.invokevirtual 62, 3) := by decide +kernel
theorem dX6_isAhead_7 : decode cX6_isAhead 7 = .ok (.aload_n 0, 1) := by decide +kernel
theorem dX6_isAhead_8 : decode cX6_isAhead 8 = .ok (.iload_n 2, 1) := by decide +kernel
theorem dX6_isAhead_9 : decode cX6_isAhead 9 = .ok (.bipush 6, 2) := by decide +kernel
theorem dX6_isAhead_11 : decode cX6_isAhead 11 = .ok (.invokevirtual 62, 3) := by decide +kernel
theorem dX6_isAhead_14 : decode cX6_isAhead 14 = .ok (.isub, 1) := by decide +kernel
theorem dX6_isAhead_15 : decode cX6_isAhead 15 = .ok (.istore_n 3, 1) := by decide +kernel
theorem dX6_isAhead_16 : decode cX6_isAhead 16 = .ok (.aload_n 0, 1) := by decide +kernel
theorem dX6_isAhead_17 : decode cX6_isAhead 17 = .ok (.iload_n 1, 1) := by decide +kernel
theorem dX6_isAhead_18 : decode cX6_isAhead 18 = .ok (.iconst 4, 1) := by decide +kernel
theorem dX6_isAhead_19 : decode cX6_isAhead 19 = .ok (.invokevirtual 62, 3) := by decide +kernel
theorem dX6_isAhead_22 : decode cX6_isAhead 22 = .ok (.aload_n 0, 1) := by decide +kernel
theorem dX6_isAhead_23 : decode cX6_isAhead 23 = .ok (.iload_n 2, 1) := by decide +kernel
theorem dX6_isAhead_24 : decode cX6_isAhead 24 = .ok (.iconst 4, 1) := by decide +kernel
theorem dX6_isAhead_25 : decode cX6_isAhead 25 = .ok (.invokevirtual 62, 3) := by decide +kernel
theorem dX6_isAhead_28 : decode cX6_isAhead 28 = .ok (.isub, 1) := by decide +kernel
theorem dX6_isAhead_29 : decode cX6_isAhead 29 = .ok (.istore 4, 2) := by decide +kernel
theorem dX6_isAhead_31 : decode cX6_isAhead 31 = .ok (.iload_n 3, 1) := by decide +kernel
theorem dX6_isAhead_32 : decode cX6_isAhead 32 = .ok (.ifCond .eq 13, 3) := by decide +kernel
theorem dX6_isAhead_35 : decode cX6_isAhead 35 = .ok (.iload_n 3, 1) := by decide +kernel
theorem dX6_isAhead_36 : decode cX6_isAhead 36 = .ok (.ifCond .le 7, 3) := by decide +kernel
theorem dX6_isAhead_39 : decode cX6_isAhead 39 = .ok (.iconst 1, 1) := by decide +kernel
theorem dX6_isAhead_40 : decode cX6_isAhead 40 = .ok (.goto 4, 3) := by decide +kernel
theorem dX6_isAhead_43 : decode cX6_isAhead 43 = .ok (.iconst 0, 1) := by decide +kernel
theorem dX6_isAhead_44 : decode cX6_isAhead 44 = .ok (.ireturn, 1) := by decide +kernel
theorem dX6_isAhead_45 : decode cX6_isAhead 45 = .ok (.iload 4, 2) := by decide +kernel
theorem dX6_isAhead_47 : decode cX6_isAhead 47 = .ok (.ifCond .eq 16, 3) := by decide +kernel
theorem dX6_isAhead_50 : decode cX6_isAhead 50 = .ok (.iload 4, 2) := by decide +kernel
theorem dX6_isAhead_52 : decode cX6_isAhead 52 = .ok (.ifCond .le 7, 3) := by decide +kernel
theorem dX6_isAhead_55 : decode cX6_isAhead 55 = .ok (.iconst 1, 1) := by decide +kernel
theorem dX6_isAhead_56 : decode cX6_isAhead 56 = .ok (.goto 17, 3) := by decide +kernel
theorem dX6_isAhead_59 : decode cX6_isAhead 59 = .ok (.iconst 0, 1) := by decide +kernel
theorem dX6_isAhead_60 : decode cX6_isAhead 60 = .ok (.goto 13, 3) := by decide +kernel
theorem dX6_isAhead_63 : decode cX6_isAhead 63 = .ok (.iload_n 1, 1) := by decide +kernel
theorem dX6_isAhead_64 : decode cX6_isAhead 64 = .ok (.iload_n 2, 1) := by decide +kernel
theorem dX6_isAhead_65 : decode cX6_isAhead 65 = .ok (.if_icmp .ge 7, 3) := by decide +kernel
theorem dX6_isAhead_68 : decode cX6_isAhead 68 = .ok (.iconst 1, 1) := by decide +kernel
theorem dX6_isAhead_69 : decode cX6_isAhead 69 = .ok (.goto 4, 3) := by decide +kernel
theorem dX6_isAhead_72 : decode cX6_isAhead 72 = .ok (.iconst 0, 1) := by decide +kernel
theorem dX6_isAhead_73 : decode cX6_isAhead 73 = .ok (.ireturn, 1) := by decide +kernel
theorem dX6_umbrellaByStars_0 : decode cX6_umbrellaByStars 0 = .ok (.aload_n 0, 1) := by decide +kernel
theorem dX6_umbrellaByStars_1 : decode cX6_umbrellaByStars 1 = .ok (.iconst 0, 1) := by decide +kernel
theorem dX6_umbrellaByStars_2 : decode cX6_umbrellaByStars 2 = .ok (.putfield 1, 3) := by decide +kernel
theorem dX6_umbrellaByStars_5 : decode cX6_umbrellaByStars 5 = .ok (.iconst 0, 1) := by decide +kernel
theorem dX6_umbrellaByStars_6 : decode cX6_umbrellaByStars 6 = .ok (.istore_n 2, 1) := by decide +kernel
theorem dX6_umbrellaByStars_7 : decode cX6_umbrellaByStars 7 = .ok (.iload_n 2, 1) := by decide +kernel
theorem dX6_umbrellaByStars_8 : decode cX6_umbrellaByStars 8 = .ok (.aload_n 0, 1) := by decide +kernel
theorem dX6_umbrellaByStars_9 : decode cX6_umbrellaByStars 9 = .ok (.getfield 13, 3) := by decide +kernel
theorem dX6_umbrellaByStars_12 : decode cX6_umbrellaByStars 12 = .ok (.iconst 0, 1) := by decide +kernel
theorem dX6_umbrellaByStars_13 : decode cX6_umbrellaByStars 13 = .ok (.iaload, 1) := by decide +kernel
theorem dX6_umbrellaByStars_14 : decode cX6_umbrellaByStars 14 = .ok (.if_icmp .ge 56, 3) := by decide +kernel
theorem dX6_umbrellaByStars_17 : decode cX6_umbrellaByStars 17 = .ok (.iconst 0, 1) := by decide +kernel
theorem dX6_umbrellaByStars_18 : decode cX6_umbrellaByStars 18 = .ok (.istore_n 3, 1) := by decide +kernel
theorem dX6_umbrellaByStars_19 : decode cX6_umbrellaByStars 19 = .ok (.iconst 0, 1) := by decide +kernel
theorem dX6_umbrellaByStars_20 : decode cX6_umbrellaByStars 20 = .ok (.istore 4, 2) := by decide +kernel
theorem dX6_umbrellaByStars_22 : decode cX6_umbrellaByStars 22 = .ok (.iload 4, 2) := by decide +kernel
theorem dX6_umbrellaByStars_24 : decode cX6_umbrellaByStars 24 = .ok (.aload_n 0, 1) := by decide +kernel
theorem dX6_umbrellaByStars_25 : decode cX6_umbrellaByStars 25 = .ok (.getfield 13, 3) := by decide +kernel
theorem dX6_umbrellaByStars_28 : decode cX6_umbrellaByStars 28 = .ok (.iconst 0, 1) := by decide +kernel
theorem dX6_umbrellaByStars_29 : decode cX6_umbrellaByStars 29 = .ok (.iaload, 1) := by decide +kernel
theorem dX6_umbrellaByStars_30 : decode cX6_umbrellaByStars 30 = .ok (.if_icmp .ge 27, 3) := by decide +kernel
theorem dX6_umbrellaByStars_33 : decode cX6_umbrellaByStars 33 = .ok (.iload_n 3, 1) := by decide +kernel
theorem dX6_umbrellaByStars_34 : decode cX6_umbrellaByStars 34 = .ok (.aload_n 0, 1) := by decide +kernel
theorem dX6_umbrellaByStars_35 : decode cX6_umbrellaByStars 35 = .ok (.iload 4, 2) := by decide +kernel
theorem dX6_umbrellaByStars_37 : decode cX6_umbrellaByStars 37 = .ok (.iload_n 2, 1) := by decide +kernel
theorem dX6_umbrellaByStars_38 : decode cX6_umbrellaByStars 38 = .ok (.invokevirtual 191, 3) := by decide +kernel
theorem dX6_umbrellaByStars_41 : decode cX6_umbrellaByStars 41 = .ok (.ifCond .eq 7, 3) := by decide +kernel
theorem dX6_umbrellaByStars_44 : decode cX6_umbrellaByStars 44 = .ok (.iconst 1, 1) := by decide +kernel
theorem dX6_umbrellaByStars_45 : decode cX6_umbrellaByStars 45 = .ok (.goto 4, 3) := by decide +kernel
theorem dX6_umbrellaByStars_48 : decode cX6_umbrellaByStars 48 = .ok (.iconst 0, 1) := by decide +kernel
theorem dX6_umbrellaByStars_49 : decode cX6_umbrellaByStars 49 = .ok (.iadd, 1) := by decide +kernel
theorem dX6_umbrellaByStars_50 : decode cX6_umbrellaByStars 50 = .ok (.istore_n 3, 1) := by decide +kernel
theorem dX6_umbrellaByStars_51 : decode cX6_umbrellaByStars 51 = .ok (.iinc 4 1, 3) := by decide +kernel
theorem dX6_umbrellaByStars_54 : decode cX6_umbrellaByStars 54 = .ok (.goto (-32), 3) := by decide +kernel
theorem dX6_umbrellaByStars_57 : decode cX6_umbrellaByStars 57 = .ok (.iload_n 3, 1) := by decide +kernel
theorem dX6_umbrellaByStars_58 : decode cX6_umbrellaByStars 58 = .ok (.iload_n 1, 1) := by decide +kernel
theorem dX6_umbrellaByStars_59 : decode cX6_umbrellaByStars 59 = .ok (.if_icmp .ne 5, 3) := by decide +kernel
theorem dX6_umbrellaByStars_62 : decode cX6_umbrellaByStars 62 = .ok (.iload_n 2, 1) := by decide +kernel
theorem dX6_umbrellaByStars_63 : decode cX6_umbrellaByStars 63 = .ok (.ireturn, 1) := by decide +kernel
theorem dX6_umbrellaByStars_64 : decode cX6_umbrellaByStars 64 = .ok (.iinc 2 1, 3) := by decide +kernel
theorem dX6_umbrellaByStars_67 : decode cX6_umbrellaByStars 67 = .ok (.goto (-60), 3) := by decide +kernel
theorem dX6_umbrellaByStars_70 : decode cX6_umbrellaByStars 70 = .ok (.aload_n 0, 1) := by decide +kernel
theorem dX6_umbrellaByStars_71 : decode cX6_umbrellaByStars 71 = .ok (.iconst 1, 1) := by decide +kernel
theorem dX6_umbrellaByStars_72 : decode cX6_umbrellaByStars 72 = .ok (.invokevirtual 84, 3) := by decide +kernel
theorem dX6_umbrellaByStars_75 : decode cX6_umbrellaByStars 75 = .ok (.ireturn, 1) := by decide +kernel
theorem dX6_wetPenalty_0 : decode cX6_wetPenalty 0 = .ok (.aload_n 0, 1) := by decide +kernel
theorem dX6_wetPenalty_1 : decode cX6_wetPenalty 1 = .ok (.iconst 1, 1) := by decide +kernel
theorem dX6_wetPenalty_2 : decode cX6_wetPenalty 2 = .ok (.invokevirtual 169, 3) := by decide +kernel
theorem dX6_wetPenalty_5 : decode cX6_wetPenalty 5 = .ok (.ireturn, 1) := by decide +kernel
theorem dX6_galePenalty_0 : decode cX6_galePenalty 0 = .ok (.aload_n 0, 1) := by decide +kernel
theorem dX6_galePenalty_1 : decode cX6_galePenalty 1 = .ok (.iconst 2, 1) := by decide +kernel
theorem dX6_galePenalty_2 : decode cX6_galePenalty 2 = .ok (.invokevirtual 169, 3) := by decide +kernel
theorem dX6_galePenalty_5 : decode cX6_galePenalty 5 = .ok (.ireturn, 1) := by decide +kernel
theorem dX6_term_0 : decode cX6_term 0 = .ok (.aload_n 0, 1) := by decide +kernel
theorem dX6_term_1 : decode cX6_term 1 = .ok (.iconst 3, 1) := by decide +kernel
theorem dX6_term_2 : decode cX6_term 2 = .ok (.invokevirtual 169, 3) := by decide +kernel
theorem dX6_term_5 : decode cX6_term 5 = .ok (.ireturn, 1) := by decide +kernel
theorem dX6_rewardAll_0 : decode cX6_rewardAll 0 = .ok (.iconst 0, 1) := by decide +kernel
theorem dX6_rewardAll_1 : decode cX6_rewardAll 1 = .ok (.istore_n 1, 1) := by decide +kernel
theorem dX6_rewardAll_2 : decode cX6_rewardAll 2 = .ok (.iconst 0, 1) := by decide +kernel
theorem dX6_rewardAll_3 : decode cX6_rewardAll 3 = .ok (.istore_n 2, 1) := by decide +kernel
theorem dX6_rewardAll_4 : decode cX6_rewardAll 4 = .ok (.iload_n 2, 1) := by decide +kernel
theorem dX6_rewardAll_5 : decode cX6_rewardAll 5 = .ok (.aload_n 0, 1) := by decide +kernel
theorem dX6_rewardAll_6 : decode cX6_rewardAll 6 = .ok (.getfield 13, 3) := by decide +kernel
theorem dX6_rewardAll_9 : decode cX6_rewardAll 9 = .ok (.iconst 0, 1) := by decide +kernel
theorem dX6_rewardAll_10 : decode cX6_rewardAll 10 = .ok (.iaload, 1) := by decide +kernel
theorem dX6_rewardAll_11 : decode cX6_rewardAll 11 = .ok (.if_icmp .ge 18, 3) := by decide +kernel
theorem dX6_rewardAll_14 : decode cX6_rewardAll 14 = .ok (.iload_n 1, 1) := by decide +kernel
theorem dX6_rewardAll_15 : decode cX6_rewardAll 15 = .ok (.aload_n 0, 1) := by decide +kernel
theorem dX6_rewardAll_16 : decode cX6_rewardAll 16 = .ok (.iload_n 2, 1) := by decide +kernel
theorem dX6_rewardAll_17 : decode cX6_rewardAll 17 = .ok (.iconst 4, 1) := by decide +kernel
theorem dX6_rewardAll_18 : decode cX6_rewardAll 18 = .ok (.invokevirtual 62, 3) := by decide +kernel
theorem dX6_rewardAll_21 : decode cX6_rewardAll 21 = .ok (.iadd, 1) := by decide +kernel
theorem dX6_rewardAll_22 : decode cX6_rewardAll 22 = .ok (.istore_n 1, 1) := by decide +kernel
theorem dX6_rewardAll_23 : decode cX6_rewardAll 23 = .ok (.iinc 2 1, 3) := by decide +kernel
theorem dX6_rewardAll_26 : decode cX6_rewardAll 26 = .ok (.goto (-22), 3) := by decide +kernel
theorem dX6_rewardAll_29 : decode cX6_rewardAll 29 = .ok (.iload_n 1, 1) := by decide +kernel
theorem dX6_rewardAll_30 : decode cX6_rewardAll 30 = .ok (.ireturn, 1) := by decide +kernel
theorem dX6_schoolReward_0 : decode cX6_schoolReward 0 = .ok (.aload_n 0, 1) := by decide +kernel
theorem dX6_schoolReward_1 : decode cX6_schoolReward 1 = .ok (.iconst 0, 1) := by decide +kernel
theorem dX6_schoolReward_2 : decode cX6_schoolReward 2 = .ok (.putfield 1, 3) := by decide +kernel
theorem dX6_schoolReward_5 : decode cX6_schoolReward 5 = .ok (.aload_n 0, 1) := by decide +kernel
theorem dX6_schoolReward_6 : decode cX6_schoolReward 6 = .ok (.invokevirtual 194, 3) := by decide +kernel
theorem dX6_schoolReward_9 : decode cX6_schoolReward 9 = .ok (.ireturn, 1) := by decide +kernel
theorem dX6_schoolRewardByActions_0 : decode cX6_schoolRewardByActions 0 = .ok (.aload_n 0, 1) := by decide +kernel
theorem dX6_schoolRewardByActions_1 : decode cX6_schoolRewardByActions 1 = .ok (.iconst 0, 1) := by decide +kernel
theorem dX6_schoolRewardByActions_2 : decode cX6_schoolRewardByActions 2 = .ok (.putfield 1, 3) := by decide +kernel
theorem dX6_schoolRewardByActions_5 : decode cX6_schoolRewardByActions 5 = .ok (.aload_n 0, 1) := by decide +kernel
theorem dX6_schoolRewardByActions_6 : decode cX6_schoolRewardByActions 6 = .ok (.getfield 13, 3) := by decide +kernel
theorem dX6_schoolRewardByActions_9 : decode cX6_schoolRewardByActions 9 = .ok (.iconst 4, 1) := by decide +kernel
theorem dX6_schoolRewardByActions_10 : decode cX6_schoolRewardByActions 10 = .ok (.iaload, 1) := by decide +kernel
theorem dX6_schoolRewardByActions_11 : decode cX6_schoolRewardByActions 11 = .ok (.aload_n 0, 1) := by decide +kernel
theorem dX6_schoolRewardByActions_12 : decode cX6_schoolRewardByActions 12 = .ok (.getfield 13, 3) := by decide +kernel
theorem dX6_schoolRewardByActions_15 : decode cX6_schoolRewardByActions 15 = .ok (.iconst 5, 1) := by decide +kernel
theorem dX6_schoolRewardByActions_16 : decode cX6_schoolRewardByActions 16 = .ok (.iaload, 1) := by decide +kernel
theorem dX6_schoolRewardByActions_17 : decode cX6_schoolRewardByActions 17 = .ok (.iadd, 1) := by decide +kernel
theorem dX6_schoolRewardByActions_18 : decode cX6_schoolRewardByActions 18 = .ok (.ireturn, 1) := by decide +kernel
theorem dX6_meanSchoolReward_0 : decode cX6_meanSchoolReward 0 = .ok (.aload_n 0, 1) := by decide +kernel
theorem dX6_meanSchoolReward_1 : decode cX6_meanSchoolReward 1 = .ok (.iconst 0, 1) := by decide +kernel
theorem dX6_meanSchoolReward_2 : decode cX6_meanSchoolReward 2 = .ok (.putfield 1, 3) := by decide +kernel
theorem dX6_meanSchoolReward_5 : decode cX6_meanSchoolReward 5 = .ok (.aload_n 0, 1) := by decide +kernel
theorem dX6_meanSchoolReward_6 : decode cX6_meanSchoolReward 6 = .ok (.getfield 13, 3) := by decide +kernel
theorem dX6_meanSchoolReward_9 : decode cX6_meanSchoolReward 9 = .ok (.bipush 7, 2) := by decide +kernel
theorem dX6_meanSchoolReward_11 : decode cX6_meanSchoolReward 11 = .ok (.iaload, 1) := by decide +kernel
theorem dX6_meanSchoolReward_12 : decode cX6_meanSchoolReward 12 = .ok (.ifCond .ne 12, 3) := by decide +kernel
theorem dX6_meanSchoolReward_15 : decode cX6_meanSchoolReward 15 = .ok (.aload_n 0, 1) := by decide +kernel
theorem dX6_meanSchoolReward_16 : decode cX6_meanSchoolReward 16 = .ok (.iconst 1, 1) := by decide +kernel
theorem dX6_meanSchoolReward_17 : decode cX6_meanSchoolReward 17 = .ok (.invokevirtual 84, 3) := by decide +kernel
theorem dX6_meanSchoolReward_20 : decode cX6_meanSchoolReward 20 = .ok (.i2d, 1) := by decide +kernel
theorem dX6_meanSchoolReward_21 : decode cX6_meanSchoolReward 21 = .ok (.goto 17, 3) := by decide +kernel
theorem dX6_meanSchoolReward_24 : decode cX6_meanSchoolReward 24 = .ok (.aload_n 0, 1) := by decide +kernel
theorem dX6_meanSchoolReward_25 : decode cX6_meanSchoolReward 25 = .ok (.invokevirtual 194, 3) := by decide +kernel
theorem dX6_meanSchoolReward_28 : decode cX6_meanSchoolReward 28 = .ok (.i2d, 1) := by decide +kernel
theorem dX6_meanSchoolReward_29 : decode cX6_meanSchoolReward 29 = .ok (.aload_n 0, 1) := by decide +kernel
theorem dX6_meanSchoolReward_30 : decode cX6_meanSchoolReward 30 = .ok (.getfield 13, 3) := by decide +kernel
theorem dX6_meanSchoolReward_33 : decode cX6_meanSchoolReward 33 = .ok (.bipush 7, 2) := by decide +kernel
theorem dX6_meanSchoolReward_35 : decode cX6_meanSchoolReward 35 = .ok (.iaload, 1) := by decide +kernel
theorem dX6_meanSchoolReward_36 : decode cX6_meanSchoolReward 36 = .ok (.i2d, 1) := by decide +kernel
theorem dX6_meanSchoolReward_37 : decode cX6_meanSchoolReward 37 = .ok (.ddiv, 1) := by decide +kernel
theorem dX6_meanSchoolReward_38 : decode cX6_meanSchoolReward 38 = .ok (.dreturn, 1) := by decide +kernel
theorem dX6_openShare_0 : decode cX6_openShare 0 = .ok (.aload_n 0, 1) := by decide +kernel
theorem dX6_openShare_1 : decode cX6_openShare 1 = .ok (.iconst 0, 1) := by decide +kernel
theorem dX6_openShare_2 : decode cX6_openShare 2 = .ok (.putfield 1, 3) := by decide +kernel
theorem dX6_openShare_5 : decode cX6_openShare 5 = .ok (.aload_n 0, 1) := by decide +kernel
theorem dX6_openShare_6 : decode cX6_openShare 6 = .ok (.getfield 13, 3) := by decide +kernel
theorem dX6_openShare_9 : decode cX6_openShare 9 = .ok (.bipush 7, 2) := by decide +kernel
theorem dX6_openShare_11 : decode cX6_openShare 11 = .ok (.iaload, 1) := by decide +kernel
theorem dX6_openShare_12 : decode cX6_openShare 12 = .ok (.ifCond .ne 12, 3) := by decide +kernel
theorem dX6_openShare_15 : decode cX6_openShare 15 = .ok (.aload_n 0, 1) := by decide +kernel
theorem dX6_openShare_16 : decode cX6_openShare 16 = .ok (.iconst 1, 1) := by decide +kernel
theorem dX6_openShare_17 : decode cX6_openShare 17 = .ok (.invokevirtual 84, 3) := by decide +kernel
theorem dX6_openShare_20 : decode cX6_openShare 20 = .ok (.i2f, 1) := by decide +kernel
theorem dX6_openShare_21 : decode cX6_openShare 21 = .ok (.goto 20, 3) := by decide +kernel
theorem dX6_openShare_24 : decode cX6_openShare 24 = .ok (.aload_n 0, 1) := by decide +kernel
theorem dX6_openShare_25 : decode cX6_openShare 25 = .ok (.getfield 13, 3) := by decide +kernel
theorem dX6_openShare_28 : decode cX6_openShare 28 = .ok (.bipush 6, 2) := by decide +kernel
theorem dX6_openShare_30 : decode cX6_openShare 30 = .ok (.iaload, 1) := by decide +kernel
theorem dX6_openShare_31 : decode cX6_openShare 31 = .ok (.i2f, 1) := by decide +kernel
theorem dX6_openShare_32 : decode cX6_openShare 32 = .ok (.aload_n 0, 1) := by decide +kernel
theorem dX6_openShare_33 : decode cX6_openShare 33 = .ok (.getfield 13, 3) := by decide +kernel
theorem dX6_openShare_36 : decode cX6_openShare 36 = .ok (.bipush 7, 2) := by decide +kernel
theorem dX6_openShare_38 : decode cX6_openShare 38 = .ok (.iaload, 1) := by decide +kernel
theorem dX6_openShare_39 : decode cX6_openShare 39 = .ok (.i2f, 1) := by decide +kernel
theorem dX6_openShare_40 : decode cX6_openShare 40 = .ok (.fdiv, 1) := by decide +kernel
theorem dX6_openShare_41 : decode cX6_openShare 41 = .ok (.freturn, 1) := by decide +kernel
theorem dX6_isConsistent_0 : decode cX6_isConsistent 0 = .ok (.aload_n 0, 1) := by decide +kernel
theorem dX6_isConsistent_1 : decode cX6_isConsistent 1 = .ok (.iconst 0, 1) := by decide +kernel
theorem dX6_isConsistent_2 : decode cX6_isConsistent 2 = .ok (.putfield 1, 3) := by decide +kernel
theorem dX6_isConsistent_5 : decode cX6_isConsistent 5 = .ok (.iconst 0, 1) := by decide +kernel
theorem dX6_isConsistent_6 : decode cX6_isConsistent 6 = .ok (.istore_n 1, 1) := by decide +kernel
theorem dX6_isConsistent_7 : decode cX6_isConsistent 7 = .ok (.iconst 0, 1) := by decide +kernel
theorem dX6_isConsistent_8 : decode cX6_isConsistent 8 = .ok (.istore_n 2, 1) := by decide +kernel
theorem dX6_isConsistent_9 : decode cX6_isConsistent 9 = .ok (.iload_n 2, 1) := by decide +kernel
theorem dX6_isConsistent_10 : decode cX6_isConsistent 10 = .ok (.aload_n 0, 1) := by decide +kernel
theorem dX6_isConsistent_11 : decode cX6_isConsistent 11 = .ok (.getfield 13, 3) := by decide +kernel
theorem dX6_isConsistent_14 : decode cX6_isConsistent 14 = .ok (.iconst 0, 1) := by decide +kernel
theorem dX6_isConsistent_15 : decode cX6_isConsistent 15 = .ok (.iaload, 1) := by decide +kernel
theorem dX6_isConsistent_16 : decode cX6_isConsistent 16 = .ok (.if_icmp .ge 36, 3) := by decide +kernel
theorem dX6_isConsistent_19 : decode cX6_isConsistent 19 = .ok (.iload_n 1, 1) := by decide +kernel
theorem dX6_isConsistent_20 : decode cX6_isConsistent 20 = .ok (.aload_n 0, 1) := by decide +kernel
theorem dX6_isConsistent_21 : decode cX6_isConsistent 21 = .ok (.iload_n 2, 1) := by decide +kernel
theorem dX6_isConsistent_22 : decode cX6_isConsistent 22 = .ok (.bipush 6, 2) := by decide +kernel
theorem dX6_isConsistent_24 : decode cX6_isConsistent 24 = .ok (.invokevirtual 62, 3) := by decide +kernel
theorem dX6_isConsistent_27 : decode cX6_isConsistent 27 = .ok (.iadd, 1) := by decide +kernel
theorem dX6_isConsistent_28 : decode cX6_isConsistent 28 = .ok (.istore_n 1, 1) := by decide +kernel
theorem dX6_isConsistent_29 : decode cX6_isConsistent 29 = .ok (.aload_n 0, 1) := by decide +kernel
theorem dX6_isConsistent_30 : decode cX6_isConsistent 30 = .ok (.iload_n 2, 1) := by decide +kernel
theorem dX6_isConsistent_31 : decode cX6_isConsistent 31 = .ok (.iconst 3, 1) := by decide +kernel
theorem dX6_isConsistent_32 : decode cX6_isConsistent 32 = .ok (.invokevirtual 62, 3) := by decide +kernel
theorem dX6_isConsistent_35 : decode cX6_isConsistent 35 = .ok (.aload_n 0, 1) := by decide +kernel
theorem dX6_isConsistent_36 : decode cX6_isConsistent 36 = .ok (.iload_n 2, 1) := by decide +kernel
theorem dX6_isConsistent_37 : decode cX6_isConsistent 37 = .ok (.iconst 0, 1) := by decide +kernel
theorem dX6_isConsistent_38 : decode cX6_isConsistent 38 = .ok (.invokevirtual 62, 3) := by decide +kernel
theorem dX6_isConsistent_41 : decode cX6_isConsistent 41 = .ok (.if_icmp .le 5, 3) := by decide +kernel
theorem dX6_isConsistent_44 : decode cX6_isConsistent 44 = .ok (.iconst 0, 1) := by decide +kernel
theorem dX6_isConsistent_45 : decode cX6_isConsistent 45 = .ok (.ireturn, 1) := by decide +kernel
theorem dX6_isConsistent_46 : decode cX6_isConsistent 46 = .ok (.iinc 2 1, 3) := by decide +kernel
theorem dX6_isConsistent_49 : decode cX6_isConsistent 49 = .ok (.goto (-40), 3) := by decide +kernel
theorem dX6_isConsistent_52 : decode cX6_isConsistent 52 = .ok (.iload_n 1, 1) := by decide +kernel
theorem dX6_isConsistent_53 : decode cX6_isConsistent 53 = .ok (.aload_n 0, 1) := by decide +kernel
theorem dX6_isConsistent_54 : decode cX6_isConsistent 54 = .ok (.getfield 13, 3) := by decide +kernel
theorem dX6_isConsistent_57 : decode cX6_isConsistent 57 = .ok (.iconst 3, 1) := by decide +kernel
theorem dX6_isConsistent_58 : decode cX6_isConsistent 58 = .ok (.iaload, 1) := by decide +kernel
theorem dX6_isConsistent_59 : decode cX6_isConsistent 59 = .ok (.if_icmp .ne 27, 3) := by decide +kernel
theorem dX6_isConsistent_62 : decode cX6_isConsistent 62 = .ok (.aload_n 0, 1) := by decide +kernel
theorem dX6_isConsistent_63 : decode cX6_isConsistent 63 = .ok (.invokevirtual 194, 3) := by decide +kernel
theorem dX6_isConsistent_66 : decode cX6_isConsistent 66 = .ok (.aload_n 0, 1) := by decide +kernel
theorem dX6_isConsistent_67 : decode cX6_isConsistent 67 = .ok (.getfield 13, 3) := by decide +kernel
theorem dX6_isConsistent_70 : decode cX6_isConsistent 70 = .ok (.iconst 4, 1) := by decide +kernel
theorem dX6_isConsistent_71 : decode cX6_isConsistent 71 = .ok (.iaload, 1) := by decide +kernel
theorem dX6_isConsistent_72 : decode cX6_isConsistent 72 = .ok (.aload_n 0, 1) := by decide +kernel
theorem dX6_isConsistent_73 : decode cX6_isConsistent 73 = .ok (.getfield 13, 3) := by decide +kernel
theorem dX6_isConsistent_76 : decode cX6_isConsistent 76 = .ok (.iconst 5, 1) := by decide +kernel
theorem dX6_isConsistent_77 : decode cX6_isConsistent 77 = .ok (.iaload, 1) := by decide +kernel
theorem dX6_isConsistent_78 : decode cX6_isConsistent 78 = .ok (.iadd, 1) := by decide +kernel
theorem dX6_isConsistent_79 : decode cX6_isConsistent 79 = .ok (.if_icmp .ne 7, 3) := by decide +kernel
theorem dX6_isConsistent_82 : decode cX6_isConsistent 82 = .ok (.iconst 1, 1) := by decide +kernel
theorem dX6_isConsistent_83 : decode cX6_isConsistent 83 = .ok (.goto 4, 3) := by decide +kernel
theorem dX6_isConsistent_86 : decode cX6_isConsistent 86 = .ok (.iconst 0, 1) := by decide +kernel
theorem dX6_isConsistent_87 : decode cX6_isConsistent 87 = .ok (.ireturn, 1) := by decide +kernel
theorem dX6_writes_0 : decode cX6_writes 0 = .ok (.aload_n 0, 1) := by decide +kernel
theorem dX6_writes_1 : decode cX6_writes 1 = .ok (.getfield 26, 3) := by decide +kernel
theorem dX6_writes_4 : decode cX6_writes 4 = .ok (.aload_n 0, 1) := by decide +kernel
theorem dX6_writes_5 : decode cX6_writes 5 = .ok (.getfield 197, 3) := by decide +kernel
theorem dX6_writes_8 : decode cX6_writes 8 = .ok (.iload_n 1, 1) := by decide +kernel
theorem dX6_writes_9 : decode cX6_writes 9 = .ok (.i2c, 1) := by decide +kernel
theorem dX6_writes_10 : decode cX6_writes 10 = .ok (.castore, 1) := by decide +kernel
theorem dX6_writes_11 : decode cX6_writes 11 = .ok (.aload_n 0, 1) := by decide +kernel
theorem dX6_writes_12 : decode cX6_writes 12 = .ok (.dup, 1) := by decide +kernel
theorem dX6_writes_13 : decode cX6_writes 13 = .ok (.getfield 197, 3) := by decide +kernel
theorem dX6_writes_16 : decode cX6_writes 16 = .ok (.iconst 1, 1) := by decide +kernel
theorem dX6_writes_17 : decode cX6_writes 17 = .ok (.iadd, 1) := by decide +kernel
theorem dX6_writes_18 : decode cX6_writes 18 = .ok (.putfield 197, 3) := by decide +kernel
theorem dX6_writes_21 : decode cX6_writes 21 = .ok (.return_, 1) := by decide +kernel
theorem dX6_writesNumber_0 : decode cX6_writesNumber 0 = .ok (.iconst 1, 1) := by decide +kernel
theorem dX6_writesNumber_1 : decode cX6_writesNumber 1 = .ok (.istore_n 2, 1) := by decide +kernel
theorem dX6_writesNumber_2 : decode cX6_writesNumber 2 = .ok (.iload_n 1, 1) := by decide +kernel
theorem dX6_writesNumber_3 : decode cX6_writesNumber 3 = .ok (.iload_n 2, 1) := by decide +kernel
theorem dX6_writesNumber_4 : decode cX6_writesNumber 4 = .ok (.idiv, 1) := by decide +kernel
theorem dX6_writesNumber_5 : decode cX6_writesNumber 5 = .ok (.bipush 9, 2) := by decide +kernel
theorem dX6_writesNumber_7 : decode cX6_writesNumber 7 = .ok (.if_icmp .le 11, 3) := by decide +kernel
theorem dX6_writesNumber_10 : decode cX6_writesNumber 10 = .ok (.iload_n 2, 1) := by decide +kernel
theorem dX6_writesNumber_11 : decode cX6_writesNumber 11 = .ok (.bipush 10, 2) := by decide +kernel
theorem dX6_writesNumber_13 : decode cX6_writesNumber 13 = .ok (.imul, 1) := by decide +kernel
theorem dX6_writesNumber_14 : decode cX6_writesNumber 14 = .ok (.istore_n 2, 1) := by decide +kernel
theorem dX6_writesNumber_15 : decode cX6_writesNumber 15 = .ok (.goto (-13), 3) := by decide +kernel
theorem dX6_writesNumber_18 : decode cX6_writesNumber 18 = .ok (.iload_n 2, 1) := by decide +kernel
theorem dX6_writesNumber_19 : decode cX6_writesNumber 19 = .ok (.istore_n 3, 1) := by decide +kernel
theorem dX6_writesNumber_20 : decode cX6_writesNumber 20 = .ok (.iload_n 3, 1) := by decide +kernel
theorem dX6_writesNumber_21 : decode cX6_writesNumber 21 = .ok (.ifCond .le 24, 3) := by decide +kernel
theorem dX6_writesNumber_24 : decode cX6_writesNumber 24 = .ok (.aload_n 0, 1) := by decide +kernel
theorem dX6_writesNumber_25 : decode cX6_writesNumber 25 = .ok (.bipush 48, 2) := by decide +kernel
theorem dX6_writesNumber_27 : decode cX6_writesNumber 27 = .ok (.iload_n 1, 1) := by decide +kernel
theorem dX6_writesNumber_28 : decode cX6_writesNumber 28 = .ok (.iload_n 3, 1) := by decide +kernel
theorem dX6_writesNumber_29 : decode cX6_writesNumber 29 = .ok (.idiv, 1) := by decide +kernel
theorem dX6_writesNumber_30 : decode cX6_writesNumber 30 = .ok (.bipush 10, 2) := by decide +kernel
theorem dX6_writesNumber_32 : decode cX6_writesNumber 32 = .ok (.irem, 1) := by decide +kernel
theorem dX6_writesNumber_33 : decode cX6_writesNumber 33 = .ok (.iadd, 1) := by decide +kernel
theorem dX6_writesNumber_34 : decode cX6_writesNumber 34 = .ok (.invokevirtual 200, 3) := by decide +kernel
theorem dX6_writesNumber_37 : decode cX6_writesNumber 37 = .ok (.iload_n 3, 1) := by decide +kernel
theorem dX6_writesNumber_38 : decode cX6_writesNumber 38 = .ok (.bipush 10, 2) := by decide +kernel
theorem dX6_writesNumber_40 : decode cX6_writesNumber 40 = .ok (.idiv, 1) := by decide +kernel
theorem dX6_writesNumber_41 : decode cX6_writesNumber 41 = .ok (.istore_n 3, 1) := by decide +kernel
theorem dX6_writesNumber_42 : decode cX6_writesNumber 42 = .ok (.goto (-22), 3) := by decide +kernel
theorem dX6_writesNumber_45 : decode cX6_writesNumber 45 = .ok (.return_, 1) := by decide +kernel
theorem dX6_renderHabits_0 : decode cX6_renderHabits 0 = .ok (.aload_n 0, 1) := by decide +kernel
theorem dX6_renderHabits_1 : decode cX6_renderHabits 1 = .ok (.iconst 0, 1) := by decide +kernel
theorem dX6_renderHabits_2 : decode cX6_renderHabits 2 = .ok (.putfield 1, 3) := by decide +kernel
theorem dX6_renderHabits_5 : decode cX6_renderHabits 5 = .ok (.aload_n 0, 1) := by decide +kernel
theorem dX6_renderHabits_6 : decode cX6_renderHabits 6 = .ok (.iload_n 1, 1) := by decide +kernel
theorem dX6_renderHabits_7 : decode cX6_renderHabits 7 = .ok (.invokevirtual 110, 3) := by decide +kernel
theorem dX6_renderHabits_10 : decode cX6_renderHabits 10 = .ok (.ifCond .ne 9, 3) := by decide +kernel
theorem dX6_renderHabits_13 : decode cX6_renderHabits 13 = .ok (.aload_n 0, 1) := by decide +kernel
theorem dX6_renderHabits_14 : decode cX6_renderHabits 14 = .ok (.iconst 1, 1) := by decide +kernel
theorem dX6_renderHabits_15 : decode cX6_renderHabits 15 = .ok (.invokevirtual 84, 3) := by decide +kernel
theorem dX6_renderHabits_18 : decode cX6_renderHabits 18 = .ok (.ireturn, 1) := by decide +kernel
theorem dX6_renderHabits_19 : decode cX6_renderHabits 19 = .ok (.aload_n 0, 1) := by decide +kernel
theorem dX6_renderHabits_20 : decode cX6_renderHabits 20 = .ok (.iconst 0, 1) := by decide +kernel
theorem dX6_renderHabits_21 : decode cX6_renderHabits 21 = .ok (.putfield 197, 3) := by decide +kernel
theorem dX6_renderHabits_24 : decode cX6_renderHabits 24 = .ok (.iconst 0, 1) := by decide +kernel
theorem dX6_renderHabits_25 : decode cX6_renderHabits 25 = .ok (.istore_n 2, 1) := by decide +kernel
theorem dX6_renderHabits_26 : decode cX6_renderHabits 26 = .ok (.iload_n 2, 1) := by decide +kernel
theorem dX6_renderHabits_27 : decode cX6_renderHabits 27 = .ok (.bipush 16, 2) := by decide +kernel
theorem dX6_renderHabits_29 : decode cX6_renderHabits 29 = .ok (.if_icmp .ge 51, 3) := by decide +kernel
theorem dX6_renderHabits_32 : decode cX6_renderHabits 32 = .ok (.iload_n 2, 1) := by decide +kernel
theorem dX6_renderHabits_33 : decode cX6_renderHabits 33 = .ok (.ifCond .le 15, 3) := by decide +kernel
theorem dX6_renderHabits_36 : decode cX6_renderHabits 36 = .ok (.iload_n 2, 1) := by decide +kernel
theorem dX6_renderHabits_37 : decode cX6_renderHabits 37 = .ok (.iconst 4, 1) := by decide +kernel
theorem dX6_renderHabits_38 : decode cX6_renderHabits 38 = .ok (.irem, 1) := by decide +kernel
theorem dX6_renderHabits_39 : decode cX6_renderHabits 39 = .ok (.ifCond .ne 9, 3) := by decide +kernel
theorem dX6_renderHabits_42 : decode cX6_renderHabits 42 = .ok (.aload_n 0, 1) := by decide +kernel
theorem dX6_renderHabits_43 : decode cX6_renderHabits 43 = .ok (.bipush 47, 2) := by decide +kernel
theorem dX6_renderHabits_45 : decode cX6_renderHabits 45 = .ok (.invokevirtual 200, 3) := by decide +kernel
theorem dX6_renderHabits_48 : decode cX6_renderHabits 48 = .ok (.aload_n 0, 1) := by decide +kernel
theorem dX6_renderHabits_49 : decode cX6_renderHabits 49 = .ok (.aload_n 0, 1) := by decide +kernel
theorem dX6_renderHabits_50 : decode cX6_renderHabits 50 = .ok (.iload_n 1, 1) := by decide +kernel
theorem dX6_renderHabits_51 : decode cX6_renderHabits 51 = .ok (.iload_n 2, 1) := by decide +kernel
theorem dX6_renderHabits_52 : decode cX6_renderHabits 52 = .ok (.iconst 4, 1) := by decide +kernel
theorem dX6_renderHabits_53 : decode cX6_renderHabits 53 = .ok (.idiv, 1) := by decide +kernel
theorem dX6_renderHabits_54 : decode cX6_renderHabits 54 = .ok (.iload_n 2, 1) := by decide +kernel
theorem dX6_renderHabits_55 : decode cX6_renderHabits 55 = .ok (.iconst 4, 1) := by decide +kernel
theorem dX6_renderHabits_56 : decode cX6_renderHabits 56 = .ok (.irem, 1) := by decide +kernel
theorem dX6_renderHabits_57 : decode cX6_renderHabits 57 = .ok (.invokevirtual 96, 3) := by decide +kernel
theorem dX6_renderHabits_60 : decode cX6_renderHabits 60 = .ok (.iconst 1, 1) := by decide +kernel
theorem dX6_renderHabits_61 : decode cX6_renderHabits 61 = .ok (.if_icmp .ne 8, 3) := by decide +kernel
theorem dX6_renderHabits_64 : decode cX6_renderHabits 64 = .ok (.bipush 111, 2) := by decide +kernel
theorem dX6_renderHabits_66 : decode cX6_renderHabits 66 = .ok (.goto 5, 3) := by decide +kernel
theorem dX6_renderHabits_69 : decode cX6_renderHabits 69 = .ok (.bipush 99, 2) := by decide +kernel
theorem dX6_renderHabits_71 : decode cX6_renderHabits 71 = .ok (.invokevirtual 200, 3) := by decide +kernel
theorem dX6_renderHabits_74 : decode cX6_renderHabits 74 = .ok (.iinc 2 1, 3) := by decide +kernel
theorem dX6_renderHabits_77 : decode cX6_renderHabits 77 = .ok (.goto (-51), 3) := by decide +kernel
theorem dX6_renderHabits_80 : decode cX6_renderHabits 80 = .ok (.aload_n 0, 1) := by decide +kernel
theorem dX6_renderHabits_81 : decode cX6_renderHabits 81 = .ok (.getfield 197, 3) := by decide +kernel
theorem dX6_renderHabits_84 : decode cX6_renderHabits 84 = .ok (.ireturn, 1) := by decide +kernel
theorem dX6_renderUmbrella_0 : decode cX6_renderUmbrella 0 = .ok (.aload_n 0, 1) := by decide +kernel
theorem dX6_renderUmbrella_1 : decode cX6_renderUmbrella 1 = .ok (.iconst 0, 1) := by decide +kernel
theorem dX6_renderUmbrella_2 : decode cX6_renderUmbrella 2 = .ok (.putfield 1, 3) := by decide +kernel
theorem dX6_renderUmbrella_5 : decode cX6_renderUmbrella 5 = .ok (.aload_n 0, 1) := by decide +kernel
theorem dX6_renderUmbrella_6 : decode cX6_renderUmbrella 6 = .ok (.iload_n 1, 1) := by decide +kernel
theorem dX6_renderUmbrella_7 : decode cX6_renderUmbrella 7 = .ok (.invokevirtual 110, 3) := by decide +kernel
theorem dX6_renderUmbrella_10 : decode cX6_renderUmbrella 10 = .ok (.ifCond .ne 9, 3) := by decide +kernel
theorem dX6_renderUmbrella_13 : decode cX6_renderUmbrella 13 = .ok (.aload_n 0, 1) := by decide +kernel
theorem dX6_renderUmbrella_14 : decode cX6_renderUmbrella 14 = .ok (.iconst 1, 1) := by decide +kernel
theorem dX6_renderUmbrella_15 : decode cX6_renderUmbrella 15 = .ok (.invokevirtual 84, 3) := by decide +kernel
theorem dX6_renderUmbrella_18 : decode cX6_renderUmbrella 18 = .ok (.ireturn, 1) := by decide +kernel
theorem dX6_renderUmbrella_19 : decode cX6_renderUmbrella 19 = .ok (.aload_n 0, 1) := by decide +kernel
theorem dX6_renderUmbrella_20 : decode cX6_renderUmbrella 20 = .ok (.iconst 0, 1) := by decide +kernel
theorem dX6_renderUmbrella_21 : decode cX6_renderUmbrella 21 = .ok (.putfield 197, 3) := by decide +kernel
theorem dX6_renderUmbrella_24 : decode cX6_renderUmbrella 24 = .ok (.aload_n 0, 1) := by decide +kernel
theorem dX6_renderUmbrella_25 : decode cX6_renderUmbrella 25 = .ok (.aload_n 0, 1) := by decide +kernel
theorem dX6_renderUmbrella_26 : decode cX6_renderUmbrella 26 = .ok (.iload_n 1, 1) := by decide +kernel
theorem dX6_renderUmbrella_27 : decode cX6_renderUmbrella 27 = .ok (.iconst 3, 1) := by decide +kernel
theorem dX6_renderUmbrella_28 : decode cX6_renderUmbrella 28 = .ok (.invokevirtual 62, 3) := by decide +kernel
theorem dX6_renderUmbrella_31 : decode cX6_renderUmbrella 31 = .ok (.invokevirtual 204, 3) := by decide +kernel
theorem dX6_renderUmbrella_34 : decode cX6_renderUmbrella 34 = .ok (.aload_n 0, 1) := by decide +kernel
theorem dX6_renderUmbrella_35 : decode cX6_renderUmbrella 35 = .ok (.bipush 47, 2) := by decide +kernel
theorem dX6_renderUmbrella_37 : decode cX6_renderUmbrella 37 = .ok (.invokevirtual 200, 3) := by decide +kernel
theorem dX6_renderUmbrella_40 : decode cX6_renderUmbrella 40 = .ok (.aload_n 0, 1) := by decide +kernel
theorem dX6_renderUmbrella_41 : decode cX6_renderUmbrella 41 = .ok (.aload_n 0, 1) := by decide +kernel
theorem dX6_renderUmbrella_42 : decode cX6_renderUmbrella 42 = .ok (.iload_n 1, 1) := by decide +kernel
theorem dX6_renderUmbrella_43 : decode cX6_renderUmbrella 43 = .ok (.iconst 0, 1) := by decide +kernel
theorem dX6_renderUmbrella_44 : decode cX6_renderUmbrella 44 = .ok (.invokevirtual 62, 3) := by decide +kernel
theorem dX6_renderUmbrella_47 : decode cX6_renderUmbrella 47 = .ok (.invokevirtual 204, 3) := by decide +kernel
theorem dX6_renderUmbrella_50 : decode cX6_renderUmbrella 50 = .ok (.aload_n 0, 1) := by decide +kernel
theorem dX6_renderUmbrella_51 : decode cX6_renderUmbrella 51 = .ok (.bipush 112, 2) := by decide +kernel
theorem dX6_renderUmbrella_53 : decode cX6_renderUmbrella 53 = .ok (.invokevirtual 200, 3) := by decide +kernel
theorem dX6_renderUmbrella_56 : decode cX6_renderUmbrella 56 = .ok (.aload_n 0, 1) := by decide +kernel
theorem dX6_renderUmbrella_57 : decode cX6_renderUmbrella 57 = .ok (.aload_n 0, 1) := by decide +kernel
theorem dX6_renderUmbrella_58 : decode cX6_renderUmbrella 58 = .ok (.iload_n 1, 1) := by decide +kernel
theorem dX6_renderUmbrella_59 : decode cX6_renderUmbrella 59 = .ok (.iconst 1, 1) := by decide +kernel
theorem dX6_renderUmbrella_60 : decode cX6_renderUmbrella 60 = .ok (.invokevirtual 62, 3) := by decide +kernel
theorem dX6_renderUmbrella_63 : decode cX6_renderUmbrella 63 = .ok (.invokevirtual 204, 3) := by decide +kernel
theorem dX6_renderUmbrella_66 : decode cX6_renderUmbrella 66 = .ok (.aload_n 0, 1) := by decide +kernel
theorem dX6_renderUmbrella_67 : decode cX6_renderUmbrella 67 = .ok (.bipush 42, 2) := by decide +kernel
theorem dX6_renderUmbrella_69 : decode cX6_renderUmbrella 69 = .ok (.invokevirtual 200, 3) := by decide +kernel
theorem dX6_renderUmbrella_72 : decode cX6_renderUmbrella 72 = .ok (.aload_n 0, 1) := by decide +kernel
theorem dX6_renderUmbrella_73 : decode cX6_renderUmbrella 73 = .ok (.aload_n 0, 1) := by decide +kernel
theorem dX6_renderUmbrella_74 : decode cX6_renderUmbrella 74 = .ok (.iload_n 1, 1) := by decide +kernel
theorem dX6_renderUmbrella_75 : decode cX6_renderUmbrella 75 = .ok (.bipush 6, 2) := by decide +kernel
theorem dX6_renderUmbrella_77 : decode cX6_renderUmbrella 77 = .ok (.invokevirtual 62, 3) := by decide +kernel
theorem dX6_renderUmbrella_80 : decode cX6_renderUmbrella 80 = .ok (.invokevirtual 204, 3) := by decide +kernel
theorem dX6_renderUmbrella_83 : decode cX6_renderUmbrella 83 = .ok (.aload_n 0, 1) := by decide +kernel
theorem dX6_renderUmbrella_84 : decode cX6_renderUmbrella 84 = .ok (.bipush 58, 2) := by decide +kernel
theorem dX6_renderUmbrella_86 : decode cX6_renderUmbrella 86 = .ok (.invokevirtual 200, 3) := by decide +kernel
theorem dX6_renderUmbrella_89 : decode cX6_renderUmbrella 89 = .ok (.iconst 0, 1) := by decide +kernel
theorem dX6_renderUmbrella_90 : decode cX6_renderUmbrella 90 = .ok (.istore_n 2, 1) := by decide +kernel
theorem dX6_renderUmbrella_91 : decode cX6_renderUmbrella 91 = .ok (.iload_n 2, 1) := by decide +kernel
theorem dX6_renderUmbrella_92 : decode cX6_renderUmbrella 92 = .ok (.iconst 4, 1) := by decide +kernel
theorem dX6_renderUmbrella_93 : decode cX6_renderUmbrella 93 = .ok (.if_icmp .ge 26, 3) := by decide +kernel
theorem dX6_renderUmbrella_96 : decode cX6_renderUmbrella 96 = .ok (.aload_n 0, 1) := by decide +kernel
theorem dX6_renderUmbrella_97 : decode cX6_renderUmbrella 97 = .ok (.iload_n 1, 1) := by decide +kernel
theorem dX6_renderUmbrella_98 : decode cX6_renderUmbrella 98 = .ok (.iload_n 2, 1) := by decide +kernel
theorem dX6_renderUmbrella_99 : decode cX6_renderUmbrella 99 = .ok (.invokevirtual 156, 3) := by decide +kernel
theorem dX6_renderUmbrella_102 : decode cX6_renderUmbrella 102 = .ok (.ifCond .eq 11, 3) := by decide +kernel
theorem dX6_renderUmbrella_105 : decode cX6_renderUmbrella 105 = .ok (.aload_n 0, 1) := by decide +kernel
theorem dX6_renderUmbrella_106 : decode cX6_renderUmbrella 106 = .ok (.bipush 48, 2) := by decide +kernel
theorem dX6_renderUmbrella_108 : decode cX6_renderUmbrella 108 = .ok (.iload_n 2, 1) := by decide +kernel
theorem dX6_renderUmbrella_109 : decode cX6_renderUmbrella 109 = .ok (.iadd, 1) := by decide +kernel
theorem dX6_renderUmbrella_110 : decode cX6_renderUmbrella 110 = .ok (.invokevirtual 200, 3) := by decide +kernel
theorem dX6_renderUmbrella_113 : decode cX6_renderUmbrella 113 = .ok (.iinc 2 1, 3) := by decide +kernel
theorem dX6_renderUmbrella_116 : decode cX6_renderUmbrella 116 = .ok (.goto (-25), 3) := by decide +kernel
theorem dX6_renderUmbrella_119 : decode cX6_renderUmbrella 119 = .ok (.aload_n 0, 1) := by decide +kernel
theorem dX6_renderUmbrella_120 : decode cX6_renderUmbrella 120 = .ok (.getfield 197, 3) := by decide +kernel
theorem dX6_renderUmbrella_123 : decode cX6_renderUmbrella 123 = .ok (.ireturn, 1) := by decide +kernel
theorem dX6_outputAt_0 : decode cX6_outputAt 0 = .ok (.aload_n 0, 1) := by decide +kernel
theorem dX6_outputAt_1 : decode cX6_outputAt 1 = .ok (.iconst 0, 1) := by decide +kernel
theorem dX6_outputAt_2 : decode cX6_outputAt 2 = .ok (.putfield 1, 3) := by decide +kernel
theorem dX6_outputAt_5 : decode cX6_outputAt 5 = .ok (.iload_n 1, 1) := by decide +kernel
theorem dX6_outputAt_6 : decode cX6_outputAt 6 = .ok (.iconst 0, 1) := by decide +kernel
theorem dX6_outputAt_7 : decode cX6_outputAt 7 = .ok (.aload_n 0, 1) := by decide +kernel
theorem dX6_outputAt_8 : decode cX6_outputAt 8 = .ok (.getfield 197, 3) := by decide +kernel
theorem dX6_outputAt_11 : decode cX6_outputAt 11 = .ok (.iconst 1, 1) := by decide +kernel
theorem dX6_outputAt_12 : decode cX6_outputAt 12 = .ok (.isub, 1) := by decide +kernel
theorem dX6_outputAt_13 : decode cX6_outputAt 13 = .ok (.invokestatic 54, 3) := by decide +kernel
theorem dX6_outputAt_16 : decode cX6_outputAt 16 = .ok (.ifCond .eq 10, 3) := by decide +kernel
theorem dX6_outputAt_19 : decode cX6_outputAt 19 = .ok (.aload_n 0, 1) := by decide +kernel
theorem dX6_outputAt_20 : decode cX6_outputAt 20 = .ok (.getfield 26, 3) := by decide +kernel
theorem dX6_outputAt_23 : decode cX6_outputAt 23 = .ok (.iload_n 1, 1) := by decide +kernel
theorem dX6_outputAt_24 : decode cX6_outputAt 24 = .ok (.caload, 1) := by decide +kernel
theorem dX6_outputAt_25 : decode cX6_outputAt 25 = .ok (.ireturn, 1) := by decide +kernel
theorem dX6_outputAt_26 : decode cX6_outputAt 26 = .ok (.aload_n 0, 1) := by decide +kernel
theorem dX6_outputAt_27 : decode cX6_outputAt 27 = .ok (.iconst 1, 1) := by decide +kernel
theorem dX6_outputAt_28 : decode cX6_outputAt 28 = .ok (.invokevirtual 84, 3) := by decide +kernel
theorem dX6_outputAt_31 : decode cX6_outputAt 31 = .ok (.i2c, 1) := by decide +kernel
theorem dX6_outputAt_32 : decode cX6_outputAt 32 = .ok (.ireturn, 1) := by decide +kernel
theorem dX6_type_0 : decode cX6_type 0 = .ok (.aload_n 0, 1) := by decide +kernel
theorem dX6_type_1 : decode cX6_type 1 = .ok (.iconst 0, 1) := by decide +kernel
theorem dX6_type_2 : decode cX6_type 2 = .ok (.putfield 1, 3) := by decide +kernel
theorem dX6_type_5 : decode cX6_type 5 = .ok (.iload_n 1, 1) := by decide +kernel
theorem dX6_type_6 : decode cX6_type 6 = .ok (.bipush 32, 2) := by decide +kernel
theorem dX6_type_8 : decode cX6_type 8 = .ok (.bipush 126, 2) := by decide +kernel
theorem dX6_type_10 : decode cX6_type 10 = .ok (.invokestatic 54, 3) := by decide +kernel
theorem dX6_type_13 : decode cX6_type 13 = .ok (.ifCond .ne 9, 3) := by decide +kernel
theorem dX6_type_16 : decode cX6_type 16 = .ok (.aload_n 0, 1) := by decide +kernel
theorem dX6_type_17 : decode cX6_type 17 = .ok (.iconst 1, 1) := by decide +kernel
theorem dX6_type_18 : decode cX6_type 18 = .ok (.invokevirtual 84, 3) := by decide +kernel
theorem dX6_type_21 : decode cX6_type 21 = .ok (.ireturn, 1) := by decide +kernel
theorem dX6_type_22 : decode cX6_type 22 = .ok (.aload_n 0, 1) := by decide +kernel
theorem dX6_type_23 : decode cX6_type 23 = .ok (.getfield 207, 3) := by decide +kernel
theorem dX6_type_26 : decode cX6_type 26 = .ok (.bipush 60, 2) := by decide +kernel
theorem dX6_type_28 : decode cX6_type 28 = .ok (.if_icmp .ne 9, 3) := by decide +kernel
theorem dX6_type_31 : decode cX6_type 31 = .ok (.aload_n 0, 1) := by decide +kernel
theorem dX6_type_32 : decode cX6_type 32 = .ok (.iconst 2, 1) := by decide +kernel
theorem dX6_type_33 : decode cX6_type 33 = .ok (.invokevirtual 84, 3) := by decide +kernel
theorem dX6_type_36 : decode cX6_type 36 = .ok (.ireturn, 1) := by decide +kernel
theorem dX6_type_37 : decode cX6_type 37 = .ok (.aload_n 0, 1) := by decide +kernel
theorem dX6_type_38 : decode cX6_type 38 = .ok (.getfield 30, 3) := by decide +kernel
theorem dX6_type_41 : decode cX6_type 41 = .ok (.aload_n 0, 1) := by decide +kernel
theorem dX6_type_42 : decode cX6_type 42 = .ok (.getfield 207, 3) := by decide +kernel
theorem dX6_type_45 : decode cX6_type 45 = .ok (.iload_n 1, 1) := by decide +kernel
theorem dX6_type_46 : decode cX6_type 46 = .ok (.castore, 1) := by decide +kernel
theorem dX6_type_47 : decode cX6_type 47 = .ok (.aload_n 0, 1) := by decide +kernel
theorem dX6_type_48 : decode cX6_type 48 = .ok (.dup, 1) := by decide +kernel
theorem dX6_type_49 : decode cX6_type 49 = .ok (.getfield 207, 3) := by decide +kernel
theorem dX6_type_52 : decode cX6_type 52 = .ok (.iconst 1, 1) := by decide +kernel
theorem dX6_type_53 : decode cX6_type 53 = .ok (.iadd, 1) := by decide +kernel
theorem dX6_type_54 : decode cX6_type 54 = .ok (.putfield 207, 3) := by decide +kernel
theorem dX6_type_57 : decode cX6_type 57 = .ok (.aload_n 0, 1) := by decide +kernel
theorem dX6_type_58 : decode cX6_type 58 = .ok (.getfield 207, 3) := by decide +kernel
theorem dX6_type_61 : decode cX6_type 61 = .ok (.ireturn, 1) := by decide +kernel
theorem dX6_nextChar_0 : decode cX6_nextChar 0 = .ok (.aload_n 0, 1) := by decide +kernel
theorem dX6_nextChar_1 : decode cX6_nextChar 1 = .ok (.getfield 210, 3) := by decide +kernel
theorem dX6_nextChar_4 : decode cX6_nextChar 4 = .ok (.aload_n 0, 1) := by decide +kernel
theorem dX6_nextChar_5 : decode cX6_nextChar 5 = .ok (.getfield 207, 3) := by decide +kernel
theorem dX6_nextChar_8 : decode cX6_nextChar 8 = .ok (.if_icmp .ge 15, 3) := by decide +kernel
theorem dX6_nextChar_11 : decode cX6_nextChar 11 = .ok (.aload_n 0, 1) := by decide +kernel
theorem dX6_nextChar_12 : decode cX6_nextChar 12 = .ok (.getfield 30, 3) := by decide +kernel
theorem dX6_nextChar_15 : decode cX6_nextChar 15 = .ok (.aload_n 0, 1) := by decide +kernel
theorem dX6_nextChar_16 : decode cX6_nextChar 16 = .ok (.getfield 210, 3) := by decide +kernel
theorem dX6_nextChar_19 : decode cX6_nextChar 19 = .ok (.caload, 1) := by decide +kernel
theorem dX6_nextChar_20 : decode cX6_nextChar 20 = .ok (.goto 4, 3) := by decide +kernel
theorem dX6_nextChar_23 : decode cX6_nextChar 23 = .ok (.iconst (-1), 1) := by decide +kernel
theorem dX6_nextChar_24 : decode cX6_nextChar 24 = .ok (.ireturn, 1) := by decide +kernel
theorem dX6_reads_0 : decode cX6_reads 0 = .ok (.aload_n 0, 1) := by decide +kernel
theorem dX6_reads_1 : decode cX6_reads 1 = .ok (.invokevirtual 213, 3) := by decide +kernel
theorem dX6_reads_4 : decode cX6_reads 4 = .ok (.iload_n 1, 1) := by decide +kernel
theorem dX6_reads_5 : decode cX6_reads 5 = .ok (.if_icmp .eq 5, 3) := by decide +kernel
theorem dX6_reads_8 : decode cX6_reads 8 = .ok (.iconst 0, 1) := by decide +kernel
theorem dX6_reads_9 : decode cX6_reads 9 = .ok (.ireturn, 1) := by decide +kernel
theorem dX6_reads_10 : decode cX6_reads 10 = .ok (.aload_n 0, 1) := by decide +kernel
theorem dX6_reads_11 : decode cX6_reads 11 = .ok (.dup, 1) := by decide +kernel
theorem dX6_reads_12 : decode cX6_reads 12 = .ok (.getfield 210, 3) := by decide +kernel
theorem dX6_reads_15 : decode cX6_reads 15 = .ok (.iconst 1, 1) := by decide +kernel
theorem dX6_reads_16 : decode cX6_reads 16 = .ok (.iadd, 1) := by decide +kernel
theorem dX6_reads_17 : decode cX6_reads 17 = .ok (.putfield 210, 3) := by decide +kernel
theorem dX6_reads_20 : decode cX6_reads 20 = .ok (.iconst 1, 1) := by decide +kernel
theorem dX6_reads_21 : decode cX6_reads 21 = .ok (.ireturn, 1) := by decide +kernel
theorem dX6_readsDigit_0 : decode cX6_readsDigit 0 = .ok (.aload_n 0, 1) := by decide +kernel
theorem dX6_readsDigit_1 : decode cX6_readsDigit 1 = .ok (.invokevirtual 213, 3) := by decide +kernel
theorem dX6_readsDigit_4 : decode cX6_readsDigit 4 = .ok (.bipush 48, 2) := by decide +kernel
theorem dX6_readsDigit_6 : decode cX6_readsDigit 6 = .ok (.bipush 57, 2) := by decide +kernel
theorem dX6_readsDigit_8 : decode cX6_readsDigit 8 = .ok (.invokestatic 54, 3) := by decide +kernel
theorem dX6_readsDigit_11 : decode cX6_readsDigit 11 = .ok (.ifCond .ne 5, 3) := by decide +kernel
theorem dX6_readsDigit_14 : decode cX6_readsDigit 14 = .ok (.iconst 0, 1) := by decide +kernel
theorem dX6_readsDigit_15 : decode cX6_readsDigit 15 = .ok (.ireturn, 1) := by decide +kernel
theorem dX6_readsDigit_16 : decode cX6_readsDigit 16 = .ok (.aload_n 0, 1) := by decide +kernel
theorem dX6_readsDigit_17 : decode cX6_readsDigit 17 = .ok (.getfield 39, 3) := by decide +kernel
theorem dX6_readsDigit_20 : decode cX6_readsDigit 20 = .ok (.iload_n 1, 1) := by decide +kernel
theorem dX6_readsDigit_21 : decode cX6_readsDigit 21 = .ok (.aload_n 0, 1) := by decide +kernel
theorem dX6_readsDigit_22 : decode cX6_readsDigit 22 = .ok (.invokevirtual 213, 3) := by decide +kernel
theorem dX6_readsDigit_25 : decode cX6_readsDigit 25 = .ok (.bipush 48, 2) := by decide +kernel
theorem dX6_readsDigit_27 : decode cX6_readsDigit 27 = .ok (.isub, 1) := by decide +kernel
theorem dX6_readsDigit_28 : decode cX6_readsDigit 28 = .ok (.iastore, 1) := by decide +kernel
theorem dX6_readsDigit_29 : decode cX6_readsDigit 29 = .ok (.aload_n 0, 1) := by decide +kernel
theorem dX6_readsDigit_30 : decode cX6_readsDigit 30 = .ok (.dup, 1) := by decide +kernel
theorem dX6_readsDigit_31 : decode cX6_readsDigit 31 = .ok (.getfield 210, 3) := by decide +kernel
theorem dX6_readsDigit_34 : decode cX6_readsDigit 34 = .ok (.iconst 1, 1) := by decide +kernel
theorem dX6_readsDigit_35 : decode cX6_readsDigit 35 = .ok (.iadd, 1) := by decide +kernel
theorem dX6_readsDigit_36 : decode cX6_readsDigit 36 = .ok (.putfield 210, 3) := by decide +kernel
theorem dX6_readsDigit_39 : decode cX6_readsDigit 39 = .ok (.iconst 1, 1) := by decide +kernel
theorem dX6_readsDigit_40 : decode cX6_readsDigit 40 = .ok (.ireturn, 1) := by decide +kernel
theorem dX6_readsNumber_0 : decode cX6_readsNumber 0 = .ok (.aload_n 0, 1) := by decide +kernel
theorem dX6_readsNumber_1 : decode cX6_readsNumber 1 = .ok (.iload_n 1, 1) := by decide +kernel
theorem dX6_readsNumber_2 : decode cX6_readsNumber 2 = .ok (.invokevirtual 216, 3) := by decide +kernel
theorem dX6_readsNumber_5 : decode cX6_readsNumber 5 = .ok (.ifCond .ne 5, 3) := by decide +kernel
theorem dX6_readsNumber_8 : decode cX6_readsNumber 8 = .ok (.iconst 0, 1) := by decide +kernel
theorem dX6_readsNumber_9 : decode cX6_readsNumber 9 = .ok (.ireturn, 1) := by decide +kernel
theorem dX6_readsNumber_10 : decode cX6_readsNumber 10 = .ok (.aload_n 0, 1) := by decide +kernel
theorem dX6_readsNumber_11 : decode cX6_readsNumber 11 = .ok (.invokevirtual 213, 3) := by decide +kernel
theorem dX6_readsNumber_14 : decode cX6_readsNumber 14 = .ok (.bipush 48, 2) := by decide +kernel
theorem dX6_readsNumber_16 : decode cX6_readsNumber 16 = .ok (.bipush 57, 2) := by decide +kernel
theorem dX6_readsNumber_18 : decode cX6_readsNumber 18 = .ok (.invokestatic 54, 3) := by decide +kernel
theorem dX6_readsNumber_21 : decode cX6_readsNumber 21 = .ok (.ifCond .ne 5, 3) := by decide +kernel
theorem dX6_readsNumber_24 : decode cX6_readsNumber 24 = .ok (.iconst 1, 1) := by decide +kernel
theorem dX6_readsNumber_25 : decode cX6_readsNumber 25 = .ok (.ireturn, 1) := by decide +kernel
theorem dX6_readsNumber_26 : decode cX6_readsNumber 26 = .ok (.aload_n 0, 1) := by decide +kernel
theorem dX6_readsNumber_27 : decode cX6_readsNumber 27 = .ok (.getfield 39, 3) := by decide +kernel
theorem dX6_readsNumber_30 : decode cX6_readsNumber 30 = .ok (.iload_n 1, 1) := by decide +kernel
theorem dX6_readsNumber_31 : decode cX6_readsNumber 31 = .ok (.bipush 10, 2) := by decide +kernel
theorem dX6_readsNumber_33 : decode cX6_readsNumber 33 = .ok (.aload_n 0, 1) := by decide +kernel
theorem dX6_readsNumber_34 : decode cX6_readsNumber 34 = .ok (.getfield 39, 3) := by decide +kernel
theorem dX6_readsNumber_37 : decode cX6_readsNumber 37 = .ok (.iload_n 1, 1) := by decide +kernel
theorem dX6_readsNumber_38 : decode cX6_readsNumber 38 = .ok (.iaload, 1) := by decide +kernel
theorem dX6_readsNumber_39 : decode cX6_readsNumber 39 = .ok (.imul, 1) := by decide +kernel
theorem dX6_readsNumber_40 : decode cX6_readsNumber 40 = .ok (.aload_n 0, 1) := by decide +kernel
theorem dX6_readsNumber_41 : decode cX6_readsNumber 41 = .ok (.invokevirtual 213, 3) := by decide +kernel
theorem dX6_readsNumber_44 : decode cX6_readsNumber 44 = .ok (.iadd, 1) := by decide +kernel
theorem dX6_readsNumber_45 : decode cX6_readsNumber 45 = .ok (.bipush 48, 2) := by decide +kernel
theorem dX6_readsNumber_47 : decode cX6_readsNumber 47 = .ok (.isub, 1) := by decide +kernel
theorem dX6_readsNumber_48 : decode cX6_readsNumber 48 = .ok (.iastore, 1) := by decide +kernel
theorem dX6_readsNumber_49 : decode cX6_readsNumber 49 = .ok (.aload_n 0, 1) := by decide +kernel
theorem dX6_readsNumber_50 : decode cX6_readsNumber 50 = .ok (.dup, 1) := by decide +kernel
theorem dX6_readsNumber_51 : decode cX6_readsNumber 51 = .ok (.getfield 210, 3) := by decide +kernel
theorem dX6_readsNumber_54 : decode cX6_readsNumber 54 = .ok (.iconst 1, 1) := by decide +kernel
theorem dX6_readsNumber_55 : decode cX6_readsNumber 55 = .ok (.iadd, 1) := by decide +kernel
theorem dX6_readsNumber_56 : decode cX6_readsNumber 56 = .ok (.putfield 210, 3) := by decide +kernel
theorem dX6_readsNumber_59 : decode cX6_readsNumber 59 = .ok (.iconst 1, 1) := by decide +kernel
theorem dX6_readsNumber_60 : decode cX6_readsNumber 60 = .ok (.ireturn, 1) := by decide +kernel
theorem dX6_readsTwo_0 : decode cX6_readsTwo 0 = .ok (.aload_n 0, 1) := by decide +kernel
theorem dX6_readsTwo_1 : decode cX6_readsTwo 1 = .ok (.bipush 32, 2) := by decide +kernel
theorem dX6_readsTwo_3 : decode cX6_readsTwo 3 = .ok (.invokevirtual 219, 3) := by decide +kernel
theorem dX6_readsTwo_6 : decode cX6_readsTwo 6 = .ok (.ifCond .eq 32, 3) := by decide +kernel
theorem dX6_readsTwo_9 : decode cX6_readsTwo 9 = .ok (.aload_n 0, 1) := by decide +kernel
theorem dX6_readsTwo_10 : decode cX6_readsTwo 10 = .ok (.iconst 0, 1) := by decide +kernel
theorem dX6_readsTwo_11 : decode cX6_readsTwo 11 = .ok (.invokevirtual 216, 3) := by decide +kernel
theorem dX6_readsTwo_14 : decode cX6_readsTwo 14 = .ok (.ifCond .eq 24, 3) := by decide +kernel
theorem dX6_readsTwo_17 : decode cX6_readsTwo 17 = .ok (.aload_n 0, 1) := by decide +kernel
theorem dX6_readsTwo_18 : decode cX6_readsTwo 18 = .ok (.bipush 32, 2) := by decide +kernel
theorem dX6_readsTwo_20 : decode cX6_readsTwo 20 = .ok (.invokevirtual 219, 3) := by decide +kernel
theorem dX6_readsTwo_23 : decode cX6_readsTwo 23 = .ok (.ifCond .eq 15, 3) := by decide +kernel
theorem dX6_readsTwo_26 : decode cX6_readsTwo 26 = .ok (.aload_n 0, 1) := by decide +kernel
theorem dX6_readsTwo_27 : decode cX6_readsTwo 27 = .ok (.iconst 1, 1) := by decide +kernel
theorem dX6_readsTwo_28 : decode cX6_readsTwo 28 = .ok (.invokevirtual 216, 3) := by decide +kernel
theorem dX6_readsTwo_31 : decode cX6_readsTwo 31 = .ok (.ifCond .eq 7, 3) := by decide +kernel
theorem dX6_readsTwo_34 : decode cX6_readsTwo 34 = .ok (.iconst 1, 1) := by decide +kernel
theorem dX6_readsTwo_35 : decode cX6_readsTwo 35 = .ok (.goto 4, 3) := by decide +kernel
theorem dX6_readsTwo_38 : decode cX6_readsTwo 38 = .ok (.iconst 0, 1) := by decide +kernel
theorem dX6_readsTwo_39 : decode cX6_readsTwo 39 = .ok (.ireturn, 1) := by decide +kernel
theorem dX6_readsTrain_0 : decode cX6_readsTrain 0 = .ok (.aload_n 0, 1) := by decide +kernel
theorem dX6_readsTrain_1 : decode cX6_readsTrain 1 = .ok (.bipush 97, 2) := by decide +kernel
theorem dX6_readsTrain_3 : decode cX6_readsTrain 3 = .ok (.invokevirtual 219, 3) := by decide +kernel
theorem dX6_readsTrain_6 : decode cX6_readsTrain 6 = .ok (.ifCond .eq 36, 3) := by decide +kernel
theorem dX6_readsTrain_9 : decode cX6_readsTrain 9 = .ok (.aload_n 0, 1) := by decide +kernel
theorem dX6_readsTrain_10 : decode cX6_readsTrain 10 = .ok (.bipush 105, 2) := by decide +kernel
theorem dX6_readsTrain_12 : decode cX6_readsTrain 12 = .ok (.invokevirtual 219, 3) := by decide +kernel
theorem dX6_readsTrain_15 : decode cX6_readsTrain 15 = .ok (.ifCond .eq 27, 3) := by decide +kernel
theorem dX6_readsTrain_18 : decode cX6_readsTrain 18 = .ok (.aload_n 0, 1) := by decide +kernel
theorem dX6_readsTrain_19 : decode cX6_readsTrain 19 = .ok (.bipush 110, 2) := by decide +kernel
theorem dX6_readsTrain_21 : decode cX6_readsTrain 21 = .ok (.invokevirtual 219, 3) := by decide +kernel
theorem dX6_readsTrain_24 : decode cX6_readsTrain 24 = .ok (.ifCond .eq 18, 3) := by decide +kernel
theorem dX6_readsTrain_27 : decode cX6_readsTrain 27 = .ok (.aload_n 0, 1) := by decide +kernel
theorem dX6_readsTrain_28 : decode cX6_readsTrain 28 = .ok (.invokevirtual 222, 3) := by decide +kernel
theorem dX6_readsTrain_31 : decode cX6_readsTrain 31 = .ok (.ifCond .eq 11, 3) := by decide +kernel
theorem dX6_readsTrain_34 : decode cX6_readsTrain 34 = .ok (.aload_n 0, 1) := by decide +kernel
theorem dX6_readsTrain_35 : decode cX6_readsTrain 35 = .ok (.iconst 2, 1) := by decide +kernel
theorem dX6_readsTrain_36 : decode cX6_readsTrain 36 = .ok (.invokevirtual 216, 3) := by decide +kernel
theorem dX6_readsTrain_39 : decode cX6_readsTrain 39 = .ok (.ifCond .ne 5, 3) := by decide +kernel
theorem dX6_readsTrain_42 : decode cX6_readsTrain 42 = .ok (.iconst 0, 1) := by decide +kernel
theorem dX6_readsTrain_43 : decode cX6_readsTrain 43 = .ok (.ireturn, 1) := by decide +kernel
theorem dX6_readsTrain_44 : decode cX6_readsTrain 44 = .ok (.aload_n 0, 1) := by decide +kernel
theorem dX6_readsTrain_45 : decode cX6_readsTrain 45 = .ok (.getfield 39, 3) := by decide +kernel
theorem dX6_readsTrain_48 : decode cX6_readsTrain 48 = .ok (.iconst 3, 1) := by decide +kernel
theorem dX6_readsTrain_49 : decode cX6_readsTrain 49 = .ok (.iconst 1, 1) := by decide +kernel
theorem dX6_readsTrain_50 : decode cX6_readsTrain 50 = .ok (.iastore, 1) := by decide +kernel
theorem dX6_readsTrain_51 : decode cX6_readsTrain 51 = .ok (.aload_n 0, 1) := by decide +kernel
theorem dX6_readsTrain_52 : decode cX6_readsTrain 52 = .ok (.bipush 120, 2) := by decide +kernel
theorem dX6_readsTrain_54 : decode cX6_readsTrain 54 = .ok (.invokevirtual 219, 3) := by decide +kernel
theorem dX6_readsTrain_57 : decode cX6_readsTrain 57 = .ok (.ifCond .eq 11, 3) := by decide +kernel
theorem dX6_readsTrain_60 : decode cX6_readsTrain 60 = .ok (.aload_n 0, 1) := by decide +kernel
theorem dX6_readsTrain_61 : decode cX6_readsTrain 61 = .ok (.iconst 3, 1) := by decide +kernel
theorem dX6_readsTrain_62 : decode cX6_readsTrain 62 = .ok (.invokevirtual 216, 3) := by decide +kernel
theorem dX6_readsTrain_65 : decode cX6_readsTrain 65 = .ok (.ifCond .eq 7, 3) := by decide +kernel
theorem dX6_readsTrain_68 : decode cX6_readsTrain 68 = .ok (.iconst 1, 1) := by decide +kernel
theorem dX6_readsTrain_69 : decode cX6_readsTrain 69 = .ok (.goto 4, 3) := by decide +kernel
theorem dX6_readsTrain_72 : decode cX6_readsTrain 72 = .ok (.iconst 0, 1) := by decide +kernel
theorem dX6_readsTrain_73 : decode cX6_readsTrain 73 = .ok (.ireturn, 1) := by decide +kernel
theorem dX6_readsT_0 : decode cX6_readsT 0 = .ok (.aload_n 0, 1) := by decide +kernel
theorem dX6_readsT_1 : decode cX6_readsT 1 = .ok (.bipush 114, 2) := by decide +kernel
theorem dX6_readsT_3 : decode cX6_readsT 3 = .ok (.invokevirtual 219, 3) := by decide +kernel
theorem dX6_readsT_6 : decode cX6_readsT 6 = .ok (.ifCond .eq 8, 3) := by decide +kernel
theorem dX6_readsT_9 : decode cX6_readsT 9 = .ok (.aload_n 0, 1) := by decide +kernel
theorem dX6_readsT_10 : decode cX6_readsT 10 = .ok (.invokevirtual 226, 3) := by decide +kernel
theorem dX6_readsT_13 : decode cX6_readsT 13 = .ok (.ireturn, 1) := by decide +kernel
theorem dX6_readsT_14 : decode cX6_readsT 14 = .ok (.aload_n 0, 1) := by decide +kernel
theorem dX6_readsT_15 : decode cX6_readsT 15 = .ok (.bipush 109, 2) := by decide +kernel
theorem dX6_readsT_17 : decode cX6_readsT 17 = .ok (.putfield 229, 3) := by decide +kernel
theorem dX6_readsT_20 : decode cX6_readsT 20 = .ok (.aload_n 0, 1) := by decide +kernel
theorem dX6_readsT_21 : decode cX6_readsT 21 = .ok (.bipush 101, 2) := by decide +kernel
theorem dX6_readsT_23 : decode cX6_readsT 23 = .ok (.invokevirtual 219, 3) := by decide +kernel
theorem dX6_readsT_26 : decode cX6_readsT 26 = .ok (.ifCond .eq 25, 3) := by decide +kernel
theorem dX6_readsT_29 : decode cX6_readsT 29 = .ok (.aload_n 0, 1) := by decide +kernel
theorem dX6_readsT_30 : decode cX6_readsT 30 = .ok (.bipush 114, 2) := by decide +kernel
theorem dX6_readsT_32 : decode cX6_readsT 32 = .ok (.invokevirtual 219, 3) := by decide +kernel
theorem dX6_readsT_35 : decode cX6_readsT 35 = .ok (.ifCond .eq 16, 3) := by decide +kernel
theorem dX6_readsT_38 : decode cX6_readsT 38 = .ok (.aload_n 0, 1) := by decide +kernel
theorem dX6_readsT_39 : decode cX6_readsT 39 = .ok (.bipush 109, 2) := by decide +kernel
theorem dX6_readsT_41 : decode cX6_readsT 41 = .ok (.invokevirtual 219, 3) := by decide +kernel
theorem dX6_readsT_44 : decode cX6_readsT 44 = .ok (.ifCond .eq 7, 3) := by decide +kernel
theorem dX6_readsT_47 : decode cX6_readsT 47 = .ok (.iconst 1, 1) := by decide +kernel
theorem dX6_readsT_48 : decode cX6_readsT 48 = .ok (.goto 4, 3) := by decide +kernel
theorem dX6_readsT_51 : decode cX6_readsT 51 = .ok (.iconst 0, 1) := by decide +kernel
theorem dX6_readsT_52 : decode cX6_readsT 52 = .ok (.ireturn, 1) := by decide +kernel
theorem dX6_readsCommand_0 : decode cX6_readsCommand 0 = .ok (.aload_n 0, 1) := by decide +kernel
theorem dX6_readsCommand_1 : decode cX6_readsCommand 1 = .ok (.aload_n 0, 1) := by decide +kernel
theorem dX6_readsCommand_2 : decode cX6_readsCommand 2 = .ok (.invokevirtual 213, 3) := by decide +kernel
theorem dX6_readsCommand_5 : decode cX6_readsCommand 5 = .ok (.putfield 229, 3) := by decide +kernel
theorem dX6_readsCommand_8 : decode cX6_readsCommand 8 = .ok (.aload_n 0, 1) := by decide +kernel
theorem dX6_readsCommand_9 : decode cX6_readsCommand 9 = .ok (.bipush 97, 2) := by decide +kernel
theorem dX6_readsCommand_11 : decode cX6_readsCommand 11 = .ok (.invokevirtual 219, 3) := by decide +kernel
theorem dX6_readsCommand_14 : decode cX6_readsCommand 14 = .ok (.ifCond .eq 44, 3) := by decide +kernel
theorem dX6_readsCommand_17 : decode cX6_readsCommand 17 = .ok (.aload_n 0, 1) := by decide +kernel
theorem dX6_readsCommand_18 : decode cX6_readsCommand 18 = .ok (.bipush 100, 2) := by decide +kernel
theorem dX6_readsCommand_20 : decode cX6_readsCommand 20 = .ok (.invokevirtual 219, 3) := by decide +kernel
theorem dX6_readsCommand_23 : decode cX6_readsCommand 23 = .ok (.ifCond .eq 33, 3) := by decide +kernel
theorem dX6_readsCommand_26 : decode cX6_readsCommand 26 = .ok (.aload_n 0, 1) := by decide +kernel
theorem dX6_readsCommand_27 : decode cX6_readsCommand 27 = .ok (.bipush 100, 2) := by decide +kernel
theorem dX6_readsCommand_29 : decode cX6_readsCommand 29 = .ok (.invokevirtual 219, 3) := by decide +kernel
theorem dX6_readsCommand_32 : decode cX6_readsCommand 32 = .ok (.ifCond .eq 24, 3) := by decide +kernel
theorem dX6_readsCommand_35 : decode cX6_readsCommand 35 = .ok (.aload_n 0, 1) := by decide +kernel
theorem dX6_readsCommand_36 : decode cX6_readsCommand 36 = .ok (.bipush 32, 2) := by decide +kernel
theorem dX6_readsCommand_38 : decode cX6_readsCommand 38 = .ok (.invokevirtual 219, 3) := by decide +kernel
theorem dX6_readsCommand_41 : decode cX6_readsCommand 41 = .ok (.ifCond .eq 15, 3) := by decide +kernel
theorem dX6_readsCommand_44 : decode cX6_readsCommand 44 = .ok (.aload_n 0, 1) := by decide +kernel
theorem dX6_readsCommand_45 : decode cX6_readsCommand 45 = .ok (.iconst 0, 1) := by decide +kernel
theorem dX6_readsCommand_46 : decode cX6_readsCommand 46 = .ok (.invokevirtual 232, 3) := by decide +kernel
theorem dX6_readsCommand_49 : decode cX6_readsCommand 49 = .ok (.ifCond .eq 7, 3) := by decide +kernel
theorem dX6_readsCommand_52 : decode cX6_readsCommand 52 = .ok (.iconst 1, 1) := by decide +kernel
theorem dX6_readsCommand_53 : decode cX6_readsCommand 53 = .ok (.goto 4, 3) := by decide +kernel
theorem dX6_readsCommand_56 : decode cX6_readsCommand 56 = .ok (.iconst 0, 1) := by decide +kernel
theorem dX6_readsCommand_57 : decode cX6_readsCommand 57 = .ok (.ireturn, 1) := by decide +kernel
theorem dX6_readsCommand_58 : decode cX6_readsCommand 58 = .ok (.aload_n 0, 1) := by decide +kernel
theorem dX6_readsCommand_59 : decode cX6_readsCommand 59 = .ok (.bipush 116, 2) := by decide +kernel
theorem dX6_readsCommand_61 : decode cX6_readsCommand 61 = .ok (.invokevirtual 219, 3) := by decide +kernel
theorem dX6_readsCommand_64 : decode cX6_readsCommand 64 = .ok (.ifCond .eq 8, 3) := by decide +kernel
theorem dX6_readsCommand_67 : decode cX6_readsCommand 67 = .ok (.aload_n 0, 1) := by decide +kernel
theorem dX6_readsCommand_68 : decode cX6_readsCommand 68 = .ok (.invokevirtual 235, 3) := by decide +kernel
theorem dX6_readsCommand_71 : decode cX6_readsCommand 71 = .ok (.ireturn, 1) := by decide +kernel
theorem dX6_readsCommand_72 : decode cX6_readsCommand 72 = .ok (.aload_n 0, 1) := by decide +kernel
theorem dX6_readsCommand_73 : decode cX6_readsCommand 73 = .ok (.bipush 112, 2) := by decide +kernel
theorem dX6_readsCommand_75 : decode cX6_readsCommand 75 = .ok (.invokevirtual 219, 3) := by decide +kernel
theorem dX6_readsCommand_78 : decode cX6_readsCommand 78 = .ok (.ifCond .eq 61, 3) := by decide +kernel
theorem dX6_readsCommand_81 : decode cX6_readsCommand 81 = .ok (.aload_n 0, 1) := by decide +kernel
theorem dX6_readsCommand_82 : decode cX6_readsCommand 82 = .ok (.bipush 101, 2) := by decide +kernel
theorem dX6_readsCommand_84 : decode cX6_readsCommand 84 = .ok (.invokevirtual 219, 3) := by decide +kernel
theorem dX6_readsCommand_87 : decode cX6_readsCommand 87 = .ok (.ifCond .eq 50, 3) := by decide +kernel
theorem dX6_readsCommand_90 : decode cX6_readsCommand 90 = .ok (.aload_n 0, 1) := by decide +kernel
theorem dX6_readsCommand_91 : decode cX6_readsCommand 91 = .ok (.bipush 114, 2) := by decide +kernel
theorem dX6_readsCommand_93 : decode cX6_readsCommand 93 = .ok (.invokevirtual 219, 3) := by decide +kernel
theorem dX6_readsCommand_96 : decode cX6_readsCommand 96 = .ok (.ifCond .eq 41, 3) := by decide +kernel
theorem dX6_readsCommand_99 : decode cX6_readsCommand 99 = .ok (.aload_n 0, 1) := by decide +kernel
theorem dX6_readsCommand_100 : decode cX6_readsCommand 100 = .ok (.bipush 105, 2) := by decide +kernel
theorem dX6_readsCommand_102 : decode cX6_readsCommand 102 = .ok (.invokevirtual 219, 3) := by decide +kernel
theorem dX6_readsCommand_105 : decode cX6_readsCommand 105 = .ok (.ifCond .eq 32, 3) := by decide +kernel
theorem dX6_readsCommand_108 : decode cX6_readsCommand 108 = .ok (.aload_n 0, 1) := by decide +kernel
theorem dX6_readsCommand_109 : decode cX6_readsCommand 109 = .ok (.bipush 111, 2) := by decide +kernel
theorem dX6_readsCommand_111 : decode cX6_readsCommand 111 = .ok (.invokevirtual 219, 3) := by decide +kernel
theorem dX6_readsCommand_114 : decode cX6_readsCommand 114 = .ok (.ifCond .eq 23, 3) := by decide +kernel
theorem dX6_readsCommand_117 : decode cX6_readsCommand 117 = .ok (.aload_n 0, 1) := by decide +kernel
theorem dX6_readsCommand_118 : decode cX6_readsCommand 118 = .ok (.bipush 100, 2) := by decide +kernel
theorem dX6_readsCommand_120 : decode cX6_readsCommand 120 = .ok (.invokevirtual 219, 3) := by decide +kernel
theorem dX6_readsCommand_123 : decode cX6_readsCommand 123 = .ok (.ifCond .eq 14, 3) := by decide +kernel
theorem dX6_readsCommand_126 : decode cX6_readsCommand 126 = .ok (.aload_n 0, 1) := by decide +kernel
theorem dX6_readsCommand_127 : decode cX6_readsCommand 127 = .ok (.invokevirtual 222, 3) := by decide +kernel
theorem dX6_readsCommand_130 : decode cX6_readsCommand 130 = .ok (.ifCond .eq 7, 3) := by decide +kernel
theorem dX6_readsCommand_133 : decode cX6_readsCommand 133 = .ok (.iconst 1, 1) := by decide +kernel
theorem dX6_readsCommand_134 : decode cX6_readsCommand 134 = .ok (.goto 4, 3) := by decide +kernel
theorem dX6_readsCommand_137 : decode cX6_readsCommand 137 = .ok (.iconst 0, 1) := by decide +kernel
theorem dX6_readsCommand_138 : decode cX6_readsCommand 138 = .ok (.ireturn, 1) := by decide +kernel
theorem dX6_readsCommand_139 : decode cX6_readsCommand 139 = .ok (.aload_n 0, 1) := by decide +kernel
theorem dX6_readsCommand_140 : decode cX6_readsCommand 140 = .ok (.bipush 119, 2) := by decide +kernel
theorem dX6_readsCommand_142 : decode cX6_readsCommand 142 = .ok (.invokevirtual 219, 3) := by decide +kernel
theorem dX6_readsCommand_145 : decode cX6_readsCommand 145 = .ok (.ifCond .eq 44, 3) := by decide +kernel
theorem dX6_readsCommand_148 : decode cX6_readsCommand 148 = .ok (.aload_n 0, 1) := by decide +kernel
theorem dX6_readsCommand_149 : decode cX6_readsCommand 149 = .ok (.bipush 101, 2) := by decide +kernel
theorem dX6_readsCommand_151 : decode cX6_readsCommand 151 = .ok (.invokevirtual 219, 3) := by decide +kernel
theorem dX6_readsCommand_154 : decode cX6_readsCommand 154 = .ok (.ifCond .eq 33, 3) := by decide +kernel
theorem dX6_readsCommand_157 : decode cX6_readsCommand 157 = .ok (.aload_n 0, 1) := by decide +kernel
theorem dX6_readsCommand_158 : decode cX6_readsCommand 158 = .ok (.bipush 116, 2) := by decide +kernel
theorem dX6_readsCommand_160 : decode cX6_readsCommand 160 = .ok (.invokevirtual 219, 3) := by decide +kernel
theorem dX6_readsCommand_163 : decode cX6_readsCommand 163 = .ok (.ifCond .eq 24, 3) := by decide +kernel
theorem dX6_readsCommand_166 : decode cX6_readsCommand 166 = .ok (.aload_n 0, 1) := by decide +kernel
theorem dX6_readsCommand_167 : decode cX6_readsCommand 167 = .ok (.bipush 32, 2) := by decide +kernel
theorem dX6_readsCommand_169 : decode cX6_readsCommand 169 = .ok (.invokevirtual 219, 3) := by decide +kernel
theorem dX6_readsCommand_172 : decode cX6_readsCommand 172 = .ok (.ifCond .eq 15, 3) := by decide +kernel
theorem dX6_readsCommand_175 : decode cX6_readsCommand 175 = .ok (.aload_n 0, 1) := by decide +kernel
theorem dX6_readsCommand_176 : decode cX6_readsCommand 176 = .ok (.iconst 0, 1) := by decide +kernel
theorem dX6_readsCommand_177 : decode cX6_readsCommand 177 = .ok (.invokevirtual 216, 3) := by decide +kernel
theorem dX6_readsCommand_180 : decode cX6_readsCommand 180 = .ok (.ifCond .eq 7, 3) := by decide +kernel
theorem dX6_readsCommand_183 : decode cX6_readsCommand 183 = .ok (.iconst 1, 1) := by decide +kernel
theorem dX6_readsCommand_184 : decode cX6_readsCommand 184 = .ok (.goto 4, 3) := by decide +kernel
theorem dX6_readsCommand_187 : decode cX6_readsCommand 187 = .ok (.iconst 0, 1) := by decide +kernel
theorem dX6_readsCommand_188 : decode cX6_readsCommand 188 = .ok (.ireturn, 1) := by decide +kernel
theorem dX6_readsCommand_189 : decode cX6_readsCommand 189 = .ok (.aload_n 0, 1) := by decide +kernel
theorem dX6_readsCommand_190 : decode cX6_readsCommand 190 = .ok (.bipush 103, 2) := by decide +kernel
theorem dX6_readsCommand_192 : decode cX6_readsCommand 192 = .ok (.invokevirtual 219, 3) := by decide +kernel
theorem dX6_readsCommand_195 : decode cX6_readsCommand 195 = .ok (.ifCond .eq 53, 3) := by decide +kernel
theorem dX6_readsCommand_198 : decode cX6_readsCommand 198 = .ok (.aload_n 0, 1) := by decide +kernel
theorem dX6_readsCommand_199 : decode cX6_readsCommand 199 = .ok (.bipush 97, 2) := by decide +kernel
theorem dX6_readsCommand_201 : decode cX6_readsCommand 201 = .ok (.invokevirtual 219, 3) := by decide +kernel
theorem dX6_readsCommand_204 : decode cX6_readsCommand 204 = .ok (.ifCond .eq 42, 3) := by decide +kernel
theorem dX6_readsCommand_207 : decode cX6_readsCommand 207 = .ok (.aload_n 0, 1) := by decide +kernel
theorem dX6_readsCommand_208 : decode cX6_readsCommand 208 = .ok (.bipush 108, 2) := by decide +kernel
theorem dX6_readsCommand_210 : decode cX6_readsCommand 210 = .ok (.invokevirtual 219, 3) := by decide +kernel
theorem dX6_readsCommand_213 : decode cX6_readsCommand 213 = .ok (.ifCond .eq 33, 3) := by decide +kernel
theorem dX6_readsCommand_216 : decode cX6_readsCommand 216 = .ok (.aload_n 0, 1) := by decide +kernel
theorem dX6_readsCommand_217 : decode cX6_readsCommand 217 = .ok (.bipush 101, 2) := by decide +kernel
theorem dX6_readsCommand_219 : decode cX6_readsCommand 219 = .ok (.invokevirtual 219, 3) := by decide +kernel
theorem dX6_readsCommand_222 : decode cX6_readsCommand 222 = .ok (.ifCond .eq 24, 3) := by decide +kernel
theorem dX6_readsCommand_225 : decode cX6_readsCommand 225 = .ok (.aload_n 0, 1) := by decide +kernel
theorem dX6_readsCommand_226 : decode cX6_readsCommand 226 = .ok (.bipush 32, 2) := by decide +kernel
theorem dX6_readsCommand_228 : decode cX6_readsCommand 228 = .ok (.invokevirtual 219, 3) := by decide +kernel
theorem dX6_readsCommand_231 : decode cX6_readsCommand 231 = .ok (.ifCond .eq 15, 3) := by decide +kernel
theorem dX6_readsCommand_234 : decode cX6_readsCommand 234 = .ok (.aload_n 0, 1) := by decide +kernel
theorem dX6_readsCommand_235 : decode cX6_readsCommand 235 = .ok (.iconst 0, 1) := by decide +kernel
theorem dX6_readsCommand_236 : decode cX6_readsCommand 236 = .ok (.invokevirtual 216, 3) := by decide +kernel
theorem dX6_readsCommand_239 : decode cX6_readsCommand 239 = .ok (.ifCond .eq 7, 3) := by decide +kernel
theorem dX6_readsCommand_242 : decode cX6_readsCommand 242 = .ok (.iconst 1, 1) := by decide +kernel
theorem dX6_readsCommand_243 : decode cX6_readsCommand 243 = .ok (.goto 4, 3) := by decide +kernel
theorem dX6_readsCommand_246 : decode cX6_readsCommand 246 = .ok (.iconst 0, 1) := by decide +kernel
theorem dX6_readsCommand_247 : decode cX6_readsCommand 247 = .ok (.ireturn, 1) := by decide +kernel
theorem dX6_readsCommand_248 : decode cX6_readsCommand 248 = .ok (.aload_n 0, 1) := by decide +kernel
theorem dX6_readsCommand_249 : decode cX6_readsCommand 249 = .ok (.bipush 102, 2) := by decide +kernel
theorem dX6_readsCommand_251 : decode cX6_readsCommand 251 = .ok (.invokevirtual 219, 3) := by decide +kernel
theorem dX6_readsCommand_254 : decode cX6_readsCommand 254 = .ok (.ifCond .eq 61, 3) := by decide +kernel
theorem dX6_readsCommand_257 : decode cX6_readsCommand 257 = .ok (.aload_n 0, 1) := by decide +kernel
theorem dX6_readsCommand_258 : decode cX6_readsCommand 258 = .ok (.bipush 111, 2) := by decide +kernel
theorem dX6_readsCommand_260 : decode cX6_readsCommand 260 = .ok (.invokevirtual 219, 3) := by decide +kernel
theorem dX6_readsCommand_263 : decode cX6_readsCommand 263 = .ok (.ifCond .eq 50, 3) := by decide +kernel
theorem dX6_readsCommand_266 : decode cX6_readsCommand 266 = .ok (.aload_n 0, 1) := by decide +kernel
theorem dX6_readsCommand_267 : decode cX6_readsCommand 267 = .ok (.bipush 114, 2) := by decide +kernel
theorem dX6_readsCommand_269 : decode cX6_readsCommand 269 = .ok (.invokevirtual 219, 3) := by decide +kernel
theorem dX6_readsCommand_272 : decode cX6_readsCommand 272 = .ok (.ifCond .eq 41, 3) := by decide +kernel
theorem dX6_readsCommand_275 : decode cX6_readsCommand 275 = .ok (.aload_n 0, 1) := by decide +kernel
theorem dX6_readsCommand_276 : decode cX6_readsCommand 276 = .ok (.bipush 103, 2) := by decide +kernel
theorem dX6_readsCommand_278 : decode cX6_readsCommand 278 = .ok (.invokevirtual 219, 3) := by decide +kernel
theorem dX6_readsCommand_281 : decode cX6_readsCommand 281 = .ok (.ifCond .eq 32, 3) := by decide +kernel
theorem dX6_readsCommand_284 : decode cX6_readsCommand 284 = .ok (.aload_n 0, 1) := by decide +kernel
theorem dX6_readsCommand_285 : decode cX6_readsCommand 285 = .ok (.bipush 101, 2) := by decide +kernel
theorem dX6_readsCommand_287 : decode cX6_readsCommand 287 = .ok (.invokevirtual 219, 3) := by decide +kernel
theorem dX6_readsCommand_290 : decode cX6_readsCommand 290 = .ok (.ifCond .eq 23, 3) := by decide +kernel
theorem dX6_readsCommand_293 : decode cX6_readsCommand 293 = .ok (.aload_n 0, 1) := by decide +kernel
theorem dX6_readsCommand_294 : decode cX6_readsCommand 294 = .ok (.bipush 116, 2) := by decide +kernel
theorem dX6_readsCommand_296 : decode cX6_readsCommand 296 = .ok (.invokevirtual 219, 3) := by decide +kernel
theorem dX6_readsCommand_299 : decode cX6_readsCommand 299 = .ok (.ifCond .eq 14, 3) := by decide +kernel
theorem dX6_readsCommand_302 : decode cX6_readsCommand 302 = .ok (.aload_n 0, 1) := by decide +kernel
theorem dX6_readsCommand_303 : decode cX6_readsCommand 303 = .ok (.invokevirtual 222, 3) := by decide +kernel
theorem dX6_readsCommand_306 : decode cX6_readsCommand 306 = .ok (.ifCond .eq 7, 3) := by decide +kernel
theorem dX6_readsCommand_309 : decode cX6_readsCommand 309 = .ok (.iconst 1, 1) := by decide +kernel
theorem dX6_readsCommand_310 : decode cX6_readsCommand 310 = .ok (.goto 4, 3) := by decide +kernel
theorem dX6_readsCommand_313 : decode cX6_readsCommand 313 = .ok (.iconst 0, 1) := by decide +kernel
theorem dX6_readsCommand_314 : decode cX6_readsCommand 314 = .ok (.ireturn, 1) := by decide +kernel
theorem dX6_readsCommand_315 : decode cX6_readsCommand 315 = .ok (.aload_n 0, 1) := by decide +kernel
theorem dX6_readsCommand_316 : decode cX6_readsCommand 316 = .ok (.bipush 101, 2) := by decide +kernel
theorem dX6_readsCommand_318 : decode cX6_readsCommand 318 = .ok (.invokevirtual 219, 3) := by decide +kernel
theorem dX6_readsCommand_321 : decode cX6_readsCommand 321 = .ok (.ifCond .eq 41, 3) := by decide +kernel
theorem dX6_readsCommand_324 : decode cX6_readsCommand 324 = .ok (.aload_n 0, 1) := by decide +kernel
theorem dX6_readsCommand_325 : decode cX6_readsCommand 325 = .ok (.bipush 120, 2) := by decide +kernel
theorem dX6_readsCommand_327 : decode cX6_readsCommand 327 = .ok (.invokevirtual 219, 3) := by decide +kernel
theorem dX6_readsCommand_330 : decode cX6_readsCommand 330 = .ok (.ifCond .eq 32, 3) := by decide +kernel
theorem dX6_readsCommand_333 : decode cX6_readsCommand 333 = .ok (.aload_n 0, 1) := by decide +kernel
theorem dX6_readsCommand_334 : decode cX6_readsCommand 334 = .ok (.bipush 97, 2) := by decide +kernel
theorem dX6_readsCommand_336 : decode cX6_readsCommand 336 = .ok (.invokevirtual 219, 3) := by decide +kernel
theorem dX6_readsCommand_339 : decode cX6_readsCommand 339 = .ok (.ifCond .eq 23, 3) := by decide +kernel
theorem dX6_readsCommand_342 : decode cX6_readsCommand 342 = .ok (.aload_n 0, 1) := by decide +kernel
theorem dX6_readsCommand_343 : decode cX6_readsCommand 343 = .ok (.bipush 109, 2) := by decide +kernel
theorem dX6_readsCommand_345 : decode cX6_readsCommand 345 = .ok (.invokevirtual 219, 3) := by decide +kernel
theorem dX6_readsCommand_348 : decode cX6_readsCommand 348 = .ok (.ifCond .eq 14, 3) := by decide +kernel
theorem dX6_readsCommand_351 : decode cX6_readsCommand 351 = .ok (.aload_n 0, 1) := by decide +kernel
theorem dX6_readsCommand_352 : decode cX6_readsCommand 352 = .ok (.invokevirtual 222, 3) := by decide +kernel
theorem dX6_readsCommand_355 : decode cX6_readsCommand 355 = .ok (.ifCond .eq 7, 3) := by decide +kernel
theorem dX6_readsCommand_358 : decode cX6_readsCommand 358 = .ok (.iconst 1, 1) := by decide +kernel
theorem dX6_readsCommand_359 : decode cX6_readsCommand 359 = .ok (.goto 4, 3) := by decide +kernel
theorem dX6_readsCommand_362 : decode cX6_readsCommand 362 = .ok (.iconst 0, 1) := by decide +kernel
theorem dX6_readsCommand_363 : decode cX6_readsCommand 363 = .ok (.ireturn, 1) := by decide +kernel
theorem dX6_readsAll_0 : decode cX6_readsAll 0 = .ok (.aload_n 0, 1) := by decide +kernel
theorem dX6_readsAll_1 : decode cX6_readsAll 1 = .ok (.iconst 0, 1) := by decide +kernel
theorem dX6_readsAll_2 : decode cX6_readsAll 2 = .ok (.putfield 210, 3) := by decide +kernel
theorem dX6_readsAll_5 : decode cX6_readsAll 5 = .ok (.iconst 1, 1) := by decide +kernel
theorem dX6_readsAll_6 : decode cX6_readsAll 6 = .ok (.istore_n 1, 1) := by decide +kernel
theorem dX6_readsAll_7 : decode cX6_readsAll 7 = .ok (.iload_n 1, 1) := by decide +kernel
theorem dX6_readsAll_8 : decode cX6_readsAll 8 = .ok (.ifCond .eq 22, 3) := by decide +kernel
theorem dX6_readsAll_11 : decode cX6_readsAll 11 = .ok (.aload_n 0, 1) := by decide +kernel
theorem dX6_readsAll_12 : decode cX6_readsAll 12 = .ok (.invokevirtual 238, 3) := by decide +kernel
theorem dX6_readsAll_15 : decode cX6_readsAll 15 = .ok (.ifCond .ne 5, 3) := by decide +kernel
theorem dX6_readsAll_18 : decode cX6_readsAll 18 = .ok (.iconst 0, 1) := by decide +kernel
theorem dX6_readsAll_19 : decode cX6_readsAll 19 = .ok (.ireturn, 1) := by decide +kernel
theorem dX6_readsAll_20 : decode cX6_readsAll 20 = .ok (.aload_n 0, 1) := by decide +kernel
theorem dX6_readsAll_21 : decode cX6_readsAll 21 = .ok (.bipush 59, 2) := by decide +kernel
theorem dX6_readsAll_23 : decode cX6_readsAll 23 = .ok (.invokevirtual 219, 3) := by decide +kernel
theorem dX6_readsAll_26 : decode cX6_readsAll 26 = .ok (.istore_n 1, 1) := by decide +kernel
theorem dX6_readsAll_27 : decode cX6_readsAll 27 = .ok (.goto (-20), 3) := by decide +kernel
theorem dX6_readsAll_30 : decode cX6_readsAll 30 = .ok (.aload_n 0, 1) := by decide +kernel
theorem dX6_readsAll_31 : decode cX6_readsAll 31 = .ok (.getfield 210, 3) := by decide +kernel
theorem dX6_readsAll_34 : decode cX6_readsAll 34 = .ok (.aload_n 0, 1) := by decide +kernel
theorem dX6_readsAll_35 : decode cX6_readsAll 35 = .ok (.getfield 207, 3) := by decide +kernel
theorem dX6_readsAll_38 : decode cX6_readsAll 38 = .ok (.if_icmp .ne 7, 3) := by decide +kernel
theorem dX6_readsAll_41 : decode cX6_readsAll 41 = .ok (.iconst 1, 1) := by decide +kernel
theorem dX6_readsAll_42 : decode cX6_readsAll 42 = .ok (.goto 4, 3) := by decide +kernel
theorem dX6_readsAll_45 : decode cX6_readsAll 45 = .ok (.iconst 0, 1) := by decide +kernel
theorem dX6_readsAll_46 : decode cX6_readsAll 46 = .ok (.ireturn, 1) := by decide +kernel
theorem dX6_notNow_0 : decode cX6_notNow 0 = .ok (.aload_n 0, 1) := by decide +kernel
theorem dX6_notNow_1 : decode cX6_notNow 1 = .ok (.getfield 39, 3) := by decide +kernel
theorem dX6_notNow_4 : decode cX6_notNow 4 = .ok (.iconst 0, 1) := by decide +kernel
theorem dX6_notNow_5 : decode cX6_notNow 5 = .ok (.iaload, 1) := by decide +kernel
theorem dX6_notNow_6 : decode cX6_notNow 6 = .ok (.istore_n 1, 1) := by decide +kernel
theorem dX6_notNow_7 : decode cX6_notNow 7 = .ok (.aload_n 0, 1) := by decide +kernel
theorem dX6_notNow_8 : decode cX6_notNow 8 = .ok (.getfield 39, 3) := by decide +kernel
theorem dX6_notNow_11 : decode cX6_notNow 11 = .ok (.iconst 1, 1) := by decide +kernel
theorem dX6_notNow_12 : decode cX6_notNow 12 = .ok (.iaload, 1) := by decide +kernel
theorem dX6_notNow_13 : decode cX6_notNow 13 = .ok (.istore_n 2, 1) := by decide +kernel
theorem dX6_notNow_14 : decode cX6_notNow 14 = .ok (.aload_n 0, 1) := by decide +kernel
theorem dX6_notNow_15 : decode cX6_notNow 15 = .ok (.getfield 229, 3) := by decide +kernel
theorem dX6_notNow_18 : decode cX6_notNow 18 = .ok (.lookupswitch 100 #[(97, 58), (103, 90), (109, 95), (112, 83), (116, 64), (119, 90)], 58) := by decide +kernel
theorem dX6_notNow_76 : decode cX6_notNow 76 = .ok (.aload_n 0, 1) := by decide +kernel
theorem dX6_notNow_77 : decode cX6_notNow 77 = .ok (.iload_n 1, 1) := by decide +kernel
theorem dX6_notNow_78 : decode cX6_notNow 78 = .ok (.invokevirtual 81, 3) := by decide +kernel
theorem dX6_notNow_81 : decode cX6_notNow 81 = .ok (.ireturn, 1) := by decide +kernel
theorem dX6_notNow_82 : decode cX6_notNow 82 = .ok (.aload_n 0, 1) := by decide +kernel
theorem dX6_notNow_83 : decode cX6_notNow 83 = .ok (.iload_n 1, 1) := by decide +kernel
theorem dX6_notNow_84 : decode cX6_notNow 84 = .ok (.iload_n 2, 1) := by decide +kernel
theorem dX6_notNow_85 : decode cX6_notNow 85 = .ok (.aload_n 0, 1) := by decide +kernel
theorem dX6_notNow_86 : decode cX6_notNow 86 = .ok (.getfield 39, 3) := by decide +kernel
theorem dX6_notNow_89 : decode cX6_notNow 89 = .ok (.iconst 2, 1) := by decide +kernel
theorem dX6_notNow_90 : decode cX6_notNow 90 = .ok (.iaload, 1) := by decide +kernel
theorem dX6_notNow_91 : decode cX6_notNow 91 = .ok (.aload_n 0, 1) := by decide +kernel
theorem dX6_notNow_92 : decode cX6_notNow 92 = .ok (.getfield 39, 3) := by decide +kernel
theorem dX6_notNow_95 : decode cX6_notNow 95 = .ok (.iconst 3, 1) := by decide +kernel
theorem dX6_notNow_96 : decode cX6_notNow 96 = .ok (.iaload, 1) := by decide +kernel
theorem dX6_notNow_97 : decode cX6_notNow 97 = .ok (.invokevirtual 120, 3) := by decide +kernel
theorem dX6_notNow_100 : decode cX6_notNow 100 = .ok (.ireturn, 1) := by decide +kernel
theorem dX6_notNow_101 : decode cX6_notNow 101 = .ok (.aload_n 0, 1) := by decide +kernel
theorem dX6_notNow_102 : decode cX6_notNow 102 = .ok (.iload_n 1, 1) := by decide +kernel
theorem dX6_notNow_103 : decode cX6_notNow 103 = .ok (.iload_n 2, 1) := by decide +kernel
theorem dX6_notNow_104 : decode cX6_notNow 104 = .ok (.invokevirtual 126, 3) := by decide +kernel
theorem dX6_notNow_107 : decode cX6_notNow 107 = .ok (.ireturn, 1) := by decide +kernel
theorem dX6_notNow_108 : decode cX6_notNow 108 = .ok (.iload_n 1, 1) := by decide +kernel
theorem dX6_notNow_109 : decode cX6_notNow 109 = .ok (.invokestatic 132, 3) := by decide +kernel
theorem dX6_notNow_112 : decode cX6_notNow 112 = .ok (.ireturn, 1) := by decide +kernel
theorem dX6_notNow_113 : decode cX6_notNow 113 = .ok (.aload_n 0, 1) := by decide +kernel
theorem dX6_notNow_114 : decode cX6_notNow 114 = .ok (.invokevirtual 162, 3) := by decide +kernel
theorem dX6_notNow_117 : decode cX6_notNow 117 = .ok (.ireturn, 1) := by decide +kernel
theorem dX6_notNow_118 : decode cX6_notNow 118 = .ok (.aload_n 0, 1) := by decide +kernel
theorem dX6_notNow_119 : decode cX6_notNow 119 = .ok (.iload_n 1, 1) := by decide +kernel
theorem dX6_notNow_120 : decode cX6_notNow 120 = .ok (.iload_n 2, 1) := by decide +kernel
theorem dX6_notNow_121 : decode cX6_notNow 121 = .ok (.invokevirtual 144, 3) := by decide +kernel
theorem dX6_notNow_124 : decode cX6_notNow 124 = .ok (.ireturn, 1) := by decide +kernel
theorem dX6_doesNow_0 : decode cX6_doesNow 0 = .ok (.aload_n 0, 1) := by decide +kernel
theorem dX6_doesNow_1 : decode cX6_doesNow 1 = .ok (.getfield 39, 3) := by decide +kernel
theorem dX6_doesNow_4 : decode cX6_doesNow 4 = .ok (.iconst 0, 1) := by decide +kernel
theorem dX6_doesNow_5 : decode cX6_doesNow 5 = .ok (.iaload, 1) := by decide +kernel
theorem dX6_doesNow_6 : decode cX6_doesNow 6 = .ok (.istore_n 1, 1) := by decide +kernel
theorem dX6_doesNow_7 : decode cX6_doesNow 7 = .ok (.aload_n 0, 1) := by decide +kernel
theorem dX6_doesNow_8 : decode cX6_doesNow 8 = .ok (.getfield 39, 3) := by decide +kernel
theorem dX6_doesNow_11 : decode cX6_doesNow 11 = .ok (.iconst 1, 1) := by decide +kernel
theorem dX6_doesNow_12 : decode cX6_doesNow 12 = .ok (.iaload, 1) := by decide +kernel
theorem dX6_doesNow_13 : decode cX6_doesNow 13 = .ok (.istore_n 2, 1) := by decide +kernel
theorem dX6_doesNow_14 : decode cX6_doesNow 14 = .ok (.aload_n 0, 1) := by decide +kernel
theorem dX6_doesNow_15 : decode cX6_doesNow 15 = .ok (.getfield 229, 3) := by decide +kernel
theorem dX6_doesNow_18 : decode cX6_doesNow 18 = .ok (.tableswitch 164 97 119 #[106, 164, 164, 164, 164, 157, 145, 164, 164, 164, 164, 164, 152, 164, 164, 131, 164, 164, 164, 112, 164, 164, 138], 106) := by decide +kernel
theorem dX6_doesNow_124 : decode cX6_doesNow 124 = .ok (.aload_n 0, 1) := by decide +kernel
theorem dX6_doesNow_125 : decode cX6_doesNow 125 = .ok (.iload_n 1, 1) := by decide +kernel
theorem dX6_doesNow_126 : decode cX6_doesNow 126 = .ok (.invokevirtual 90, 3) := by decide +kernel
theorem dX6_doesNow_129 : decode cX6_doesNow 129 = .ok (.ireturn, 1) := by decide +kernel
theorem dX6_doesNow_130 : decode cX6_doesNow 130 = .ok (.aload_n 0, 1) := by decide +kernel
theorem dX6_doesNow_131 : decode cX6_doesNow 131 = .ok (.iload_n 1, 1) := by decide +kernel
theorem dX6_doesNow_132 : decode cX6_doesNow 132 = .ok (.iload_n 2, 1) := by decide +kernel
theorem dX6_doesNow_133 : decode cX6_doesNow 133 = .ok (.aload_n 0, 1) := by decide +kernel
theorem dX6_doesNow_134 : decode cX6_doesNow 134 = .ok (.getfield 39, 3) := by decide +kernel
theorem dX6_doesNow_137 : decode cX6_doesNow 137 = .ok (.iconst 2, 1) := by decide +kernel
theorem dX6_doesNow_138 : decode cX6_doesNow 138 = .ok (.iaload, 1) := by decide +kernel
theorem dX6_doesNow_139 : decode cX6_doesNow 139 = .ok (.aload_n 0, 1) := by decide +kernel
theorem dX6_doesNow_140 : decode cX6_doesNow 140 = .ok (.getfield 39, 3) := by decide +kernel
theorem dX6_doesNow_143 : decode cX6_doesNow 143 = .ok (.iconst 3, 1) := by decide +kernel
theorem dX6_doesNow_144 : decode cX6_doesNow 144 = .ok (.iaload, 1) := by decide +kernel
theorem dX6_doesNow_145 : decode cX6_doesNow 145 = .ok (.invokevirtual 123, 3) := by decide +kernel
theorem dX6_doesNow_148 : decode cX6_doesNow 148 = .ok (.ireturn, 1) := by decide +kernel
theorem dX6_doesNow_149 : decode cX6_doesNow 149 = .ok (.aload_n 0, 1) := by decide +kernel
theorem dX6_doesNow_150 : decode cX6_doesNow 150 = .ok (.iload_n 1, 1) := by decide +kernel
theorem dX6_doesNow_151 : decode cX6_doesNow 151 = .ok (.iload_n 2, 1) := by decide +kernel
theorem dX6_doesNow_152 : decode cX6_doesNow 152 = .ok (.invokevirtual 129, 3) := by decide +kernel
theorem dX6_doesNow_155 : decode cX6_doesNow 155 = .ok (.ireturn, 1) := by decide +kernel
theorem dX6_doesNow_156 : decode cX6_doesNow 156 = .ok (.aload_n 0, 1) := by decide +kernel
theorem dX6_doesNow_157 : decode cX6_doesNow 157 = .ok (.iconst 1, 1) := by decide +kernel
theorem dX6_doesNow_158 : decode cX6_doesNow 158 = .ok (.iload_n 1, 1) := by decide +kernel
theorem dX6_doesNow_159 : decode cX6_doesNow 159 = .ok (.invokevirtual 135, 3) := by decide +kernel
theorem dX6_doesNow_162 : decode cX6_doesNow 162 = .ok (.ireturn, 1) := by decide +kernel
theorem dX6_doesNow_163 : decode cX6_doesNow 163 = .ok (.aload_n 0, 1) := by decide +kernel
theorem dX6_doesNow_164 : decode cX6_doesNow 164 = .ok (.iconst 2, 1) := by decide +kernel
theorem dX6_doesNow_165 : decode cX6_doesNow 165 = .ok (.iload_n 1, 1) := by decide +kernel
theorem dX6_doesNow_166 : decode cX6_doesNow 166 = .ok (.invokevirtual 135, 3) := by decide +kernel
theorem dX6_doesNow_169 : decode cX6_doesNow 169 = .ok (.ireturn, 1) := by decide +kernel
theorem dX6_doesNow_170 : decode cX6_doesNow 170 = .ok (.aload_n 0, 1) := by decide +kernel
theorem dX6_doesNow_171 : decode cX6_doesNow 171 = .ok (.invokevirtual 166, 3) := by decide +kernel
theorem dX6_doesNow_174 : decode cX6_doesNow 174 = .ok (.ireturn, 1) := by decide +kernel
theorem dX6_doesNow_175 : decode cX6_doesNow 175 = .ok (.aload_n 0, 1) := by decide +kernel
theorem dX6_doesNow_176 : decode cX6_doesNow 176 = .ok (.iload_n 1, 1) := by decide +kernel
theorem dX6_doesNow_177 : decode cX6_doesNow 177 = .ok (.iload_n 2, 1) := by decide +kernel
theorem dX6_doesNow_178 : decode cX6_doesNow 178 = .ok (.invokevirtual 147, 3) := by decide +kernel
theorem dX6_doesNow_181 : decode cX6_doesNow 181 = .ok (.ireturn, 1) := by decide +kernel
theorem dX6_doesNow_182 : decode cX6_doesNow 182 = .ok (.aload_n 0, 1) := by decide +kernel
theorem dX6_doesNow_183 : decode cX6_doesNow 183 = .ok (.iload_n 1, 1) := by decide +kernel
theorem dX6_doesNow_184 : decode cX6_doesNow 184 = .ok (.iload_n 2, 1) := by decide +kernel
theorem dX6_doesNow_185 : decode cX6_doesNow 185 = .ok (.invokevirtual 159, 3) := by decide +kernel
theorem dX6_doesNow_188 : decode cX6_doesNow 188 = .ok (.ireturn, 1) := by decide +kernel
theorem dX6_doesAll_0 : decode cX6_doesAll 0 = .ok (.aload_n 0, 1) := by decide +kernel
theorem dX6_doesAll_1 : decode cX6_doesAll 1 = .ok (.iconst 0, 1) := by decide +kernel
theorem dX6_doesAll_2 : decode cX6_doesAll 2 = .ok (.putfield 241, 3) := by decide +kernel
theorem dX6_doesAll_5 : decode cX6_doesAll 5 = .ok (.aload_n 0, 1) := by decide +kernel
theorem dX6_doesAll_6 : decode cX6_doesAll 6 = .ok (.iconst 0, 1) := by decide +kernel
theorem dX6_doesAll_7 : decode cX6_doesAll 7 = .ok (.putfield 210, 3) := by decide +kernel
theorem dX6_doesAll_10 : decode cX6_doesAll 10 = .ok (.iconst 1, 1) := by decide +kernel
theorem dX6_doesAll_11 : decode cX6_doesAll 11 = .ok (.istore_n 1, 1) := by decide +kernel
theorem dX6_doesAll_12 : decode cX6_doesAll 12 = .ok (.iload_n 1, 1) := by decide +kernel
theorem dX6_doesAll_13 : decode cX6_doesAll 13 = .ok (.ifCond .eq 42, 3) := by decide +kernel
theorem dX6_doesAll_16 : decode cX6_doesAll 16 = .ok (.aload_n 0, 1) := by decide +kernel
theorem dX6_doesAll_17 : decode cX6_doesAll 17 = .ok (.invokevirtual 238, 3) := by decide +kernel
theorem dX6_doesAll_20 : decode cX6_doesAll 20 = .ok (.pop, 1) := by decide +kernel
theorem dX6_doesAll_21 : decode cX6_doesAll 21 = .ok (.aload_n 0, 1) := by decide +kernel
theorem dX6_doesAll_22 : decode cX6_doesAll 22 = .ok (.invokevirtual 244, 3) := by decide +kernel
theorem dX6_doesAll_25 : decode cX6_doesAll 25 = .ok (.ifCond .eq 5, 3) := by decide +kernel
theorem dX6_doesAll_28 : decode cX6_doesAll 28 = .ok (.iconst 0, 1) := by decide +kernel
theorem dX6_doesAll_29 : decode cX6_doesAll 29 = .ok (.ireturn, 1) := by decide +kernel
theorem dX6_doesAll_30 : decode cX6_doesAll 30 = .ok (.aload_n 0, 1) := by decide +kernel
theorem dX6_doesAll_31 : decode cX6_doesAll 31 = .ok (.invokevirtual 247, 3) := by decide +kernel
theorem dX6_doesAll_34 : decode cX6_doesAll 34 = .ok (.pop, 1) := by decide +kernel
theorem dX6_doesAll_35 : decode cX6_doesAll 35 = .ok (.aload_n 0, 1) := by decide +kernel
theorem dX6_doesAll_36 : decode cX6_doesAll 36 = .ok (.dup, 1) := by decide +kernel
theorem dX6_doesAll_37 : decode cX6_doesAll 37 = .ok (.getfield 241, 3) := by decide +kernel
theorem dX6_doesAll_40 : decode cX6_doesAll 40 = .ok (.iconst 1, 1) := by decide +kernel
theorem dX6_doesAll_41 : decode cX6_doesAll 41 = .ok (.iadd, 1) := by decide +kernel
theorem dX6_doesAll_42 : decode cX6_doesAll 42 = .ok (.putfield 241, 3) := by decide +kernel
theorem dX6_doesAll_45 : decode cX6_doesAll 45 = .ok (.aload_n 0, 1) := by decide +kernel
theorem dX6_doesAll_46 : decode cX6_doesAll 46 = .ok (.bipush 59, 2) := by decide +kernel
theorem dX6_doesAll_48 : decode cX6_doesAll 48 = .ok (.invokevirtual 219, 3) := by decide +kernel
theorem dX6_doesAll_51 : decode cX6_doesAll 51 = .ok (.istore_n 1, 1) := by decide +kernel
theorem dX6_doesAll_52 : decode cX6_doesAll 52 = .ok (.goto (-40), 3) := by decide +kernel
theorem dX6_doesAll_55 : decode cX6_doesAll 55 = .ok (.iconst 1, 1) := by decide +kernel
theorem dX6_doesAll_56 : decode cX6_doesAll 56 = .ok (.ireturn, 1) := by decide +kernel
theorem dX6_runScript_0 : decode cX6_runScript 0 = .ok (.aload_n 0, 1) := by decide +kernel
theorem dX6_runScript_1 : decode cX6_runScript 1 = .ok (.iconst 0, 1) := by decide +kernel
theorem dX6_runScript_2 : decode cX6_runScript 2 = .ok (.putfield 1, 3) := by decide +kernel
theorem dX6_runScript_5 : decode cX6_runScript 5 = .ok (.aload_n 0, 1) := by decide +kernel
theorem dX6_runScript_6 : decode cX6_runScript 6 = .ok (.invokevirtual 250, 3) := by decide +kernel
theorem dX6_runScript_9 : decode cX6_runScript 9 = .ok (.ifCond .ne 22, 3) := by decide +kernel
theorem dX6_runScript_12 : decode cX6_runScript 12 = .ok (.aload_n 0, 1) := by decide +kernel
theorem dX6_runScript_13 : decode cX6_runScript 13 = .ok (.aload_n 0, 1) := by decide +kernel
theorem dX6_runScript_14 : decode cX6_runScript 14 = .ok (.getfield 210, 3) := by decide +kernel
theorem dX6_runScript_17 : decode cX6_runScript 17 = .ok (.putfield 33, 3) := by decide +kernel
theorem dX6_runScript_20 : decode cX6_runScript 20 = .ok (.aload_n 0, 1) := by decide +kernel
theorem dX6_runScript_21 : decode cX6_runScript 21 = .ok (.iconst 0, 1) := by decide +kernel
theorem dX6_runScript_22 : decode cX6_runScript 22 = .ok (.putfield 207, 3) := by decide +kernel
theorem dX6_runScript_25 : decode cX6_runScript 25 = .ok (.aload_n 0, 1) := by decide +kernel
theorem dX6_runScript_26 : decode cX6_runScript 26 = .ok (.iconst 1, 1) := by decide +kernel
theorem dX6_runScript_27 : decode cX6_runScript 27 = .ok (.invokevirtual 84, 3) := by decide +kernel
theorem dX6_runScript_30 : decode cX6_runScript 30 = .ok (.ireturn, 1) := by decide +kernel
theorem dX6_runScript_31 : decode cX6_runScript 31 = .ok (.aload_n 0, 1) := by decide +kernel
theorem dX6_runScript_32 : decode cX6_runScript 32 = .ok (.invokevirtual 48, 3) := by decide +kernel
theorem dX6_runScript_35 : decode cX6_runScript 35 = .ok (.aload_n 0, 1) := by decide +kernel
theorem dX6_runScript_36 : decode cX6_runScript 36 = .ok (.invokevirtual 253, 3) := by decide +kernel
theorem dX6_runScript_39 : decode cX6_runScript 39 = .ok (.istore_n 1, 1) := by decide +kernel
theorem dX6_runScript_40 : decode cX6_runScript 40 = .ok (.aload_n 0, 1) := by decide +kernel
theorem dX6_runScript_41 : decode cX6_runScript 41 = .ok (.iconst 0, 1) := by decide +kernel
theorem dX6_runScript_42 : decode cX6_runScript 42 = .ok (.putfield 207, 3) := by decide +kernel
theorem dX6_runScript_45 : decode cX6_runScript 45 = .ok (.iload_n 1, 1) := by decide +kernel
theorem dX6_runScript_46 : decode cX6_runScript 46 = .ok (.ifCond .eq 12, 3) := by decide +kernel
theorem dX6_runScript_49 : decode cX6_runScript 49 = .ok (.aload_n 0, 1) := by decide +kernel
theorem dX6_runScript_50 : decode cX6_runScript 50 = .ok (.invokevirtual 51, 3) := by decide +kernel
theorem dX6_runScript_53 : decode cX6_runScript 53 = .ok (.aload_n 0, 1) := by decide +kernel
theorem dX6_runScript_54 : decode cX6_runScript 54 = .ok (.getfield 241, 3) := by decide +kernel
theorem dX6_runScript_57 : decode cX6_runScript 57 = .ok (.ireturn, 1) := by decide +kernel
theorem dX6_runScript_58 : decode cX6_runScript 58 = .ok (.aload_n 0, 1) := by decide +kernel
theorem dX6_runScript_59 : decode cX6_runScript 59 = .ok (.invokevirtual 256, 3) := by decide +kernel
theorem dX6_runScript_62 : decode cX6_runScript 62 = .ok (.aload_n 0, 1) := by decide +kernel
theorem dX6_runScript_63 : decode cX6_runScript 63 = .ok (.aload_n 0, 1) := by decide +kernel
theorem dX6_runScript_64 : decode cX6_runScript 64 = .ok (.getfield 241, 3) := by decide +kernel
theorem dX6_runScript_67 : decode cX6_runScript 67 = .ok (.putfield 36, 3) := by decide +kernel
theorem dX6_runScript_70 : decode cX6_runScript 70 = .ok (.aload_n 0, 1) := by decide +kernel
theorem dX6_runScript_71 : decode cX6_runScript 71 = .ok (.iconst 2, 1) := by decide +kernel
theorem dX6_runScript_72 : decode cX6_runScript 72 = .ok (.invokevirtual 84, 3) := by decide +kernel
theorem dX6_runScript_75 : decode cX6_runScript 75 = .ok (.ireturn, 1) := by decide +kernel
theorem dX6_errorPosition_0 : decode cX6_errorPosition 0 = .ok (.aload_n 0, 1) := by decide +kernel
theorem dX6_errorPosition_1 : decode cX6_errorPosition 1 = .ok (.iconst 0, 1) := by decide +kernel
theorem dX6_errorPosition_2 : decode cX6_errorPosition 2 = .ok (.putfield 1, 3) := by decide +kernel
theorem dX6_errorPosition_5 : decode cX6_errorPosition 5 = .ok (.aload_n 0, 1) := by decide +kernel
theorem dX6_errorPosition_6 : decode cX6_errorPosition 6 = .ok (.getfield 33, 3) := by decide +kernel
theorem dX6_errorPosition_9 : decode cX6_errorPosition 9 = .ok (.ifCond .ge 11, 3) := by decide +kernel
theorem dX6_errorPosition_12 : decode cX6_errorPosition 12 = .ok (.aload_n 0, 1) := by decide +kernel
theorem dX6_errorPosition_13 : decode cX6_errorPosition 13 = .ok (.iconst 1, 1) := by decide +kernel
theorem dX6_errorPosition_14 : decode cX6_errorPosition 14 = .ok (.invokevirtual 84, 3) := by decide +kernel
theorem dX6_errorPosition_17 : decode cX6_errorPosition 17 = .ok (.goto 7, 3) := by decide +kernel
theorem dX6_errorPosition_20 : decode cX6_errorPosition 20 = .ok (.aload_n 0, 1) := by decide +kernel
theorem dX6_errorPosition_21 : decode cX6_errorPosition 21 = .ok (.getfield 33, 3) := by decide +kernel
theorem dX6_errorPosition_24 : decode cX6_errorPosition 24 = .ok (.ireturn, 1) := by decide +kernel
theorem dX6_failedCommand_0 : decode cX6_failedCommand 0 = .ok (.aload_n 0, 1) := by decide +kernel
theorem dX6_failedCommand_1 : decode cX6_failedCommand 1 = .ok (.iconst 0, 1) := by decide +kernel
theorem dX6_failedCommand_2 : decode cX6_failedCommand 2 = .ok (.putfield 1, 3) := by decide +kernel
theorem dX6_failedCommand_5 : decode cX6_failedCommand 5 = .ok (.aload_n 0, 1) := by decide +kernel
theorem dX6_failedCommand_6 : decode cX6_failedCommand 6 = .ok (.getfield 36, 3) := by decide +kernel
theorem dX6_failedCommand_9 : decode cX6_failedCommand 9 = .ok (.ifCond .ge 11, 3) := by decide +kernel
theorem dX6_failedCommand_12 : decode cX6_failedCommand 12 = .ok (.aload_n 0, 1) := by decide +kernel
theorem dX6_failedCommand_13 : decode cX6_failedCommand 13 = .ok (.iconst 1, 1) := by decide +kernel
theorem dX6_failedCommand_14 : decode cX6_failedCommand 14 = .ok (.invokevirtual 84, 3) := by decide +kernel
theorem dX6_failedCommand_17 : decode cX6_failedCommand 17 = .ok (.goto 7, 3) := by decide +kernel
theorem dX6_failedCommand_20 : decode cX6_failedCommand 20 = .ok (.aload_n 0, 1) := by decide +kernel
theorem dX6_failedCommand_21 : decode cX6_failedCommand 21 = .ok (.getfield 36, 3) := by decide +kernel
theorem dX6_failedCommand_24 : decode cX6_failedCommand 24 = .ok (.ireturn, 1) := by decide +kernel
theorem dX6_undo_0 : decode cX6_undo 0 = .ok (.aload_n 0, 1) := by decide +kernel
theorem dX6_undo_1 : decode cX6_undo 1 = .ok (.iconst 0, 1) := by decide +kernel
theorem dX6_undo_2 : decode cX6_undo 2 = .ok (.putfield 1, 3) := by decide +kernel
theorem dX6_undo_5 : decode cX6_undo 5 = .ok (.aload_n 0, 1) := by decide +kernel
theorem dX6_undo_6 : decode cX6_undo 6 = .ok (.getfield 42, 3) := by decide +kernel
theorem dX6_undo_9 : decode cX6_undo 9 = .ok (.ifCond .ne 9, 3) := by decide +kernel
theorem dX6_undo_12 : decode cX6_undo 12 = .ok (.aload_n 0, 1) := by decide +kernel
theorem dX6_undo_13 : decode cX6_undo 13 = .ok (.iconst 1, 1) := by decide +kernel
theorem dX6_undo_14 : decode cX6_undo 14 = .ok (.invokevirtual 84, 3) := by decide +kernel
theorem dX6_undo_17 : decode cX6_undo 17 = .ok (.ireturn, 1) := by decide +kernel
theorem dX6_undo_18 : decode cX6_undo 18 = .ok (.aload_n 0, 1) := by decide +kernel
theorem dX6_undo_19 : decode cX6_undo 19 = .ok (.dup, 1) := by decide +kernel
theorem dX6_undo_20 : decode cX6_undo 20 = .ok (.getfield 42, 3) := by decide +kernel
theorem dX6_undo_23 : decode cX6_undo 23 = .ok (.iconst 1, 1) := by decide +kernel
theorem dX6_undo_24 : decode cX6_undo 24 = .ok (.isub, 1) := by decide +kernel
theorem dX6_undo_25 : decode cX6_undo 25 = .ok (.putfield 42, 3) := by decide +kernel
theorem dX6_undo_28 : decode cX6_undo 28 = .ok (.aload_n 0, 1) := by decide +kernel
theorem dX6_undo_29 : decode cX6_undo 29 = .ok (.getfield 45, 3) := by decide +kernel
theorem dX6_undo_32 : decode cX6_undo 32 = .ok (.aload_n 0, 1) := by decide +kernel
theorem dX6_undo_33 : decode cX6_undo 33 = .ok (.getfield 42, 3) := by decide +kernel
theorem dX6_undo_36 : decode cX6_undo 36 = .ok (.iadd, 1) := by decide +kernel
theorem dX6_undo_37 : decode cX6_undo 37 = .ok (.bipush 8, 2) := by decide +kernel
theorem dX6_undo_39 : decode cX6_undo 39 = .ok (.irem, 1) := by decide +kernel
theorem dX6_undo_40 : decode cX6_undo 40 = .ok (.istore_n 1, 1) := by decide +kernel
theorem dX6_undo_41 : decode cX6_undo 41 = .ok (.iconst 0, 1) := by decide +kernel
theorem dX6_undo_42 : decode cX6_undo 42 = .ok (.istore_n 2, 1) := by decide +kernel
theorem dX6_undo_43 : decode cX6_undo 43 = .ok (.iload_n 2, 1) := by decide +kernel
theorem dX6_undo_44 : decode cX6_undo 44 = .ok (.sipush 176, 3) := by decide +kernel
theorem dX6_undo_47 : decode cX6_undo 47 = .ok (.if_icmp .ge 27, 3) := by decide +kernel
theorem dX6_undo_50 : decode cX6_undo 50 = .ok (.aload_n 0, 1) := by decide +kernel
theorem dX6_undo_51 : decode cX6_undo 51 = .ok (.getfield 13, 3) := by decide +kernel
theorem dX6_undo_54 : decode cX6_undo 54 = .ok (.iload_n 2, 1) := by decide +kernel
theorem dX6_undo_55 : decode cX6_undo 55 = .ok (.aload_n 0, 1) := by decide +kernel
theorem dX6_undo_56 : decode cX6_undo 56 = .ok (.getfield 17, 3) := by decide +kernel
theorem dX6_undo_59 : decode cX6_undo 59 = .ok (.sipush 176, 3) := by decide +kernel
theorem dX6_undo_62 : decode cX6_undo 62 = .ok (.iload_n 1, 1) := by decide +kernel
theorem dX6_undo_63 : decode cX6_undo 63 = .ok (.imul, 1) := by decide +kernel
theorem dX6_undo_64 : decode cX6_undo 64 = .ok (.iload_n 2, 1) := by decide +kernel
theorem dX6_undo_65 : decode cX6_undo 65 = .ok (.iadd, 1) := by decide +kernel
theorem dX6_undo_66 : decode cX6_undo 66 = .ok (.iaload, 1) := by decide +kernel
theorem dX6_undo_67 : decode cX6_undo 67 = .ok (.iastore, 1) := by decide +kernel
theorem dX6_undo_68 : decode cX6_undo 68 = .ok (.iinc 2 1, 3) := by decide +kernel
theorem dX6_undo_71 : decode cX6_undo 71 = .ok (.goto (-28), 3) := by decide +kernel
theorem dX6_undo_74 : decode cX6_undo 74 = .ok (.aload_n 0, 1) := by decide +kernel
theorem dX6_undo_75 : decode cX6_undo 75 = .ok (.getfield 42, 3) := by decide +kernel
theorem dX6_undo_78 : decode cX6_undo 78 = .ok (.ireturn, 1) := by decide +kernel
theorem dX6_save_0 : decode cX6_save 0 = .ok (.aload_n 0, 1) := by decide +kernel
theorem dX6_save_1 : decode cX6_save 1 = .ok (.iconst 0, 1) := by decide +kernel
theorem dX6_save_2 : decode cX6_save 2 = .ok (.putfield 1, 3) := by decide +kernel
theorem dX6_save_5 : decode cX6_save 5 = .ok (.iconst 0, 1) := by decide +kernel
theorem dX6_save_6 : decode cX6_save 6 = .ok (.istore_n 1, 1) := by decide +kernel
theorem dX6_save_7 : decode cX6_save 7 = .ok (.iload_n 1, 1) := by decide +kernel
theorem dX6_save_8 : decode cX6_save 8 = .ok (.sipush 176, 3) := by decide +kernel
theorem dX6_save_11 : decode cX6_save 11 = .ok (.if_icmp .ge 21, 3) := by decide +kernel
theorem dX6_save_14 : decode cX6_save 14 = .ok (.aload_n 0, 1) := by decide +kernel
theorem dX6_save_15 : decode cX6_save 15 = .ok (.getfield 20, 3) := by decide +kernel
theorem dX6_save_18 : decode cX6_save 18 = .ok (.iload_n 1, 1) := by decide +kernel
theorem dX6_save_19 : decode cX6_save 19 = .ok (.aload_n 0, 1) := by decide +kernel
theorem dX6_save_20 : decode cX6_save 20 = .ok (.getfield 13, 3) := by decide +kernel
theorem dX6_save_23 : decode cX6_save 23 = .ok (.iload_n 1, 1) := by decide +kernel
theorem dX6_save_24 : decode cX6_save 24 = .ok (.iaload, 1) := by decide +kernel
theorem dX6_save_25 : decode cX6_save 25 = .ok (.iastore, 1) := by decide +kernel
theorem dX6_save_26 : decode cX6_save 26 = .ok (.iinc 1 1, 3) := by decide +kernel
theorem dX6_save_29 : decode cX6_save 29 = .ok (.goto (-22), 3) := by decide +kernel
theorem dX6_save_32 : decode cX6_save 32 = .ok (.aload_n 0, 1) := by decide +kernel
theorem dX6_save_33 : decode cX6_save 33 = .ok (.iconst 1, 1) := by decide +kernel
theorem dX6_save_34 : decode cX6_save 34 = .ok (.putfield 259, 3) := by decide +kernel
theorem dX6_save_37 : decode cX6_save 37 = .ok (.aload_n 0, 1) := by decide +kernel
theorem dX6_save_38 : decode cX6_save 38 = .ok (.getfield 13, 3) := by decide +kernel
theorem dX6_save_41 : decode cX6_save 41 = .ok (.iconst 0, 1) := by decide +kernel
theorem dX6_save_42 : decode cX6_save 42 = .ok (.iaload, 1) := by decide +kernel
theorem dX6_save_43 : decode cX6_save 43 = .ok (.ireturn, 1) := by decide +kernel
theorem dX6_restore_0 : decode cX6_restore 0 = .ok (.aload_n 0, 1) := by decide +kernel
theorem dX6_restore_1 : decode cX6_restore 1 = .ok (.iconst 0, 1) := by decide +kernel
theorem dX6_restore_2 : decode cX6_restore 2 = .ok (.putfield 1, 3) := by decide +kernel
theorem dX6_restore_5 : decode cX6_restore 5 = .ok (.aload_n 0, 1) := by decide +kernel
theorem dX6_restore_6 : decode cX6_restore 6 = .ok (.getfield 259, 3) := by decide +kernel
theorem dX6_restore_9 : decode cX6_restore 9 = .ok (.ifCond .ne 9, 3) := by decide +kernel
theorem dX6_restore_12 : decode cX6_restore 12 = .ok (.aload_n 0, 1) := by decide +kernel
theorem dX6_restore_13 : decode cX6_restore 13 = .ok (.iconst 1, 1) := by decide +kernel
theorem dX6_restore_14 : decode cX6_restore 14 = .ok (.invokevirtual 84, 3) := by decide +kernel
theorem dX6_restore_17 : decode cX6_restore 17 = .ok (.ireturn, 1) := by decide +kernel
theorem dX6_restore_18 : decode cX6_restore 18 = .ok (.iconst 0, 1) := by decide +kernel
theorem dX6_restore_19 : decode cX6_restore 19 = .ok (.istore_n 1, 1) := by decide +kernel
theorem dX6_restore_20 : decode cX6_restore 20 = .ok (.iload_n 1, 1) := by decide +kernel
theorem dX6_restore_21 : decode cX6_restore 21 = .ok (.sipush 176, 3) := by decide +kernel
theorem dX6_restore_24 : decode cX6_restore 24 = .ok (.if_icmp .ge 21, 3) := by decide +kernel
theorem dX6_restore_27 : decode cX6_restore 27 = .ok (.aload_n 0, 1) := by decide +kernel
theorem dX6_restore_28 : decode cX6_restore 28 = .ok (.getfield 13, 3) := by decide +kernel
theorem dX6_restore_31 : decode cX6_restore 31 = .ok (.iload_n 1, 1) := by decide +kernel
theorem dX6_restore_32 : decode cX6_restore 32 = .ok (.aload_n 0, 1) := by decide +kernel
theorem dX6_restore_33 : decode cX6_restore 33 = .ok (.getfield 20, 3) := by decide +kernel
theorem dX6_restore_36 : decode cX6_restore 36 = .ok (.iload_n 1, 1) := by decide +kernel
theorem dX6_restore_37 : decode cX6_restore 37 = .ok (.iaload, 1) := by decide +kernel
theorem dX6_restore_38 : decode cX6_restore 38 = .ok (.iastore, 1) := by decide +kernel
theorem dX6_restore_39 : decode cX6_restore 39 = .ok (.iinc 1 1, 3) := by decide +kernel
theorem dX6_restore_42 : decode cX6_restore 42 = .ok (.goto (-22), 3) := by decide +kernel
theorem dX6_restore_45 : decode cX6_restore 45 = .ok (.aload_n 0, 1) := by decide +kernel
theorem dX6_restore_46 : decode cX6_restore 46 = .ok (.iconst 0, 1) := by decide +kernel
theorem dX6_restore_47 : decode cX6_restore 47 = .ok (.putfield 42, 3) := by decide +kernel
theorem dX6_restore_50 : decode cX6_restore 50 = .ok (.aload_n 0, 1) := by decide +kernel
theorem dX6_restore_51 : decode cX6_restore 51 = .ok (.iconst 0, 1) := by decide +kernel
theorem dX6_restore_52 : decode cX6_restore 52 = .ok (.putfield 45, 3) := by decide +kernel
theorem dX6_restore_55 : decode cX6_restore 55 = .ok (.aload_n 0, 1) := by decide +kernel
theorem dX6_restore_56 : decode cX6_restore 56 = .ok (.getfield 13, 3) := by decide +kernel
theorem dX6_restore_59 : decode cX6_restore 59 = .ok (.iconst 0, 1) := by decide +kernel
theorem dX6_restore_60 : decode cX6_restore 60 = .ok (.iaload, 1) := by decide +kernel
theorem dX6_restore_61 : decode cX6_restore 61 = .ok (.ireturn, 1) := by decide +kernel
