theorem dX0_init_0 : decode cX0_init 0 = .ok (.aload_n 0, 1) := by decide +kernel
theorem dX0_init_1 : decode cX0_init 1 = .ok (.invokespecial 3, 3) := by decide +kernel
theorem dX0_init_4 : decode cX0_init 4 = .ok (.aload_n 0, 1) := by decide +kernel
theorem dX0_init_5 : decode cX0_init 5 = .ok (.new 9, 3) := by decide +kernel
theorem dX0_init_8 : decode cX0_init 8 = .ok (.dup, 1) := by decide +kernel
theorem dX0_init_9 : decode cX0_init 9 = .ok (.invokespecial 11, 3) := by decide +kernel
theorem dX0_init_12 : decode cX0_init 12 = .ok (.putfield 12, 3) := by decide +kernel
theorem dX0_init_15 : decode cX0_init 15 = .ok (.aload_n 0, 1) := by decide +kernel
theorem dX0_init_16 : decode cX0_init 16 = .ok (.new 18, 3) := by decide +kernel
theorem dX0_init_19 : decode cX0_init 19 = .ok (.dup, 1) := by decide +kernel
theorem dX0_init_20 : decode cX0_init 20 = .ok (.invokespecial 20, 3) := by decide +kernel
theorem dX0_init_23 : decode cX0_init 23 = .ok (.putfield 21, 3) := by decide +kernel
theorem dX0_init_26 : decode cX0_init 26 = .ok (.aload_n 0, 1) := by decide +kernel
theorem dX0_init_27 : decode cX0_init 27 = .ok (.new 18, 3) := by decide +kernel
theorem dX0_init_30 : decode cX0_init 30 = .ok (.dup, 1) := by decide +kernel
theorem dX0_init_31 : decode cX0_init 31 = .ok (.invokespecial 20, 3) := by decide +kernel
theorem dX0_init_34 : decode cX0_init 34 = .ok (.putfield 25, 3) := by decide +kernel
theorem dX0_init_37 : decode cX0_init 37 = .ok (.aload_n 0, 1) := by decide +kernel
theorem dX0_init_38 : decode cX0_init 38 = .ok (.sipush 200, 3) := by decide +kernel
theorem dX0_init_41 : decode cX0_init 41 = .ok (.newarray .char, 2) := by decide +kernel
theorem dX0_init_43 : decode cX0_init 43 = .ok (.putfield 28, 3) := by decide +kernel
theorem dX0_init_46 : decode cX0_init 46 = .ok (.aload_n 0, 1) := by decide +kernel
theorem dX0_init_47 : decode cX0_init 47 = .ok (.iconst 0, 1) := by decide +kernel
theorem dX0_init_48 : decode cX0_init 48 = .ok (.putfield 32, 3) := by decide +kernel
theorem dX0_init_51 : decode cX0_init 51 = .ok (.aload_n 0, 1) := by decide +kernel
theorem dX0_init_52 : decode cX0_init 52 = .ok (.iconst 0, 1) := by decide +kernel
theorem dX0_init_53 : decode cX0_init 53 = .ok (.putfield 36, 3) := by decide +kernel
theorem dX0_init_56 : decode cX0_init 56 = .ok (.aload_n 0, 1) := by decide +kernel
theorem dX0_init_57 : decode cX0_init 57 = .ok (.iconst 0, 1) := by decide +kernel
theorem dX0_init_58 : decode cX0_init 58 = .ok (.putfield 39, 3) := by decide +kernel
theorem dX0_init_61 : decode cX0_init 61 = .ok (.aload_n 0, 1) := by decide +kernel
theorem dX0_init_62 : decode cX0_init 62 = .ok (.iconst 0, 1) := by decide +kernel
theorem dX0_init_63 : decode cX0_init 63 = .ok (.putfield 42, 3) := by decide +kernel
theorem dX0_init_66 : decode cX0_init 66 = .ok (.aload_n 0, 1) := by decide +kernel
theorem dX0_init_67 : decode cX0_init 67 = .ok (.iconst 0, 1) := by decide +kernel
theorem dX0_init_68 : decode cX0_init 68 = .ok (.putfield 46, 3) := by decide +kernel
theorem dX0_init_71 : decode cX0_init 71 = .ok (.aload_n 0, 1) := by decide +kernel
theorem dX0_init_72 : decode cX0_init 72 = .ok (.iload_n 1, 1) := by decide +kernel
theorem dX0_init_73 : decode cX0_init 73 = .ok (.putfield 49, 3) := by decide +kernel
theorem dX0_init_76 : decode cX0_init 76 = .ok (.aload_n 0, 1) := by decide +kernel
theorem dX0_init_77 : decode cX0_init 77 = .ok (.iload_n 2, 1) := by decide +kernel
theorem dX0_init_78 : decode cX0_init 78 = .ok (.putfield 52, 3) := by decide +kernel
theorem dX0_init_81 : decode cX0_init 81 = .ok (.aload_n 0, 1) := by decide +kernel
theorem dX0_init_82 : decode cX0_init 82 = .ok (.getfield 21, 3) := by decide +kernel
theorem dX0_init_85 : decode cX0_init 85 = .ok (.iload_n 1, 1) := by decide +kernel
theorem dX0_init_86 : decode cX0_init 86 = .ok (.invokevirtual 55, 3) := by decide +kernel
theorem dX0_init_89 : decode cX0_init 89 = .ok (.return_, 1) := by decide +kernel
theorem dX0_allot_0 : decode cX0_allot 0 = .ok (.aload_n 0, 1) := by decide +kernel
theorem dX0_allot_1 : decode cX0_allot 1 = .ok (.getfield 21, 3) := by decide +kernel
theorem dX0_allot_4 : decode cX0_allot 4 = .ok (.aload_n 1, 1) := by decide +kernel
theorem dX0_allot_5 : decode cX0_allot 5 = .ok (.getfield 59, 3) := by decide +kernel
theorem dX0_allot_8 : decode cX0_allot 8 = .ok (.invokevirtual 64, 3) := by decide +kernel
theorem dX0_allot_11 : decode cX0_allot 11 = .ok (.istore_n 2, 1) := by decide +kernel
theorem dX0_allot_12 : decode cX0_allot 12 = .ok (.iload_n 2, 1) := by decide +kernel
theorem dX0_allot_13 : decode cX0_allot 13 = .ok (.iconst (-1), 1) := by decide +kernel
theorem dX0_allot_14 : decode cX0_allot 14 = .ok (.if_icmp .eq 17, 3) := by decide +kernel
theorem dX0_allot_17 : decode cX0_allot 17 = .ok (.aload_n 1, 1) := by decide +kernel
theorem dX0_allot_18 : decode cX0_allot 18 = .ok (.iload_n 2, 1) := by decide +kernel
theorem dX0_allot_19 : decode cX0_allot 19 = .ok (.putfield 68, 3) := by decide +kernel
theorem dX0_allot_22 : decode cX0_allot 22 = .ok (.aload_n 0, 1) := by decide +kernel
theorem dX0_allot_23 : decode cX0_allot 23 = .ok (.getfield 12, 3) := by decide +kernel
theorem dX0_allot_26 : decode cX0_allot 26 = .ok (.aload_n 1, 1) := by decide +kernel
theorem dX0_allot_27 : decode cX0_allot 27 = .ok (.invokevirtual 71, 3) := by decide +kernel
theorem dX0_allot_30 : decode cX0_allot 30 = .ok (.pop, 1) := by decide +kernel
theorem dX0_allot_31 : decode cX0_allot 31 = .ok (.return_, 1) := by decide +kernel
theorem dX0_proposalAt_0 : decode cX0_proposalAt 0 = .ok (.iload_n 1, 1) := by decide +kernel
theorem dX0_proposalAt_1 : decode cX0_proposalAt 1 = .ok (.ifCond .lt 14, 3) := by decide +kernel
theorem dX0_proposalAt_4 : decode cX0_proposalAt 4 = .ok (.iload_n 1, 1) := by decide +kernel
theorem dX0_proposalAt_5 : decode cX0_proposalAt 5 = .ok (.aload_n 0, 1) := by decide +kernel
theorem dX0_proposalAt_6 : decode cX0_proposalAt 6 = .ok (.getfield 12, 3) := by decide +kernel
theorem dX0_proposalAt_9 : decode cX0_proposalAt 9 = .ok (.invokevirtual 75, 3) := by decide +kernel
theorem dX0_proposalAt_12 : decode cX0_proposalAt 12 = .ok (.if_icmp .lt 5, 3) := by decide +kernel
theorem dX0_proposalAt_15 : decode cX0_proposalAt 15 = .ok (.aconst_null, 1) := by decide +kernel
theorem dX0_proposalAt_16 : decode cX0_proposalAt 16 = .ok (.areturn, 1) := by decide +kernel
theorem dX0_proposalAt_17 : decode cX0_proposalAt 17 = .ok (.aload_n 0, 1) := by decide +kernel
theorem dX0_proposalAt_18 : decode cX0_proposalAt 18 = .ok (.getfield 12, 3) := by decide +kernel
theorem dX0_proposalAt_21 : decode cX0_proposalAt 21 = .ok (.iload_n 1, 1) := by decide +kernel
theorem dX0_proposalAt_22 : decode cX0_proposalAt 22 = .ok (.invokevirtual 79, 3) := by decide +kernel
theorem dX0_proposalAt_25 : decode cX0_proposalAt 25 = .ok (.checkcast 60, 3) := by decide +kernel
theorem dX0_proposalAt_28 : decode cX0_proposalAt 28 = .ok (.areturn, 1) := by decide +kernel
theorem dX0_current_0 : decode cX0_current 0 = .ok (.aload_n 0, 1) := by decide +kernel
theorem dX0_current_1 : decode cX0_current 1 = .ok (.aload_n 0, 1) := by decide +kernel
theorem dX0_current_2 : decode cX0_current 2 = .ok (.getfield 21, 3) := by decide +kernel
theorem dX0_current_5 : decode cX0_current 5 = .ok (.invokevirtual 83, 3) := by decide +kernel
theorem dX0_current_8 : decode cX0_current 8 = .ok (.invokevirtual 86, 3) := by decide +kernel
theorem dX0_current_11 : decode cX0_current 11 = .ok (.areturn, 1) := by decide +kernel
theorem dX0_runShift_0 : decode cX0_runShift 0 = .ok (.aload_n 0, 1) := by decide +kernel
theorem dX0_runShift_1 : decode cX0_runShift 1 = .ok (.invokevirtual 90, 3) := by decide +kernel
theorem dX0_runShift_4 : decode cX0_runShift 4 = .ok (.astore_n 2, 1) := by decide +kernel
theorem dX0_runShift_5 : decode cX0_runShift 5 = .ok (.aload_n 2, 1) := by decide +kernel
theorem dX0_runShift_6 : decode cX0_runShift 6 = .ok (.ifnull 27, 3) := by decide +kernel
theorem dX0_runShift_9 : decode cX0_runShift 9 = .ok (.aload_n 2, 1) := by decide +kernel
theorem dX0_runShift_10 : decode cX0_runShift 10 = .ok (.iload_n 1, 1) := by decide +kernel
theorem dX0_runShift_11 : decode cX0_runShift 11 = .ok (.invokevirtual 94, 3) := by decide +kernel
theorem dX0_runShift_14 : decode cX0_runShift 14 = .ok (.iload_n 1, 1) := by decide +kernel
theorem dX0_runShift_15 : decode cX0_runShift 15 = .ok (.bipush 100, 2) := by decide +kernel
theorem dX0_runShift_17 : decode cX0_runShift 17 = .ok (.if_icmp .ne 16, 3) := by decide +kernel
theorem dX0_runShift_20 : decode cX0_runShift 20 = .ok (.aload_n 0, 1) := by decide +kernel
theorem dX0_runShift_21 : decode cX0_runShift 21 = .ok (.dup, 1) := by decide +kernel
theorem dX0_runShift_22 : decode cX0_runShift 22 = .ok (.getfield 39, 3) := by decide +kernel
theorem dX0_runShift_25 : decode cX0_runShift 25 = .ok (.aload_n 2, 1) := by decide +kernel
theorem dX0_runShift_26 : decode cX0_runShift 26 = .ok (.getfield 98, 3) := by decide +kernel
theorem dX0_runShift_29 : decode cX0_runShift 29 = .ok (.iadd, 1) := by decide +kernel
theorem dX0_runShift_30 : decode cX0_runShift 30 = .ok (.putfield 39, 3) := by decide +kernel
theorem dX0_runShift_33 : decode cX0_runShift 33 = .ok (.aload_n 0, 1) := by decide +kernel
theorem dX0_runShift_34 : decode cX0_runShift 34 = .ok (.aload_n 0, 1) := by decide +kernel
theorem dX0_runShift_35 : decode cX0_runShift 35 = .ok (.getfield 21, 3) := by decide +kernel
theorem dX0_runShift_38 : decode cX0_runShift 38 = .ok (.iload_n 1, 1) := by decide +kernel
theorem dX0_runShift_39 : decode cX0_runShift 39 = .ok (.invokevirtual 101, 3) := by decide +kernel
theorem dX0_runShift_42 : decode cX0_runShift 42 = .ok (.invokevirtual 86, 3) := by decide +kernel
theorem dX0_runShift_45 : decode cX0_runShift 45 = .ok (.astore_n 3, 1) := by decide +kernel
theorem dX0_runShift_46 : decode cX0_runShift 46 = .ok (.aload_n 3, 1) := by decide +kernel
theorem dX0_runShift_47 : decode cX0_runShift 47 = .ok (.ifnull 13, 3) := by decide +kernel
theorem dX0_runShift_50 : decode cX0_runShift 50 = .ok (.aload_n 3, 1) := by decide +kernel
theorem dX0_runShift_51 : decode cX0_runShift 51 = .ok (.dup, 1) := by decide +kernel
theorem dX0_runShift_52 : decode cX0_runShift 52 = .ok (.getfield 105, 3) := by decide +kernel
theorem dX0_runShift_55 : decode cX0_runShift 55 = .ok (.iconst 1, 1) := by decide +kernel
theorem dX0_runShift_56 : decode cX0_runShift 56 = .ok (.iadd, 1) := by decide +kernel
theorem dX0_runShift_57 : decode cX0_runShift 57 = .ok (.putfield 105, 3) := by decide +kernel
theorem dX0_runShift_60 : decode cX0_runShift 60 = .ok (.aload_n 0, 1) := by decide +kernel
theorem dX0_runShift_61 : decode cX0_runShift 61 = .ok (.iload_n 1, 1) := by decide +kernel
theorem dX0_runShift_62 : decode cX0_runShift 62 = .ok (.invokevirtual 108, 3) := by decide +kernel
theorem dX0_runShift_65 : decode cX0_runShift 65 = .ok (.aload_n 0, 1) := by decide +kernel
theorem dX0_runShift_66 : decode cX0_runShift 66 = .ok (.iconst 0, 1) := by decide +kernel
theorem dX0_runShift_67 : decode cX0_runShift 67 = .ok (.aload_n 0, 1) := by decide +kernel
theorem dX0_runShift_68 : decode cX0_runShift 68 = .ok (.getfield 39, 3) := by decide +kernel
theorem dX0_runShift_71 : decode cX0_runShift 71 = .ok (.aload_n 0, 1) := by decide +kernel
theorem dX0_runShift_72 : decode cX0_runShift 72 = .ok (.getfield 36, 3) := by decide +kernel
theorem dX0_runShift_75 : decode cX0_runShift 75 = .ok (.isub, 1) := by decide +kernel
theorem dX0_runShift_76 : decode cX0_runShift 76 = .ok (.invokestatic 111, 3) := by decide +kernel
theorem dX0_runShift_79 : decode cX0_runShift 79 = .ok (.putfield 39, 3) := by decide +kernel
theorem dX0_runShift_82 : decode cX0_runShift 82 = .ok (.aload_n 0, 1) := by decide +kernel
theorem dX0_runShift_83 : decode cX0_runShift 83 = .ok (.iconst 0, 1) := by decide +kernel
theorem dX0_runShift_84 : decode cX0_runShift 84 = .ok (.putfield 46, 3) := by decide +kernel
theorem dX0_runShift_87 : decode cX0_runShift 87 = .ok (.return_, 1) := by decide +kernel
theorem dX0_note_0 : decode cX0_note 0 = .ok (.aload_n 0, 1) := by decide +kernel
theorem dX0_note_1 : decode cX0_note 1 = .ok (.getfield 42, 3) := by decide +kernel
theorem dX0_note_4 : decode cX0_note 4 = .ok (.ifCond .eq 35, 3) := by decide +kernel
theorem dX0_note_7 : decode cX0_note 7 = .ok (.aload_n 0, 1) := by decide +kernel
theorem dX0_note_8 : decode cX0_note 8 = .ok (.getfield 32, 3) := by decide +kernel
theorem dX0_note_11 : decode cX0_note 11 = .ok (.aload_n 0, 1) := by decide +kernel
theorem dX0_note_12 : decode cX0_note 12 = .ok (.getfield 28, 3) := by decide +kernel
theorem dX0_note_15 : decode cX0_note 15 = .ok (.arraylength, 1) := by decide +kernel
theorem dX0_note_16 : decode cX0_note 16 = .ok (.if_icmp .ge 23, 3) := by decide +kernel
theorem dX0_note_19 : decode cX0_note 19 = .ok (.aload_n 0, 1) := by decide +kernel
theorem dX0_note_20 : decode cX0_note 20 = .ok (.getfield 28, 3) := by decide +kernel
theorem dX0_note_23 : decode cX0_note 23 = .ok (.aload_n 0, 1) := by decide +kernel
theorem dX0_note_24 : decode cX0_note 24 = .ok (.getfield 32, 3) := by decide +kernel
theorem dX0_note_27 : decode cX0_note 27 = .ok (.iload_n 1, 1) := by decide +kernel
theorem dX0_note_28 : decode cX0_note 28 = .ok (.castore, 1) := by decide +kernel
theorem dX0_note_29 : decode cX0_note 29 = .ok (.aload_n 0, 1) := by decide +kernel
theorem dX0_note_30 : decode cX0_note 30 = .ok (.dup, 1) := by decide +kernel
theorem dX0_note_31 : decode cX0_note 31 = .ok (.getfield 32, 3) := by decide +kernel
theorem dX0_note_34 : decode cX0_note 34 = .ok (.iconst 1, 1) := by decide +kernel
theorem dX0_note_35 : decode cX0_note 35 = .ok (.iadd, 1) := by decide +kernel
theorem dX0_note_36 : decode cX0_note 36 = .ok (.putfield 32, 3) := by decide +kernel
theorem dX0_note_39 : decode cX0_note 39 = .ok (.return_, 1) := by decide +kernel
theorem dX0_replay_0 : decode cX0_replay 0 = .ok (.aload_n 0, 1) := by decide +kernel
theorem dX0_replay_1 : decode cX0_replay 1 = .ok (.getfield 25, 3) := by decide +kernel
theorem dX0_replay_4 : decode cX0_replay 4 = .ok (.aload_n 0, 1) := by decide +kernel
theorem dX0_replay_5 : decode cX0_replay 5 = .ok (.getfield 49, 3) := by decide +kernel
theorem dX0_replay_8 : decode cX0_replay 8 = .ok (.invokevirtual 55, 3) := by decide +kernel
theorem dX0_replay_11 : decode cX0_replay 11 = .ok (.iconst 0, 1) := by decide +kernel
theorem dX0_replay_12 : decode cX0_replay 12 = .ok (.istore_n 1, 1) := by decide +kernel
theorem dX0_replay_13 : decode cX0_replay 13 = .ok (.iload_n 1, 1) := by decide +kernel
theorem dX0_replay_14 : decode cX0_replay 14 = .ok (.aload_n 0, 1) := by decide +kernel
theorem dX0_replay_15 : decode cX0_replay 15 = .ok (.getfield 12, 3) := by decide +kernel
theorem dX0_replay_18 : decode cX0_replay 18 = .ok (.invokevirtual 75, 3) := by decide +kernel
theorem dX0_replay_21 : decode cX0_replay 21 = .ok (.if_icmp .ge 31, 3) := by decide +kernel
theorem dX0_replay_24 : decode cX0_replay 24 = .ok (.aload_n 0, 1) := by decide +kernel
theorem dX0_replay_25 : decode cX0_replay 25 = .ok (.getfield 25, 3) := by decide +kernel
theorem dX0_replay_28 : decode cX0_replay 28 = .ok (.aload_n 0, 1) := by decide +kernel
theorem dX0_replay_29 : decode cX0_replay 29 = .ok (.getfield 12, 3) := by decide +kernel
theorem dX0_replay_32 : decode cX0_replay 32 = .ok (.iload_n 1, 1) := by decide +kernel
theorem dX0_replay_33 : decode cX0_replay 33 = .ok (.invokevirtual 79, 3) := by decide +kernel
theorem dX0_replay_36 : decode cX0_replay 36 = .ok (.checkcast 60, 3) := by decide +kernel
theorem dX0_replay_39 : decode cX0_replay 39 = .ok (.getfield 59, 3) := by decide +kernel
theorem dX0_replay_42 : decode cX0_replay 42 = .ok (.invokevirtual 64, 3) := by decide +kernel
theorem dX0_replay_45 : decode cX0_replay 45 = .ok (.pop, 1) := by decide +kernel
theorem dX0_replay_46 : decode cX0_replay 46 = .ok (.iinc 1 1, 3) := by decide +kernel
theorem dX0_replay_49 : decode cX0_replay 49 = .ok (.goto (-36), 3) := by decide +kernel
theorem dX0_replay_52 : decode cX0_replay 52 = .ok (.iconst 0, 1) := by decide +kernel
theorem dX0_replay_53 : decode cX0_replay 53 = .ok (.istore_n 1, 1) := by decide +kernel
theorem dX0_replay_54 : decode cX0_replay 54 = .ok (.iload_n 1, 1) := by decide +kernel
theorem dX0_replay_55 : decode cX0_replay 55 = .ok (.aload_n 0, 1) := by decide +kernel
theorem dX0_replay_56 : decode cX0_replay 56 = .ok (.getfield 32, 3) := by decide +kernel
theorem dX0_replay_59 : decode cX0_replay 59 = .ok (.if_icmp .ge 32, 3) := by decide +kernel
theorem dX0_replay_62 : decode cX0_replay 62 = .ok (.iload_n 1, 1) := by decide +kernel
theorem dX0_replay_63 : decode cX0_replay 63 = .ok (.aload_n 0, 1) := by decide +kernel
theorem dX0_replay_64 : decode cX0_replay 64 = .ok (.getfield 28, 3) := by decide +kernel
theorem dX0_replay_67 : decode cX0_replay 67 = .ok (.arraylength, 1) := by decide +kernel
theorem dX0_replay_68 : decode cX0_replay 68 = .ok (.if_icmp .ge 23, 3) := by decide +kernel
theorem dX0_replay_71 : decode cX0_replay 71 = .ok (.aload_n 0, 1) := by decide +kernel
theorem dX0_replay_72 : decode cX0_replay 72 = .ok (.getfield 25, 3) := by decide +kernel
theorem dX0_replay_75 : decode cX0_replay 75 = .ok (.aload_n 0, 1) := by decide +kernel
theorem dX0_replay_76 : decode cX0_replay 76 = .ok (.getfield 28, 3) := by decide +kernel
theorem dX0_replay_79 : decode cX0_replay 79 = .ok (.iload_n 1, 1) := by decide +kernel
theorem dX0_replay_80 : decode cX0_replay 80 = .ok (.caload, 1) := by decide +kernel
theorem dX0_replay_81 : decode cX0_replay 81 = .ok (.invokevirtual 101, 3) := by decide +kernel
theorem dX0_replay_84 : decode cX0_replay 84 = .ok (.pop, 1) := by decide +kernel
theorem dX0_replay_85 : decode cX0_replay 85 = .ok (.iinc 1 1, 3) := by decide +kernel
theorem dX0_replay_88 : decode cX0_replay 88 = .ok (.goto (-34), 3) := by decide +kernel
theorem dX0_replay_91 : decode cX0_replay 91 = .ok (.return_, 1) := by decide +kernel
theorem dX1_init_0 : decode cX1_init 0 = .ok (.aload_n 0, 1) := by decide +kernel
theorem dX1_init_1 : decode cX1_init 1 = .ok (.invokespecial 3, 3) := by decide +kernel
theorem dX1_init_4 : decode cX1_init 4 = .ok (.aload_n 0, 1) := by decide +kernel
theorem dX1_init_5 : decode cX1_init 5 = .ok (.bipush 8, 2) := by decide +kernel
theorem dX1_init_7 : decode cX1_init 7 = .ok (.newarray .int, 2) := by decide +kernel
theorem dX1_init_9 : decode cX1_init 9 = .ok (.putfield 9, 3) := by decide +kernel
theorem dX1_init_12 : decode cX1_init 12 = .ok (.aload_n 0, 1) := by decide +kernel
theorem dX1_init_13 : decode cX1_init 13 = .ok (.iconst 0, 1) := by decide +kernel
theorem dX1_init_14 : decode cX1_init 14 = .ok (.putfield 15, 3) := by decide +kernel
theorem dX1_init_17 : decode cX1_init 17 = .ok (.aload_n 0, 1) := by decide +kernel
theorem dX1_init_18 : decode cX1_init 18 = .ok (.iconst 0, 1) := by decide +kernel
theorem dX1_init_19 : decode cX1_init 19 = .ok (.putfield 19, 3) := by decide +kernel
theorem dX1_init_22 : decode cX1_init 22 = .ok (.return_, 1) := by decide +kernel
theorem dX1_begin_0 : decode cX1_begin 0 = .ok (.aload_n 0, 1) := by decide +kernel
theorem dX1_begin_1 : decode cX1_begin 1 = .ok (.iconst 0, 1) := by decide +kernel
theorem dX1_begin_2 : decode cX1_begin 2 = .ok (.putfield 15, 3) := by decide +kernel
theorem dX1_begin_5 : decode cX1_begin 5 = .ok (.aload_n 0, 1) := by decide +kernel
theorem dX1_begin_6 : decode cX1_begin 6 = .ok (.iload_n 1, 1) := by decide +kernel
theorem dX1_begin_7 : decode cX1_begin 7 = .ok (.putfield 19, 3) := by decide +kernel
theorem dX1_begin_10 : decode cX1_begin 10 = .ok (.return_, 1) := by decide +kernel
theorem dX1_allot_0 : decode cX1_allot 0 = .ok (.iload_n 1, 1) := by decide +kernel
theorem dX1_allot_1 : decode cX1_allot 1 = .ok (.aload_n 0, 1) := by decide +kernel
theorem dX1_allot_2 : decode cX1_allot 2 = .ok (.getfield 19, 3) := by decide +kernel
theorem dX1_allot_5 : decode cX1_allot 5 = .ok (.if_icmp .gt 15, 3) := by decide +kernel
theorem dX1_allot_8 : decode cX1_allot 8 = .ok (.aload_n 0, 1) := by decide +kernel
theorem dX1_allot_9 : decode cX1_allot 9 = .ok (.getfield 15, 3) := by decide +kernel
theorem dX1_allot_12 : decode cX1_allot 12 = .ok (.aload_n 0, 1) := by decide +kernel
theorem dX1_allot_13 : decode cX1_allot 13 = .ok (.getfield 9, 3) := by decide +kernel
theorem dX1_allot_16 : decode cX1_allot 16 = .ok (.arraylength, 1) := by decide +kernel
theorem dX1_allot_17 : decode cX1_allot 17 = .ok (.if_icmp .lt 5, 3) := by decide +kernel
theorem dX1_allot_20 : decode cX1_allot 20 = .ok (.iconst (-1), 1) := by decide +kernel
theorem dX1_allot_21 : decode cX1_allot 21 = .ok (.ireturn, 1) := by decide +kernel
theorem dX1_allot_22 : decode cX1_allot 22 = .ok (.aload_n 0, 1) := by decide +kernel
theorem dX1_allot_23 : decode cX1_allot 23 = .ok (.getfield 15, 3) := by decide +kernel
theorem dX1_allot_26 : decode cX1_allot 26 = .ok (.istore_n 2, 1) := by decide +kernel
theorem dX1_allot_27 : decode cX1_allot 27 = .ok (.aload_n 0, 1) := by decide +kernel
theorem dX1_allot_28 : decode cX1_allot 28 = .ok (.getfield 9, 3) := by decide +kernel
theorem dX1_allot_31 : decode cX1_allot 31 = .ok (.iload_n 2, 1) := by decide +kernel
theorem dX1_allot_32 : decode cX1_allot 32 = .ok (.iload_n 1, 1) := by decide +kernel
theorem dX1_allot_33 : decode cX1_allot 33 = .ok (.iastore, 1) := by decide +kernel
theorem dX1_allot_34 : decode cX1_allot 34 = .ok (.aload_n 0, 1) := by decide +kernel
theorem dX1_allot_35 : decode cX1_allot 35 = .ok (.dup, 1) := by decide +kernel
theorem dX1_allot_36 : decode cX1_allot 36 = .ok (.getfield 19, 3) := by decide +kernel
theorem dX1_allot_39 : decode cX1_allot 39 = .ok (.iload_n 1, 1) := by decide +kernel
theorem dX1_allot_40 : decode cX1_allot 40 = .ok (.isub, 1) := by decide +kernel
theorem dX1_allot_41 : decode cX1_allot 41 = .ok (.putfield 19, 3) := by decide +kernel
theorem dX1_allot_44 : decode cX1_allot 44 = .ok (.aload_n 0, 1) := by decide +kernel
theorem dX1_allot_45 : decode cX1_allot 45 = .ok (.dup, 1) := by decide +kernel
theorem dX1_allot_46 : decode cX1_allot 46 = .ok (.getfield 15, 3) := by decide +kernel
theorem dX1_allot_49 : decode cX1_allot 49 = .ok (.iconst 1, 1) := by decide +kernel
theorem dX1_allot_50 : decode cX1_allot 50 = .ok (.iadd, 1) := by decide +kernel
theorem dX1_allot_51 : decode cX1_allot 51 = .ok (.putfield 15, 3) := by decide +kernel
theorem dX1_allot_54 : decode cX1_allot 54 = .ok (.iload_n 2, 1) := by decide +kernel
theorem dX1_allot_55 : decode cX1_allot 55 = .ok (.ireturn, 1) := by decide +kernel
theorem dX1_leftAt_0 : decode cX1_leftAt 0 = .ok (.iload_n 1, 1) := by decide +kernel
theorem dX1_leftAt_1 : decode cX1_leftAt 1 = .ok (.ifCond .lt 20, 3) := by decide +kernel
theorem dX1_leftAt_4 : decode cX1_leftAt 4 = .ok (.iload_n 1, 1) := by decide +kernel
theorem dX1_leftAt_5 : decode cX1_leftAt 5 = .ok (.aload_n 0, 1) := by decide +kernel
theorem dX1_leftAt_6 : decode cX1_leftAt 6 = .ok (.getfield 15, 3) := by decide +kernel
theorem dX1_leftAt_9 : decode cX1_leftAt 9 = .ok (.if_icmp .ge 12, 3) := by decide +kernel
theorem dX1_leftAt_12 : decode cX1_leftAt 12 = .ok (.iload_n 1, 1) := by decide +kernel
theorem dX1_leftAt_13 : decode cX1_leftAt 13 = .ok (.aload_n 0, 1) := by decide +kernel
theorem dX1_leftAt_14 : decode cX1_leftAt 14 = .ok (.getfield 9, 3) := by decide +kernel
theorem dX1_leftAt_17 : decode cX1_leftAt 17 = .ok (.arraylength, 1) := by decide +kernel
theorem dX1_leftAt_18 : decode cX1_leftAt 18 = .ok (.if_icmp .lt 5, 3) := by decide +kernel
theorem dX1_leftAt_21 : decode cX1_leftAt 21 = .ok (.iconst 0, 1) := by decide +kernel
theorem dX1_leftAt_22 : decode cX1_leftAt 22 = .ok (.ireturn, 1) := by decide +kernel
theorem dX1_leftAt_23 : decode cX1_leftAt 23 = .ok (.aload_n 0, 1) := by decide +kernel
theorem dX1_leftAt_24 : decode cX1_leftAt 24 = .ok (.getfield 9, 3) := by decide +kernel
theorem dX1_leftAt_27 : decode cX1_leftAt 27 = .ok (.iload_n 1, 1) := by decide +kernel
theorem dX1_leftAt_28 : decode cX1_leftAt 28 = .ok (.iaload, 1) := by decide +kernel
theorem dX1_leftAt_29 : decode cX1_leftAt 29 = .ok (.ireturn, 1) := by decide +kernel
theorem dX1_leftAheadOf_0 : decode cX1_leftAheadOf 0 = .ok (.iconst 0, 1) := by decide +kernel
theorem dX1_leftAheadOf_1 : decode cX1_leftAheadOf 1 = .ok (.istore_n 2, 1) := by decide +kernel
theorem dX1_leftAheadOf_2 : decode cX1_leftAheadOf 2 = .ok (.iconst 0, 1) := by decide +kernel
theorem dX1_leftAheadOf_3 : decode cX1_leftAheadOf 3 = .ok (.istore_n 3, 1) := by decide +kernel
theorem dX1_leftAheadOf_4 : decode cX1_leftAheadOf 4 = .ok (.iload_n 3, 1) := by decide +kernel
theorem dX1_leftAheadOf_5 : decode cX1_leftAheadOf 5 = .ok (.iload_n 1, 1) := by decide +kernel
theorem dX1_leftAheadOf_6 : decode cX1_leftAheadOf 6 = .ok (.if_icmp .ge 25, 3) := by decide +kernel
theorem dX1_leftAheadOf_9 : decode cX1_leftAheadOf 9 = .ok (.iload_n 3, 1) := by decide +kernel
theorem dX1_leftAheadOf_10 : decode cX1_leftAheadOf 10 = .ok (.aload_n 0, 1) := by decide +kernel
theorem dX1_leftAheadOf_11 : decode cX1_leftAheadOf 11 = .ok (.getfield 15, 3) := by decide +kernel
theorem dX1_leftAheadOf_14 : decode cX1_leftAheadOf 14 = .ok (.if_icmp .ge 17, 3) := by decide +kernel
theorem dX1_leftAheadOf_17 : decode cX1_leftAheadOf 17 = .ok (.iload_n 2, 1) := by decide +kernel
theorem dX1_leftAheadOf_18 : decode cX1_leftAheadOf 18 = .ok (.aload_n 0, 1) := by decide +kernel
theorem dX1_leftAheadOf_19 : decode cX1_leftAheadOf 19 = .ok (.iload_n 3, 1) := by decide +kernel
theorem dX1_leftAheadOf_20 : decode cX1_leftAheadOf 20 = .ok (.invokevirtual 22, 3) := by decide +kernel
theorem dX1_leftAheadOf_23 : decode cX1_leftAheadOf 23 = .ok (.iadd, 1) := by decide +kernel
theorem dX1_leftAheadOf_24 : decode cX1_leftAheadOf 24 = .ok (.istore_n 2, 1) := by decide +kernel
theorem dX1_leftAheadOf_25 : decode cX1_leftAheadOf 25 = .ok (.iinc 3 1, 3) := by decide +kernel
theorem dX1_leftAheadOf_28 : decode cX1_leftAheadOf 28 = .ok (.goto (-24), 3) := by decide +kernel
theorem dX1_leftAheadOf_31 : decode cX1_leftAheadOf 31 = .ok (.iload_n 2, 1) := by decide +kernel
theorem dX1_leftAheadOf_32 : decode cX1_leftAheadOf 32 = .ok (.ireturn, 1) := by decide +kernel
theorem dX1_firstPlace_0 : decode cX1_firstPlace 0 = .ok (.iconst 0, 1) := by decide +kernel
theorem dX1_firstPlace_1 : decode cX1_firstPlace 1 = .ok (.istore_n 1, 1) := by decide +kernel
theorem dX1_firstPlace_2 : decode cX1_firstPlace 2 = .ok (.iload_n 1, 1) := by decide +kernel
theorem dX1_firstPlace_3 : decode cX1_firstPlace 3 = .ok (.aload_n 0, 1) := by decide +kernel
theorem dX1_firstPlace_4 : decode cX1_firstPlace 4 = .ok (.getfield 15, 3) := by decide +kernel
theorem dX1_firstPlace_7 : decode cX1_firstPlace 7 = .ok (.if_icmp .ge 19, 3) := by decide +kernel
theorem dX1_firstPlace_10 : decode cX1_firstPlace 10 = .ok (.aload_n 0, 1) := by decide +kernel
theorem dX1_firstPlace_11 : decode cX1_firstPlace 11 = .ok (.iload_n 1, 1) := by decide +kernel
theorem dX1_firstPlace_12 : decode cX1_firstPlace 12 = .ok (.invokevirtual 22, 3) := by decide +kernel
theorem dX1_firstPlace_15 : decode cX1_firstPlace 15 = .ok (.ifCond .le 5, 3) := by decide +kernel
theorem dX1_firstPlace_18 : decode cX1_firstPlace 18 = .ok (.iload_n 1, 1) := by decide +kernel
theorem dX1_firstPlace_19 : decode cX1_firstPlace 19 = .ok (.ireturn, 1) := by decide +kernel
theorem dX1_firstPlace_20 : decode cX1_firstPlace 20 = .ok (.iinc 1 1, 3) := by decide +kernel
theorem dX1_firstPlace_23 : decode cX1_firstPlace 23 = .ok (.goto (-21), 3) := by decide +kernel
theorem dX1_firstPlace_26 : decode cX1_firstPlace 26 = .ok (.iconst (-1), 1) := by decide +kernel
theorem dX1_firstPlace_27 : decode cX1_firstPlace 27 = .ok (.ireturn, 1) := by decide +kernel
theorem dX1_lastPlace_0 : decode cX1_lastPlace 0 = .ok (.aload_n 0, 1) := by decide +kernel
theorem dX1_lastPlace_1 : decode cX1_lastPlace 1 = .ok (.getfield 15, 3) := by decide +kernel
theorem dX1_lastPlace_4 : decode cX1_lastPlace 4 = .ok (.iconst 1, 1) := by decide +kernel
theorem dX1_lastPlace_5 : decode cX1_lastPlace 5 = .ok (.isub, 1) := by decide +kernel
theorem dX1_lastPlace_6 : decode cX1_lastPlace 6 = .ok (.istore_n 1, 1) := by decide +kernel
theorem dX1_lastPlace_7 : decode cX1_lastPlace 7 = .ok (.iload_n 1, 1) := by decide +kernel
theorem dX1_lastPlace_8 : decode cX1_lastPlace 8 = .ok (.ifCond .lt 19, 3) := by decide +kernel
theorem dX1_lastPlace_11 : decode cX1_lastPlace 11 = .ok (.aload_n 0, 1) := by decide +kernel
theorem dX1_lastPlace_12 : decode cX1_lastPlace 12 = .ok (.iload_n 1, 1) := by decide +kernel
theorem dX1_lastPlace_13 : decode cX1_lastPlace 13 = .ok (.invokevirtual 22, 3) := by decide +kernel
theorem dX1_lastPlace_16 : decode cX1_lastPlace 16 = .ok (.ifCond .le 5, 3) := by decide +kernel
theorem dX1_lastPlace_19 : decode cX1_lastPlace 19 = .ok (.iload_n 1, 1) := by decide +kernel
theorem dX1_lastPlace_20 : decode cX1_lastPlace 20 = .ok (.ireturn, 1) := by decide +kernel
theorem dX1_lastPlace_21 : decode cX1_lastPlace 21 = .ok (.iinc 1 (-1), 3) := by decide +kernel
theorem dX1_lastPlace_24 : decode cX1_lastPlace 24 = .ok (.goto (-17), 3) := by decide +kernel
theorem dX1_lastPlace_27 : decode cX1_lastPlace 27 = .ok (.iconst (-1), 1) := by decide +kernel
theorem dX1_lastPlace_28 : decode cX1_lastPlace 28 = .ok (.ireturn, 1) := by decide +kernel
theorem dX1_takeFrom_0 : decode cX1_takeFrom 0 = .ok (.iload_n 1, 1) := by decide +kernel
theorem dX1_takeFrom_1 : decode cX1_takeFrom 1 = .ok (.ifCond .lt 31, 3) := by decide +kernel
theorem dX1_takeFrom_4 : decode cX1_takeFrom 4 = .ok (.iload_n 1, 1) := by decide +kernel
theorem dX1_takeFrom_5 : decode cX1_takeFrom 5 = .ok (.aload_n 0, 1) := by decide +kernel
theorem dX1_takeFrom_6 : decode cX1_takeFrom 6 = .ok (.getfield 9, 3) := by decide +kernel
theorem dX1_takeFrom_9 : decode cX1_takeFrom 9 = .ok (.arraylength, 1) := by decide +kernel
theorem dX1_takeFrom_10 : decode cX1_takeFrom 10 = .ok (.if_icmp .ge 22, 3) := by decide +kernel
theorem dX1_takeFrom_13 : decode cX1_takeFrom 13 = .ok (.aload_n 0, 1) := by decide +kernel
theorem dX1_takeFrom_14 : decode cX1_takeFrom 14 = .ok (.getfield 9, 3) := by decide +kernel
theorem dX1_takeFrom_17 : decode cX1_takeFrom 17 = .ok (.iload_n 1, 1) := by decide +kernel
theorem dX1_takeFrom_18 : decode cX1_takeFrom 18 = .ok (.iaload, 1) := by decide +kernel
theorem dX1_takeFrom_19 : decode cX1_takeFrom 19 = .ok (.ifCond .le 13, 3) := by decide +kernel
theorem dX1_takeFrom_22 : decode cX1_takeFrom 22 = .ok (.aload_n 0, 1) := by decide +kernel
theorem dX1_takeFrom_23 : decode cX1_takeFrom 23 = .ok (.getfield 9, 3) := by decide +kernel
theorem dX1_takeFrom_26 : decode cX1_takeFrom 26 = .ok (.iload_n 1, 1) := by decide +kernel
theorem dX1_takeFrom_27 : decode cX1_takeFrom 27 = .ok (.dup2, 1) := by decide +kernel
theorem dX1_takeFrom_28 : decode cX1_takeFrom 28 = .ok (.iaload, 1) := by decide +kernel
theorem dX1_takeFrom_29 : decode cX1_takeFrom 29 = .ok (.iconst 1, 1) := by decide +kernel
theorem dX1_takeFrom_30 : decode cX1_takeFrom 30 = .ok (.isub, 1) := by decide +kernel
theorem dX1_takeFrom_31 : decode cX1_takeFrom 31 = .ok (.iastore, 1) := by decide +kernel
theorem dX1_takeFrom_32 : decode cX1_takeFrom 32 = .ok (.return_, 1) := by decide +kernel
theorem dX1_follow_0 : decode cX1_follow 0 = .ok (.iload_n 1, 1) := by decide +kernel
theorem dX1_follow_1 : decode cX1_follow 1 = .ok (.bipush 100, 2) := by decide +kernel
theorem dX1_follow_3 : decode cX1_follow 3 = .ok (.if_icmp .eq 9, 3) := by decide +kernel
theorem dX1_follow_6 : decode cX1_follow 6 = .ok (.iload_n 1, 1) := by decide +kernel
theorem dX1_follow_7 : decode cX1_follow 7 = .ok (.bipush 109, 2) := by decide +kernel
theorem dX1_follow_9 : decode cX1_follow 9 = .ok (.if_icmp .ne 11, 3) := by decide +kernel
theorem dX1_follow_12 : decode cX1_follow 12 = .ok (.aload_n 0, 1) := by decide +kernel
theorem dX1_follow_13 : decode cX1_follow 13 = .ok (.aload_n 0, 1) := by decide +kernel
theorem dX1_follow_14 : decode cX1_follow 14 = .ok (.invokevirtual 26, 3) := by decide +kernel
theorem dX1_follow_17 : decode cX1_follow 17 = .ok (.invokevirtual 30, 3) := by decide +kernel
theorem dX1_follow_20 : decode cX1_follow 20 = .ok (.iload_n 1, 1) := by decide +kernel
theorem dX1_follow_21 : decode cX1_follow 21 = .ok (.bipush 108, 2) := by decide +kernel
theorem dX1_follow_23 : decode cX1_follow 23 = .ok (.if_icmp .ne 8, 3) := by decide +kernel
theorem dX1_follow_26 : decode cX1_follow 26 = .ok (.aload_n 0, 1) := by decide +kernel
theorem dX1_follow_27 : decode cX1_follow 27 = .ok (.invokevirtual 34, 3) := by decide +kernel
theorem dX1_follow_30 : decode cX1_follow 30 = .ok (.ireturn, 1) := by decide +kernel
theorem dX1_follow_31 : decode cX1_follow 31 = .ok (.iconst (-1), 1) := by decide +kernel
theorem dX1_follow_32 : decode cX1_follow 32 = .ok (.ireturn, 1) := by decide +kernel
theorem dX1_lose_0 : decode cX1_lose 0 = .ok (.aload_n 0, 1) := by decide +kernel
theorem dX1_lose_1 : decode cX1_lose 1 = .ok (.getfield 19, 3) := by decide +kernel
theorem dX1_lose_4 : decode cX1_lose 4 = .ok (.ifCond .le 15, 3) := by decide +kernel
theorem dX1_lose_7 : decode cX1_lose 7 = .ok (.aload_n 0, 1) := by decide +kernel
theorem dX1_lose_8 : decode cX1_lose 8 = .ok (.dup, 1) := by decide +kernel
theorem dX1_lose_9 : decode cX1_lose 9 = .ok (.getfield 19, 3) := by decide +kernel
theorem dX1_lose_12 : decode cX1_lose 12 = .ok (.iconst 1, 1) := by decide +kernel
theorem dX1_lose_13 : decode cX1_lose 13 = .ok (.isub, 1) := by decide +kernel
theorem dX1_lose_14 : decode cX1_lose 14 = .ok (.putfield 19, 3) := by decide +kernel
theorem dX1_lose_17 : decode cX1_lose 17 = .ok (.iconst (-1), 1) := by decide +kernel
theorem dX1_lose_18 : decode cX1_lose 18 = .ok (.ireturn, 1) := by decide +kernel
theorem dX1_lose_19 : decode cX1_lose 19 = .ok (.aload_n 0, 1) := by decide +kernel
theorem dX1_lose_20 : decode cX1_lose 20 = .ok (.invokevirtual 37, 3) := by decide +kernel
theorem dX1_lose_23 : decode cX1_lose 23 = .ok (.istore_n 1, 1) := by decide +kernel
theorem dX1_lose_24 : decode cX1_lose 24 = .ok (.aload_n 0, 1) := by decide +kernel
theorem dX1_lose_25 : decode cX1_lose 25 = .ok (.iload_n 1, 1) := by decide +kernel
theorem dX1_lose_26 : decode cX1_lose 26 = .ok (.invokevirtual 30, 3) := by decide +kernel
theorem dX1_lose_29 : decode cX1_lose 29 = .ok (.iload_n 1, 1) := by decide +kernel
theorem dX1_lose_30 : decode cX1_lose 30 = .ok (.ireturn, 1) := by decide +kernel
theorem dX2_init_0 : decode cX2_init 0 = .ok (.aload_n 0, 1) := by decide +kernel
theorem dX2_init_1 : decode cX2_init 1 = .ok (.invokespecial 3, 3) := by decide +kernel
theorem dX2_init_4 : decode cX2_init 4 = .ok (.aload_n 0, 1) := by decide +kernel
theorem dX2_init_5 : decode cX2_init 5 = .ok (.iconst (-1), 1) := by decide +kernel
theorem dX2_init_6 : decode cX2_init 6 = .ok (.putfield 9, 3) := by decide +kernel
theorem dX2_init_9 : decode cX2_init 9 = .ok (.aload_n 0, 1) := by decide +kernel
theorem dX2_init_10 : decode cX2_init 10 = .ok (.iconst (-1), 1) := by decide +kernel
theorem dX2_init_11 : decode cX2_init 11 = .ok (.putfield 15, 3) := by decide +kernel
theorem dX2_init_14 : decode cX2_init 14 = .ok (.aload_n 0, 1) := by decide +kernel
theorem dX2_init_15 : decode cX2_init 15 = .ok (.bipush 114, 2) := by decide +kernel
theorem dX2_init_17 : decode cX2_init 17 = .ok (.putfield 18, 3) := by decide +kernel
theorem dX2_init_20 : decode cX2_init 20 = .ok (.aload_n 0, 1) := by decide +kernel
theorem dX2_init_21 : decode cX2_init 21 = .ok (.iconst 0, 1) := by decide +kernel
theorem dX2_init_22 : decode cX2_init 22 = .ok (.putfield 22, 3) := by decide +kernel
theorem dX2_init_25 : decode cX2_init 25 = .ok (.aload_n 0, 1) := by decide +kernel
theorem dX2_init_26 : decode cX2_init 26 = .ok (.iconst 0, 1) := by decide +kernel
theorem dX2_init_27 : decode cX2_init 27 = .ok (.putfield 25, 3) := by decide +kernel
theorem dX2_init_30 : decode cX2_init 30 = .ok (.aload_n 0, 1) := by decide +kernel
theorem dX2_init_31 : decode cX2_init 31 = .ok (.iconst 0, 1) := by decide +kernel
theorem dX2_init_32 : decode cX2_init 32 = .ok (.putfield 28, 3) := by decide +kernel
theorem dX2_init_35 : decode cX2_init 35 = .ok (.aload_n 0, 1) := by decide +kernel
theorem dX2_init_36 : decode cX2_init 36 = .ok (.iconst 0, 1) := by decide +kernel
theorem dX2_init_37 : decode cX2_init 37 = .ok (.putfield 31, 3) := by decide +kernel
theorem dX2_init_40 : decode cX2_init 40 = .ok (.aload_n 0, 1) := by decide +kernel
theorem dX2_init_41 : decode cX2_init 41 = .ok (.iload_n 1, 1) := by decide +kernel
theorem dX2_init_42 : decode cX2_init 42 = .ok (.putfield 34, 3) := by decide +kernel
theorem dX2_init_45 : decode cX2_init 45 = .ok (.aload_n 0, 1) := by decide +kernel
theorem dX2_init_46 : decode cX2_init 46 = .ok (.aload_n 2, 1) := by decide +kernel
theorem dX2_init_47 : decode cX2_init 47 = .ok (.putfield 37, 3) := by decide +kernel
theorem dX2_init_50 : decode cX2_init 50 = .ok (.aload_n 0, 1) := by decide +kernel
theorem dX2_init_51 : decode cX2_init 51 = .ok (.iload_n 3, 1) := by decide +kernel
theorem dX2_init_52 : decode cX2_init 52 = .ok (.putfield 41, 3) := by decide +kernel
theorem dX2_init_55 : decode cX2_init 55 = .ok (.aload_n 0, 1) := by decide +kernel
theorem dX2_init_56 : decode cX2_init 56 = .ok (.iload 4, 2) := by decide +kernel
theorem dX2_init_58 : decode cX2_init 58 = .ok (.putfield 44, 3) := by decide +kernel
theorem dX2_init_61 : decode cX2_init 61 = .ok (.aload_n 0, 1) := by decide +kernel
theorem dX2_init_62 : decode cX2_init 62 = .ok (.iload 5, 2) := by decide +kernel
theorem dX2_init_64 : decode cX2_init 64 = .ok (.putfield 47, 3) := by decide +kernel
theorem dX2_init_67 : decode cX2_init 67 = .ok (.aload_n 0, 1) := by decide +kernel
theorem dX2_init_68 : decode cX2_init 68 = .ok (.iload 6, 2) := by decide +kernel
theorem dX2_init_70 : decode cX2_init 70 = .ok (.putfield 50, 3) := by decide +kernel
theorem dX2_init_73 : decode cX2_init 73 = .ok (.return_, 1) := by decide +kernel
theorem dX2_hasSample_0 : decode cX2_hasSample 0 = .ok (.aload_n 0, 1) := by decide +kernel
theorem dX2_hasSample_1 : decode cX2_hasSample 1 = .ok (.getfield 15, 3) := by decide +kernel
theorem dX2_hasSample_4 : decode cX2_hasSample 4 = .ok (.iconst (-1), 1) := by decide +kernel
theorem dX2_hasSample_5 : decode cX2_hasSample 5 = .ok (.if_icmp .eq 7, 3) := by decide +kernel
theorem dX2_hasSample_8 : decode cX2_hasSample 8 = .ok (.iconst 1, 1) := by decide +kernel
theorem dX2_hasSample_9 : decode cX2_hasSample 9 = .ok (.goto 4, 3) := by decide +kernel
theorem dX2_hasSample_12 : decode cX2_hasSample 12 = .ok (.iconst 0, 1) := by decide +kernel
theorem dX2_hasSample_13 : decode cX2_hasSample 13 = .ok (.ireturn, 1) := by decide +kernel
theorem dX2_isCold_0 : decode cX2_isCold 0 = .ok (.aload_n 0, 1) := by decide +kernel
theorem dX2_isCold_1 : decode cX2_isCold 1 = .ok (.invokevirtual 53, 3) := by decide +kernel
theorem dX2_isCold_4 : decode cX2_isCold 4 = .ok (.ifCond .eq 16, 3) := by decide +kernel
theorem dX2_isCold_7 : decode cX2_isCold 7 = .ok (.aload_n 0, 1) := by decide +kernel
theorem dX2_isCold_8 : decode cX2_isCold 8 = .ok (.getfield 18, 3) := by decide +kernel
theorem dX2_isCold_11 : decode cX2_isCold 11 = .ok (.bipush 99, 2) := by decide +kernel
theorem dX2_isCold_13 : decode cX2_isCold 13 = .ok (.if_icmp .ne 7, 3) := by decide +kernel
theorem dX2_isCold_16 : decode cX2_isCold 16 = .ok (.iconst 1, 1) := by decide +kernel
theorem dX2_isCold_17 : decode cX2_isCold 17 = .ok (.goto 4, 3) := by decide +kernel
theorem dX2_isCold_20 : decode cX2_isCold 20 = .ok (.iconst 0, 1) := by decide +kernel
theorem dX2_isCold_21 : decode cX2_isCold 21 = .ok (.ireturn, 1) := by decide +kernel
theorem dX2_hasGoodSampleAtBeamline_0 : decode cX2_hasGoodSampleAtBeamline 0 = .ok (.aload_n 0, 1) := by decide +kernel
theorem dX2_hasGoodSampleAtBeamline_1 : decode cX2_hasGoodSampleAtBeamline 1 = .ok (.getfield 15, 3) := by decide +kernel
theorem dX2_hasGoodSampleAtBeamline_4 : decode cX2_hasGoodSampleAtBeamline 4 = .ok (.ifCond .le 16, 3) := by decide +kernel
theorem dX2_hasGoodSampleAtBeamline_7 : decode cX2_hasGoodSampleAtBeamline 7 = .ok (.aload_n 0, 1) := by decide +kernel
theorem dX2_hasGoodSampleAtBeamline_8 : decode cX2_hasGoodSampleAtBeamline 8 = .ok (.getfield 18, 3) := by decide +kernel
theorem dX2_hasGoodSampleAtBeamline_11 : decode cX2_hasGoodSampleAtBeamline 11 = .ok (.bipush 98, 2) := by decide +kernel
theorem dX2_hasGoodSampleAtBeamline_13 : decode cX2_hasGoodSampleAtBeamline 13 = .ok (.if_icmp .ne 7, 3) := by decide +kernel
theorem dX2_hasGoodSampleAtBeamline_16 : decode cX2_hasGoodSampleAtBeamline 16 = .ok (.iconst 1, 1) := by decide +kernel
theorem dX2_hasGoodSampleAtBeamline_17 : decode cX2_hasGoodSampleAtBeamline 17 = .ok (.goto 4, 3) := by decide +kernel
theorem dX2_hasGoodSampleAtBeamline_20 : decode cX2_hasGoodSampleAtBeamline 20 = .ok (.iconst 0, 1) := by decide +kernel
theorem dX2_hasGoodSampleAtBeamline_21 : decode cX2_hasGoodSampleAtBeamline 21 = .ok (.ireturn, 1) := by decide +kernel
theorem dX2_ageSample_0 : decode cX2_ageSample 0 = .ok (.aload_n 0, 1) := by decide +kernel
theorem dX2_ageSample_1 : decode cX2_ageSample 1 = .ok (.getfield 15, 3) := by decide +kernel
theorem dX2_ageSample_4 : decode cX2_ageSample 4 = .ok (.ifCond .le 22, 3) := by decide +kernel
theorem dX2_ageSample_7 : decode cX2_ageSample 7 = .ok (.aload_n 0, 1) := by decide +kernel
theorem dX2_ageSample_8 : decode cX2_ageSample 8 = .ok (.getfield 18, 3) := by decide +kernel
theorem dX2_ageSample_11 : decode cX2_ageSample 11 = .ok (.bipush 99, 2) := by decide +kernel
theorem dX2_ageSample_13 : decode cX2_ageSample 13 = .ok (.if_icmp .eq 13, 3) := by decide +kernel
theorem dX2_ageSample_16 : decode cX2_ageSample 16 = .ok (.aload_n 0, 1) := by decide +kernel
theorem dX2_ageSample_17 : decode cX2_ageSample 17 = .ok (.dup, 1) := by decide +kernel
theorem dX2_ageSample_18 : decode cX2_ageSample 18 = .ok (.getfield 15, 3) := by decide +kernel
theorem dX2_ageSample_21 : decode cX2_ageSample 21 = .ok (.iconst 1, 1) := by decide +kernel
theorem dX2_ageSample_22 : decode cX2_ageSample 22 = .ok (.isub, 1) := by decide +kernel
theorem dX2_ageSample_23 : decode cX2_ageSample 23 = .ok (.putfield 15, 3) := by decide +kernel
theorem dX2_ageSample_26 : decode cX2_ageSample 26 = .ok (.return_, 1) := by decide +kernel
theorem dX2_countShift_0 : decode cX2_countShift 0 = .ok (.iload_n 1, 1) := by decide +kernel
theorem dX2_countShift_1 : decode cX2_countShift 1 = .ok (.bipush 100, 2) := by decide +kernel
theorem dX2_countShift_3 : decode cX2_countShift 3 = .ok (.if_icmp .ne 16, 3) := by decide +kernel
theorem dX2_countShift_6 : decode cX2_countShift 6 = .ok (.aload_n 0, 1) := by decide +kernel
theorem dX2_countShift_7 : decode cX2_countShift 7 = .ok (.dup, 1) := by decide +kernel
theorem dX2_countShift_8 : decode cX2_countShift 8 = .ok (.getfield 22, 3) := by decide +kernel
theorem dX2_countShift_11 : decode cX2_countShift 11 = .ok (.iconst 1, 1) := by decide +kernel
theorem dX2_countShift_12 : decode cX2_countShift 12 = .ok (.iadd, 1) := by decide +kernel
theorem dX2_countShift_13 : decode cX2_countShift 13 = .ok (.putfield 22, 3) := by decide +kernel
theorem dX2_countShift_16 : decode cX2_countShift 16 = .ok (.goto 38, 3) := by decide +kernel
theorem dX2_countShift_19 : decode cX2_countShift 19 = .ok (.iload_n 1, 1) := by decide +kernel
theorem dX2_countShift_20 : decode cX2_countShift 20 = .ok (.bipush 109, 2) := by decide +kernel
theorem dX2_countShift_22 : decode cX2_countShift 22 = .ok (.if_icmp .ne 16, 3) := by decide +kernel
theorem dX2_countShift_25 : decode cX2_countShift 25 = .ok (.aload_n 0, 1) := by decide +kernel
theorem dX2_countShift_26 : decode cX2_countShift 26 = .ok (.dup, 1) := by decide +kernel
theorem dX2_countShift_27 : decode cX2_countShift 27 = .ok (.getfield 25, 3) := by decide +kernel
theorem dX2_countShift_30 : decode cX2_countShift 30 = .ok (.iconst 1, 1) := by decide +kernel
theorem dX2_countShift_31 : decode cX2_countShift 31 = .ok (.iadd, 1) := by decide +kernel
theorem dX2_countShift_32 : decode cX2_countShift 32 = .ok (.putfield 25, 3) := by decide +kernel
theorem dX2_countShift_35 : decode cX2_countShift 35 = .ok (.goto 19, 3) := by decide +kernel
theorem dX2_countShift_38 : decode cX2_countShift 38 = .ok (.iload_n 1, 1) := by decide +kernel
theorem dX2_countShift_39 : decode cX2_countShift 39 = .ok (.bipush 108, 2) := by decide +kernel
theorem dX2_countShift_41 : decode cX2_countShift 41 = .ok (.if_icmp .ne 13, 3) := by decide +kernel
theorem dX2_countShift_44 : decode cX2_countShift 44 = .ok (.aload_n 0, 1) := by decide +kernel
theorem dX2_countShift_45 : decode cX2_countShift 45 = .ok (.dup, 1) := by decide +kernel
theorem dX2_countShift_46 : decode cX2_countShift 46 = .ok (.getfield 28, 3) := by decide +kernel
theorem dX2_countShift_49 : decode cX2_countShift 49 = .ok (.iconst 1, 1) := by decide +kernel
theorem dX2_countShift_50 : decode cX2_countShift 50 = .ok (.iadd, 1) := by decide +kernel
theorem dX2_countShift_51 : decode cX2_countShift 51 = .ok (.putfield 28, 3) := by decide +kernel
theorem dX2_countShift_54 : decode cX2_countShift 54 = .ok (.return_, 1) := by decide +kernel
theorem dX3_init_0 : decode cX3_init 0 = .ok (.aload_n 0, 1) := by decide +kernel
theorem dX3_init_1 : decode cX3_init 1 = .ok (.invokespecial 1, 3) := by decide +kernel
theorem dX3_init_4 : decode cX3_init 4 = .ok (.aload_n 0, 1) := by decide +kernel
theorem dX3_init_5 : decode cX3_init 5 = .ok (.new 7, 3) := by decide +kernel
theorem dX3_init_8 : decode cX3_init 8 = .ok (.dup, 1) := by decide +kernel
theorem dX3_init_9 : decode cX3_init 9 = .ok (.invokespecial 9, 3) := by decide +kernel
theorem dX3_init_12 : decode cX3_init 12 = .ok (.putfield 10, 3) := by decide +kernel
theorem dX3_init_15 : decode cX3_init 15 = .ok (.aload_n 0, 1) := by decide +kernel
theorem dX3_init_16 : decode cX3_init 16 = .ok (.new 7, 3) := by decide +kernel
theorem dX3_init_19 : decode cX3_init 19 = .ok (.dup, 1) := by decide +kernel
theorem dX3_init_20 : decode cX3_init 20 = .ok (.invokespecial 9, 3) := by decide +kernel
theorem dX3_init_23 : decode cX3_init 23 = .ok (.putfield 16, 3) := by decide +kernel
theorem dX3_init_26 : decode cX3_init 26 = .ok (.aload_n 0, 1) := by decide +kernel
theorem dX3_init_27 : decode cX3_init 27 = .ok (.bipush 10, 2) := by decide +kernel
theorem dX3_init_29 : decode cX3_init 29 = .ok (.newarray .boolean, 2) := by decide +kernel
theorem dX3_init_31 : decode cX3_init 31 = .ok (.putfield 19, 3) := by decide +kernel
theorem dX3_init_34 : decode cX3_init 34 = .ok (.aload_n 0, 1) := by decide +kernel
theorem dX3_init_35 : decode cX3_init 35 = .ok (.bipush 10, 2) := by decide +kernel
theorem dX3_init_37 : decode cX3_init 37 = .ok (.newarray .boolean, 2) := by decide +kernel
theorem dX3_init_39 : decode cX3_init 39 = .ok (.putfield 23, 3) := by decide +kernel
theorem dX3_init_42 : decode cX3_init 42 = .ok (.aload_n 0, 1) := by decide +kernel
theorem dX3_init_43 : decode cX3_init 43 = .ok (.iconst 0, 1) := by decide +kernel
theorem dX3_init_44 : decode cX3_init 44 = .ok (.putfield 26, 3) := by decide +kernel
theorem dX3_init_47 : decode cX3_init 47 = .ok (.return_, 1) := by decide +kernel
theorem dX3_addBeamline_0 : decode cX3_addBeamline 0 = .ok (.iload_n 1, 1) := by decide +kernel
theorem dX3_addBeamline_1 : decode cX3_addBeamline 1 = .ok (.iconst 3, 1) := by decide +kernel
theorem dX3_addBeamline_2 : decode cX3_addBeamline 2 = .ok (.bipush 40, 2) := by decide +kernel
theorem dX3_addBeamline_4 : decode cX3_addBeamline 4 = .ok (.invokestatic 30, 3) := by decide +kernel
theorem dX3_addBeamline_7 : decode cX3_addBeamline 7 = .ok (.ifCond .ne 13, 3) := by decide +kernel
theorem dX3_addBeamline_10 : decode cX3_addBeamline 10 = .ok (.new 34, 3) := by decide +kernel
theorem dX3_addBeamline_13 : decode cX3_addBeamline 13 = .ok (.dup, 1) := by decide +kernel
theorem dX3_addBeamline_14 : decode cX3_addBeamline 14 = .ok (.ldc 36, 2) := by decide +kernel
theorem dX3_addBeamline_16 : decode cX3_addBeamline 16 = .ok (.invokespecial 38, 3) := by decide +kernel
theorem dX3_addBeamline_19 : decode cX3_addBeamline 19 = .ok (.athrow, 1) := by decide +kernel
theorem dX3_addBeamline_20 : decode cX3_addBeamline 20 = .ok (.iload_n 2, 1) := by decide +kernel
theorem dX3_addBeamline_21 : decode cX3_addBeamline 21 = .ok (.bipush 10, 2) := by decide +kernel
theorem dX3_addBeamline_23 : decode cX3_addBeamline 23 = .ok (.sipush 999, 3) := by decide +kernel
theorem dX3_addBeamline_26 : decode cX3_addBeamline 26 = .ok (.invokestatic 30, 3) := by decide +kernel
theorem dX3_addBeamline_29 : decode cX3_addBeamline 29 = .ok (.ifCond .ne 13, 3) := by decide +kernel
theorem dX3_addBeamline_32 : decode cX3_addBeamline 32 = .ok (.new 34, 3) := by decide +kernel
theorem dX3_addBeamline_35 : decode cX3_addBeamline 35 = .ok (.dup, 1) := by decide +kernel
theorem dX3_addBeamline_36 : decode cX3_addBeamline 36 = .ok (.ldc 41, 2) := by decide +kernel
theorem dX3_addBeamline_38 : decode cX3_addBeamline 38 = .ok (.invokespecial 38, 3) := by decide +kernel
theorem dX3_addBeamline_41 : decode cX3_addBeamline 41 = .ok (.athrow, 1) := by decide +kernel
theorem dX3_addBeamline_42 : decode cX3_addBeamline 42 = .ok (.aload_n 0, 1) := by decide +kernel
theorem dX3_addBeamline_43 : decode cX3_addBeamline 43 = .ok (.getfield 10, 3) := by decide +kernel
theorem dX3_addBeamline_46 : decode cX3_addBeamline 46 = .ok (.invokevirtual 43, 3) := by decide +kernel
theorem dX3_addBeamline_49 : decode cX3_addBeamline 49 = .ok (.iconst 2, 1) := by decide +kernel
theorem dX3_addBeamline_50 : decode cX3_addBeamline 50 = .ok (.if_icmp .lt 13, 3) := by decide +kernel
theorem dX3_addBeamline_53 : decode cX3_addBeamline 53 = .ok (.new 47, 3) := by decide +kernel
theorem dX3_addBeamline_56 : decode cX3_addBeamline 56 = .ok (.dup, 1) := by decide +kernel
theorem dX3_addBeamline_57 : decode cX3_addBeamline 57 = .ok (.ldc 49, 2) := by decide +kernel
theorem dX3_addBeamline_59 : decode cX3_addBeamline 59 = .ok (.invokespecial 51, 3) := by decide +kernel
theorem dX3_addBeamline_62 : decode cX3_addBeamline 62 = .ok (.athrow, 1) := by decide +kernel
theorem dX3_addBeamline_63 : decode cX3_addBeamline 63 = .ok (.aload_n 0, 1) := by decide +kernel
theorem dX3_addBeamline_64 : decode cX3_addBeamline 64 = .ok (.getfield 10, 3) := by decide +kernel
theorem dX3_addBeamline_67 : decode cX3_addBeamline 67 = .ok (.new 52, 3) := by decide +kernel
theorem dX3_addBeamline_70 : decode cX3_addBeamline 70 = .ok (.dup, 1) := by decide +kernel
theorem dX3_addBeamline_71 : decode cX3_addBeamline 71 = .ok (.iload_n 1, 1) := by decide +kernel
theorem dX3_addBeamline_72 : decode cX3_addBeamline 72 = .ok (.iload_n 2, 1) := by decide +kernel
theorem dX3_addBeamline_73 : decode cX3_addBeamline 73 = .ok (.invokespecial 54, 3) := by decide +kernel
theorem dX3_addBeamline_76 : decode cX3_addBeamline 76 = .ok (.invokevirtual 57, 3) := by decide +kernel
theorem dX3_addBeamline_79 : decode cX3_addBeamline 79 = .ok (.pop, 1) := by decide +kernel
theorem dX3_addBeamline_80 : decode cX3_addBeamline 80 = .ok (.aload_n 0, 1) := by decide +kernel
theorem dX3_addBeamline_81 : decode cX3_addBeamline 81 = .ok (.getfield 10, 3) := by decide +kernel
theorem dX3_addBeamline_84 : decode cX3_addBeamline 84 = .ok (.invokevirtual 43, 3) := by decide +kernel
theorem dX3_addBeamline_87 : decode cX3_addBeamline 87 = .ok (.iconst 1, 1) := by decide +kernel
theorem dX3_addBeamline_88 : decode cX3_addBeamline 88 = .ok (.isub, 1) := by decide +kernel
theorem dX3_addBeamline_89 : decode cX3_addBeamline 89 = .ok (.ireturn, 1) := by decide +kernel
theorem dX3_setRate_0 : decode cX3_setRate 0 = .ok (.aload_n 0, 1) := by decide +kernel
theorem dX3_setRate_1 : decode cX3_setRate 1 = .ok (.iload_n 1, 1) := by decide +kernel
theorem dX3_setRate_2 : decode cX3_setRate 2 = .ok (.invokevirtual 61, 3) := by decide +kernel
theorem dX3_setRate_5 : decode cX3_setRate 5 = .ok (.astore_n 3, 1) := by decide +kernel
theorem dX3_setRate_6 : decode cX3_setRate 6 = .ok (.iload_n 2, 1) := by decide +kernel
theorem dX3_setRate_7 : decode cX3_setRate 7 = .ok (.iconst 0, 1) := by decide +kernel
theorem dX3_setRate_8 : decode cX3_setRate 8 = .ok (.bipush 99, 2) := by decide +kernel
theorem dX3_setRate_10 : decode cX3_setRate 10 = .ok (.invokestatic 30, 3) := by decide +kernel
theorem dX3_setRate_13 : decode cX3_setRate 13 = .ok (.ifCond .ne 13, 3) := by decide +kernel
theorem dX3_setRate_16 : decode cX3_setRate 16 = .ok (.new 34, 3) := by decide +kernel
theorem dX3_setRate_19 : decode cX3_setRate 19 = .ok (.dup, 1) := by decide +kernel
theorem dX3_setRate_20 : decode cX3_setRate 20 = .ok (.ldc 65, 2) := by decide +kernel
theorem dX3_setRate_22 : decode cX3_setRate 22 = .ok (.invokespecial 38, 3) := by decide +kernel
theorem dX3_setRate_25 : decode cX3_setRate 25 = .ok (.athrow, 1) := by decide +kernel
theorem dX3_setRate_26 : decode cX3_setRate 26 = .ok (.aload_n 3, 1) := by decide +kernel
theorem dX3_setRate_27 : decode cX3_setRate 27 = .ok (.getfield 67, 3) := by decide +kernel
theorem dX3_setRate_30 : decode cX3_setRate 30 = .ok (.istore 4, 2) := by decide +kernel
theorem dX3_setRate_32 : decode cX3_setRate 32 = .ok (.aload_n 3, 1) := by decide +kernel
theorem dX3_setRate_33 : decode cX3_setRate 33 = .ok (.iload_n 2, 1) := by decide +kernel
theorem dX3_setRate_34 : decode cX3_setRate 34 = .ok (.putfield 67, 3) := by decide +kernel
theorem dX3_setRate_37 : decode cX3_setRate 37 = .ok (.iload 4, 2) := by decide +kernel
theorem dX3_setRate_39 : decode cX3_setRate 39 = .ok (.ireturn, 1) := by decide +kernel
theorem dX3_propose_0 : decode cX3_propose 0 = .ok (.aload_n 0, 1) := by decide +kernel
theorem dX3_propose_1 : decode cX3_propose 1 = .ok (.iload_n 1, 1) := by decide +kernel
theorem dX3_propose_2 : decode cX3_propose 2 = .ok (.invokevirtual 61, 3) := by decide +kernel
theorem dX3_propose_5 : decode cX3_propose 5 = .ok (.astore 6, 2) := by decide +kernel
theorem dX3_propose_7 : decode cX3_propose 7 = .ok (.iload_n 2, 1) := by decide +kernel
theorem dX3_propose_8 : decode cX3_propose 8 = .ok (.iconst 0, 1) := by decide +kernel
theorem dX3_propose_9 : decode cX3_propose 9 = .ok (.bipush 9, 2) := by decide +kernel
theorem dX3_propose_11 : decode cX3_propose 11 = .ok (.invokestatic 30, 3) := by decide +kernel
theorem dX3_propose_14 : decode cX3_propose 14 = .ok (.ifCond .ne 13, 3) := by decide +kernel
theorem dX3_propose_17 : decode cX3_propose 17 = .ok (.new 34, 3) := by decide +kernel
theorem dX3_propose_20 : decode cX3_propose 20 = .ok (.dup, 1) := by decide +kernel
theorem dX3_propose_21 : decode cX3_propose 21 = .ok (.ldc 70, 2) := by decide +kernel
theorem dX3_propose_23 : decode cX3_propose 23 = .ok (.invokespecial 38, 3) := by decide +kernel
theorem dX3_propose_26 : decode cX3_propose 26 = .ok (.athrow, 1) := by decide +kernel
theorem dX3_propose_27 : decode cX3_propose 27 = .ok (.iload_n 3, 1) := by decide +kernel
theorem dX3_propose_28 : decode cX3_propose 28 = .ok (.iconst 0, 1) := by decide +kernel
theorem dX3_propose_29 : decode cX3_propose 29 = .ok (.bipush 100, 2) := by decide +kernel
theorem dX3_propose_31 : decode cX3_propose 31 = .ok (.invokestatic 30, 3) := by decide +kernel
theorem dX3_propose_34 : decode cX3_propose 34 = .ok (.ifCond .ne 13, 3) := by decide +kernel
theorem dX3_propose_37 : decode cX3_propose 37 = .ok (.new 34, 3) := by decide +kernel
theorem dX3_propose_40 : decode cX3_propose 40 = .ok (.dup, 1) := by decide +kernel
theorem dX3_propose_41 : decode cX3_propose 41 = .ok (.ldc 72, 2) := by decide +kernel
theorem dX3_propose_43 : decode cX3_propose 43 = .ok (.invokespecial 38, 3) := by decide +kernel
theorem dX3_propose_46 : decode cX3_propose 46 = .ok (.athrow, 1) := by decide +kernel
theorem dX3_propose_47 : decode cX3_propose 47 = .ok (.iload 4, 2) := by decide +kernel
theorem dX3_propose_49 : decode cX3_propose 49 = .ok (.iconst 1, 1) := by decide +kernel
theorem dX3_propose_50 : decode cX3_propose 50 = .ok (.bipush 9, 2) := by decide +kernel
theorem dX3_propose_52 : decode cX3_propose 52 = .ok (.invokestatic 30, 3) := by decide +kernel
theorem dX3_propose_55 : decode cX3_propose 55 = .ok (.ifCond .ne 13, 3) := by decide +kernel
theorem dX3_propose_58 : decode cX3_propose 58 = .ok (.new 34, 3) := by decide +kernel
theorem dX3_propose_61 : decode cX3_propose 61 = .ok (.dup, 1) := by decide +kernel
theorem dX3_propose_62 : decode cX3_propose 62 = .ok (.ldc 74, 2) := by decide +kernel
theorem dX3_propose_64 : decode cX3_propose 64 = .ok (.invokespecial 38, 3) := by decide +kernel
theorem dX3_propose_67 : decode cX3_propose 67 = .ok (.athrow, 1) := by decide +kernel
theorem dX3_propose_68 : decode cX3_propose 68 = .ok (.iload 5, 2) := by decide +kernel
theorem dX3_propose_70 : decode cX3_propose 70 = .ok (.iconst 0, 1) := by decide +kernel
theorem dX3_propose_71 : decode cX3_propose 71 = .ok (.bipush 99, 2) := by decide +kernel
theorem dX3_propose_73 : decode cX3_propose 73 = .ok (.invokestatic 30, 3) := by decide +kernel
theorem dX3_propose_76 : decode cX3_propose 76 = .ok (.ifCond .ne 13, 3) := by decide +kernel
theorem dX3_propose_79 : decode cX3_propose 79 = .ok (.new 34, 3) := by decide +kernel
theorem dX3_propose_82 : decode cX3_propose 82 = .ok (.dup, 1) := by decide +kernel
theorem dX3_propose_83 : decode cX3_propose 83 = .ok (.ldc 76, 2) := by decide +kernel
theorem dX3_propose_85 : decode cX3_propose 85 = .ok (.invokespecial 38, 3) := by decide +kernel
theorem dX3_propose_88 : decode cX3_propose 88 = .ok (.athrow, 1) := by decide +kernel
theorem dX3_propose_89 : decode cX3_propose 89 = .ok (.aload 6, 2) := by decide +kernel
theorem dX3_propose_91 : decode cX3_propose 91 = .ok (.getfield 78, 3) := by decide +kernel
theorem dX3_propose_94 : decode cX3_propose 94 = .ok (.ifCond .eq 13, 3) := by decide +kernel
theorem dX3_propose_97 : decode cX3_propose 97 = .ok (.new 47, 3) := by decide +kernel
theorem dX3_propose_100 : decode cX3_propose 100 = .ok (.dup, 1) := by decide +kernel
theorem dX3_propose_101 : decode cX3_propose 101 = .ok (.ldc 82, 2) := by decide +kernel
theorem dX3_propose_103 : decode cX3_propose 103 = .ok (.invokespecial 51, 3) := by decide +kernel
theorem dX3_propose_106 : decode cX3_propose 106 = .ok (.athrow, 1) := by decide +kernel
theorem dX3_propose_107 : decode cX3_propose 107 = .ok (.aload_n 0, 1) := by decide +kernel
theorem dX3_propose_108 : decode cX3_propose 108 = .ok (.getfield 16, 3) := by decide +kernel
theorem dX3_propose_111 : decode cX3_propose 111 = .ok (.invokevirtual 43, 3) := by decide +kernel
theorem dX3_propose_114 : decode cX3_propose 114 = .ok (.bipush 8, 2) := by decide +kernel
theorem dX3_propose_116 : decode cX3_propose 116 = .ok (.if_icmp .lt 13, 3) := by decide +kernel
theorem dX3_propose_119 : decode cX3_propose 119 = .ok (.new 47, 3) := by decide +kernel
theorem dX3_propose_122 : decode cX3_propose 122 = .ok (.dup, 1) := by decide +kernel
theorem dX3_propose_123 : decode cX3_propose 123 = .ok (.ldc 84, 2) := by decide +kernel
theorem dX3_propose_125 : decode cX3_propose 125 = .ok (.invokespecial 51, 3) := by decide +kernel
theorem dX3_propose_128 : decode cX3_propose 128 = .ok (.athrow, 1) := by decide +kernel
theorem dX3_propose_129 : decode cX3_propose 129 = .ok (.aload_n 0, 1) := by decide +kernel
theorem dX3_propose_130 : decode cX3_propose 130 = .ok (.getfield 16, 3) := by decide +kernel
theorem dX3_propose_133 : decode cX3_propose 133 = .ok (.invokevirtual 43, 3) := by decide +kernel
theorem dX3_propose_136 : decode cX3_propose 136 = .ok (.istore 7, 2) := by decide +kernel
theorem dX3_propose_138 : decode cX3_propose 138 = .ok (.aload_n 0, 1) := by decide +kernel
theorem dX3_propose_139 : decode cX3_propose 139 = .ok (.getfield 16, 3) := by decide +kernel
theorem dX3_propose_142 : decode cX3_propose 142 = .ok (.new 86, 3) := by decide +kernel
theorem dX3_propose_145 : decode cX3_propose 145 = .ok (.dup, 1) := by decide +kernel
theorem dX3_propose_146 : decode cX3_propose 146 = .ok (.iload 7, 2) := by decide +kernel
theorem dX3_propose_148 : decode cX3_propose 148 = .ok (.aload 6, 2) := by decide +kernel
theorem dX3_propose_150 : decode cX3_propose 150 = .ok (.iload_n 2, 1) := by decide +kernel
theorem dX3_propose_151 : decode cX3_propose 151 = .ok (.iload_n 3, 1) := by decide +kernel
theorem dX3_propose_152 : decode cX3_propose 152 = .ok (.iload 4, 2) := by decide +kernel
theorem dX3_propose_154 : decode cX3_propose 154 = .ok (.iload 5, 2) := by decide +kernel
theorem dX3_propose_156 : decode cX3_propose 156 = .ok (.invokespecial 88, 3) := by decide +kernel
theorem dX3_propose_159 : decode cX3_propose 159 = .ok (.invokevirtual 57, 3) := by decide +kernel
theorem dX3_propose_162 : decode cX3_propose 162 = .ok (.pop, 1) := by decide +kernel
theorem dX3_propose_163 : decode cX3_propose 163 = .ok (.iload 7, 2) := by decide +kernel
theorem dX3_propose_165 : decode cX3_propose 165 = .ok (.ireturn, 1) := by decide +kernel
theorem dX3_meet_0 : decode cX3_meet 0 = .ok (.aload_n 0, 1) := by decide +kernel
theorem dX3_meet_1 : decode cX3_meet 1 = .ok (.iload_n 1, 1) := by decide +kernel
theorem dX3_meet_2 : decode cX3_meet 2 = .ok (.invokevirtual 61, 3) := by decide +kernel
theorem dX3_meet_5 : decode cX3_meet 5 = .ok (.astore_n 2, 1) := by decide +kernel
theorem dX3_meet_6 : decode cX3_meet 6 = .ok (.aload_n 2, 1) := by decide +kernel
theorem dX3_meet_7 : decode cX3_meet 7 = .ok (.getfield 78, 3) := by decide +kernel
theorem dX3_meet_10 : decode cX3_meet 10 = .ok (.ifCond .eq 13, 3) := by decide +kernel
theorem dX3_meet_13 : decode cX3_meet 13 = .ok (.new 47, 3) := by decide +kernel
theorem dX3_meet_16 : decode cX3_meet 16 = .ok (.dup, 1) := by decide +kernel
theorem dX3_meet_17 : decode cX3_meet 17 = .ok (.ldc 82, 2) := by decide +kernel
theorem dX3_meet_19 : decode cX3_meet 19 = .ok (.invokespecial 51, 3) := by decide +kernel
theorem dX3_meet_22 : decode cX3_meet 22 = .ok (.athrow, 1) := by decide +kernel
theorem dX3_meet_23 : decode cX3_meet 23 = .ok (.aload_n 2, 1) := by decide +kernel
theorem dX3_meet_24 : decode cX3_meet 24 = .ok (.iconst 1, 1) := by decide +kernel
theorem dX3_meet_25 : decode cX3_meet 25 = .ok (.putfield 78, 3) := by decide +kernel
theorem dX3_meet_28 : decode cX3_meet 28 = .ok (.bipush 100, 2) := by decide +kernel
theorem dX3_meet_30 : decode cX3_meet 30 = .ok (.istore_n 3, 1) := by decide +kernel
theorem dX3_meet_31 : decode cX3_meet 31 = .ok (.iload_n 3, 1) := by decide +kernel
theorem dX3_meet_32 : decode cX3_meet 32 = .ok (.ifCond .lt 15, 3) := by decide +kernel
theorem dX3_meet_35 : decode cX3_meet 35 = .ok (.aload_n 0, 1) := by decide +kernel
theorem dX3_meet_36 : decode cX3_meet 36 = .ok (.aload_n 2, 1) := by decide +kernel
theorem dX3_meet_37 : decode cX3_meet 37 = .ok (.iload_n 3, 1) := by decide +kernel
theorem dX3_meet_38 : decode cX3_meet 38 = .ok (.invokevirtual 91, 3) := by decide +kernel
theorem dX3_meet_41 : decode cX3_meet 41 = .ok (.iinc 3 (-1), 3) := by decide +kernel
theorem dX3_meet_44 : decode cX3_meet 44 = .ok (.goto (-13), 3) := by decide +kernel
theorem dX3_meet_47 : decode cX3_meet 47 = .ok (.aload_n 2, 1) := by decide +kernel
theorem dX3_meet_48 : decode cX3_meet 48 = .ok (.getfield 95, 3) := by decide +kernel
theorem dX3_meet_51 : decode cX3_meet 51 = .ok (.invokevirtual 43, 3) := by decide +kernel
theorem dX3_meet_54 : decode cX3_meet 54 = .ok (.ireturn, 1) := by decide +kernel
theorem dX3_reserve_0 : decode cX3_reserve 0 = .ok (.aload_n 0, 1) := by decide +kernel
theorem dX3_reserve_1 : decode cX3_reserve 1 = .ok (.iload_n 1, 1) := by decide +kernel
theorem dX3_reserve_2 : decode cX3_reserve 2 = .ok (.invokevirtual 61, 3) := by decide +kernel
theorem dX3_reserve_5 : decode cX3_reserve 5 = .ok (.astore_n 2, 1) := by decide +kernel
theorem dX3_reserve_6 : decode cX3_reserve 6 = .ok (.aload_n 2, 1) := by decide +kernel
theorem dX3_reserve_7 : decode cX3_reserve 7 = .ok (.getfield 78, 3) := by decide +kernel
theorem dX3_reserve_10 : decode cX3_reserve 10 = .ok (.ifCond .ne 13, 3) := by decide +kernel
theorem dX3_reserve_13 : decode cX3_reserve 13 = .ok (.new 47, 3) := by decide +kernel
theorem dX3_reserve_16 : decode cX3_reserve 16 = .ok (.dup, 1) := by decide +kernel
theorem dX3_reserve_17 : decode cX3_reserve 17 = .ok (.ldc 98, 2) := by decide +kernel
theorem dX3_reserve_19 : decode cX3_reserve 19 = .ok (.invokespecial 51, 3) := by decide +kernel
theorem dX3_reserve_22 : decode cX3_reserve 22 = .ok (.athrow, 1) := by decide +kernel
theorem dX3_reserve_23 : decode cX3_reserve 23 = .ok (.aload_n 2, 1) := by decide +kernel
theorem dX3_reserve_24 : decode cX3_reserve 24 = .ok (.getfield 100, 3) := by decide +kernel
theorem dX3_reserve_27 : decode cX3_reserve 27 = .ok (.getfield 104, 3) := by decide +kernel
theorem dX3_reserve_30 : decode cX3_reserve 30 = .ok (.ireturn, 1) := by decide +kernel
theorem dX3_train_0 : decode cX3_train 0 = .ok (.iload_n 1, 1) := by decide +kernel
theorem dX3_train_1 : decode cX3_train 1 = .ok (.ifCond .lt 12, 3) := by decide +kernel
theorem dX3_train_4 : decode cX3_train 4 = .ok (.iload_n 1, 1) := by decide +kernel
theorem dX3_train_5 : decode cX3_train 5 = .ok (.aload_n 0, 1) := by decide +kernel
theorem dX3_train_6 : decode cX3_train 6 = .ok (.getfield 19, 3) := by decide +kernel
theorem dX3_train_9 : decode cX3_train 9 = .ok (.arraylength, 1) := by decide +kernel
theorem dX3_train_10 : decode cX3_train 10 = .ok (.if_icmp .lt 13, 3) := by decide +kernel
theorem dX3_train_13 : decode cX3_train 13 = .ok (.new 109, 3) := by decide +kernel
theorem dX3_train_16 : decode cX3_train 16 = .ok (.dup, 1) := by decide +kernel
theorem dX3_train_17 : decode cX3_train 17 = .ok (.ldc 111, 2) := by decide +kernel
theorem dX3_train_19 : decode cX3_train 19 = .ok (.invokespecial 113, 3) := by decide +kernel
theorem dX3_train_22 : decode cX3_train 22 = .ok (.athrow, 1) := by decide +kernel
theorem dX3_train_23 : decode cX3_train 23 = .ok (.aload_n 0, 1) := by decide +kernel
theorem dX3_train_24 : decode cX3_train 24 = .ok (.getfield 19, 3) := by decide +kernel
theorem dX3_train_27 : decode cX3_train 27 = .ok (.iload_n 1, 1) := by decide +kernel
theorem dX3_train_28 : decode cX3_train 28 = .ok (.baload, 1) := by decide +kernel
theorem dX3_train_29 : decode cX3_train 29 = .ok (.ifCond .eq 13, 3) := by decide +kernel
theorem dX3_train_32 : decode cX3_train 32 = .ok (.new 47, 3) := by decide +kernel
theorem dX3_train_35 : decode cX3_train 35 = .ok (.dup, 1) := by decide +kernel
theorem dX3_train_36 : decode cX3_train 36 = .ok (.ldc 114, 2) := by decide +kernel
theorem dX3_train_38 : decode cX3_train 38 = .ok (.invokespecial 51, 3) := by decide +kernel
theorem dX3_train_41 : decode cX3_train 41 = .ok (.athrow, 1) := by decide +kernel
theorem dX3_train_42 : decode cX3_train 42 = .ok (.aload_n 0, 1) := by decide +kernel
theorem dX3_train_43 : decode cX3_train 43 = .ok (.getfield 19, 3) := by decide +kernel
theorem dX3_train_46 : decode cX3_train 46 = .ok (.iload_n 1, 1) := by decide +kernel
theorem dX3_train_47 : decode cX3_train 47 = .ok (.iconst 1, 1) := by decide +kernel
theorem dX3_train_48 : decode cX3_train 48 = .ok (.bastore, 1) := by decide +kernel
theorem dX3_train_49 : decode cX3_train 49 = .ok (.iconst 0, 1) := by decide +kernel
theorem dX3_train_50 : decode cX3_train 50 = .ok (.istore_n 2, 1) := by decide +kernel
theorem dX3_train_51 : decode cX3_train 51 = .ok (.aload_n 0, 1) := by decide +kernel
theorem dX3_train_52 : decode cX3_train 52 = .ok (.getfield 19, 3) := by decide +kernel
theorem dX3_train_55 : decode cX3_train 55 = .ok (.astore_n 3, 1) := by decide +kernel
theorem dX3_train_56 : decode cX3_train 56 = .ok (.aload_n 3, 1) := by decide +kernel
theorem dX3_train_57 : decode cX3_train 57 = .ok (.arraylength, 1) := by decide +kernel
theorem dX3_train_58 : decode cX3_train 58 = .ok (.istore 4, 2) := by decide +kernel
theorem dX3_train_60 : decode cX3_train 60 = .ok (.iconst 0, 1) := by decide +kernel
theorem dX3_train_61 : decode cX3_train 61 = .ok (.istore 5, 2) := by decide +kernel
theorem dX3_train_63 : decode cX3_train 63 = .ok (.iload 5, 2) := by decide +kernel
theorem dX3_train_65 : decode cX3_train 65 = .ok (.iload 4, 2) := by decide +kernel
theorem dX3_train_67 : decode cX3_train 67 = .ok (.if_icmp .ge 23, 3) := by decide +kernel
theorem dX3_train_70 : decode cX3_train 70 = .ok (.aload_n 3, 1) := by decide +kernel
theorem dX3_train_71 : decode cX3_train 71 = .ok (.iload 5, 2) := by decide +kernel
theorem dX3_train_73 : decode cX3_train 73 = .ok (.baload, 1) := by decide +kernel
theorem dX3_train_74 : decode cX3_train 74 = .ok (.istore 6, 2) := by decide +kernel
theorem dX3_train_76 : decode cX3_train 76 = .ok (.iload 6, 2) := by decide +kernel
theorem dX3_train_78 : decode cX3_train 78 = .ok (.ifCond .eq 6, 3) := by decide +kernel
theorem dX3_train_81 : decode cX3_train 81 = .ok (.iinc 2 1, 3) := by decide +kernel
theorem dX3_train_84 : decode cX3_train 84 = .ok (.iinc 5 1, 3) := by decide +kernel
theorem dX3_train_87 : decode cX3_train 87 = .ok (.goto (-24), 3) := by decide +kernel
theorem dX3_train_90 : decode cX3_train 90 = .ok (.iload_n 2, 1) := by decide +kernel
theorem dX3_train_91 : decode cX3_train 91 = .ok (.ireturn, 1) := by decide +kernel
theorem dX3_setThere_0 : decode cX3_setThere 0 = .ok (.iload_n 1, 1) := by decide +kernel
theorem dX3_setThere_1 : decode cX3_setThere 1 = .ok (.ifCond .lt 12, 3) := by decide +kernel
theorem dX3_setThere_4 : decode cX3_setThere 4 = .ok (.iload_n 1, 1) := by decide +kernel
theorem dX3_setThere_5 : decode cX3_setThere 5 = .ok (.aload_n 0, 1) := by decide +kernel
theorem dX3_setThere_6 : decode cX3_setThere 6 = .ok (.getfield 23, 3) := by decide +kernel
theorem dX3_setThere_9 : decode cX3_setThere 9 = .ok (.arraylength, 1) := by decide +kernel
theorem dX3_setThere_10 : decode cX3_setThere 10 = .ok (.if_icmp .lt 13, 3) := by decide +kernel
theorem dX3_setThere_13 : decode cX3_setThere 13 = .ok (.new 109, 3) := by decide +kernel
theorem dX3_setThere_16 : decode cX3_setThere 16 = .ok (.dup, 1) := by decide +kernel
theorem dX3_setThere_17 : decode cX3_setThere 17 = .ok (.ldc 111, 2) := by decide +kernel
theorem dX3_setThere_19 : decode cX3_setThere 19 = .ok (.invokespecial 113, 3) := by decide +kernel
theorem dX3_setThere_22 : decode cX3_setThere 22 = .ok (.athrow, 1) := by decide +kernel
theorem dX3_setThere_23 : decode cX3_setThere 23 = .ok (.aload_n 0, 1) := by decide +kernel
theorem dX3_setThere_24 : decode cX3_setThere 24 = .ok (.getfield 23, 3) := by decide +kernel
theorem dX3_setThere_27 : decode cX3_setThere 27 = .ok (.iload_n 1, 1) := by decide +kernel
theorem dX3_setThere_28 : decode cX3_setThere 28 = .ok (.baload, 1) := by decide +kernel
theorem dX3_setThere_29 : decode cX3_setThere 29 = .ok (.istore_n 3, 1) := by decide +kernel
theorem dX3_setThere_30 : decode cX3_setThere 30 = .ok (.aload_n 0, 1) := by decide +kernel
theorem dX3_setThere_31 : decode cX3_setThere 31 = .ok (.getfield 23, 3) := by decide +kernel
theorem dX3_setThere_34 : decode cX3_setThere 34 = .ok (.iload_n 1, 1) := by decide +kernel
theorem dX3_setThere_35 : decode cX3_setThere 35 = .ok (.iload_n 2, 1) := by decide +kernel
theorem dX3_setThere_36 : decode cX3_setThere 36 = .ok (.bastore, 1) := by decide +kernel
theorem dX3_setThere_37 : decode cX3_setThere 37 = .ok (.iload_n 3, 1) := by decide +kernel
theorem dX3_setThere_38 : decode cX3_setThere 38 = .ok (.ireturn, 1) := by decide +kernel
theorem dX3_bring_0 : decode cX3_bring 0 = .ok (.aload_n 0, 1) := by decide +kernel
theorem dX3_bring_1 : decode cX3_bring 1 = .ok (.iload_n 1, 1) := by decide +kernel
theorem dX3_bring_2 : decode cX3_bring 2 = .ok (.invokevirtual 116, 3) := by decide +kernel
theorem dX3_bring_5 : decode cX3_bring 5 = .ok (.astore_n 3, 1) := by decide +kernel
theorem dX3_bring_6 : decode cX3_bring 6 = .ok (.iload_n 2, 1) := by decide +kernel
theorem dX3_bring_7 : decode cX3_bring 7 = .ok (.iconst 1, 1) := by decide +kernel
theorem dX3_bring_8 : decode cX3_bring 8 = .ok (.bipush 50, 2) := by decide +kernel
theorem dX3_bring_10 : decode cX3_bring 10 = .ok (.invokestatic 30, 3) := by decide +kernel
theorem dX3_bring_13 : decode cX3_bring 13 = .ok (.ifCond .ne 13, 3) := by decide +kernel
theorem dX3_bring_16 : decode cX3_bring 16 = .ok (.new 34, 3) := by decide +kernel
theorem dX3_bring_19 : decode cX3_bring 19 = .ok (.dup, 1) := by decide +kernel
theorem dX3_bring_20 : decode cX3_bring 20 = .ok (.ldc 120, 2) := by decide +kernel
theorem dX3_bring_22 : decode cX3_bring 22 = .ok (.invokespecial 38, 3) := by decide +kernel
theorem dX3_bring_25 : decode cX3_bring 25 = .ok (.athrow, 1) := by decide +kernel
theorem dX3_bring_26 : decode cX3_bring 26 = .ok (.aload_n 3, 1) := by decide +kernel
theorem dX3_bring_27 : decode cX3_bring 27 = .ok (.getfield 122, 3) := by decide +kernel
theorem dX3_bring_30 : decode cX3_bring 30 = .ok (.istore 4, 2) := by decide +kernel
theorem dX3_bring_32 : decode cX3_bring 32 = .ok (.aload_n 3, 1) := by decide +kernel
theorem dX3_bring_33 : decode cX3_bring 33 = .ok (.iload_n 2, 1) := by decide +kernel
theorem dX3_bring_34 : decode cX3_bring 34 = .ok (.putfield 122, 3) := by decide +kernel
theorem dX3_bring_37 : decode cX3_bring 37 = .ok (.aload_n 3, 1) := by decide +kernel
theorem dX3_bring_38 : decode cX3_bring 38 = .ok (.bipush 114, 2) := by decide +kernel
theorem dX3_bring_40 : decode cX3_bring 40 = .ok (.putfield 125, 3) := by decide +kernel
theorem dX3_bring_43 : decode cX3_bring 43 = .ok (.iload 4, 2) := by decide +kernel
theorem dX3_bring_45 : decode cX3_bring 45 = .ok (.ireturn, 1) := by decide +kernel
theorem dX3_put_0 : decode cX3_put 0 = .ok (.aload_n 0, 1) := by decide +kernel
theorem dX3_put_1 : decode cX3_put 1 = .ok (.iload_n 1, 1) := by decide +kernel
theorem dX3_put_2 : decode cX3_put 2 = .ok (.invokevirtual 116, 3) := by decide +kernel
theorem dX3_put_5 : decode cX3_put 5 = .ok (.astore_n 3, 1) := by decide +kernel
theorem dX3_put_6 : decode cX3_put 6 = .ok (.iload_n 2, 1) := by decide +kernel
theorem dX3_put_7 : decode cX3_put 7 = .ok (.bipush 114, 2) := by decide +kernel
theorem dX3_put_9 : decode cX3_put 9 = .ok (.if_icmp .eq 25, 3) := by decide +kernel
theorem dX3_put_12 : decode cX3_put 12 = .ok (.iload_n 2, 1) := by decide +kernel
theorem dX3_put_13 : decode cX3_put 13 = .ok (.bipush 99, 2) := by decide +kernel
theorem dX3_put_15 : decode cX3_put 15 = .ok (.if_icmp .eq 19, 3) := by decide +kernel
theorem dX3_put_18 : decode cX3_put 18 = .ok (.iload_n 2, 1) := by decide +kernel
theorem dX3_put_19 : decode cX3_put 19 = .ok (.bipush 98, 2) := by decide +kernel
theorem dX3_put_21 : decode cX3_put 21 = .ok (.if_icmp .eq 13, 3) := by decide +kernel
theorem dX3_put_24 : decode cX3_put 24 = .ok (.new 34, 3) := by decide +kernel
theorem dX3_put_27 : decode cX3_put 27 = .ok (.dup, 1) := by decide +kernel
theorem dX3_put_28 : decode cX3_put 28 = .ok (.ldc 129, 2) := by decide +kernel
theorem dX3_put_30 : decode cX3_put 30 = .ok (.invokespecial 38, 3) := by decide +kernel
theorem dX3_put_33 : decode cX3_put 33 = .ok (.athrow, 1) := by decide +kernel
theorem dX3_put_34 : decode cX3_put 34 = .ok (.aload_n 3, 1) := by decide +kernel
theorem dX3_put_35 : decode cX3_put 35 = .ok (.invokevirtual 131, 3) := by decide +kernel
theorem dX3_put_38 : decode cX3_put 38 = .ok (.ifCond .ne 13, 3) := by decide +kernel
theorem dX3_put_41 : decode cX3_put 41 = .ok (.new 135, 3) := by decide +kernel
theorem dX3_put_44 : decode cX3_put 44 = .ok (.dup, 1) := by decide +kernel
theorem dX3_put_45 : decode cX3_put 45 = .ok (.ldc 137, 2) := by decide +kernel
theorem dX3_put_47 : decode cX3_put 47 = .ok (.invokespecial 139, 3) := by decide +kernel
theorem dX3_put_50 : decode cX3_put 50 = .ok (.athrow, 1) := by decide +kernel
theorem dX3_put_51 : decode cX3_put 51 = .ok (.iload_n 2, 1) := by decide +kernel
theorem dX3_put_52 : decode cX3_put 52 = .ok (.bipush 99, 2) := by decide +kernel
theorem dX3_put_54 : decode cX3_put 54 = .ok (.if_icmp .ne 28, 3) := by decide +kernel
theorem dX3_put_57 : decode cX3_put 57 = .ok (.aload_n 3, 1) := by decide +kernel
theorem dX3_put_58 : decode cX3_put 58 = .ok (.invokevirtual 140, 3) := by decide +kernel
theorem dX3_put_61 : decode cX3_put 61 = .ok (.ifCond .ne 21, 3) := by decide +kernel
theorem dX3_put_64 : decode cX3_put 64 = .ok (.aload_n 0, 1) := by decide +kernel
theorem dX3_put_65 : decode cX3_put 65 = .ok (.invokevirtual 143, 3) := by decide +kernel
theorem dX3_put_68 : decode cX3_put 68 = .ok (.iconst 3, 1) := by decide +kernel
theorem dX3_put_69 : decode cX3_put 69 = .ok (.if_icmp .lt 13, 3) := by decide +kernel
theorem dX3_put_72 : decode cX3_put 72 = .ok (.new 146, 3) := by decide +kernel
theorem dX3_put_75 : decode cX3_put 75 = .ok (.dup, 1) := by decide +kernel
theorem dX3_put_76 : decode cX3_put 76 = .ok (.ldc 148, 2) := by decide +kernel
theorem dX3_put_78 : decode cX3_put 78 = .ok (.invokespecial 150, 3) := by decide +kernel
theorem dX3_put_81 : decode cX3_put 81 = .ok (.athrow, 1) := by decide +kernel
theorem dX3_put_82 : decode cX3_put 82 = .ok (.aload_n 3, 1) := by decide +kernel
theorem dX3_put_83 : decode cX3_put 83 = .ok (.getfield 125, 3) := by decide +kernel
theorem dX3_put_86 : decode cX3_put 86 = .ok (.istore 4, 2) := by decide +kernel
theorem dX3_put_88 : decode cX3_put 88 = .ok (.aload_n 3, 1) := by decide +kernel
theorem dX3_put_89 : decode cX3_put 89 = .ok (.iload_n 2, 1) := by decide +kernel
theorem dX3_put_90 : decode cX3_put 90 = .ok (.putfield 125, 3) := by decide +kernel
theorem dX3_put_93 : decode cX3_put 93 = .ok (.iload 4, 2) := by decide +kernel
theorem dX3_put_95 : decode cX3_put 95 = .ok (.ireturn, 1) := by decide +kernel
theorem dX3_life_0 : decode cX3_life 0 = .ok (.aload_n 0, 1) := by decide +kernel
theorem dX3_life_1 : decode cX3_life 1 = .ok (.iload_n 1, 1) := by decide +kernel
theorem dX3_life_2 : decode cX3_life 2 = .ok (.invokevirtual 116, 3) := by decide +kernel
theorem dX3_life_5 : decode cX3_life 5 = .ok (.astore_n 2, 1) := by decide +kernel
theorem dX3_life_6 : decode cX3_life 6 = .ok (.aload_n 2, 1) := by decide +kernel
theorem dX3_life_7 : decode cX3_life 7 = .ok (.invokevirtual 131, 3) := by decide +kernel
theorem dX3_life_10 : decode cX3_life 10 = .ok (.ifCond .ne 13, 3) := by decide +kernel
theorem dX3_life_13 : decode cX3_life 13 = .ok (.new 135, 3) := by decide +kernel
theorem dX3_life_16 : decode cX3_life 16 = .ok (.dup, 1) := by decide +kernel
theorem dX3_life_17 : decode cX3_life 17 = .ok (.ldc 137, 2) := by decide +kernel
theorem dX3_life_19 : decode cX3_life 19 = .ok (.invokespecial 139, 3) := by decide +kernel
theorem dX3_life_22 : decode cX3_life 22 = .ok (.athrow, 1) := by decide +kernel
theorem dX3_life_23 : decode cX3_life 23 = .ok (.aload_n 2, 1) := by decide +kernel
theorem dX3_life_24 : decode cX3_life 24 = .ok (.getfield 122, 3) := by decide +kernel
theorem dX3_life_27 : decode cX3_life 27 = .ok (.ireturn, 1) := by decide +kernel
theorem dX3_on_0 : decode cX3_on 0 = .ok (.aload_n 0, 1) := by decide +kernel
theorem dX3_on_1 : decode cX3_on 1 = .ok (.iload_n 1, 1) := by decide +kernel
theorem dX3_on_2 : decode cX3_on 2 = .ok (.invokevirtual 61, 3) := by decide +kernel
theorem dX3_on_5 : decode cX3_on 5 = .ok (.invokevirtual 151, 3) := by decide +kernel
theorem dX3_on_8 : decode cX3_on 8 = .ok (.astore_n 2, 1) := by decide +kernel
theorem dX3_on_9 : decode cX3_on 9 = .ok (.aload_n 2, 1) := by decide +kernel
theorem dX3_on_10 : decode cX3_on 10 = .ok (.ifnonnull 13, 3) := by decide +kernel
theorem dX3_on_13 : decode cX3_on 13 = .ok (.new 135, 3) := by decide +kernel
theorem dX3_on_16 : decode cX3_on 16 = .ok (.dup, 1) := by decide +kernel
theorem dX3_on_17 : decode cX3_on 17 = .ok (.ldc 155, 2) := by decide +kernel
theorem dX3_on_19 : decode cX3_on 19 = .ok (.invokespecial 139, 3) := by decide +kernel
theorem dX3_on_22 : decode cX3_on 22 = .ok (.athrow, 1) := by decide +kernel
theorem dX3_on_23 : decode cX3_on 23 = .ok (.aload_n 2, 1) := by decide +kernel
theorem dX3_on_24 : decode cX3_on 24 = .ok (.getfield 157, 3) := by decide +kernel
theorem dX3_on_27 : decode cX3_on 27 = .ok (.ireturn, 1) := by decide +kernel
theorem dX3_reason_0 : decode cX3_reason 0 = .ok (.aload_n 0, 1) := by decide +kernel
theorem dX3_reason_1 : decode cX3_reason 1 = .ok (.aload_n 0, 1) := by decide +kernel
theorem dX3_reason_2 : decode cX3_reason 2 = .ok (.iload_n 1, 1) := by decide +kernel
theorem dX3_reason_3 : decode cX3_reason 3 = .ok (.invokevirtual 61, 3) := by decide +kernel
theorem dX3_reason_6 : decode cX3_reason 6 = .ok (.invokevirtual 160, 3) := by decide +kernel
theorem dX3_reason_9 : decode cX3_reason 9 = .ok (.ireturn, 1) := by decide +kernel
theorem dX3_fail_0 : decode cX3_fail 0 = .ok (.aload_n 0, 1) := by decide +kernel
theorem dX3_fail_1 : decode cX3_fail 1 = .ok (.iload_n 1, 1) := by decide +kernel
theorem dX3_fail_2 : decode cX3_fail 2 = .ok (.invokevirtual 61, 3) := by decide +kernel
theorem dX3_fail_5 : decode cX3_fail 5 = .ok (.astore_n 2, 1) := by decide +kernel
theorem dX3_fail_6 : decode cX3_fail 6 = .ok (.aload_n 2, 1) := by decide +kernel
theorem dX3_fail_7 : decode cX3_fail 7 = .ok (.getfield 164, 3) := by decide +kernel
theorem dX3_fail_10 : decode cX3_fail 10 = .ok (.ifCond .eq 13, 3) := by decide +kernel
theorem dX3_fail_13 : decode cX3_fail 13 = .ok (.new 47, 3) := by decide +kernel
theorem dX3_fail_16 : decode cX3_fail 16 = .ok (.dup, 1) := by decide +kernel
theorem dX3_fail_17 : decode cX3_fail 17 = .ok (.ldc 167, 2) := by decide +kernel
theorem dX3_fail_19 : decode cX3_fail 19 = .ok (.invokespecial 51, 3) := by decide +kernel
theorem dX3_fail_22 : decode cX3_fail 22 = .ok (.athrow, 1) := by decide +kernel
theorem dX3_fail_23 : decode cX3_fail 23 = .ok (.aload_n 2, 1) := by decide +kernel
theorem dX3_fail_24 : decode cX3_fail 24 = .ok (.iconst 1, 1) := by decide +kernel
theorem dX3_fail_25 : decode cX3_fail 25 = .ok (.putfield 164, 3) := by decide +kernel
theorem dX3_fail_28 : decode cX3_fail 28 = .ok (.aload_n 2, 1) := by decide +kernel
theorem dX3_fail_29 : decode cX3_fail 29 = .ok (.invokevirtual 151, 3) := by decide +kernel
theorem dX3_fail_32 : decode cX3_fail 32 = .ok (.ifnull 7, 3) := by decide +kernel
theorem dX3_fail_35 : decode cX3_fail 35 = .ok (.iconst 1, 1) := by decide +kernel
theorem dX3_fail_36 : decode cX3_fail 36 = .ok (.goto 4, 3) := by decide +kernel
theorem dX3_fail_39 : decode cX3_fail 39 = .ok (.iconst 0, 1) := by decide +kernel
theorem dX3_fail_40 : decode cX3_fail 40 = .ok (.ireturn, 1) := by decide +kernel
theorem dX3_pass_0 : decode cX3_pass 0 = .ok (.iload_n 1, 1) := by decide +kernel
theorem dX3_pass_1 : decode cX3_pass 1 = .ok (.iconst 1, 1) := by decide +kernel
theorem dX3_pass_2 : decode cX3_pass 2 = .ok (.bipush 20, 2) := by decide +kernel
theorem dX3_pass_4 : decode cX3_pass 4 = .ok (.invokestatic 30, 3) := by decide +kernel
theorem dX3_pass_7 : decode cX3_pass 7 = .ok (.ifCond .ne 13, 3) := by decide +kernel
theorem dX3_pass_10 : decode cX3_pass 10 = .ok (.new 34, 3) := by decide +kernel
theorem dX3_pass_13 : decode cX3_pass 13 = .ok (.dup, 1) := by decide +kernel
theorem dX3_pass_14 : decode cX3_pass 14 = .ok (.ldc 169, 2) := by decide +kernel
theorem dX3_pass_16 : decode cX3_pass 16 = .ok (.invokespecial 38, 3) := by decide +kernel
theorem dX3_pass_19 : decode cX3_pass 19 = .ok (.athrow, 1) := by decide +kernel
theorem dX3_pass_20 : decode cX3_pass 20 = .ok (.iload_n 1, 1) := by decide +kernel
theorem dX3_pass_21 : decode cX3_pass 21 = .ok (.sipush 200, 3) := by decide +kernel
theorem dX3_pass_24 : decode cX3_pass 24 = .ok (.aload_n 0, 1) := by decide +kernel
theorem dX3_pass_25 : decode cX3_pass 25 = .ok (.getfield 26, 3) := by decide +kernel
theorem dX3_pass_28 : decode cX3_pass 28 = .ok (.isub, 1) := by decide +kernel
theorem dX3_pass_29 : decode cX3_pass 29 = .ok (.if_icmp .le 13, 3) := by decide +kernel
theorem dX3_pass_32 : decode cX3_pass 32 = .ok (.new 47, 3) := by decide +kernel
theorem dX3_pass_35 : decode cX3_pass 35 = .ok (.dup, 1) := by decide +kernel
theorem dX3_pass_36 : decode cX3_pass 36 = .ok (.ldc 171, 2) := by decide +kernel
theorem dX3_pass_38 : decode cX3_pass 38 = .ok (.invokespecial 51, 3) := by decide +kernel
theorem dX3_pass_41 : decode cX3_pass 41 = .ok (.athrow, 1) := by decide +kernel
theorem dX3_pass_42 : decode cX3_pass 42 = .ok (.iconst 0, 1) := by decide +kernel
theorem dX3_pass_43 : decode cX3_pass 43 = .ok (.istore_n 2, 1) := by decide +kernel
theorem dX3_pass_44 : decode cX3_pass 44 = .ok (.iconst 0, 1) := by decide +kernel
theorem dX3_pass_45 : decode cX3_pass 45 = .ok (.istore_n 3, 1) := by decide +kernel
theorem dX3_pass_46 : decode cX3_pass 46 = .ok (.iload_n 3, 1) := by decide +kernel
theorem dX3_pass_47 : decode cX3_pass 47 = .ok (.iload_n 1, 1) := by decide +kernel
theorem dX3_pass_48 : decode cX3_pass 48 = .ok (.if_icmp .ge 16, 3) := by decide +kernel
theorem dX3_pass_51 : decode cX3_pass 51 = .ok (.iload_n 2, 1) := by decide +kernel
theorem dX3_pass_52 : decode cX3_pass 52 = .ok (.aload_n 0, 1) := by decide +kernel
theorem dX3_pass_53 : decode cX3_pass 53 = .ok (.invokevirtual 173, 3) := by decide +kernel
theorem dX3_pass_56 : decode cX3_pass 56 = .ok (.iadd, 1) := by decide +kernel
theorem dX3_pass_57 : decode cX3_pass 57 = .ok (.istore_n 2, 1) := by decide +kernel
theorem dX3_pass_58 : decode cX3_pass 58 = .ok (.iinc 3 1, 3) := by decide +kernel
theorem dX3_pass_61 : decode cX3_pass 61 = .ok (.goto (-15), 3) := by decide +kernel
theorem dX3_pass_64 : decode cX3_pass 64 = .ok (.iload_n 2, 1) := by decide +kernel
theorem dX3_pass_65 : decode cX3_pass 65 = .ok (.ireturn, 1) := by decide +kernel
theorem dX3_time_0 : decode cX3_time 0 = .ok (.aload_n 0, 1) := by decide +kernel
theorem dX3_time_1 : decode cX3_time 1 = .ok (.getfield 26, 3) := by decide +kernel
theorem dX3_time_4 : decode cX3_time 4 = .ok (.ireturn, 1) := by decide +kernel
theorem dX3_left_0 : decode cX3_left 0 = .ok (.aload_n 0, 1) := by decide +kernel
theorem dX3_left_1 : decode cX3_left 1 = .ok (.iload_n 1, 1) := by decide +kernel
theorem dX3_left_2 : decode cX3_left 2 = .ok (.invokevirtual 116, 3) := by decide +kernel
theorem dX3_left_5 : decode cX3_left 5 = .ok (.invokestatic 179, 3) := by decide +kernel
theorem dX3_left_8 : decode cX3_left 8 = .ok (.ireturn, 1) := by decide +kernel
theorem dX3_leftAnew_0 : decode cX3_leftAnew 0 = .ok (.aload_n 0, 1) := by decide +kernel
theorem dX3_leftAnew_1 : decode cX3_leftAnew 1 = .ok (.iload_n 1, 1) := by decide +kernel
theorem dX3_leftAnew_2 : decode cX3_leftAnew 2 = .ok (.invokevirtual 116, 3) := by decide +kernel
theorem dX3_leftAnew_5 : decode cX3_leftAnew 5 = .ok (.astore_n 2, 1) := by decide +kernel
theorem dX3_leftAnew_6 : decode cX3_leftAnew 6 = .ok (.aload_n 2, 1) := by decide +kernel
theorem dX3_leftAnew_7 : decode cX3_leftAnew 7 = .ok (.getfield 183, 3) := by decide +kernel
theorem dX3_leftAnew_10 : decode cX3_leftAnew 10 = .ok (.invokevirtual 187, 3) := by decide +kernel
theorem dX3_leftAnew_13 : decode cX3_leftAnew 13 = .ok (.aload_n 2, 1) := by decide +kernel
theorem dX3_leftAnew_14 : decode cX3_leftAnew 14 = .ok (.getfield 183, 3) := by decide +kernel
theorem dX3_leftAnew_17 : decode cX3_leftAnew 17 = .ok (.getfield 190, 3) := by decide +kernel
theorem dX3_leftAnew_20 : decode cX3_leftAnew 20 = .ok (.aload_n 2, 1) := by decide +kernel
theorem dX3_leftAnew_21 : decode cX3_leftAnew 21 = .ok (.getfield 193, 3) := by decide +kernel
theorem dX3_leftAnew_24 : decode cX3_leftAnew 24 = .ok (.invokevirtual 196, 3) := by decide +kernel
theorem dX3_leftAnew_27 : decode cX3_leftAnew 27 = .ok (.ireturn, 1) := by decide +kernel
theorem dX3_nextAt_0 : decode cX3_nextAt 0 = .ok (.aload_n 0, 1) := by decide +kernel
theorem dX3_nextAt_1 : decode cX3_nextAt 1 = .ok (.iload_n 1, 1) := by decide +kernel
theorem dX3_nextAt_2 : decode cX3_nextAt 2 = .ok (.invokevirtual 116, 3) := by decide +kernel
theorem dX3_nextAt_5 : decode cX3_nextAt 5 = .ok (.astore_n 2, 1) := by decide +kernel
theorem dX3_nextAt_6 : decode cX3_nextAt 6 = .ok (.aload_n 2, 1) := by decide +kernel
theorem dX3_nextAt_7 : decode cX3_nextAt 7 = .ok (.invokestatic 179, 3) := by decide +kernel
theorem dX3_nextAt_10 : decode cX3_nextAt 10 = .ok (.ifCond .ne 13, 3) := by decide +kernel
theorem dX3_nextAt_13 : decode cX3_nextAt 13 = .ok (.new 135, 3) := by decide +kernel
theorem dX3_nextAt_16 : decode cX3_nextAt 16 = .ok (.dup, 1) := by decide +kernel
theorem dX3_nextAt_17 : decode cX3_nextAt 17 = .ok (.ldc 200, 2) := by decide +kernel
theorem dX3_nextAt_19 : decode cX3_nextAt 19 = .ok (.invokespecial 139, 3) := by decide +kernel
theorem dX3_nextAt_22 : decode cX3_nextAt 22 = .ok (.athrow, 1) := by decide +kernel
theorem dX3_nextAt_23 : decode cX3_nextAt 23 = .ok (.aload_n 0, 1) := by decide +kernel
theorem dX3_nextAt_24 : decode cX3_nextAt 24 = .ok (.getfield 26, 3) := by decide +kernel
theorem dX3_nextAt_27 : decode cX3_nextAt 27 = .ok (.aload_n 2, 1) := by decide +kernel
theorem dX3_nextAt_28 : decode cX3_nextAt 28 = .ok (.getfield 183, 3) := by decide +kernel
theorem dX3_nextAt_31 : decode cX3_nextAt 31 = .ok (.getfield 100, 3) := by decide +kernel
theorem dX3_nextAt_34 : decode cX3_nextAt 34 = .ok (.aload_n 2, 1) := by decide +kernel
theorem dX3_nextAt_35 : decode cX3_nextAt 35 = .ok (.getfield 193, 3) := by decide +kernel
theorem dX3_nextAt_38 : decode cX3_nextAt 38 = .ok (.invokevirtual 202, 3) := by decide +kernel
theorem dX3_nextAt_41 : decode cX3_nextAt 41 = .ok (.iadd, 1) := by decide +kernel
theorem dX3_nextAt_42 : decode cX3_nextAt 42 = .ok (.ireturn, 1) := by decide +kernel
theorem dX3_count_0 : decode cX3_count 0 = .ok (.aload_n 0, 1) := by decide +kernel
theorem dX3_count_1 : decode cX3_count 1 = .ok (.iload_n 1, 1) := by decide +kernel
theorem dX3_count_2 : decode cX3_count 2 = .ok (.invokevirtual 116, 3) := by decide +kernel
theorem dX3_count_5 : decode cX3_count 5 = .ok (.astore_n 3, 1) := by decide +kernel
theorem dX3_count_6 : decode cX3_count 6 = .ok (.iload_n 2, 1) := by decide +kernel
theorem dX3_count_7 : decode cX3_count 7 = .ok (.bipush 100, 2) := by decide +kernel
theorem dX3_count_9 : decode cX3_count 9 = .ok (.if_icmp .ne 8, 3) := by decide +kernel
theorem dX3_count_12 : decode cX3_count 12 = .ok (.aload_n 3, 1) := by decide +kernel
theorem dX3_count_13 : decode cX3_count 13 = .ok (.getfield 205, 3) := by decide +kernel
theorem dX3_count_16 : decode cX3_count 16 = .ok (.ireturn, 1) := by decide +kernel
theorem dX3_count_17 : decode cX3_count 17 = .ok (.iload_n 2, 1) := by decide +kernel
theorem dX3_count_18 : decode cX3_count 18 = .ok (.bipush 109, 2) := by decide +kernel
theorem dX3_count_20 : decode cX3_count 20 = .ok (.if_icmp .ne 8, 3) := by decide +kernel
theorem dX3_count_23 : decode cX3_count 23 = .ok (.aload_n 3, 1) := by decide +kernel
theorem dX3_count_24 : decode cX3_count 24 = .ok (.getfield 208, 3) := by decide +kernel
theorem dX3_count_27 : decode cX3_count 27 = .ok (.ireturn, 1) := by decide +kernel
theorem dX3_count_28 : decode cX3_count 28 = .ok (.iload_n 2, 1) := by decide +kernel
theorem dX3_count_29 : decode cX3_count 29 = .ok (.bipush 108, 2) := by decide +kernel
theorem dX3_count_31 : decode cX3_count 31 = .ok (.if_icmp .ne 8, 3) := by decide +kernel
theorem dX3_count_34 : decode cX3_count 34 = .ok (.aload_n 3, 1) := by decide +kernel
theorem dX3_count_35 : decode cX3_count 35 = .ok (.getfield 211, 3) := by decide +kernel
theorem dX3_count_38 : decode cX3_count 38 = .ok (.ireturn, 1) := by decide +kernel
theorem dX3_count_39 : decode cX3_count 39 = .ok (.iload_n 2, 1) := by decide +kernel
theorem dX3_count_40 : decode cX3_count 40 = .ok (.bipush 111, 2) := by decide +kernel
theorem dX3_count_42 : decode cX3_count 42 = .ok (.if_icmp .ne 8, 3) := by decide +kernel
theorem dX3_count_45 : decode cX3_count 45 = .ok (.aload_n 3, 1) := by decide +kernel
theorem dX3_count_46 : decode cX3_count 46 = .ok (.getfield 214, 3) := by decide +kernel
theorem dX3_count_49 : decode cX3_count 49 = .ok (.ireturn, 1) := by decide +kernel
theorem dX3_count_50 : decode cX3_count 50 = .ok (.new 34, 3) := by decide +kernel
theorem dX3_count_53 : decode cX3_count 53 = .ok (.dup, 1) := by decide +kernel
theorem dX3_count_54 : decode cX3_count 54 = .ok (.ldc 217, 2) := by decide +kernel
theorem dX3_count_56 : decode cX3_count 56 = .ok (.invokespecial 38, 3) := by decide +kernel
theorem dX3_count_59 : decode cX3_count 59 = .ok (.athrow, 1) := by decide +kernel
theorem dX3_isWithin_0 : decode cX3_isWithin 0 = .ok (.iload_n 0, 1) := by decide +kernel
theorem dX3_isWithin_1 : decode cX3_isWithin 1 = .ok (.iload_n 1, 1) := by decide +kernel
theorem dX3_isWithin_2 : decode cX3_isWithin 2 = .ok (.if_icmp .lt 12, 3) := by decide +kernel
theorem dX3_isWithin_5 : decode cX3_isWithin 5 = .ok (.iload_n 0, 1) := by decide +kernel
theorem dX3_isWithin_6 : decode cX3_isWithin 6 = .ok (.iload_n 2, 1) := by decide +kernel
theorem dX3_isWithin_7 : decode cX3_isWithin 7 = .ok (.if_icmp .gt 7, 3) := by decide +kernel
theorem dX3_isWithin_10 : decode cX3_isWithin 10 = .ok (.iconst 1, 1) := by decide +kernel
theorem dX3_isWithin_11 : decode cX3_isWithin 11 = .ok (.goto 4, 3) := by decide +kernel
theorem dX3_isWithin_14 : decode cX3_isWithin 14 = .ok (.iconst 0, 1) := by decide +kernel
theorem dX3_isWithin_15 : decode cX3_isWithin 15 = .ok (.ireturn, 1) := by decide +kernel
theorem dX3_beamlineNumbered_0 : decode cX3_beamlineNumbered 0 = .ok (.iload_n 1, 1) := by decide +kernel
theorem dX3_beamlineNumbered_1 : decode cX3_beamlineNumbered 1 = .ok (.ifCond .lt 14, 3) := by decide +kernel
theorem dX3_beamlineNumbered_4 : decode cX3_beamlineNumbered 4 = .ok (.iload_n 1, 1) := by decide +kernel
theorem dX3_beamlineNumbered_5 : decode cX3_beamlineNumbered 5 = .ok (.aload_n 0, 1) := by decide +kernel
theorem dX3_beamlineNumbered_6 : decode cX3_beamlineNumbered 6 = .ok (.getfield 10, 3) := by decide +kernel
theorem dX3_beamlineNumbered_9 : decode cX3_beamlineNumbered 9 = .ok (.invokevirtual 43, 3) := by decide +kernel
theorem dX3_beamlineNumbered_12 : decode cX3_beamlineNumbered 12 = .ok (.if_icmp .lt 13, 3) := by decide +kernel
theorem dX3_beamlineNumbered_15 : decode cX3_beamlineNumbered 15 = .ok (.new 109, 3) := by decide +kernel
theorem dX3_beamlineNumbered_18 : decode cX3_beamlineNumbered 18 = .ok (.dup, 1) := by decide +kernel
theorem dX3_beamlineNumbered_19 : decode cX3_beamlineNumbered 19 = .ok (.ldc 238, 2) := by decide +kernel
theorem dX3_beamlineNumbered_21 : decode cX3_beamlineNumbered 21 = .ok (.invokespecial 113, 3) := by decide +kernel
theorem dX3_beamlineNumbered_24 : decode cX3_beamlineNumbered 24 = .ok (.athrow, 1) := by decide +kernel
theorem dX3_beamlineNumbered_25 : decode cX3_beamlineNumbered 25 = .ok (.aload_n 0, 1) := by decide +kernel
theorem dX3_beamlineNumbered_26 : decode cX3_beamlineNumbered 26 = .ok (.getfield 10, 3) := by decide +kernel
theorem dX3_beamlineNumbered_29 : decode cX3_beamlineNumbered 29 = .ok (.iload_n 1, 1) := by decide +kernel
theorem dX3_beamlineNumbered_30 : decode cX3_beamlineNumbered 30 = .ok (.invokevirtual 224, 3) := by decide +kernel
theorem dX3_beamlineNumbered_33 : decode cX3_beamlineNumbered 33 = .ok (.checkcast 52, 3) := by decide +kernel
theorem dX3_beamlineNumbered_36 : decode cX3_beamlineNumbered 36 = .ok (.areturn, 1) := by decide +kernel
theorem dX3_proposalNumbered_0 : decode cX3_proposalNumbered 0 = .ok (.iload_n 1, 1) := by decide +kernel
theorem dX3_proposalNumbered_1 : decode cX3_proposalNumbered 1 = .ok (.ifCond .lt 14, 3) := by decide +kernel
theorem dX3_proposalNumbered_4 : decode cX3_proposalNumbered 4 = .ok (.iload_n 1, 1) := by decide +kernel
theorem dX3_proposalNumbered_5 : decode cX3_proposalNumbered 5 = .ok (.aload_n 0, 1) := by decide +kernel
theorem dX3_proposalNumbered_6 : decode cX3_proposalNumbered 6 = .ok (.getfield 16, 3) := by decide +kernel
theorem dX3_proposalNumbered_9 : decode cX3_proposalNumbered 9 = .ok (.invokevirtual 43, 3) := by decide +kernel
theorem dX3_proposalNumbered_12 : decode cX3_proposalNumbered 12 = .ok (.if_icmp .lt 13, 3) := by decide +kernel
theorem dX3_proposalNumbered_15 : decode cX3_proposalNumbered 15 = .ok (.new 109, 3) := by decide +kernel
theorem dX3_proposalNumbered_18 : decode cX3_proposalNumbered 18 = .ok (.dup, 1) := by decide +kernel
theorem dX3_proposalNumbered_19 : decode cX3_proposalNumbered 19 = .ok (.ldc 240, 2) := by decide +kernel
theorem dX3_proposalNumbered_21 : decode cX3_proposalNumbered 21 = .ok (.invokespecial 113, 3) := by decide +kernel
theorem dX3_proposalNumbered_24 : decode cX3_proposalNumbered 24 = .ok (.athrow, 1) := by decide +kernel
theorem dX3_proposalNumbered_25 : decode cX3_proposalNumbered 25 = .ok (.aload_n 0, 1) := by decide +kernel
theorem dX3_proposalNumbered_26 : decode cX3_proposalNumbered 26 = .ok (.getfield 16, 3) := by decide +kernel
theorem dX3_proposalNumbered_29 : decode cX3_proposalNumbered 29 = .ok (.iload_n 1, 1) := by decide +kernel
theorem dX3_proposalNumbered_30 : decode cX3_proposalNumbered 30 = .ok (.invokevirtual 224, 3) := by decide +kernel
theorem dX3_proposalNumbered_33 : decode cX3_proposalNumbered 33 = .ok (.checkcast 86, 3) := by decide +kernel
theorem dX3_proposalNumbered_36 : decode cX3_proposalNumbered 36 = .ok (.areturn, 1) := by decide +kernel
theorem dX3_allotAtScore_0 : decode cX3_allotAtScore 0 = .ok (.iconst 0, 1) := by decide +kernel
theorem dX3_allotAtScore_1 : decode cX3_allotAtScore 1 = .ok (.istore_n 3, 1) := by decide +kernel
theorem dX3_allotAtScore_2 : decode cX3_allotAtScore 2 = .ok (.iload_n 3, 1) := by decide +kernel
theorem dX3_allotAtScore_3 : decode cX3_allotAtScore 3 = .ok (.aload_n 0, 1) := by decide +kernel
theorem dX3_allotAtScore_4 : decode cX3_allotAtScore 4 = .ok (.getfield 16, 3) := by decide +kernel
theorem dX3_allotAtScore_7 : decode cX3_allotAtScore 7 = .ok (.invokevirtual 43, 3) := by decide +kernel
theorem dX3_allotAtScore_10 : decode cX3_allotAtScore 10 = .ok (.if_icmp .ge 46, 3) := by decide +kernel
theorem dX3_allotAtScore_13 : decode cX3_allotAtScore 13 = .ok (.aload_n 0, 1) := by decide +kernel
theorem dX3_allotAtScore_14 : decode cX3_allotAtScore 14 = .ok (.getfield 16, 3) := by decide +kernel
theorem dX3_allotAtScore_17 : decode cX3_allotAtScore 17 = .ok (.iload_n 3, 1) := by decide +kernel
theorem dX3_allotAtScore_18 : decode cX3_allotAtScore 18 = .ok (.invokevirtual 224, 3) := by decide +kernel
theorem dX3_allotAtScore_21 : decode cX3_allotAtScore 21 = .ok (.checkcast 86, 3) := by decide +kernel
theorem dX3_allotAtScore_24 : decode cX3_allotAtScore 24 = .ok (.astore 4, 2) := by decide +kernel
theorem dX3_allotAtScore_26 : decode cX3_allotAtScore 26 = .ok (.aload 4, 2) := by decide +kernel
theorem dX3_allotAtScore_28 : decode cX3_allotAtScore 28 = .ok (.getfield 183, 3) := by decide +kernel
theorem dX3_allotAtScore_31 : decode cX3_allotAtScore 31 = .ok (.aload_n 1, 1) := by decide +kernel
theorem dX3_allotAtScore_32 : decode cX3_allotAtScore 32 = .ok (.if_acmp .ne 18, 3) := by decide +kernel
theorem dX3_allotAtScore_35 : decode cX3_allotAtScore 35 = .ok (.aload 4, 2) := by decide +kernel
theorem dX3_allotAtScore_37 : decode cX3_allotAtScore 37 = .ok (.getfield 233, 3) := by decide +kernel
theorem dX3_allotAtScore_40 : decode cX3_allotAtScore 40 = .ok (.iload_n 2, 1) := by decide +kernel
theorem dX3_allotAtScore_41 : decode cX3_allotAtScore 41 = .ok (.if_icmp .ne 9, 3) := by decide +kernel
theorem dX3_allotAtScore_44 : decode cX3_allotAtScore 44 = .ok (.aload_n 1, 1) := by decide +kernel
theorem dX3_allotAtScore_45 : decode cX3_allotAtScore 45 = .ok (.aload 4, 2) := by decide +kernel
theorem dX3_allotAtScore_47 : decode cX3_allotAtScore 47 = .ok (.invokevirtual 242, 3) := by decide +kernel
theorem dX3_allotAtScore_50 : decode cX3_allotAtScore 50 = .ok (.iinc 3 1, 3) := by decide +kernel
theorem dX3_allotAtScore_53 : decode cX3_allotAtScore 53 = .ok (.goto (-51), 3) := by decide +kernel
theorem dX3_allotAtScore_56 : decode cX3_allotAtScore 56 = .ok (.return_, 1) := by decide +kernel
theorem dX3_countCold_0 : decode cX3_countCold 0 = .ok (.iconst 0, 1) := by decide +kernel
theorem dX3_countCold_1 : decode cX3_countCold 1 = .ok (.istore_n 1, 1) := by decide +kernel
theorem dX3_countCold_2 : decode cX3_countCold 2 = .ok (.iconst 0, 1) := by decide +kernel
theorem dX3_countCold_3 : decode cX3_countCold 3 = .ok (.istore_n 2, 1) := by decide +kernel
theorem dX3_countCold_4 : decode cX3_countCold 4 = .ok (.iload_n 2, 1) := by decide +kernel
theorem dX3_countCold_5 : decode cX3_countCold 5 = .ok (.aload_n 0, 1) := by decide +kernel
theorem dX3_countCold_6 : decode cX3_countCold 6 = .ok (.getfield 16, 3) := by decide +kernel
theorem dX3_countCold_9 : decode cX3_countCold 9 = .ok (.invokevirtual 43, 3) := by decide +kernel
theorem dX3_countCold_12 : decode cX3_countCold 12 = .ok (.if_icmp .ge 29, 3) := by decide +kernel
theorem dX3_countCold_15 : decode cX3_countCold 15 = .ok (.aload_n 0, 1) := by decide +kernel
theorem dX3_countCold_16 : decode cX3_countCold 16 = .ok (.getfield 16, 3) := by decide +kernel
theorem dX3_countCold_19 : decode cX3_countCold 19 = .ok (.iload_n 2, 1) := by decide +kernel
theorem dX3_countCold_20 : decode cX3_countCold 20 = .ok (.invokevirtual 224, 3) := by decide +kernel
theorem dX3_countCold_23 : decode cX3_countCold 23 = .ok (.checkcast 86, 3) := by decide +kernel
theorem dX3_countCold_26 : decode cX3_countCold 26 = .ok (.invokevirtual 140, 3) := by decide +kernel
theorem dX3_countCold_29 : decode cX3_countCold 29 = .ok (.ifCond .eq 6, 3) := by decide +kernel
theorem dX3_countCold_32 : decode cX3_countCold 32 = .ok (.iinc 1 1, 3) := by decide +kernel
theorem dX3_countCold_35 : decode cX3_countCold 35 = .ok (.iinc 2 1, 3) := by decide +kernel
theorem dX3_countCold_38 : decode cX3_countCold 38 = .ok (.goto (-34), 3) := by decide +kernel
theorem dX3_countCold_41 : decode cX3_countCold 41 = .ok (.iload_n 1, 1) := by decide +kernel
theorem dX3_countCold_42 : decode cX3_countCold 42 = .ok (.ireturn, 1) := by decide +kernel
theorem dX3_leftKept_0 : decode cX3_leftKept 0 = .ok (.aload_n 0, 1) := by decide +kernel
theorem dX3_leftKept_1 : decode cX3_leftKept 1 = .ok (.getfield 183, 3) := by decide +kernel
theorem dX3_leftKept_4 : decode cX3_leftKept 4 = .ok (.getfield 100, 3) := by decide +kernel
theorem dX3_leftKept_7 : decode cX3_leftKept 7 = .ok (.aload_n 0, 1) := by decide +kernel
theorem dX3_leftKept_8 : decode cX3_leftKept 8 = .ok (.getfield 193, 3) := by decide +kernel
theorem dX3_leftKept_11 : decode cX3_leftKept 11 = .ok (.invokevirtual 196, 3) := by decide +kernel
theorem dX3_leftKept_14 : decode cX3_leftKept 14 = .ok (.ireturn, 1) := by decide +kernel
theorem dX3_isMarked_0 : decode cX3_isMarked 0 = .ok (.iload_n 1, 1) := by decide +kernel
theorem dX3_isMarked_1 : decode cX3_isMarked 1 = .ok (.ifCond .lt 19, 3) := by decide +kernel
theorem dX3_isMarked_4 : decode cX3_isMarked 4 = .ok (.iload_n 1, 1) := by decide +kernel
theorem dX3_isMarked_5 : decode cX3_isMarked 5 = .ok (.aload_n 0, 1) := by decide +kernel
theorem dX3_isMarked_6 : decode cX3_isMarked 6 = .ok (.arraylength, 1) := by decide +kernel
theorem dX3_isMarked_7 : decode cX3_isMarked 7 = .ok (.if_icmp .ge 13, 3) := by decide +kernel
theorem dX3_isMarked_10 : decode cX3_isMarked 10 = .ok (.aload_n 0, 1) := by decide +kernel
theorem dX3_isMarked_11 : decode cX3_isMarked 11 = .ok (.iload_n 1, 1) := by decide +kernel
theorem dX3_isMarked_12 : decode cX3_isMarked 12 = .ok (.baload, 1) := by decide +kernel
theorem dX3_isMarked_13 : decode cX3_isMarked 13 = .ok (.ifCond .eq 7, 3) := by decide +kernel
theorem dX3_isMarked_16 : decode cX3_isMarked 16 = .ok (.iconst 1, 1) := by decide +kernel
theorem dX3_isMarked_17 : decode cX3_isMarked 17 = .ok (.goto 4, 3) := by decide +kernel
theorem dX3_isMarked_20 : decode cX3_isMarked 20 = .ok (.iconst 0, 1) := by decide +kernel
theorem dX3_isMarked_21 : decode cX3_isMarked 21 = .ok (.ireturn, 1) := by decide +kernel
theorem dX3_reasonAt_0 : decode cX3_reasonAt 0 = .ok (.aload_n 1, 1) := by decide +kernel
theorem dX3_reasonAt_1 : decode cX3_reasonAt 1 = .ok (.invokevirtual 151, 3) := by decide +kernel
theorem dX3_reasonAt_4 : decode cX3_reasonAt 4 = .ok (.astore_n 2, 1) := by decide +kernel
theorem dX3_reasonAt_5 : decode cX3_reasonAt 5 = .ok (.aload_n 2, 1) := by decide +kernel
theorem dX3_reasonAt_6 : decode cX3_reasonAt 6 = .ok (.ifnonnull 6, 3) := by decide +kernel
theorem dX3_reasonAt_9 : decode cX3_reasonAt 9 = .ok (.bipush 113, 2) := by decide +kernel
theorem dX3_reasonAt_11 : decode cX3_reasonAt 11 = .ok (.ireturn, 1) := by decide +kernel
theorem dX3_reasonAt_12 : decode cX3_reasonAt 12 = .ok (.aload_n 1, 1) := by decide +kernel
theorem dX3_reasonAt_13 : decode cX3_reasonAt 13 = .ok (.getfield 164, 3) := by decide +kernel
theorem dX3_reasonAt_16 : decode cX3_reasonAt 16 = .ok (.ifCond .eq 6, 3) := by decide +kernel
theorem dX3_reasonAt_19 : decode cX3_reasonAt 19 = .ok (.bipush 102, 2) := by decide +kernel
theorem dX3_reasonAt_21 : decode cX3_reasonAt 21 = .ok (.ireturn, 1) := by decide +kernel
theorem dX3_reasonAt_22 : decode cX3_reasonAt 22 = .ok (.aload_n 0, 1) := by decide +kernel
theorem dX3_reasonAt_23 : decode cX3_reasonAt 23 = .ok (.getfield 19, 3) := by decide +kernel
theorem dX3_reasonAt_26 : decode cX3_reasonAt 26 = .ok (.aload_n 2, 1) := by decide +kernel
theorem dX3_reasonAt_27 : decode cX3_reasonAt 27 = .ok (.getfield 246, 3) := by decide +kernel
theorem dX3_reasonAt_30 : decode cX3_reasonAt 30 = .ok (.invokestatic 249, 3) := by decide +kernel
theorem dX3_reasonAt_33 : decode cX3_reasonAt 33 = .ok (.ifCond .ne 6, 3) := by decide +kernel
theorem dX3_reasonAt_36 : decode cX3_reasonAt 36 = .ok (.bipush 116, 2) := by decide +kernel
theorem dX3_reasonAt_38 : decode cX3_reasonAt 38 = .ok (.ireturn, 1) := by decide +kernel
theorem dX3_reasonAt_39 : decode cX3_reasonAt 39 = .ok (.aload_n 0, 1) := by decide +kernel
theorem dX3_reasonAt_40 : decode cX3_reasonAt 40 = .ok (.getfield 23, 3) := by decide +kernel
theorem dX3_reasonAt_43 : decode cX3_reasonAt 43 = .ok (.aload_n 2, 1) := by decide +kernel
theorem dX3_reasonAt_44 : decode cX3_reasonAt 44 = .ok (.getfield 246, 3) := by decide +kernel
theorem dX3_reasonAt_47 : decode cX3_reasonAt 47 = .ok (.invokestatic 249, 3) := by decide +kernel
theorem dX3_reasonAt_50 : decode cX3_reasonAt 50 = .ok (.ifCond .ne 6, 3) := by decide +kernel
theorem dX3_reasonAt_53 : decode cX3_reasonAt 53 = .ok (.bipush 112, 2) := by decide +kernel
theorem dX3_reasonAt_55 : decode cX3_reasonAt 55 = .ok (.ireturn, 1) := by decide +kernel
theorem dX3_reasonAt_56 : decode cX3_reasonAt 56 = .ok (.aload_n 2, 1) := by decide +kernel
theorem dX3_reasonAt_57 : decode cX3_reasonAt 57 = .ok (.invokevirtual 253, 3) := by decide +kernel
theorem dX3_reasonAt_60 : decode cX3_reasonAt 60 = .ok (.ifCond .ne 6, 3) := by decide +kernel
theorem dX3_reasonAt_63 : decode cX3_reasonAt 63 = .ok (.bipush 115, 2) := by decide +kernel
theorem dX3_reasonAt_65 : decode cX3_reasonAt 65 = .ok (.ireturn, 1) := by decide +kernel
theorem dX3_reasonAt_66 : decode cX3_reasonAt 66 = .ok (.aload_n 2, 1) := by decide +kernel
theorem dX3_reasonAt_67 : decode cX3_reasonAt 67 = .ok (.getfield 256, 3) := by decide +kernel
theorem dX3_reasonAt_70 : decode cX3_reasonAt 70 = .ok (.aload_n 1, 1) := by decide +kernel
theorem dX3_reasonAt_71 : decode cX3_reasonAt 71 = .ok (.getfield 259, 3) := by decide +kernel
theorem dX3_reasonAt_74 : decode cX3_reasonAt 74 = .ok (.aload_n 1, 1) := by decide +kernel
theorem dX3_reasonAt_75 : decode cX3_reasonAt 75 = .ok (.getfield 176, 3) := by decide +kernel
theorem dX3_reasonAt_78 : decode cX3_reasonAt 78 = .ok (.isub, 1) := by decide +kernel
theorem dX3_reasonAt_79 : decode cX3_reasonAt 79 = .ok (.if_icmp .le 6, 3) := by decide +kernel
theorem dX3_reasonAt_82 : decode cX3_reasonAt 82 = .ok (.bipush 100, 2) := by decide +kernel
theorem dX3_reasonAt_84 : decode cX3_reasonAt 84 = .ok (.ireturn, 1) := by decide +kernel
theorem dX3_reasonAt_85 : decode cX3_reasonAt 85 = .ok (.bipush 45, 2) := by decide +kernel
theorem dX3_reasonAt_87 : decode cX3_reasonAt 87 = .ok (.ireturn, 1) := by decide +kernel
theorem dX3_kindFor_0 : decode cX3_kindFor 0 = .ok (.iload_n 0, 1) := by decide +kernel
theorem dX3_kindFor_1 : decode cX3_kindFor 1 = .ok (.bipush 45, 2) := by decide +kernel
theorem dX3_kindFor_3 : decode cX3_kindFor 3 = .ok (.if_icmp .ne 6, 3) := by decide +kernel
theorem dX3_kindFor_6 : decode cX3_kindFor 6 = .ok (.bipush 100, 2) := by decide +kernel
theorem dX3_kindFor_8 : decode cX3_kindFor 8 = .ok (.ireturn, 1) := by decide +kernel
theorem dX3_kindFor_9 : decode cX3_kindFor 9 = .ok (.iload_n 0, 1) := by decide +kernel
theorem dX3_kindFor_10 : decode cX3_kindFor 10 = .ok (.bipush 113, 2) := by decide +kernel
theorem dX3_kindFor_12 : decode cX3_kindFor 12 = .ok (.if_icmp .ne 6, 3) := by decide +kernel
theorem dX3_kindFor_15 : decode cX3_kindFor 15 = .ok (.bipush 105, 2) := by decide +kernel
theorem dX3_kindFor_17 : decode cX3_kindFor 17 = .ok (.ireturn, 1) := by decide +kernel
theorem dX3_kindFor_18 : decode cX3_kindFor 18 = .ok (.iload_n 0, 1) := by decide +kernel
theorem dX3_kindFor_19 : decode cX3_kindFor 19 = .ok (.bipush 102, 2) := by decide +kernel
theorem dX3_kindFor_21 : decode cX3_kindFor 21 = .ok (.if_icmp .ne 6, 3) := by decide +kernel
theorem dX3_kindFor_24 : decode cX3_kindFor 24 = .ok (.bipush 108, 2) := by decide +kernel
theorem dX3_kindFor_26 : decode cX3_kindFor 26 = .ok (.ireturn, 1) := by decide +kernel
theorem dX3_kindFor_27 : decode cX3_kindFor 27 = .ok (.bipush 109, 2) := by decide +kernel
theorem dX3_kindFor_29 : decode cX3_kindFor 29 = .ok (.ireturn, 1) := by decide +kernel
theorem dX3_passOne_0 : decode cX3_passOne 0 = .ok (.iconst 0, 1) := by decide +kernel
theorem dX3_passOne_1 : decode cX3_passOne 1 = .ok (.istore_n 1, 1) := by decide +kernel
theorem dX3_passOne_2 : decode cX3_passOne 2 = .ok (.iconst 0, 1) := by decide +kernel
theorem dX3_passOne_3 : decode cX3_passOne 3 = .ok (.istore_n 2, 1) := by decide +kernel
theorem dX3_passOne_4 : decode cX3_passOne 4 = .ok (.iload_n 2, 1) := by decide +kernel
theorem dX3_passOne_5 : decode cX3_passOne 5 = .ok (.aload_n 0, 1) := by decide +kernel
theorem dX3_passOne_6 : decode cX3_passOne 6 = .ok (.getfield 10, 3) := by decide +kernel
theorem dX3_passOne_9 : decode cX3_passOne 9 = .ok (.invokevirtual 43, 3) := by decide +kernel
theorem dX3_passOne_12 : decode cX3_passOne 12 = .ok (.if_icmp .ge 47, 3) := by decide +kernel
theorem dX3_passOne_15 : decode cX3_passOne 15 = .ok (.aload_n 0, 1) := by decide +kernel
theorem dX3_passOne_16 : decode cX3_passOne 16 = .ok (.getfield 10, 3) := by decide +kernel
theorem dX3_passOne_19 : decode cX3_passOne 19 = .ok (.iload_n 2, 1) := by decide +kernel
theorem dX3_passOne_20 : decode cX3_passOne 20 = .ok (.invokevirtual 224, 3) := by decide +kernel
theorem dX3_passOne_23 : decode cX3_passOne 23 = .ok (.checkcast 52, 3) := by decide +kernel
theorem dX3_passOne_26 : decode cX3_passOne 26 = .ok (.astore_n 3, 1) := by decide +kernel
theorem dX3_passOne_27 : decode cX3_passOne 27 = .ok (.aload_n 0, 1) := by decide +kernel
theorem dX3_passOne_28 : decode cX3_passOne 28 = .ok (.aload_n 3, 1) := by decide +kernel
theorem dX3_passOne_29 : decode cX3_passOne 29 = .ok (.invokevirtual 160, 3) := by decide +kernel
theorem dX3_passOne_32 : decode cX3_passOne 32 = .ok (.invokestatic 262, 3) := by decide +kernel
theorem dX3_passOne_35 : decode cX3_passOne 35 = .ok (.istore 4, 2) := by decide +kernel
theorem dX3_passOne_37 : decode cX3_passOne 37 = .ok (.aload_n 3, 1) := by decide +kernel
theorem dX3_passOne_38 : decode cX3_passOne 38 = .ok (.iload 4, 2) := by decide +kernel
theorem dX3_passOne_40 : decode cX3_passOne 40 = .ok (.invokevirtual 266, 3) := by decide +kernel
theorem dX3_passOne_43 : decode cX3_passOne 43 = .ok (.iload 4, 2) := by decide +kernel
theorem dX3_passOne_45 : decode cX3_passOne 45 = .ok (.bipush 100, 2) := by decide +kernel
theorem dX3_passOne_47 : decode cX3_passOne 47 = .ok (.if_icmp .ne 6, 3) := by decide +kernel
theorem dX3_passOne_50 : decode cX3_passOne 50 = .ok (.iinc 1 1, 3) := by decide +kernel
theorem dX3_passOne_53 : decode cX3_passOne 53 = .ok (.iinc 2 1, 3) := by decide +kernel
theorem dX3_passOne_56 : decode cX3_passOne 56 = .ok (.goto (-52), 3) := by decide +kernel
theorem dX3_passOne_59 : decode cX3_passOne 59 = .ok (.iconst 0, 1) := by decide +kernel
theorem dX3_passOne_60 : decode cX3_passOne 60 = .ok (.istore_n 2, 1) := by decide +kernel
theorem dX3_passOne_61 : decode cX3_passOne 61 = .ok (.iload_n 2, 1) := by decide +kernel
theorem dX3_passOne_62 : decode cX3_passOne 62 = .ok (.aload_n 0, 1) := by decide +kernel
theorem dX3_passOne_63 : decode cX3_passOne 63 = .ok (.getfield 16, 3) := by decide +kernel
theorem dX3_passOne_66 : decode cX3_passOne 66 = .ok (.invokevirtual 43, 3) := by decide +kernel
theorem dX3_passOne_69 : decode cX3_passOne 69 = .ok (.if_icmp .ge 23, 3) := by decide +kernel
theorem dX3_passOne_72 : decode cX3_passOne 72 = .ok (.aload_n 0, 1) := by decide +kernel
theorem dX3_passOne_73 : decode cX3_passOne 73 = .ok (.getfield 16, 3) := by decide +kernel
theorem dX3_passOne_76 : decode cX3_passOne 76 = .ok (.iload_n 2, 1) := by decide +kernel
theorem dX3_passOne_77 : decode cX3_passOne 77 = .ok (.invokevirtual 224, 3) := by decide +kernel
theorem dX3_passOne_80 : decode cX3_passOne 80 = .ok (.checkcast 86, 3) := by decide +kernel
theorem dX3_passOne_83 : decode cX3_passOne 83 = .ok (.invokevirtual 270, 3) := by decide +kernel
theorem dX3_passOne_86 : decode cX3_passOne 86 = .ok (.iinc 2 1, 3) := by decide +kernel
theorem dX3_passOne_89 : decode cX3_passOne 89 = .ok (.goto (-28), 3) := by decide +kernel
theorem dX3_passOne_92 : decode cX3_passOne 92 = .ok (.aload_n 0, 1) := by decide +kernel
theorem dX3_passOne_93 : decode cX3_passOne 93 = .ok (.dup, 1) := by decide +kernel
theorem dX3_passOne_94 : decode cX3_passOne 94 = .ok (.getfield 26, 3) := by decide +kernel
theorem dX3_passOne_97 : decode cX3_passOne 97 = .ok (.iconst 1, 1) := by decide +kernel
theorem dX3_passOne_98 : decode cX3_passOne 98 = .ok (.iadd, 1) := by decide +kernel
theorem dX3_passOne_99 : decode cX3_passOne 99 = .ok (.putfield 26, 3) := by decide +kernel
theorem dX3_passOne_102 : decode cX3_passOne 102 = .ok (.iload_n 1, 1) := by decide +kernel
theorem dX3_passOne_103 : decode cX3_passOne 103 = .ok (.ireturn, 1) := by decide +kernel
theorem dJx00060_init_a7421_0 : decode cJx00060_init_a7421 0 = .ok (.aload_n 0, 1) := by decide +kernel
theorem dJx00060_init_a7421_1 : decode cJx00060_init_a7421 1 = .ok (.aload_n 1, 1) := by decide +kernel
theorem dJx00060_init_a7421_2 : decode cJx00060_init_a7421 2 = .ok (.invokespecial 7, 3) := by decide +kernel
theorem dJx00060_init_a7421_5 : decode cJx00060_init_a7421 5 = .ok (.return_, 1) := by decide +kernel
theorem dJ9_max_7cf53_0 : decode cJ9_max_7cf53 0 = .ok (.iload_n 0, 1) := by decide +kernel
theorem dJ9_max_7cf53_1 : decode cJ9_max_7cf53 1 = .ok (.iload_n 1, 1) := by decide +kernel
theorem dJ9_max_7cf53_2 : decode cJ9_max_7cf53 2 = .ok (.if_icmp .lt 7, 3) := by decide +kernel
theorem dJ9_max_7cf53_5 : decode cJ9_max_7cf53 5 = .ok (.iload_n 0, 1) := by decide +kernel
theorem dJ9_max_7cf53_6 : decode cJ9_max_7cf53 6 = .ok (.goto 4, 3) := by decide +kernel
theorem dJ9_max_7cf53_9 : decode cJ9_max_7cf53 9 = .ok (.iload_n 1, 1) := by decide +kernel
theorem dJ9_max_7cf53_10 : decode cJ9_max_7cf53 10 = .ok (.ireturn, 1) := by decide +kernel
theorem dJ9_min_7cf53_0 : decode cJ9_min_7cf53 0 = .ok (.iload_n 0, 1) := by decide +kernel
theorem dJ9_min_7cf53_1 : decode cJ9_min_7cf53 1 = .ok (.iload_n 1, 1) := by decide +kernel
theorem dJ9_min_7cf53_2 : decode cJ9_min_7cf53 2 = .ok (.if_icmp .gt 7, 3) := by decide +kernel
theorem dJ9_min_7cf53_5 : decode cJ9_min_7cf53 5 = .ok (.iload_n 0, 1) := by decide +kernel
theorem dJ9_min_7cf53_6 : decode cJ9_min_7cf53 6 = .ok (.goto 4, 3) := by decide +kernel
theorem dJ9_min_7cf53_9 : decode cJ9_min_7cf53 9 = .ok (.iload_n 1, 1) := by decide +kernel
theorem dJ9_min_7cf53_10 : decode cJ9_min_7cf53 10 = .ok (.ireturn, 1) := by decide +kernel
theorem dJ0_charAt_5068e_0 : decode cJ0_charAt_5068e 0 = .ok (.aload_n 0, 1) := by decide +kernel
theorem dJ0_charAt_5068e_1 : decode cJ0_charAt_5068e 1 = .ok (.invokevirtual 492, 3) := by decide +kernel
theorem dJ0_charAt_5068e_4 : decode cJ0_charAt_5068e 4 = .ok (.ifCond .eq 12, 3) := by decide +kernel
theorem dJ0_charAt_5068e_7 : decode cJ0_charAt_5068e 7 = .ok (.aload_n 0, 1) := by decide +kernel
theorem dJ0_charAt_5068e_8 : decode cJ0_charAt_5068e 8 = .ok (.getfield 9, 3) := by decide +kernel
theorem dJ0_charAt_5068e_11 : decode cJ0_charAt_5068e 11 = .ok (.iload_n 1, 1) := by decide +kernel
theorem dJ0_charAt_5068e_12 : decode cJ0_charAt_5068e 12 = .ok (.invokestatic 495, 3) := by decide +kernel
theorem dJ0_charAt_5068e_15 : decode cJ0_charAt_5068e 15 = .ok (.ireturn, 1) := by decide +kernel
theorem dJ0_charAt_5068e_16 : decode cJ0_charAt_5068e 16 = .ok (.aload_n 0, 1) := by decide +kernel
theorem dJ0_charAt_5068e_17 : decode cJ0_charAt_5068e 17 = .ok (.getfield 9, 3) := by decide +kernel
theorem dJ0_charAt_5068e_20 : decode cJ0_charAt_5068e 20 = .ok (.iload_n 1, 1) := by decide +kernel
theorem dJ0_charAt_5068e_21 : decode cJ0_charAt_5068e 21 = .ok (.invokestatic 498, 3) := by decide +kernel
theorem dJ0_charAt_5068e_24 : decode cJ0_charAt_5068e 24 = .ok (.ireturn, 1) := by decide +kernel
theorem dJ0_isLatin1_aae02_0 : decode cJ0_isLatin1_aae02 0 = .ok (.getstatic 38, 3) := by decide +kernel
theorem dJ0_isLatin1_aae02_3 : decode cJ0_isLatin1_aae02 3 = .ok (.ifCond .eq 14, 3) := by decide +kernel
theorem dJ0_isLatin1_aae02_6 : decode cJ0_isLatin1_aae02 6 = .ok (.aload_n 0, 1) := by decide +kernel
theorem dJ0_isLatin1_aae02_7 : decode cJ0_isLatin1_aae02 7 = .ok (.getfield 15, 3) := by decide +kernel
theorem dJ0_isLatin1_aae02_10 : decode cJ0_isLatin1_aae02 10 = .ok (.ifCond .ne 7, 3) := by decide +kernel
theorem dJ0_isLatin1_aae02_13 : decode cJ0_isLatin1_aae02 13 = .ok (.iconst 1, 1) := by decide +kernel
theorem dJ0_isLatin1_aae02_14 : decode cJ0_isLatin1_aae02 14 = .ok (.goto 4, 3) := by decide +kernel
theorem dJ0_isLatin1_aae02_17 : decode cJ0_isLatin1_aae02 17 = .ok (.iconst 0, 1) := by decide +kernel
theorem dJ0_isLatin1_aae02_18 : decode cJ0_isLatin1_aae02 18 = .ok (.ireturn, 1) := by decide +kernel
theorem dJ0_checkIndex_df160_0 : decode cJ0_checkIndex_df160 0 = .ok (.iload_n 0, 1) := by decide +kernel
theorem dJ0_checkIndex_df160_1 : decode cJ0_checkIndex_df160 1 = .ok (.iload_n 1, 1) := by decide +kernel
theorem dJ0_checkIndex_df160_2 : decode cJ0_checkIndex_df160 2 = .ok (.getstatic 1053, 3) := by decide +kernel
theorem dJ0_checkIndex_df160_5 : decode cJ0_checkIndex_df160 5 = .ok (.invokestatic 1059, 3) := by decide +kernel
theorem dJ0_checkIndex_df160_8 : decode cJ0_checkIndex_df160 8 = .ok (.pop, 1) := by decide +kernel
theorem dJ0_checkIndex_df160_9 : decode cJ0_checkIndex_df160 9 = .ok (.return_, 1) := by decide +kernel
theorem dJ1_charAt_3b067_0 : decode cJ1_charAt_3b067 0 = .ok (.iload_n 1, 1) := by decide +kernel
theorem dJ1_charAt_3b067_1 : decode cJ1_charAt_3b067 1 = .ok (.aload_n 0, 1) := by decide +kernel
theorem dJ1_charAt_3b067_2 : decode cJ1_charAt_3b067 2 = .ok (.arraylength, 1) := by decide +kernel
theorem dJ1_charAt_3b067_3 : decode cJ1_charAt_3b067 3 = .ok (.invokestatic 9, 3) := by decide +kernel
theorem dJ1_charAt_3b067_6 : decode cJ1_charAt_3b067 6 = .ok (.aload_n 0, 1) := by decide +kernel
theorem dJ1_charAt_3b067_7 : decode cJ1_charAt_3b067 7 = .ok (.iload_n 1, 1) := by decide +kernel
theorem dJ1_charAt_3b067_8 : decode cJ1_charAt_3b067 8 = .ok (.baload, 1) := by decide +kernel
theorem dJ1_charAt_3b067_9 : decode cJ1_charAt_3b067 9 = .ok (.sipush 255, 3) := by decide +kernel
theorem dJ1_charAt_3b067_12 : decode cJ1_charAt_3b067 12 = .ok (.iand, 1) := by decide +kernel
theorem dJ1_charAt_3b067_13 : decode cJ1_charAt_3b067 13 = .ok (.i2c, 1) := by decide +kernel
theorem dJ1_charAt_3b067_14 : decode cJ1_charAt_3b067 14 = .ok (.ireturn, 1) := by decide +kernel
theorem dJ2_getChar_3b067_0 : decode cJ2_getChar_3b067 0 = .ok (.getstatic 44, 3) := by decide +kernel
theorem dJ2_getChar_3b067_3 : decode cJ2_getChar_3b067 3 = .ok (.ifCond .ne 25, 3) := by decide +kernel
theorem dJ2_getChar_3b067_6 : decode cJ2_getChar_3b067 6 = .ok (.iload_n 1, 1) := by decide +kernel
theorem dJ2_getChar_3b067_7 : decode cJ2_getChar_3b067 7 = .ok (.ifCond .lt 11, 3) := by decide +kernel
theorem dJ2_getChar_3b067_10 : decode cJ2_getChar_3b067 10 = .ok (.iload_n 1, 1) := by decide +kernel
theorem dJ2_getChar_3b067_11 : decode cJ2_getChar_3b067 11 = .ok (.aload_n 0, 1) := by decide +kernel
theorem dJ2_getChar_3b067_12 : decode cJ2_getChar_3b067 12 = .ok (.invokestatic 48, 3) := by decide +kernel
theorem dJ2_getChar_3b067_15 : decode cJ2_getChar_3b067 15 = .ok (.if_icmp .lt 13, 3) := by decide +kernel
theorem dJ2_getChar_3b067_18 : decode cJ2_getChar_3b067 18 = .ok (.new 52, 3) := by decide +kernel
theorem dJ2_getChar_3b067_21 : decode cJ2_getChar_3b067 21 = .ok (.dup, 1) := by decide +kernel
theorem dJ2_getChar_3b067_22 : decode cJ2_getChar_3b067 22 = .ok (.ldc 54, 2) := by decide +kernel
theorem dJ2_getChar_3b067_24 : decode cJ2_getChar_3b067 24 = .ok (.invokespecial 56, 3) := by decide +kernel
theorem dJ2_getChar_3b067_27 : decode cJ2_getChar_3b067 27 = .ok (.athrow, 1) := by decide +kernel
theorem dJ2_getChar_3b067_28 : decode cJ2_getChar_3b067 28 = .ok (.iload_n 1, 1) := by decide +kernel
theorem dJ2_getChar_3b067_29 : decode cJ2_getChar_3b067 29 = .ok (.iconst 1, 1) := by decide +kernel
theorem dJ2_getChar_3b067_30 : decode cJ2_getChar_3b067 30 = .ok (.ishl, 1) := by decide +kernel
theorem dJ2_getChar_3b067_31 : decode cJ2_getChar_3b067 31 = .ok (.istore_n 1, 1) := by decide +kernel
theorem dJ2_getChar_3b067_32 : decode cJ2_getChar_3b067 32 = .ok (.aload_n 0, 1) := by decide +kernel
theorem dJ2_getChar_3b067_33 : decode cJ2_getChar_3b067 33 = .ok (.iload_n 1, 1) := by decide +kernel
theorem dJ2_getChar_3b067_34 : decode cJ2_getChar_3b067 34 = .ok (.iinc 1 1, 3) := by decide +kernel
theorem dJ2_getChar_3b067_37 : decode cJ2_getChar_3b067 37 = .ok (.baload, 1) := by decide +kernel
theorem dJ2_getChar_3b067_38 : decode cJ2_getChar_3b067 38 = .ok (.sipush 255, 3) := by decide +kernel
theorem dJ2_getChar_3b067_41 : decode cJ2_getChar_3b067 41 = .ok (.iand, 1) := by decide +kernel
theorem dJ2_getChar_3b067_42 : decode cJ2_getChar_3b067 42 = .ok (.getstatic 59, 3) := by decide +kernel
theorem dJ2_getChar_3b067_45 : decode cJ2_getChar_3b067 45 = .ok (.ishl, 1) := by decide +kernel
theorem dJ2_getChar_3b067_46 : decode cJ2_getChar_3b067 46 = .ok (.aload_n 0, 1) := by decide +kernel
theorem dJ2_getChar_3b067_47 : decode cJ2_getChar_3b067 47 = .ok (.iload_n 1, 1) := by decide +kernel
theorem dJ2_getChar_3b067_48 : decode cJ2_getChar_3b067 48 = .ok (.baload, 1) := by decide +kernel
theorem dJ2_getChar_3b067_49 : decode cJ2_getChar_3b067 49 = .ok (.sipush 255, 3) := by decide +kernel
theorem dJ2_getChar_3b067_52 : decode cJ2_getChar_3b067 52 = .ok (.iand, 1) := by decide +kernel
theorem dJ2_getChar_3b067_53 : decode cJ2_getChar_3b067 53 = .ok (.getstatic 63, 3) := by decide +kernel
theorem dJ2_getChar_3b067_56 : decode cJ2_getChar_3b067 56 = .ok (.ishl, 1) := by decide +kernel
theorem dJ2_getChar_3b067_57 : decode cJ2_getChar_3b067 57 = .ok (.ior, 1) := by decide +kernel
theorem dJ2_getChar_3b067_58 : decode cJ2_getChar_3b067 58 = .ok (.i2c, 1) := by decide +kernel
theorem dJ2_getChar_3b067_59 : decode cJ2_getChar_3b067 59 = .ok (.ireturn, 1) := by decide +kernel
theorem dJ2_length_9d52b_0 : decode cJ2_length_9d52b 0 = .ok (.aload_n 0, 1) := by decide +kernel
theorem dJ2_length_9d52b_1 : decode cJ2_length_9d52b 1 = .ok (.arraylength, 1) := by decide +kernel
theorem dJ2_length_9d52b_2 : decode cJ2_length_9d52b 2 = .ok (.iconst 1, 1) := by decide +kernel
theorem dJ2_length_9d52b_3 : decode cJ2_length_9d52b 3 = .ok (.ishr, 1) := by decide +kernel
theorem dJ2_length_9d52b_4 : decode cJ2_length_9d52b 4 = .ok (.ireturn, 1) := by decide +kernel
theorem dJ2_charAt_3b067_0 : decode cJ2_charAt_3b067 0 = .ok (.iload_n 1, 1) := by decide +kernel
theorem dJ2_charAt_3b067_1 : decode cJ2_charAt_3b067 1 = .ok (.aload_n 0, 1) := by decide +kernel
theorem dJ2_charAt_3b067_2 : decode cJ2_charAt_3b067 2 = .ok (.invokestatic 67, 3) := by decide +kernel
theorem dJ2_charAt_3b067_5 : decode cJ2_charAt_3b067 5 = .ok (.aload_n 0, 1) := by decide +kernel
theorem dJ2_charAt_3b067_6 : decode cJ2_charAt_3b067 6 = .ok (.iload_n 1, 1) := by decide +kernel
theorem dJ2_charAt_3b067_7 : decode cJ2_charAt_3b067 7 = .ok (.invokestatic 71, 3) := by decide +kernel
theorem dJ2_charAt_3b067_10 : decode cJ2_charAt_3b067 10 = .ok (.ireturn, 1) := by decide +kernel
theorem dJ2_checkIndex_2214a_0 : decode cJ2_checkIndex_2214a 0 = .ok (.iload_n 0, 1) := by decide +kernel
theorem dJ2_checkIndex_2214a_1 : decode cJ2_checkIndex_2214a 1 = .ok (.aload_n 1, 1) := by decide +kernel
theorem dJ2_checkIndex_2214a_2 : decode cJ2_checkIndex_2214a 2 = .ok (.invokestatic 48, 3) := by decide +kernel
theorem dJ2_checkIndex_2214a_5 : decode cJ2_checkIndex_2214a 5 = .ok (.invokestatic 414, 3) := by decide +kernel
theorem dJ2_checkIndex_2214a_8 : decode cJ2_checkIndex_2214a 8 = .ok (.return_, 1) := by decide +kernel
theorem dJxa1e45_init_da8c8_0 : decode cJxa1e45_init_da8c8 0 = .ok (.aload_n 0, 1) := by decide +kernel
theorem dJxa1e45_init_da8c8_1 : decode cJxa1e45_init_da8c8 1 = .ok (.invokespecial 1, 3) := by decide +kernel
theorem dJxa1e45_init_da8c8_4 : decode cJxa1e45_init_da8c8 4 = .ok (.return_, 1) := by decide +kernel
theorem dJxc12de_init_da8c8_0 : decode cJxc12de_init_da8c8 0 = .ok (.aload_n 0, 1) := by decide +kernel
theorem dJxc12de_init_da8c8_1 : decode cJxc12de_init_da8c8 1 = .ok (.invokespecial 1, 3) := by decide +kernel
theorem dJxc12de_init_da8c8_4 : decode cJxc12de_init_da8c8 4 = .ok (.aload_n 0, 1) := by decide +kernel
theorem dJxc12de_init_da8c8_5 : decode cJxc12de_init_da8c8 5 = .ok (.iconst 0, 1) := by decide +kernel
theorem dJxc12de_init_da8c8_6 : decode cJxc12de_init_da8c8 6 = .ok (.putfield 7, 3) := by decide +kernel
theorem dJxc12de_init_da8c8_9 : decode cJxc12de_init_da8c8 9 = .ok (.return_, 1) := by decide +kernel
theorem dJx4a65c_init_da8c8_0 : decode cJx4a65c_init_da8c8 0 = .ok (.aload_n 0, 1) := by decide +kernel
theorem dJx4a65c_init_da8c8_1 : decode cJx4a65c_init_da8c8 1 = .ok (.invokespecial 1, 3) := by decide +kernel
theorem dJx4a65c_init_da8c8_4 : decode cJx4a65c_init_da8c8 4 = .ok (.aload_n 0, 1) := by decide +kernel
theorem dJx4a65c_init_da8c8_5 : decode cJx4a65c_init_da8c8 5 = .ok (.getstatic 39, 3) := by decide +kernel
theorem dJx4a65c_init_da8c8_8 : decode cJx4a65c_init_da8c8 8 = .ok (.putfield 9, 3) := by decide +kernel
theorem dJx4a65c_init_da8c8_11 : decode cJx4a65c_init_da8c8 11 = .ok (.return_, 1) := by decide +kernel
theorem dJx4a65c_grow_92f84_0 : decode cJx4a65c_grow_92f84 0 = .ok (.aload_n 0, 1) := by decide +kernel
theorem dJx4a65c_grow_92f84_1 : decode cJx4a65c_grow_92f84 1 = .ok (.getfield 9, 3) := by decide +kernel
theorem dJx4a65c_grow_92f84_4 : decode cJx4a65c_grow_92f84 4 = .ok (.arraylength, 1) := by decide +kernel
theorem dJx4a65c_grow_92f84_5 : decode cJx4a65c_grow_92f84 5 = .ok (.istore_n 2, 1) := by decide +kernel
theorem dJx4a65c_grow_92f84_6 : decode cJx4a65c_grow_92f84 6 = .ok (.iload_n 2, 1) := by decide +kernel
theorem dJx4a65c_grow_92f84_7 : decode cJx4a65c_grow_92f84 7 = .ok (.ifCond .gt 13, 3) := by decide +kernel
theorem dJx4a65c_grow_92f84_10 : decode cJx4a65c_grow_92f84 10 = .ok (.aload_n 0, 1) := by decide +kernel
theorem dJx4a65c_grow_92f84_11 : decode cJx4a65c_grow_92f84 11 = .ok (.getfield 9, 3) := by decide +kernel
theorem dJx4a65c_grow_92f84_14 : decode cJx4a65c_grow_92f84 14 = .ok (.getstatic 39, 3) := by decide +kernel
theorem dJx4a65c_grow_92f84_17 : decode cJx4a65c_grow_92f84 17 = .ok (.if_acmp .eq 28, 3) := by decide +kernel
theorem dJx4a65c_grow_92f84_20 : decode cJx4a65c_grow_92f84 20 = .ok (.iload_n 2, 1) := by decide +kernel
theorem dJx4a65c_grow_92f84_21 : decode cJx4a65c_grow_92f84 21 = .ok (.iload_n 1, 1) := by decide +kernel
theorem dJx4a65c_grow_92f84_22 : decode cJx4a65c_grow_92f84 22 = .ok (.iload_n 2, 1) := by decide +kernel
theorem dJx4a65c_grow_92f84_23 : decode cJx4a65c_grow_92f84 23 = .ok (.isub, 1) := by decide +kernel
theorem dJx4a65c_grow_92f84_24 : decode cJx4a65c_grow_92f84 24 = .ok (.iload_n 2, 1) := by decide +kernel
theorem dJx4a65c_grow_92f84_25 : decode cJx4a65c_grow_92f84 25 = .ok (.iconst 1, 1) := by decide +kernel
theorem dJx4a65c_grow_92f84_26 : decode cJx4a65c_grow_92f84 26 = .ok (.ishr, 1) := by decide +kernel
theorem dJx4a65c_grow_92f84_27 : decode cJx4a65c_grow_92f84 27 = .ok (.invokestatic 73, 3) := by decide +kernel
theorem dJx4a65c_grow_92f84_30 : decode cJx4a65c_grow_92f84 30 = .ok (.istore_n 3, 1) := by decide +kernel
theorem dJx4a65c_grow_92f84_31 : decode cJx4a65c_grow_92f84 31 = .ok (.aload_n 0, 1) := by decide +kernel
theorem dJx4a65c_grow_92f84_32 : decode cJx4a65c_grow_92f84 32 = .ok (.aload_n 0, 1) := by decide +kernel
theorem dJx4a65c_grow_92f84_33 : decode cJx4a65c_grow_92f84 33 = .ok (.getfield 9, 3) := by decide +kernel
theorem dJx4a65c_grow_92f84_36 : decode cJx4a65c_grow_92f84 36 = .ok (.iload_n 3, 1) := by decide +kernel
theorem dJx4a65c_grow_92f84_37 : decode cJx4a65c_grow_92f84 37 = .ok (.invokestatic 66, 3) := by decide +kernel
theorem dJx4a65c_grow_92f84_40 : decode cJx4a65c_grow_92f84 40 = .ok (.dup_x1, 1) := by decide +kernel
theorem dJx4a65c_grow_92f84_41 : decode cJx4a65c_grow_92f84 41 = .ok (.putfield 9, 3) := by decide +kernel
theorem dJx4a65c_grow_92f84_44 : decode cJx4a65c_grow_92f84 44 = .ok (.areturn, 1) := by decide +kernel
theorem dJx4a65c_grow_92f84_45 : decode cJx4a65c_grow_92f84 45 = .ok (.aload_n 0, 1) := by decide +kernel
theorem dJx4a65c_grow_92f84_46 : decode cJx4a65c_grow_92f84 46 = .ok (.bipush 10, 2) := by decide +kernel
theorem dJx4a65c_grow_92f84_48 : decode cJx4a65c_grow_92f84 48 = .ok (.iload_n 1, 1) := by decide +kernel
theorem dJx4a65c_grow_92f84_49 : decode cJx4a65c_grow_92f84 49 = .ok (.invokestatic 79, 3) := by decide +kernel
theorem dJx4a65c_grow_92f84_52 : decode cJx4a65c_grow_92f84 52 = .ok (.anewarray 7, 3) := by decide +kernel
theorem dJx4a65c_grow_92f84_55 : decode cJx4a65c_grow_92f84 55 = .ok (.dup_x1, 1) := by decide +kernel
theorem dJx4a65c_grow_92f84_56 : decode cJx4a65c_grow_92f84 56 = .ok (.putfield 9, 3) := by decide +kernel
theorem dJx4a65c_grow_92f84_59 : decode cJx4a65c_grow_92f84 59 = .ok (.areturn, 1) := by decide +kernel
theorem dJx4a65c_grow_d5877_0 : decode cJx4a65c_grow_d5877 0 = .ok (.aload_n 0, 1) := by decide +kernel
theorem dJx4a65c_grow_d5877_1 : decode cJx4a65c_grow_d5877 1 = .ok (.aload_n 0, 1) := by decide +kernel
theorem dJx4a65c_grow_d5877_2 : decode cJx4a65c_grow_d5877 2 = .ok (.getfield 48, 3) := by decide +kernel
theorem dJx4a65c_grow_d5877_5 : decode cJx4a65c_grow_d5877 5 = .ok (.iconst 1, 1) := by decide +kernel
theorem dJx4a65c_grow_d5877_6 : decode cJx4a65c_grow_d5877 6 = .ok (.iadd, 1) := by decide +kernel
theorem dJx4a65c_grow_d5877_7 : decode cJx4a65c_grow_d5877 7 = .ok (.invokevirtual 69, 3) := by decide +kernel
theorem dJx4a65c_grow_d5877_10 : decode cJx4a65c_grow_d5877 10 = .ok (.areturn, 1) := by decide +kernel
theorem dJx4a65c_size_8abf5_0 : decode cJx4a65c_size_8abf5 0 = .ok (.aload_n 0, 1) := by decide +kernel
theorem dJx4a65c_size_8abf5_1 : decode cJx4a65c_size_8abf5 1 = .ok (.getfield 48, 3) := by decide +kernel
theorem dJx4a65c_size_8abf5_4 : decode cJx4a65c_size_8abf5 4 = .ok (.ireturn, 1) := by decide +kernel
theorem dJx4a65c_elementData_915e3_0 : decode cJx4a65c_elementData_915e3 0 = .ok (.aload_n 0, 1) := by decide +kernel
theorem dJx4a65c_elementData_915e3_1 : decode cJx4a65c_elementData_915e3 1 = .ok (.getfield 9, 3) := by decide +kernel
theorem dJx4a65c_elementData_915e3_4 : decode cJx4a65c_elementData_915e3 4 = .ok (.iload_n 1, 1) := by decide +kernel
theorem dJx4a65c_elementData_915e3_5 : decode cJx4a65c_elementData_915e3 5 = .ok (.aaload, 1) := by decide +kernel
theorem dJx4a65c_elementData_915e3_6 : decode cJx4a65c_elementData_915e3 6 = .ok (.areturn, 1) := by decide +kernel
theorem dJx4a65c_get_915e3_0 : decode cJx4a65c_get_915e3 0 = .ok (.iload_n 1, 1) := by decide +kernel
theorem dJx4a65c_get_915e3_1 : decode cJx4a65c_get_915e3 1 = .ok (.aload_n 0, 1) := by decide +kernel
theorem dJx4a65c_get_915e3_2 : decode cJx4a65c_get_915e3 2 = .ok (.getfield 48, 3) := by decide +kernel
theorem dJx4a65c_get_915e3_5 : decode cJx4a65c_get_915e3 5 = .ok (.invokestatic 118, 3) := by decide +kernel
theorem dJx4a65c_get_915e3_8 : decode cJx4a65c_get_915e3 8 = .ok (.pop, 1) := by decide +kernel
theorem dJx4a65c_get_915e3_9 : decode cJx4a65c_get_915e3 9 = .ok (.aload_n 0, 1) := by decide +kernel
theorem dJx4a65c_get_915e3_10 : decode cJx4a65c_get_915e3 10 = .ok (.iload_n 1, 1) := by decide +kernel
theorem dJx4a65c_get_915e3_11 : decode cJx4a65c_get_915e3 11 = .ok (.invokevirtual 123, 3) := by decide +kernel
theorem dJx4a65c_get_915e3_14 : decode cJx4a65c_get_915e3 14 = .ok (.areturn, 1) := by decide +kernel
theorem dJx4a65c_add_72be8_0 : decode cJx4a65c_add_72be8 0 = .ok (.iload_n 3, 1) := by decide +kernel
theorem dJx4a65c_add_72be8_1 : decode cJx4a65c_add_72be8 1 = .ok (.aload_n 2, 1) := by decide +kernel
theorem dJx4a65c_add_72be8_2 : decode cJx4a65c_add_72be8 2 = .ok (.arraylength, 1) := by decide +kernel
theorem dJx4a65c_add_72be8_3 : decode cJx4a65c_add_72be8 3 = .ok (.if_icmp .ne 8, 3) := by decide +kernel
theorem dJx4a65c_add_72be8_6 : decode cJx4a65c_add_72be8 6 = .ok (.aload_n 0, 1) := by decide +kernel
theorem dJx4a65c_add_72be8_7 : decode cJx4a65c_add_72be8 7 = .ok (.invokevirtual 129, 3) := by decide +kernel
theorem dJx4a65c_add_72be8_10 : decode cJx4a65c_add_72be8 10 = .ok (.astore_n 2, 1) := by decide +kernel
theorem dJx4a65c_add_72be8_11 : decode cJx4a65c_add_72be8 11 = .ok (.aload_n 2, 1) := by decide +kernel
theorem dJx4a65c_add_72be8_12 : decode cJx4a65c_add_72be8 12 = .ok (.iload_n 3, 1) := by decide +kernel
theorem dJx4a65c_add_72be8_13 : decode cJx4a65c_add_72be8 13 = .ok (.aload_n 1, 1) := by decide +kernel
theorem dJx4a65c_add_72be8_14 : decode cJx4a65c_add_72be8 14 = .ok (.aastore, 1) := by decide +kernel
theorem dJx4a65c_add_72be8_15 : decode cJx4a65c_add_72be8 15 = .ok (.aload_n 0, 1) := by decide +kernel
theorem dJx4a65c_add_72be8_16 : decode cJx4a65c_add_72be8 16 = .ok (.iload_n 3, 1) := by decide +kernel
theorem dJx4a65c_add_72be8_17 : decode cJx4a65c_add_72be8 17 = .ok (.iconst 1, 1) := by decide +kernel
theorem dJx4a65c_add_72be8_18 : decode cJx4a65c_add_72be8 18 = .ok (.iadd, 1) := by decide +kernel
theorem dJx4a65c_add_72be8_19 : decode cJx4a65c_add_72be8 19 = .ok (.putfield 48, 3) := by decide +kernel
theorem dJx4a65c_add_72be8_22 : decode cJx4a65c_add_72be8 22 = .ok (.return_, 1) := by decide +kernel
theorem dJx4a65c_add_9ea2d_0 : decode cJx4a65c_add_9ea2d 0 = .ok (.aload_n 0, 1) := by decide +kernel
theorem dJx4a65c_add_9ea2d_1 : decode cJx4a65c_add_9ea2d 1 = .ok (.dup, 1) := by decide +kernel
theorem dJx4a65c_add_9ea2d_2 : decode cJx4a65c_add_9ea2d 2 = .ok (.getfield 63, 3) := by decide +kernel
theorem dJx4a65c_add_9ea2d_5 : decode cJx4a65c_add_9ea2d 5 = .ok (.iconst 1, 1) := by decide +kernel
theorem dJx4a65c_add_9ea2d_6 : decode cJx4a65c_add_9ea2d 6 = .ok (.iadd, 1) := by decide +kernel
theorem dJx4a65c_add_9ea2d_7 : decode cJx4a65c_add_9ea2d 7 = .ok (.putfield 63, 3) := by decide +kernel
theorem dJx4a65c_add_9ea2d_10 : decode cJx4a65c_add_9ea2d 10 = .ok (.aload_n 0, 1) := by decide +kernel
theorem dJx4a65c_add_9ea2d_11 : decode cJx4a65c_add_9ea2d 11 = .ok (.aload_n 1, 1) := by decide +kernel
theorem dJx4a65c_add_9ea2d_12 : decode cJx4a65c_add_9ea2d 12 = .ok (.aload_n 0, 1) := by decide +kernel
theorem dJx4a65c_add_9ea2d_13 : decode cJx4a65c_add_9ea2d 13 = .ok (.getfield 9, 3) := by decide +kernel
theorem dJx4a65c_add_9ea2d_16 : decode cJx4a65c_add_9ea2d 16 = .ok (.aload_n 0, 1) := by decide +kernel
theorem dJx4a65c_add_9ea2d_17 : decode cJx4a65c_add_9ea2d 17 = .ok (.getfield 48, 3) := by decide +kernel
theorem dJx4a65c_add_9ea2d_20 : decode cJx4a65c_add_9ea2d 20 = .ok (.invokevirtual 131, 3) := by decide +kernel
theorem dJx4a65c_add_9ea2d_23 : decode cJx4a65c_add_9ea2d 23 = .ok (.iconst 1, 1) := by decide +kernel
theorem dJx4a65c_add_9ea2d_24 : decode cJx4a65c_add_9ea2d 24 = .ok (.ireturn, 1) := by decide +kernel
theorem dJ15_checkIndex_7cf53_0 : decode cJ15_checkIndex_7cf53 0 = .ok (.iload_n 0, 1) := by decide +kernel
theorem dJ15_checkIndex_7cf53_1 : decode cJ15_checkIndex_7cf53 1 = .ok (.iload_n 1, 1) := by decide +kernel
theorem dJ15_checkIndex_7cf53_2 : decode cJ15_checkIndex_7cf53 2 = .ok (.aconst_null, 1) := by decide +kernel
theorem dJ15_checkIndex_7cf53_3 : decode cJ15_checkIndex_7cf53 3 = .ok (.invokestatic 105, 3) := by decide +kernel
theorem dJ15_checkIndex_7cf53_6 : decode cJ15_checkIndex_7cf53 6 = .ok (.ireturn, 1) := by decide +kernel
theorem dJ3_checkIndex_8e157_0 : decode cJ3_checkIndex_8e157 0 = .ok (.iload_n 0, 1) := by decide +kernel
theorem dJ3_checkIndex_8e157_1 : decode cJ3_checkIndex_8e157 1 = .ok (.ifCond .lt 8, 3) := by decide +kernel
theorem dJ3_checkIndex_8e157_4 : decode cJ3_checkIndex_8e157 4 = .ok (.iload_n 0, 1) := by decide +kernel
theorem dJ3_checkIndex_8e157_5 : decode cJ3_checkIndex_8e157 5 = .ok (.iload_n 1, 1) := by decide +kernel
theorem dJ3_checkIndex_8e157_6 : decode cJ3_checkIndex_8e157 6 = .ok (.if_icmp .lt 10, 3) := by decide +kernel
theorem dJ3_checkIndex_8e157_9 : decode cJ3_checkIndex_8e157 9 = .ok (.aload_n 2, 1) := by decide +kernel
theorem dJ3_checkIndex_8e157_10 : decode cJ3_checkIndex_8e157 10 = .ok (.iload_n 0, 1) := by decide +kernel
theorem dJ3_checkIndex_8e157_11 : decode cJ3_checkIndex_8e157 11 = .ok (.iload_n 1, 1) := by decide +kernel
theorem dJ3_checkIndex_8e157_12 : decode cJ3_checkIndex_8e157 12 = .ok (.invokestatic 95, 3) := by decide +kernel
theorem dJ3_checkIndex_8e157_15 : decode cJ3_checkIndex_8e157 15 = .ok (.athrow, 1) := by decide +kernel
theorem dJ3_checkIndex_8e157_16 : decode cJ3_checkIndex_8e157 16 = .ok (.iload_n 0, 1) := by decide +kernel
theorem dJ3_checkIndex_8e157_17 : decode cJ3_checkIndex_8e157 17 = .ok (.ireturn, 1) := by decide +kernel
theorem dL_cell_0 : decode cL_cell 0 = .ok (.iload_n 1, 1) := by decide +kernel
theorem dL_cell_1 : decode cL_cell 1 = .ok (.aload_n 0, 1) := by decide +kernel
theorem dL_cell_2 : decode cL_cell 2 = .ok (.arraylength, 1) := by decide +kernel
theorem dL_cell_3 : decode cL_cell 3 = .ok (.if_icmp .ge 9, 3) := by decide +kernel
theorem dL_cell_6 : decode cL_cell 6 = .ok (.aload_n 0, 1) := by decide +kernel
theorem dL_cell_7 : decode cL_cell 7 = .ok (.iload_n 1, 1) := by decide +kernel
theorem dL_cell_8 : decode cL_cell 8 = .ok (.iaload, 1) := by decide +kernel
theorem dL_cell_9 : decode cL_cell 9 = .ok (.goto 10, 3) := by decide +kernel
theorem dL_cell_12 : decode cL_cell 12 = .ok (.ldc 7, 2) := by decide +kernel
theorem dL_cell_14 : decode cL_cell 14 = .ok (.iload_n 1, 1) := by decide +kernel
theorem dL_cell_15 : decode cL_cell 15 = .ok (.imul, 1) := by decide +kernel
theorem dL_cell_16 : decode cL_cell 16 = .ok (.bipush 31, 2) := by decide +kernel
theorem dL_cell_18 : decode cL_cell 18 = .ok (.iadd, 1) := by decide +kernel
theorem dL_cell_19 : decode cL_cell 19 = .ok (.ireturn, 1) := by decide +kernel
theorem dL_pick_0 : decode cL_pick 0 = .ok (.aload_n 0, 1) := by decide +kernel
theorem dL_pick_1 : decode cL_pick 1 = .ok (.iload_n 1, 1) := by decide +kernel
theorem dL_pick_2 : decode cL_pick 2 = .ok (.invokestatic 8, 3) := by decide +kernel
theorem dL_pick_5 : decode cL_pick 5 = .ok (.iconst 1, 1) := by decide +kernel
theorem dL_pick_6 : decode cL_pick 6 = .ok (.iushr, 1) := by decide +kernel
theorem dL_pick_7 : decode cL_pick 7 = .ok (.iload_n 2, 1) := by decide +kernel
theorem dL_pick_8 : decode cL_pick 8 = .ok (.irem, 1) := by decide +kernel
theorem dL_pick_9 : decode cL_pick 9 = .ok (.ireturn, 1) := by decide +kernel
theorem dL_addBeamline_0 : decode cL_addBeamline 0 = .ok (.aload_n 0, 1) := by decide +kernel
theorem dL_addBeamline_1 : decode cL_addBeamline 1 = .ok (.iload_n 1, 1) := by decide +kernel
theorem dL_addBeamline_2 : decode cL_addBeamline 2 = .ok (.iload_n 2, 1) := by decide +kernel
theorem dL_addBeamline_3 : decode cL_addBeamline 3 = .ok (.invokevirtual 14, 3) := by decide +kernel
theorem dL_addBeamline_6 : decode cL_addBeamline 6 = .ok (.ireturn, 1) := by decide +kernel
theorem dL_addBeamline_7 : decode cL_addBeamline 7 = .ok (.astore_n 3, 1) := by decide +kernel
theorem dL_addBeamline_8 : decode cL_addBeamline 8 = .ok (.sipush (-1001), 3) := by decide +kernel
theorem dL_addBeamline_11 : decode cL_addBeamline 11 = .ok (.ireturn, 1) := by decide +kernel
theorem dL_addBeamline_12 : decode cL_addBeamline 12 = .ok (.astore_n 3, 1) := by decide +kernel
theorem dL_addBeamline_13 : decode cL_addBeamline 13 = .ok (.sipush (-1002), 3) := by decide +kernel
theorem dL_addBeamline_16 : decode cL_addBeamline 16 = .ok (.ireturn, 1) := by decide +kernel
theorem dL_setRate_0 : decode cL_setRate 0 = .ok (.aload_n 0, 1) := by decide +kernel
theorem dL_setRate_1 : decode cL_setRate 1 = .ok (.iload_n 1, 1) := by decide +kernel
theorem dL_setRate_2 : decode cL_setRate 2 = .ok (.iload_n 2, 1) := by decide +kernel
theorem dL_setRate_3 : decode cL_setRate 3 = .ok (.invokevirtual 24, 3) := by decide +kernel
theorem dL_setRate_6 : decode cL_setRate 6 = .ok (.ireturn, 1) := by decide +kernel
theorem dL_setRate_7 : decode cL_setRate 7 = .ok (.astore_n 3, 1) := by decide +kernel
theorem dL_setRate_8 : decode cL_setRate 8 = .ok (.sipush (-1001), 3) := by decide +kernel
theorem dL_setRate_11 : decode cL_setRate 11 = .ok (.ireturn, 1) := by decide +kernel
theorem dL_setRate_12 : decode cL_setRate 12 = .ok (.astore_n 3, 1) := by decide +kernel
theorem dL_setRate_13 : decode cL_setRate 13 = .ok (.sipush (-1002), 3) := by decide +kernel
theorem dL_setRate_16 : decode cL_setRate 16 = .ok (.ireturn, 1) := by decide +kernel
theorem dL_propose_0 : decode cL_propose 0 = .ok (.aload_n 0, 1) := by decide +kernel
theorem dL_propose_1 : decode cL_propose 1 = .ok (.iload_n 1, 1) := by decide +kernel
theorem dL_propose_2 : decode cL_propose 2 = .ok (.iload_n 2, 1) := by decide +kernel
theorem dL_propose_3 : decode cL_propose 3 = .ok (.iload_n 3, 1) := by decide +kernel
theorem dL_propose_4 : decode cL_propose 4 = .ok (.iload 4, 2) := by decide +kernel
theorem dL_propose_6 : decode cL_propose 6 = .ok (.iload 5, 2) := by decide +kernel
theorem dL_propose_8 : decode cL_propose 8 = .ok (.invokevirtual 29, 3) := by decide +kernel
theorem dL_propose_11 : decode cL_propose 11 = .ok (.ireturn, 1) := by decide +kernel
theorem dL_propose_12 : decode cL_propose 12 = .ok (.astore 6, 2) := by decide +kernel
theorem dL_propose_14 : decode cL_propose 14 = .ok (.sipush (-1001), 3) := by decide +kernel
theorem dL_propose_17 : decode cL_propose 17 = .ok (.ireturn, 1) := by decide +kernel
theorem dL_propose_18 : decode cL_propose 18 = .ok (.astore 6, 2) := by decide +kernel
theorem dL_propose_20 : decode cL_propose 20 = .ok (.sipush (-1002), 3) := by decide +kernel
theorem dL_propose_23 : decode cL_propose 23 = .ok (.ireturn, 1) := by decide +kernel
theorem dL_propose_24 : decode cL_propose 24 = .ok (.astore 6, 2) := by decide +kernel
theorem dL_propose_26 : decode cL_propose 26 = .ok (.sipush (-1003), 3) := by decide +kernel
theorem dL_propose_29 : decode cL_propose 29 = .ok (.ireturn, 1) := by decide +kernel
theorem dL_meet_0 : decode cL_meet 0 = .ok (.aload_n 0, 1) := by decide +kernel
theorem dL_meet_1 : decode cL_meet 1 = .ok (.iload_n 1, 1) := by decide +kernel
theorem dL_meet_2 : decode cL_meet 2 = .ok (.invokevirtual 33, 3) := by decide +kernel
theorem dL_meet_5 : decode cL_meet 5 = .ok (.ireturn, 1) := by decide +kernel
theorem dL_meet_6 : decode cL_meet 6 = .ok (.astore_n 2, 1) := by decide +kernel
theorem dL_meet_7 : decode cL_meet 7 = .ok (.sipush (-1001), 3) := by decide +kernel
theorem dL_meet_10 : decode cL_meet 10 = .ok (.ireturn, 1) := by decide +kernel
theorem dL_meet_11 : decode cL_meet 11 = .ok (.astore_n 2, 1) := by decide +kernel
theorem dL_meet_12 : decode cL_meet 12 = .ok (.sipush (-1002), 3) := by decide +kernel
theorem dL_meet_15 : decode cL_meet 15 = .ok (.ireturn, 1) := by decide +kernel
theorem dL_reserve_0 : decode cL_reserve 0 = .ok (.aload_n 0, 1) := by decide +kernel
theorem dL_reserve_1 : decode cL_reserve 1 = .ok (.iload_n 1, 1) := by decide +kernel
theorem dL_reserve_2 : decode cL_reserve 2 = .ok (.invokevirtual 37, 3) := by decide +kernel
theorem dL_reserve_5 : decode cL_reserve 5 = .ok (.ireturn, 1) := by decide +kernel
theorem dL_reserve_6 : decode cL_reserve 6 = .ok (.astore_n 2, 1) := by decide +kernel
theorem dL_reserve_7 : decode cL_reserve 7 = .ok (.sipush (-1001), 3) := by decide +kernel
theorem dL_reserve_10 : decode cL_reserve 10 = .ok (.ireturn, 1) := by decide +kernel
theorem dL_reserve_11 : decode cL_reserve 11 = .ok (.astore_n 2, 1) := by decide +kernel
theorem dL_reserve_12 : decode cL_reserve 12 = .ok (.sipush (-1002), 3) := by decide +kernel
theorem dL_reserve_15 : decode cL_reserve 15 = .ok (.ireturn, 1) := by decide +kernel
theorem dL_train_0 : decode cL_train 0 = .ok (.aload_n 0, 1) := by decide +kernel
theorem dL_train_1 : decode cL_train 1 = .ok (.iload_n 1, 1) := by decide +kernel
theorem dL_train_2 : decode cL_train 2 = .ok (.invokevirtual 40, 3) := by decide +kernel
theorem dL_train_5 : decode cL_train 5 = .ok (.ireturn, 1) := by decide +kernel
theorem dL_train_6 : decode cL_train 6 = .ok (.astore_n 2, 1) := by decide +kernel
theorem dL_train_7 : decode cL_train 7 = .ok (.sipush (-1001), 3) := by decide +kernel
theorem dL_train_10 : decode cL_train 10 = .ok (.ireturn, 1) := by decide +kernel
theorem dL_train_11 : decode cL_train 11 = .ok (.astore_n 2, 1) := by decide +kernel
theorem dL_train_12 : decode cL_train 12 = .ok (.sipush (-1002), 3) := by decide +kernel
theorem dL_train_15 : decode cL_train 15 = .ok (.ireturn, 1) := by decide +kernel
theorem dL_setThere_0 : decode cL_setThere 0 = .ok (.aload_n 0, 1) := by decide +kernel
theorem dL_setThere_1 : decode cL_setThere 1 = .ok (.iload_n 1, 1) := by decide +kernel
theorem dL_setThere_2 : decode cL_setThere 2 = .ok (.iload_n 2, 1) := by decide +kernel
theorem dL_setThere_3 : decode cL_setThere 3 = .ok (.invokevirtual 43, 3) := by decide +kernel
theorem dL_setThere_6 : decode cL_setThere 6 = .ok (.ifCond .eq 7, 3) := by decide +kernel
theorem dL_setThere_9 : decode cL_setThere 9 = .ok (.iconst 1, 1) := by decide +kernel
theorem dL_setThere_10 : decode cL_setThere 10 = .ok (.goto 4, 3) := by decide +kernel
theorem dL_setThere_13 : decode cL_setThere 13 = .ok (.iconst 0, 1) := by decide +kernel
theorem dL_setThere_14 : decode cL_setThere 14 = .ok (.ireturn, 1) := by decide +kernel
theorem dL_setThere_15 : decode cL_setThere 15 = .ok (.astore_n 3, 1) := by decide +kernel
theorem dL_setThere_16 : decode cL_setThere 16 = .ok (.sipush (-1001), 3) := by decide +kernel
theorem dL_setThere_19 : decode cL_setThere 19 = .ok (.ireturn, 1) := by decide +kernel
theorem dL_bring_0 : decode cL_bring 0 = .ok (.aload_n 0, 1) := by decide +kernel
theorem dL_bring_1 : decode cL_bring 1 = .ok (.iload_n 1, 1) := by decide +kernel
theorem dL_bring_2 : decode cL_bring 2 = .ok (.iload_n 2, 1) := by decide +kernel
theorem dL_bring_3 : decode cL_bring 3 = .ok (.invokevirtual 47, 3) := by decide +kernel
theorem dL_bring_6 : decode cL_bring 6 = .ok (.ireturn, 1) := by decide +kernel
theorem dL_bring_7 : decode cL_bring 7 = .ok (.astore_n 3, 1) := by decide +kernel
theorem dL_bring_8 : decode cL_bring 8 = .ok (.sipush (-1001), 3) := by decide +kernel
theorem dL_bring_11 : decode cL_bring 11 = .ok (.ireturn, 1) := by decide +kernel
theorem dL_bring_12 : decode cL_bring 12 = .ok (.astore_n 3, 1) := by decide +kernel
theorem dL_bring_13 : decode cL_bring 13 = .ok (.sipush (-1002), 3) := by decide +kernel
theorem dL_bring_16 : decode cL_bring 16 = .ok (.ireturn, 1) := by decide +kernel
theorem dL_put_0 : decode cL_put 0 = .ok (.aload_n 0, 1) := by decide +kernel
theorem dL_put_1 : decode cL_put 1 = .ok (.iload_n 1, 1) := by decide +kernel
theorem dL_put_2 : decode cL_put 2 = .ok (.iload_n 2, 1) := by decide +kernel
theorem dL_put_3 : decode cL_put 3 = .ok (.invokevirtual 50, 3) := by decide +kernel
theorem dL_put_6 : decode cL_put 6 = .ok (.ireturn, 1) := by decide +kernel
theorem dL_put_7 : decode cL_put 7 = .ok (.astore_n 3, 1) := by decide +kernel
theorem dL_put_8 : decode cL_put 8 = .ok (.sipush (-1001), 3) := by decide +kernel
theorem dL_put_11 : decode cL_put 11 = .ok (.ireturn, 1) := by decide +kernel
theorem dL_put_12 : decode cL_put 12 = .ok (.astore_n 3, 1) := by decide +kernel
theorem dL_put_13 : decode cL_put 13 = .ok (.sipush (-1002), 3) := by decide +kernel
theorem dL_put_16 : decode cL_put 16 = .ok (.ireturn, 1) := by decide +kernel
theorem dL_put_17 : decode cL_put 17 = .ok (.astore_n 3, 1) := by decide +kernel
theorem dL_put_18 : decode cL_put 18 = .ok (.sipush (-1003), 3) := by decide +kernel
theorem dL_put_21 : decode cL_put 21 = .ok (.ireturn, 1) := by decide +kernel
theorem dL_put_22 : decode cL_put 22 = .ok (.astore_n 3, 1) := by decide +kernel
theorem dL_put_23 : decode cL_put 23 = .ok (.sipush (-1004), 3) := by decide +kernel
theorem dL_put_26 : decode cL_put 26 = .ok (.ireturn, 1) := by decide +kernel
theorem dL_life_0 : decode cL_life 0 = .ok (.aload_n 0, 1) := by decide +kernel
theorem dL_life_1 : decode cL_life 1 = .ok (.iload_n 1, 1) := by decide +kernel
theorem dL_life_2 : decode cL_life 2 = .ok (.invokevirtual 58, 3) := by decide +kernel
theorem dL_life_5 : decode cL_life 5 = .ok (.ireturn, 1) := by decide +kernel
theorem dL_life_6 : decode cL_life 6 = .ok (.astore_n 2, 1) := by decide +kernel
theorem dL_life_7 : decode cL_life 7 = .ok (.sipush (-1001), 3) := by decide +kernel
theorem dL_life_10 : decode cL_life 10 = .ok (.ireturn, 1) := by decide +kernel
theorem dL_life_11 : decode cL_life 11 = .ok (.astore_n 2, 1) := by decide +kernel
theorem dL_life_12 : decode cL_life 12 = .ok (.sipush (-1002), 3) := by decide +kernel
theorem dL_life_15 : decode cL_life 15 = .ok (.ireturn, 1) := by decide +kernel
theorem dL_on_0 : decode cL_on 0 = .ok (.aload_n 0, 1) := by decide +kernel
theorem dL_on_1 : decode cL_on 1 = .ok (.iload_n 1, 1) := by decide +kernel
theorem dL_on_2 : decode cL_on 2 = .ok (.invokevirtual 61, 3) := by decide +kernel
theorem dL_on_5 : decode cL_on 5 = .ok (.ireturn, 1) := by decide +kernel
theorem dL_on_6 : decode cL_on 6 = .ok (.astore_n 2, 1) := by decide +kernel
theorem dL_on_7 : decode cL_on 7 = .ok (.sipush (-1001), 3) := by decide +kernel
theorem dL_on_10 : decode cL_on 10 = .ok (.ireturn, 1) := by decide +kernel
theorem dL_on_11 : decode cL_on 11 = .ok (.astore_n 2, 1) := by decide +kernel
theorem dL_on_12 : decode cL_on 12 = .ok (.sipush (-1002), 3) := by decide +kernel
theorem dL_on_15 : decode cL_on 15 = .ok (.ireturn, 1) := by decide +kernel
theorem dL_reason_0 : decode cL_reason 0 = .ok (.aload_n 0, 1) := by decide +kernel
theorem dL_reason_1 : decode cL_reason 1 = .ok (.iload_n 1, 1) := by decide +kernel
theorem dL_reason_2 : decode cL_reason 2 = .ok (.invokevirtual 64, 3) := by decide +kernel
theorem dL_reason_5 : decode cL_reason 5 = .ok (.ireturn, 1) := by decide +kernel
theorem dL_reason_6 : decode cL_reason 6 = .ok (.astore_n 2, 1) := by decide +kernel
theorem dL_reason_7 : decode cL_reason 7 = .ok (.sipush (-1001), 3) := by decide +kernel
theorem dL_reason_10 : decode cL_reason 10 = .ok (.ireturn, 1) := by decide +kernel
theorem dL_fail_0 : decode cL_fail 0 = .ok (.aload_n 0, 1) := by decide +kernel
theorem dL_fail_1 : decode cL_fail 1 = .ok (.iload_n 1, 1) := by decide +kernel
theorem dL_fail_2 : decode cL_fail 2 = .ok (.invokevirtual 68, 3) := by decide +kernel
theorem dL_fail_5 : decode cL_fail 5 = .ok (.ifCond .eq 7, 3) := by decide +kernel
theorem dL_fail_8 : decode cL_fail 8 = .ok (.iconst 1, 1) := by decide +kernel
theorem dL_fail_9 : decode cL_fail 9 = .ok (.goto 4, 3) := by decide +kernel
theorem dL_fail_12 : decode cL_fail 12 = .ok (.iconst 0, 1) := by decide +kernel
theorem dL_fail_13 : decode cL_fail 13 = .ok (.ireturn, 1) := by decide +kernel
theorem dL_fail_14 : decode cL_fail 14 = .ok (.astore_n 2, 1) := by decide +kernel
theorem dL_fail_15 : decode cL_fail 15 = .ok (.sipush (-1001), 3) := by decide +kernel
theorem dL_fail_18 : decode cL_fail 18 = .ok (.ireturn, 1) := by decide +kernel
theorem dL_fail_19 : decode cL_fail 19 = .ok (.astore_n 2, 1) := by decide +kernel
theorem dL_fail_20 : decode cL_fail 20 = .ok (.sipush (-1002), 3) := by decide +kernel
theorem dL_fail_23 : decode cL_fail 23 = .ok (.ireturn, 1) := by decide +kernel
theorem dL_pass_0 : decode cL_pass 0 = .ok (.aload_n 0, 1) := by decide +kernel
theorem dL_pass_1 : decode cL_pass 1 = .ok (.iload_n 1, 1) := by decide +kernel
theorem dL_pass_2 : decode cL_pass 2 = .ok (.invokevirtual 72, 3) := by decide +kernel
theorem dL_pass_5 : decode cL_pass 5 = .ok (.ireturn, 1) := by decide +kernel
theorem dL_pass_6 : decode cL_pass 6 = .ok (.astore_n 2, 1) := by decide +kernel
theorem dL_pass_7 : decode cL_pass 7 = .ok (.sipush (-1001), 3) := by decide +kernel
theorem dL_pass_10 : decode cL_pass 10 = .ok (.ireturn, 1) := by decide +kernel
theorem dL_pass_11 : decode cL_pass 11 = .ok (.astore_n 2, 1) := by decide +kernel
theorem dL_pass_12 : decode cL_pass 12 = .ok (.sipush (-1002), 3) := by decide +kernel
theorem dL_pass_15 : decode cL_pass 15 = .ok (.ireturn, 1) := by decide +kernel
theorem dL_left_0 : decode cL_left 0 = .ok (.aload_n 0, 1) := by decide +kernel
theorem dL_left_1 : decode cL_left 1 = .ok (.iload_n 1, 1) := by decide +kernel
theorem dL_left_2 : decode cL_left 2 = .ok (.invokevirtual 78, 3) := by decide +kernel
theorem dL_left_5 : decode cL_left 5 = .ok (.ireturn, 1) := by decide +kernel
theorem dL_left_6 : decode cL_left 6 = .ok (.astore_n 2, 1) := by decide +kernel
theorem dL_left_7 : decode cL_left 7 = .ok (.sipush (-1001), 3) := by decide +kernel
theorem dL_left_10 : decode cL_left 10 = .ok (.ireturn, 1) := by decide +kernel
theorem dL_leftAnew_0 : decode cL_leftAnew 0 = .ok (.aload_n 0, 1) := by decide +kernel
theorem dL_leftAnew_1 : decode cL_leftAnew 1 = .ok (.iload_n 1, 1) := by decide +kernel
theorem dL_leftAnew_2 : decode cL_leftAnew 2 = .ok (.invokevirtual 81, 3) := by decide +kernel
theorem dL_leftAnew_5 : decode cL_leftAnew 5 = .ok (.ireturn, 1) := by decide +kernel
theorem dL_leftAnew_6 : decode cL_leftAnew 6 = .ok (.astore_n 2, 1) := by decide +kernel
theorem dL_leftAnew_7 : decode cL_leftAnew 7 = .ok (.sipush (-1001), 3) := by decide +kernel
theorem dL_leftAnew_10 : decode cL_leftAnew 10 = .ok (.ireturn, 1) := by decide +kernel
theorem dL_nextAt_0 : decode cL_nextAt 0 = .ok (.aload_n 0, 1) := by decide +kernel
theorem dL_nextAt_1 : decode cL_nextAt 1 = .ok (.iload_n 1, 1) := by decide +kernel
theorem dL_nextAt_2 : decode cL_nextAt 2 = .ok (.invokevirtual 84, 3) := by decide +kernel
theorem dL_nextAt_5 : decode cL_nextAt 5 = .ok (.ireturn, 1) := by decide +kernel
theorem dL_nextAt_6 : decode cL_nextAt 6 = .ok (.astore_n 2, 1) := by decide +kernel
theorem dL_nextAt_7 : decode cL_nextAt 7 = .ok (.sipush (-1001), 3) := by decide +kernel
theorem dL_nextAt_10 : decode cL_nextAt 10 = .ok (.ireturn, 1) := by decide +kernel
theorem dL_nextAt_11 : decode cL_nextAt 11 = .ok (.astore_n 2, 1) := by decide +kernel
theorem dL_nextAt_12 : decode cL_nextAt 12 = .ok (.sipush (-1002), 3) := by decide +kernel
theorem dL_nextAt_15 : decode cL_nextAt 15 = .ok (.ireturn, 1) := by decide +kernel
theorem dL_count_0 : decode cL_count 0 = .ok (.aload_n 0, 1) := by decide +kernel
theorem dL_count_1 : decode cL_count 1 = .ok (.iload_n 1, 1) := by decide +kernel
theorem dL_count_2 : decode cL_count 2 = .ok (.iload_n 2, 1) := by decide +kernel
theorem dL_count_3 : decode cL_count 3 = .ok (.invokevirtual 87, 3) := by decide +kernel
theorem dL_count_6 : decode cL_count 6 = .ok (.ireturn, 1) := by decide +kernel
theorem dL_count_7 : decode cL_count 7 = .ok (.astore_n 3, 1) := by decide +kernel
theorem dL_count_8 : decode cL_count 8 = .ok (.sipush (-1001), 3) := by decide +kernel
theorem dL_count_11 : decode cL_count 11 = .ok (.ireturn, 1) := by decide +kernel
theorem dL_count_12 : decode cL_count 12 = .ok (.astore_n 3, 1) := by decide +kernel
theorem dL_count_13 : decode cL_count 13 = .ok (.sipush (-1002), 3) := by decide +kernel
theorem dL_count_16 : decode cL_count 16 = .ok (.ireturn, 1) := by decide +kernel
theorem dL_sums_0 : decode cL_sums 0 = .ok (.iconst 0, 1) := by decide +kernel
theorem dL_sums_1 : decode cL_sums 1 = .ok (.istore 5, 2) := by decide +kernel
theorem dL_sums_3 : decode cL_sums 3 = .ok (.iload 5, 2) := by decide +kernel
theorem dL_sums_5 : decode cL_sums 5 = .ok (.iconst 2, 1) := by decide +kernel
theorem dL_sums_6 : decode cL_sums 6 = .ok (.if_icmp .ge 215, 3) := by decide +kernel
theorem dL_sums_9 : decode cL_sums 9 = .ok (.aload_n 0, 1) := by decide +kernel
theorem dL_sums_10 : decode cL_sums 10 = .ok (.iload 5, 2) := by decide +kernel
theorem dL_sums_12 : decode cL_sums 12 = .ok (.invokestatic 95, 3) := by decide +kernel
theorem dL_sums_15 : decode cL_sums 15 = .ok (.sipush (-1002), 3) := by decide +kernel
theorem dL_sums_18 : decode cL_sums 18 = .ok (.if_icmp .ne 6, 3) := by decide +kernel
theorem dL_sums_21 : decode cL_sums 21 = .ok (.goto 194, 3) := by decide +kernel
theorem dL_sums_24 : decode cL_sums 24 = .ok (.aload_n 0, 1) := by decide +kernel
theorem dL_sums_25 : decode cL_sums 25 = .ok (.iload 5, 2) := by decide +kernel
theorem dL_sums_27 : decode cL_sums 27 = .ok (.invokestatic 95, 3) := by decide +kernel
theorem dL_sums_30 : decode cL_sums 30 = .ok (.istore 6, 2) := by decide +kernel
theorem dL_sums_32 : decode cL_sums 32 = .ok (.iconst 0, 1) := by decide +kernel
theorem dL_sums_33 : decode cL_sums 33 = .ok (.istore 7, 2) := by decide +kernel
theorem dL_sums_35 : decode cL_sums 35 = .ok (.iconst 0, 1) := by decide +kernel
theorem dL_sums_36 : decode cL_sums 36 = .ok (.istore 8, 2) := by decide +kernel
theorem dL_sums_38 : decode cL_sums 38 = .ok (.iconst 0, 1) := by decide +kernel
theorem dL_sums_39 : decode cL_sums 39 = .ok (.istore 9, 2) := by decide +kernel
theorem dL_sums_41 : decode cL_sums 41 = .ok (.iload 9, 2) := by decide +kernel
theorem dL_sums_43 : decode cL_sums 43 = .ok (.iload_n 3, 1) := by decide +kernel
theorem dL_sums_44 : decode cL_sums 44 = .ok (.if_icmp .ge 153, 3) := by decide +kernel
theorem dL_sums_47 : decode cL_sums 47 = .ok (.aload_n 1, 1) := by decide +kernel
theorem dL_sums_48 : decode cL_sums 48 = .ok (.iload 9, 2) := by decide +kernel
theorem dL_sums_50 : decode cL_sums 50 = .ok (.iaload, 1) := by decide +kernel
theorem dL_sums_51 : decode cL_sums 51 = .ok (.iload 5, 2) := by decide +kernel
theorem dL_sums_53 : decode cL_sums 53 = .ok (.if_icmp .eq 6, 3) := by decide +kernel
theorem dL_sums_56 : decode cL_sums 56 = .ok (.goto 135, 3) := by decide +kernel
theorem dL_sums_59 : decode cL_sums 59 = .ok (.aload_n 0, 1) := by decide +kernel
theorem dL_sums_60 : decode cL_sums 60 = .ok (.iload 9, 2) := by decide +kernel
theorem dL_sums_62 : decode cL_sums 62 = .ok (.invokestatic 98, 3) := by decide +kernel
theorem dL_sums_65 : decode cL_sums 65 = .ok (.aload_n 0, 1) := by decide +kernel
theorem dL_sums_66 : decode cL_sums 66 = .ok (.iload 9, 2) := by decide +kernel
theorem dL_sums_68 : decode cL_sums 68 = .ok (.bipush 100, 2) := by decide +kernel
theorem dL_sums_70 : decode cL_sums 70 = .ok (.invokestatic 100, 3) := by decide +kernel
theorem dL_sums_73 : decode cL_sums 73 = .ok (.iadd, 1) := by decide +kernel
theorem dL_sums_74 : decode cL_sums 74 = .ok (.aload_n 0, 1) := by decide +kernel
theorem dL_sums_75 : decode cL_sums 75 = .ok (.iload 9, 2) := by decide +kernel
theorem dL_sums_77 : decode cL_sums 77 = .ok (.bipush 109, 2) := by decide +kernel
theorem dL_sums_79 : decode cL_sums 79 = .ok (.invokestatic 100, 3) := by decide +kernel
theorem dL_sums_82 : decode cL_sums 82 = .ok (.iadd, 1) := by decide +kernel
theorem dL_sums_83 : decode cL_sums 83 = .ok (.aload_n 0, 1) := by decide +kernel
theorem dL_sums_84 : decode cL_sums 84 = .ok (.iload 9, 2) := by decide +kernel
theorem dL_sums_86 : decode cL_sums 86 = .ok (.bipush 111, 2) := by decide +kernel
theorem dL_sums_88 : decode cL_sums 88 = .ok (.invokestatic 100, 3) := by decide +kernel
theorem dL_sums_91 : decode cL_sums 91 = .ok (.iadd, 1) := by decide +kernel
theorem dL_sums_92 : decode cL_sums 92 = .ok (.istore 10, 2) := by decide +kernel
theorem dL_sums_94 : decode cL_sums 94 = .ok (.aload_n 0, 1) := by decide +kernel
theorem dL_sums_95 : decode cL_sums 95 = .ok (.iload 9, 2) := by decide +kernel
theorem dL_sums_97 : decode cL_sums 97 = .ok (.invokestatic 98, 3) := by decide +kernel
theorem dL_sums_100 : decode cL_sums 100 = .ok (.aload_n 0, 1) := by decide +kernel
theorem dL_sums_101 : decode cL_sums 101 = .ok (.iload 9, 2) := by decide +kernel
theorem dL_sums_103 : decode cL_sums 103 = .ok (.invokestatic 103, 3) := by decide +kernel
theorem dL_sums_106 : decode cL_sums 106 = .ok (.if_icmp .ne 17, 3) := by decide +kernel
theorem dL_sums_109 : decode cL_sums 109 = .ok (.iload 10, 2) := by decide +kernel
theorem dL_sums_111 : decode cL_sums 111 = .ok (.ifCond .eq 14, 3) := by decide +kernel
theorem dL_sums_114 : decode cL_sums 114 = .ok (.iload 10, 2) := by decide +kernel
theorem dL_sums_116 : decode cL_sums 116 = .ok (.aload_n 2, 1) := by decide +kernel
theorem dL_sums_117 : decode cL_sums 117 = .ok (.iload 9, 2) := by decide +kernel
theorem dL_sums_119 : decode cL_sums 119 = .ok (.iaload, 1) := by decide +kernel
theorem dL_sums_120 : decode cL_sums 120 = .ok (.if_icmp .eq 5, 3) := by decide +kernel
theorem dL_sums_123 : decode cL_sums 123 = .ok (.iconst 0, 1) := by decide +kernel
theorem dL_sums_124 : decode cL_sums 124 = .ok (.ireturn, 1) := by decide +kernel
theorem dL_sums_125 : decode cL_sums 125 = .ok (.aload_n 0, 1) := by decide +kernel
theorem dL_sums_126 : decode cL_sums 126 = .ok (.iload 9, 2) := by decide +kernel
theorem dL_sums_128 : decode cL_sums 128 = .ok (.invokestatic 98, 3) := by decide +kernel
theorem dL_sums_131 : decode cL_sums 131 = .ok (.ifCond .le 7, 3) := by decide +kernel
theorem dL_sums_134 : decode cL_sums 134 = .ok (.iconst 1, 1) := by decide +kernel
theorem dL_sums_135 : decode cL_sums 135 = .ok (.goto 4, 3) := by decide +kernel
theorem dL_sums_138 : decode cL_sums 138 = .ok (.iconst 0, 1) := by decide +kernel
theorem dL_sums_139 : decode cL_sums 139 = .ok (.aload_n 0, 1) := by decide +kernel
theorem dL_sums_140 : decode cL_sums 140 = .ok (.iload 9, 2) := by decide +kernel
theorem dL_sums_142 : decode cL_sums 142 = .ok (.invokestatic 105, 3) := by decide +kernel
theorem dL_sums_145 : decode cL_sums 145 = .ok (.ifCond .lt 7, 3) := by decide +kernel
theorem dL_sums_148 : decode cL_sums 148 = .ok (.iconst 1, 1) := by decide +kernel
theorem dL_sums_149 : decode cL_sums 149 = .ok (.goto 4, 3) := by decide +kernel
theorem dL_sums_152 : decode cL_sums 152 = .ok (.iconst 0, 1) := by decide +kernel
theorem dL_sums_153 : decode cL_sums 153 = .ok (.if_icmp .eq 5, 3) := by decide +kernel
theorem dL_sums_156 : decode cL_sums 156 = .ok (.iconst 0, 1) := by decide +kernel
theorem dL_sums_157 : decode cL_sums 157 = .ok (.ireturn, 1) := by decide +kernel
theorem dL_sums_158 : decode cL_sums 158 = .ok (.iload 6, 2) := by decide +kernel
theorem dL_sums_160 : decode cL_sums 160 = .ok (.iload 10, 2) := by decide +kernel
theorem dL_sums_162 : decode cL_sums 162 = .ok (.iadd, 1) := by decide +kernel
theorem dL_sums_163 : decode cL_sums 163 = .ok (.istore 6, 2) := by decide +kernel
theorem dL_sums_165 : decode cL_sums 165 = .ok (.iload 7, 2) := by decide +kernel
theorem dL_sums_167 : decode cL_sums 167 = .ok (.aload_n 0, 1) := by decide +kernel
theorem dL_sums_168 : decode cL_sums 168 = .ok (.iload 9, 2) := by decide +kernel
theorem dL_sums_170 : decode cL_sums 170 = .ok (.bipush 108, 2) := by decide +kernel
theorem dL_sums_172 : decode cL_sums 172 = .ok (.invokestatic 100, 3) := by decide +kernel
theorem dL_sums_175 : decode cL_sums 175 = .ok (.iadd, 1) := by decide +kernel
theorem dL_sums_176 : decode cL_sums 176 = .ok (.istore 7, 2) := by decide +kernel
theorem dL_sums_178 : decode cL_sums 178 = .ok (.iload 8, 2) := by decide +kernel
theorem dL_sums_180 : decode cL_sums 180 = .ok (.aload_n 0, 1) := by decide +kernel
theorem dL_sums_181 : decode cL_sums 181 = .ok (.iload 9, 2) := by decide +kernel
theorem dL_sums_183 : decode cL_sums 183 = .ok (.bipush 111, 2) := by decide +kernel
theorem dL_sums_185 : decode cL_sums 185 = .ok (.invokestatic 100, 3) := by decide +kernel
theorem dL_sums_188 : decode cL_sums 188 = .ok (.iadd, 1) := by decide +kernel
theorem dL_sums_189 : decode cL_sums 189 = .ok (.istore 8, 2) := by decide +kernel
theorem dL_sums_191 : decode cL_sums 191 = .ok (.iinc 9 1, 3) := by decide +kernel
theorem dL_sums_194 : decode cL_sums 194 = .ok (.goto (-153), 3) := by decide +kernel
theorem dL_sums_197 : decode cL_sums 197 = .ok (.iload 6, 2) := by decide +kernel
theorem dL_sums_199 : decode cL_sums 199 = .ok (.iload 7, 2) := by decide +kernel
theorem dL_sums_201 : decode cL_sums 201 = .ok (.iadd, 1) := by decide +kernel
theorem dL_sums_202 : decode cL_sums 202 = .ok (.iload 8, 2) := by decide +kernel
theorem dL_sums_204 : decode cL_sums 204 = .ok (.isub, 1) := by decide +kernel
theorem dL_sums_205 : decode cL_sums 205 = .ok (.aload 4, 2) := by decide +kernel
theorem dL_sums_207 : decode cL_sums 207 = .ok (.iload 5, 2) := by decide +kernel
theorem dL_sums_209 : decode cL_sums 209 = .ok (.iaload, 1) := by decide +kernel
theorem dL_sums_210 : decode cL_sums 210 = .ok (.if_icmp .eq 5, 3) := by decide +kernel
theorem dL_sums_213 : decode cL_sums 213 = .ok (.iconst 0, 1) := by decide +kernel
theorem dL_sums_214 : decode cL_sums 214 = .ok (.ireturn, 1) := by decide +kernel
theorem dL_sums_215 : decode cL_sums 215 = .ok (.iinc 5 1, 3) := by decide +kernel
theorem dL_sums_218 : decode cL_sums 218 = .ok (.goto (-215), 3) := by decide +kernel
theorem dL_sums_221 : decode cL_sums 221 = .ok (.iconst 1, 1) := by decide +kernel
theorem dL_sums_222 : decode cL_sums 222 = .ok (.ireturn, 1) := by decide +kernel
theorem dL_lines_0 : decode cL_lines 0 = .ok (.iconst 0, 1) := by decide +kernel
theorem dL_lines_1 : decode cL_lines 1 = .ok (.istore 6, 2) := by decide +kernel
theorem dL_lines_3 : decode cL_lines 3 = .ok (.iload 6, 2) := by decide +kernel
theorem dL_lines_5 : decode cL_lines 5 = .ok (.iconst 2, 1) := by decide +kernel
theorem dL_lines_6 : decode cL_lines 6 = .ok (.if_icmp .ge 236, 3) := by decide +kernel
theorem dL_lines_9 : decode cL_lines 9 = .ok (.aload_n 0, 1) := by decide +kernel
theorem dL_lines_10 : decode cL_lines 10 = .ok (.iload 6, 2) := by decide +kernel
theorem dL_lines_12 : decode cL_lines 12 = .ok (.invokestatic 107, 3) := by decide +kernel
theorem dL_lines_15 : decode cL_lines 15 = .ok (.istore 7, 2) := by decide +kernel
theorem dL_lines_17 : decode cL_lines 17 = .ok (.aload_n 0, 1) := by decide +kernel
theorem dL_lines_18 : decode cL_lines 18 = .ok (.iload 6, 2) := by decide +kernel
theorem dL_lines_20 : decode cL_lines 20 = .ok (.invokestatic 109, 3) := by decide +kernel
theorem dL_lines_23 : decode cL_lines 23 = .ok (.istore 8, 2) := by decide +kernel
theorem dL_lines_25 : decode cL_lines 25 = .ok (.iload 7, 2) := by decide +kernel
theorem dL_lines_27 : decode cL_lines 27 = .ok (.ifCond .ge 7, 3) := by decide +kernel
theorem dL_lines_30 : decode cL_lines 30 = .ok (.iconst 1, 1) := by decide +kernel
theorem dL_lines_31 : decode cL_lines 31 = .ok (.goto 4, 3) := by decide +kernel
theorem dL_lines_34 : decode cL_lines 34 = .ok (.iconst 0, 1) := by decide +kernel
theorem dL_lines_35 : decode cL_lines 35 = .ok (.iload 8, 2) := by decide +kernel
theorem dL_lines_37 : decode cL_lines 37 = .ok (.bipush 113, 2) := by decide +kernel
theorem dL_lines_39 : decode cL_lines 39 = .ok (.if_icmp .ne 7, 3) := by decide +kernel
theorem dL_lines_42 : decode cL_lines 42 = .ok (.iconst 1, 1) := by decide +kernel
theorem dL_lines_43 : decode cL_lines 43 = .ok (.goto 4, 3) := by decide +kernel
theorem dL_lines_46 : decode cL_lines 46 = .ok (.iconst 0, 1) := by decide +kernel
theorem dL_lines_47 : decode cL_lines 47 = .ok (.if_icmp .eq 5, 3) := by decide +kernel
theorem dL_lines_50 : decode cL_lines 50 = .ok (.iconst 0, 1) := by decide +kernel
theorem dL_lines_51 : decode cL_lines 51 = .ok (.ireturn, 1) := by decide +kernel
theorem dL_lines_52 : decode cL_lines 52 = .ok (.iload 7, 2) := by decide +kernel
theorem dL_lines_54 : decode cL_lines 54 = .ok (.ifCond .ge 6, 3) := by decide +kernel
theorem dL_lines_57 : decode cL_lines 57 = .ok (.goto 179, 3) := by decide +kernel
theorem dL_lines_60 : decode cL_lines 60 = .ok (.aload_n 1, 1) := by decide +kernel
theorem dL_lines_61 : decode cL_lines 61 = .ok (.iload 7, 2) := by decide +kernel
theorem dL_lines_63 : decode cL_lines 63 = .ok (.iaload, 1) := by decide +kernel
theorem dL_lines_64 : decode cL_lines 64 = .ok (.iload 6, 2) := by decide +kernel
theorem dL_lines_66 : decode cL_lines 66 = .ok (.if_icmp .ne 16, 3) := by decide +kernel
theorem dL_lines_69 : decode cL_lines 69 = .ok (.aload_n 0, 1) := by decide +kernel
theorem dL_lines_70 : decode cL_lines 70 = .ok (.iload 7, 2) := by decide +kernel
theorem dL_lines_72 : decode cL_lines 72 = .ok (.invokestatic 105, 3) := by decide +kernel
theorem dL_lines_75 : decode cL_lines 75 = .ok (.aload_n 0, 1) := by decide +kernel
theorem dL_lines_76 : decode cL_lines 76 = .ok (.invokevirtual 111, 3) := by decide +kernel
theorem dL_lines_79 : decode cL_lines 79 = .ok (.if_icmp .eq 5, 3) := by decide +kernel
theorem dL_lines_82 : decode cL_lines 82 = .ok (.iconst 0, 1) := by decide +kernel
theorem dL_lines_83 : decode cL_lines 83 = .ok (.ireturn, 1) := by decide +kernel
theorem dL_lines_84 : decode cL_lines 84 = .ok (.iconst 0, 1) := by decide +kernel
theorem dL_lines_85 : decode cL_lines 85 = .ok (.istore 9, 2) := by decide +kernel
theorem dL_lines_87 : decode cL_lines 87 = .ok (.iload 9, 2) := by decide +kernel
theorem dL_lines_89 : decode cL_lines 89 = .ok (.iload_n 2, 1) := by decide +kernel
theorem dL_lines_90 : decode cL_lines 90 = .ok (.if_icmp .ge 56, 3) := by decide +kernel
theorem dL_lines_93 : decode cL_lines 93 = .ok (.iload 9, 2) := by decide +kernel
theorem dL_lines_95 : decode cL_lines 95 = .ok (.iload 7, 2) := by decide +kernel
theorem dL_lines_97 : decode cL_lines 97 = .ok (.if_icmp .eq 43, 3) := by decide +kernel
theorem dL_lines_100 : decode cL_lines 100 = .ok (.aload_n 1, 1) := by decide +kernel
theorem dL_lines_101 : decode cL_lines 101 = .ok (.iload 9, 2) := by decide +kernel
theorem dL_lines_103 : decode cL_lines 103 = .ok (.iaload, 1) := by decide +kernel
theorem dL_lines_104 : decode cL_lines 104 = .ok (.iload 6, 2) := by decide +kernel
theorem dL_lines_106 : decode cL_lines 106 = .ok (.if_icmp .ne 34, 3) := by decide +kernel
theorem dL_lines_109 : decode cL_lines 109 = .ok (.aload_n 0, 1) := by decide +kernel
theorem dL_lines_110 : decode cL_lines 110 = .ok (.iload 9, 2) := by decide +kernel
theorem dL_lines_112 : decode cL_lines 112 = .ok (.invokestatic 98, 3) := by decide +kernel
theorem dL_lines_115 : decode cL_lines 115 = .ok (.ifCond .le 25, 3) := by decide +kernel
theorem dL_lines_118 : decode cL_lines 118 = .ok (.aload_n 0, 1) := by decide +kernel
theorem dL_lines_119 : decode cL_lines 119 = .ok (.iload 9, 2) := by decide +kernel
theorem dL_lines_121 : decode cL_lines 121 = .ok (.invokestatic 105, 3) := by decide +kernel
theorem dL_lines_124 : decode cL_lines 124 = .ok (.aload_n 0, 1) := by decide +kernel
theorem dL_lines_125 : decode cL_lines 125 = .ok (.invokevirtual 111, 3) := by decide +kernel
theorem dL_lines_128 : decode cL_lines 128 = .ok (.aload_n 0, 1) := by decide +kernel
theorem dL_lines_129 : decode cL_lines 129 = .ok (.iload 7, 2) := by decide +kernel
theorem dL_lines_131 : decode cL_lines 131 = .ok (.invokestatic 98, 3) := by decide +kernel
theorem dL_lines_134 : decode cL_lines 134 = .ok (.iadd, 1) := by decide +kernel
theorem dL_lines_135 : decode cL_lines 135 = .ok (.if_icmp .ge 5, 3) := by decide +kernel
theorem dL_lines_138 : decode cL_lines 138 = .ok (.iconst 0, 1) := by decide +kernel
theorem dL_lines_139 : decode cL_lines 139 = .ok (.ireturn, 1) := by decide +kernel
theorem dL_lines_140 : decode cL_lines 140 = .ok (.iinc 9 1, 3) := by decide +kernel
theorem dL_lines_143 : decode cL_lines 143 = .ok (.goto (-56), 3) := by decide +kernel
theorem dL_lines_146 : decode cL_lines 146 = .ok (.iload 8, 2) := by decide +kernel
theorem dL_lines_148 : decode cL_lines 148 = .ok (.bipush 116, 2) := by decide +kernel
theorem dL_lines_150 : decode cL_lines 150 = .ok (.if_icmp .ne 13, 3) := by decide +kernel
theorem dL_lines_153 : decode cL_lines 153 = .ok (.aload 4, 2) := by decide +kernel
theorem dL_lines_155 : decode cL_lines 155 = .ok (.aload_n 3, 1) := by decide +kernel
theorem dL_lines_156 : decode cL_lines 156 = .ok (.iload 7, 2) := by decide +kernel
theorem dL_lines_158 : decode cL_lines 158 = .ok (.iaload, 1) := by decide +kernel
theorem dL_lines_159 : decode cL_lines 159 = .ok (.baload, 1) := by decide +kernel
theorem dL_lines_160 : decode cL_lines 160 = .ok (.ifCond .ne 74, 3) := by decide +kernel
theorem dL_lines_163 : decode cL_lines 163 = .ok (.iload 8, 2) := by decide +kernel
theorem dL_lines_165 : decode cL_lines 165 = .ok (.bipush 112, 2) := by decide +kernel
theorem dL_lines_167 : decode cL_lines 167 = .ok (.if_icmp .ne 23, 3) := by decide +kernel
theorem dL_lines_170 : decode cL_lines 170 = .ok (.aload 4, 2) := by decide +kernel
theorem dL_lines_172 : decode cL_lines 172 = .ok (.aload_n 3, 1) := by decide +kernel
theorem dL_lines_173 : decode cL_lines 173 = .ok (.iload 7, 2) := by decide +kernel
theorem dL_lines_175 : decode cL_lines 175 = .ok (.iaload, 1) := by decide +kernel
theorem dL_lines_176 : decode cL_lines 176 = .ok (.baload, 1) := by decide +kernel
theorem dL_lines_177 : decode cL_lines 177 = .ok (.ifCond .eq 57, 3) := by decide +kernel
theorem dL_lines_180 : decode cL_lines 180 = .ok (.aload 5, 2) := by decide +kernel
theorem dL_lines_182 : decode cL_lines 182 = .ok (.aload_n 3, 1) := by decide +kernel
theorem dL_lines_183 : decode cL_lines 183 = .ok (.iload 7, 2) := by decide +kernel
theorem dL_lines_185 : decode cL_lines 185 = .ok (.iaload, 1) := by decide +kernel
theorem dL_lines_186 : decode cL_lines 186 = .ok (.baload, 1) := by decide +kernel
theorem dL_lines_187 : decode cL_lines 187 = .ok (.ifCond .ne 47, 3) := by decide +kernel
theorem dL_lines_190 : decode cL_lines 190 = .ok (.iload 8, 2) := by decide +kernel
theorem dL_lines_192 : decode cL_lines 192 = .ok (.bipush 45, 2) := by decide +kernel
theorem dL_lines_194 : decode cL_lines 194 = .ok (.if_icmp .eq 10, 3) := by decide +kernel
theorem dL_lines_197 : decode cL_lines 197 = .ok (.iload 8, 2) := by decide +kernel
theorem dL_lines_199 : decode cL_lines 199 = .ok (.bipush 100, 2) := by decide +kernel
theorem dL_lines_201 : decode cL_lines 201 = .ok (.if_icmp .ne 35, 3) := by decide +kernel
theorem dL_lines_204 : decode cL_lines 204 = .ok (.aload 4, 2) := by decide +kernel
theorem dL_lines_206 : decode cL_lines 206 = .ok (.aload_n 3, 1) := by decide +kernel
theorem dL_lines_207 : decode cL_lines 207 = .ok (.iload 7, 2) := by decide +kernel
theorem dL_lines_209 : decode cL_lines 209 = .ok (.iaload, 1) := by decide +kernel
theorem dL_lines_210 : decode cL_lines 210 = .ok (.baload, 1) := by decide +kernel
theorem dL_lines_211 : decode cL_lines 211 = .ok (.ifCond .eq 23, 3) := by decide +kernel
theorem dL_lines_214 : decode cL_lines 214 = .ok (.aload 5, 2) := by decide +kernel
theorem dL_lines_216 : decode cL_lines 216 = .ok (.aload_n 3, 1) := by decide +kernel
theorem dL_lines_217 : decode cL_lines 217 = .ok (.iload 7, 2) := by decide +kernel
theorem dL_lines_219 : decode cL_lines 219 = .ok (.iaload, 1) := by decide +kernel
theorem dL_lines_220 : decode cL_lines 220 = .ok (.baload, 1) := by decide +kernel
theorem dL_lines_221 : decode cL_lines 221 = .ok (.ifCond .eq 13, 3) := by decide +kernel
theorem dL_lines_224 : decode cL_lines 224 = .ok (.aload_n 0, 1) := by decide +kernel
theorem dL_lines_225 : decode cL_lines 225 = .ok (.iload 7, 2) := by decide +kernel
theorem dL_lines_227 : decode cL_lines 227 = .ok (.invokestatic 114, 3) := by decide +kernel
theorem dL_lines_230 : decode cL_lines 230 = .ok (.iconst 1, 1) := by decide +kernel
theorem dL_lines_231 : decode cL_lines 231 = .ok (.if_icmp .ge 5, 3) := by decide +kernel
theorem dL_lines_234 : decode cL_lines 234 = .ok (.iconst 0, 1) := by decide +kernel
theorem dL_lines_235 : decode cL_lines 235 = .ok (.ireturn, 1) := by decide +kernel
theorem dL_lines_236 : decode cL_lines 236 = .ok (.iinc 6 1, 3) := by decide +kernel
theorem dL_lines_239 : decode cL_lines 239 = .ok (.goto (-236), 3) := by decide +kernel
theorem dL_lines_242 : decode cL_lines 242 = .ok (.iconst 1, 1) := by decide +kernel
theorem dL_lines_243 : decode cL_lines 243 = .ok (.ireturn, 1) := by decide +kernel
theorem dL_shift_0 : decode cL_shift 0 = .ok (.iload_n 1, 1) := by decide +kernel
theorem dL_shift_1 : decode cL_shift 1 = .ok (.newarray .int, 2) := by decide +kernel
theorem dL_shift_3 : decode cL_shift 3 = .ok (.astore_n 3, 1) := by decide +kernel
theorem dL_shift_4 : decode cL_shift 4 = .ok (.iconst 0, 1) := by decide +kernel
theorem dL_shift_5 : decode cL_shift 5 = .ok (.istore 4, 2) := by decide +kernel
theorem dL_shift_7 : decode cL_shift 7 = .ok (.iconst 2, 1) := by decide +kernel
theorem dL_shift_8 : decode cL_shift 8 = .ok (.newarray .int, 2) := by decide +kernel
theorem dL_shift_10 : decode cL_shift 10 = .ok (.astore 5, 2) := by decide +kernel
theorem dL_shift_12 : decode cL_shift 12 = .ok (.iconst 0, 1) := by decide +kernel
theorem dL_shift_13 : decode cL_shift 13 = .ok (.istore 6, 2) := by decide +kernel
theorem dL_shift_15 : decode cL_shift 15 = .ok (.iload 6, 2) := by decide +kernel
theorem dL_shift_17 : decode cL_shift 17 = .ok (.iload_n 1, 1) := by decide +kernel
theorem dL_shift_18 : decode cL_shift 18 = .ok (.if_icmp .ge 19, 3) := by decide +kernel
theorem dL_shift_21 : decode cL_shift 21 = .ok (.aload_n 3, 1) := by decide +kernel
theorem dL_shift_22 : decode cL_shift 22 = .ok (.iload 6, 2) := by decide +kernel
theorem dL_shift_24 : decode cL_shift 24 = .ok (.aload_n 0, 1) := by decide +kernel
theorem dL_shift_25 : decode cL_shift 25 = .ok (.iload 6, 2) := by decide +kernel
theorem dL_shift_27 : decode cL_shift 27 = .ok (.invokestatic 114, 3) := by decide +kernel
theorem dL_shift_30 : decode cL_shift 30 = .ok (.iastore, 1) := by decide +kernel
theorem dL_shift_31 : decode cL_shift 31 = .ok (.iinc 6 1, 3) := by decide +kernel
theorem dL_shift_34 : decode cL_shift 34 = .ok (.goto (-19), 3) := by decide +kernel
theorem dL_shift_37 : decode cL_shift 37 = .ok (.iconst 0, 1) := by decide +kernel
theorem dL_shift_38 : decode cL_shift 38 = .ok (.istore 6, 2) := by decide +kernel
theorem dL_shift_40 : decode cL_shift 40 = .ok (.iload 6, 2) := by decide +kernel
theorem dL_shift_42 : decode cL_shift 42 = .ok (.iconst 2, 1) := by decide +kernel
theorem dL_shift_43 : decode cL_shift 43 = .ok (.if_icmp .ge 84, 3) := by decide +kernel
theorem dL_shift_46 : decode cL_shift 46 = .ok (.iload 4, 2) := by decide +kernel
theorem dL_shift_48 : decode cL_shift 48 = .ok (.aload_n 0, 1) := by decide +kernel
theorem dL_shift_49 : decode cL_shift 49 = .ok (.iload 6, 2) := by decide +kernel
theorem dL_shift_51 : decode cL_shift 51 = .ok (.invokestatic 109, 3) := by decide +kernel
theorem dL_shift_54 : decode cL_shift 54 = .ok (.bipush 45, 2) := by decide +kernel
theorem dL_shift_56 : decode cL_shift 56 = .ok (.if_icmp .ne 7, 3) := by decide +kernel
theorem dL_shift_59 : decode cL_shift 59 = .ok (.iconst 1, 1) := by decide +kernel
theorem dL_shift_60 : decode cL_shift 60 = .ok (.goto 4, 3) := by decide +kernel
theorem dL_shift_63 : decode cL_shift 63 = .ok (.iconst 0, 1) := by decide +kernel
theorem dL_shift_64 : decode cL_shift 64 = .ok (.iadd, 1) := by decide +kernel
theorem dL_shift_65 : decode cL_shift 65 = .ok (.istore 4, 2) := by decide +kernel
theorem dL_shift_67 : decode cL_shift 67 = .ok (.aload 5, 2) := by decide +kernel
theorem dL_shift_69 : decode cL_shift 69 = .ok (.iload 6, 2) := by decide +kernel
theorem dL_shift_71 : decode cL_shift 71 = .ok (.aload_n 0, 1) := by decide +kernel
theorem dL_shift_72 : decode cL_shift 72 = .ok (.iload 6, 2) := by decide +kernel
theorem dL_shift_74 : decode cL_shift 74 = .ok (.invokestatic 107, 3) := by decide +kernel
theorem dL_shift_77 : decode cL_shift 77 = .ok (.ifCond .ge 7, 3) := by decide +kernel
theorem dL_shift_80 : decode cL_shift 80 = .ok (.iconst (-1), 1) := by decide +kernel
theorem dL_shift_81 : decode cL_shift 81 = .ok (.goto 39, 3) := by decide +kernel
theorem dL_shift_84 : decode cL_shift 84 = .ok (.aload_n 0, 1) := by decide +kernel
theorem dL_shift_85 : decode cL_shift 85 = .ok (.iload 6, 2) := by decide +kernel
theorem dL_shift_87 : decode cL_shift 87 = .ok (.invokestatic 109, 3) := by decide +kernel
theorem dL_shift_90 : decode cL_shift 90 = .ok (.bipush 102, 2) := by decide +kernel
theorem dL_shift_92 : decode cL_shift 92 = .ok (.if_icmp .ne 8, 3) := by decide +kernel
theorem dL_shift_95 : decode cL_shift 95 = .ok (.bipush (-2), 2) := by decide +kernel
theorem dL_shift_97 : decode cL_shift 97 = .ok (.goto 23, 3) := by decide +kernel
theorem dL_shift_100 : decode cL_shift 100 = .ok (.aload_n 0, 1) := by decide +kernel
theorem dL_shift_101 : decode cL_shift 101 = .ok (.aload_n 0, 1) := by decide +kernel
theorem dL_shift_102 : decode cL_shift 102 = .ok (.iload 6, 2) := by decide +kernel
theorem dL_shift_104 : decode cL_shift 104 = .ok (.invokestatic 107, 3) := by decide +kernel
theorem dL_shift_107 : decode cL_shift 107 = .ok (.invokestatic 98, 3) := by decide +kernel
theorem dL_shift_110 : decode cL_shift 110 = .ok (.bipush 16, 2) := by decide +kernel
theorem dL_shift_112 : decode cL_shift 112 = .ok (.aload_n 0, 1) := by decide +kernel
theorem dL_shift_113 : decode cL_shift 113 = .ok (.iload 6, 2) := by decide +kernel
theorem dL_shift_115 : decode cL_shift 115 = .ok (.invokestatic 107, 3) := by decide +kernel
theorem dL_shift_118 : decode cL_shift 118 = .ok (.imul, 1) := by decide +kernel
theorem dL_shift_119 : decode cL_shift 119 = .ok (.iadd, 1) := by decide +kernel
theorem dL_shift_120 : decode cL_shift 120 = .ok (.iastore, 1) := by decide +kernel
theorem dL_shift_121 : decode cL_shift 121 = .ok (.iinc 6 1, 3) := by decide +kernel
theorem dL_shift_124 : decode cL_shift 124 = .ok (.goto (-84), 3) := by decide +kernel
theorem dL_shift_127 : decode cL_shift 127 = .ok (.aload_n 0, 1) := by decide +kernel
theorem dL_shift_128 : decode cL_shift 128 = .ok (.invokevirtual 111, 3) := by decide +kernel
theorem dL_shift_131 : decode cL_shift 131 = .ok (.istore 6, 2) := by decide +kernel
theorem dL_shift_133 : decode cL_shift 133 = .ok (.aload_n 0, 1) := by decide +kernel
theorem dL_shift_134 : decode cL_shift 134 = .ok (.iconst 1, 1) := by decide +kernel
theorem dL_shift_135 : decode cL_shift 135 = .ok (.invokestatic 116, 3) := by decide +kernel
theorem dL_shift_138 : decode cL_shift 138 = .ok (.iload 4, 2) := by decide +kernel
theorem dL_shift_140 : decode cL_shift 140 = .ok (.if_icmp .ne 14, 3) := by decide +kernel
theorem dL_shift_143 : decode cL_shift 143 = .ok (.aload_n 0, 1) := by decide +kernel
theorem dL_shift_144 : decode cL_shift 144 = .ok (.invokevirtual 111, 3) := by decide +kernel
theorem dL_shift_147 : decode cL_shift 147 = .ok (.iload 6, 2) := by decide +kernel
theorem dL_shift_149 : decode cL_shift 149 = .ok (.iconst 1, 1) := by decide +kernel
theorem dL_shift_150 : decode cL_shift 150 = .ok (.iadd, 1) := by decide +kernel
theorem dL_shift_151 : decode cL_shift 151 = .ok (.if_icmp .eq 5, 3) := by decide +kernel
theorem dL_shift_154 : decode cL_shift 154 = .ok (.iconst 0, 1) := by decide +kernel
theorem dL_shift_155 : decode cL_shift 155 = .ok (.ireturn, 1) := by decide +kernel
theorem dL_shift_156 : decode cL_shift 156 = .ok (.iconst 0, 1) := by decide +kernel
theorem dL_shift_157 : decode cL_shift 157 = .ok (.istore 7, 2) := by decide +kernel
theorem dL_shift_159 : decode cL_shift 159 = .ok (.iload 7, 2) := by decide +kernel
theorem dL_shift_161 : decode cL_shift 161 = .ok (.iconst 2, 1) := by decide +kernel
theorem dL_shift_162 : decode cL_shift 162 = .ok (.if_icmp .ge 55, 3) := by decide +kernel
theorem dL_shift_165 : decode cL_shift 165 = .ok (.aload 5, 2) := by decide +kernel
theorem dL_shift_167 : decode cL_shift 167 = .ok (.iload 7, 2) := by decide +kernel
theorem dL_shift_169 : decode cL_shift 169 = .ok (.iaload, 1) := by decide +kernel
theorem dL_shift_170 : decode cL_shift 170 = .ok (.ifCond .lt 28, 3) := by decide +kernel
theorem dL_shift_173 : decode cL_shift 173 = .ok (.aload_n 0, 1) := by decide +kernel
theorem dL_shift_174 : decode cL_shift 174 = .ok (.aload 5, 2) := by decide +kernel
theorem dL_shift_176 : decode cL_shift 176 = .ok (.iload 7, 2) := by decide +kernel
theorem dL_shift_178 : decode cL_shift 178 = .ok (.iaload, 1) := by decide +kernel
theorem dL_shift_179 : decode cL_shift 179 = .ok (.bipush 16, 2) := by decide +kernel
theorem dL_shift_181 : decode cL_shift 181 = .ok (.idiv, 1) := by decide +kernel
theorem dL_shift_182 : decode cL_shift 182 = .ok (.invokestatic 98, 3) := by decide +kernel
theorem dL_shift_185 : decode cL_shift 185 = .ok (.aload 5, 2) := by decide +kernel
theorem dL_shift_187 : decode cL_shift 187 = .ok (.iload 7, 2) := by decide +kernel
theorem dL_shift_189 : decode cL_shift 189 = .ok (.iaload, 1) := by decide +kernel
theorem dL_shift_190 : decode cL_shift 190 = .ok (.bipush 16, 2) := by decide +kernel
theorem dL_shift_192 : decode cL_shift 192 = .ok (.irem, 1) := by decide +kernel
theorem dL_shift_193 : decode cL_shift 193 = .ok (.iconst 1, 1) := by decide +kernel
theorem dL_shift_194 : decode cL_shift 194 = .ok (.isub, 1) := by decide +kernel
theorem dL_shift_195 : decode cL_shift 195 = .ok (.if_icmp .ne 14, 3) := by decide +kernel
theorem dL_shift_198 : decode cL_shift 198 = .ok (.aload_n 0, 1) := by decide +kernel
theorem dL_shift_199 : decode cL_shift 199 = .ok (.iload 7, 2) := by decide +kernel
theorem dL_shift_201 : decode cL_shift 201 = .ok (.invokestatic 109, 3) := by decide +kernel
theorem dL_shift_204 : decode cL_shift 204 = .ok (.bipush 102, 2) := by decide +kernel
theorem dL_shift_206 : decode cL_shift 206 = .ok (.if_icmp .ne 5, 3) := by decide +kernel
theorem dL_shift_209 : decode cL_shift 209 = .ok (.iconst 0, 1) := by decide +kernel
theorem dL_shift_210 : decode cL_shift 210 = .ok (.ireturn, 1) := by decide +kernel
theorem dL_shift_211 : decode cL_shift 211 = .ok (.iinc 7 1, 3) := by decide +kernel
theorem dL_shift_214 : decode cL_shift 214 = .ok (.goto (-55), 3) := by decide +kernel
theorem dL_shift_217 : decode cL_shift 217 = .ok (.iconst 0, 1) := by decide +kernel
theorem dL_shift_218 : decode cL_shift 218 = .ok (.istore 7, 2) := by decide +kernel
theorem dL_shift_220 : decode cL_shift 220 = .ok (.iload 7, 2) := by decide +kernel
theorem dL_shift_222 : decode cL_shift 222 = .ok (.iload_n 1, 1) := by decide +kernel
theorem dL_shift_223 : decode cL_shift 223 = .ok (.if_icmp .ge 50, 3) := by decide +kernel
theorem dL_shift_226 : decode cL_shift 226 = .ok (.aload_n 3, 1) := by decide +kernel
theorem dL_shift_227 : decode cL_shift 227 = .ok (.iload 7, 2) := by decide +kernel
theorem dL_shift_229 : decode cL_shift 229 = .ok (.iaload, 1) := by decide +kernel
theorem dL_shift_230 : decode cL_shift 230 = .ok (.ifCond .lt 37, 3) := by decide +kernel
theorem dL_shift_233 : decode cL_shift 233 = .ok (.aload_n 0, 1) := by decide +kernel
theorem dL_shift_234 : decode cL_shift 234 = .ok (.iload 7, 2) := by decide +kernel
theorem dL_shift_236 : decode cL_shift 236 = .ok (.invokestatic 114, 3) := by decide +kernel
theorem dL_shift_239 : decode cL_shift 239 = .ok (.iconst 0, 1) := by decide +kernel
theorem dL_shift_240 : decode cL_shift 240 = .ok (.aload_n 3, 1) := by decide +kernel
theorem dL_shift_241 : decode cL_shift 241 = .ok (.iload 7, 2) := by decide +kernel
theorem dL_shift_243 : decode cL_shift 243 = .ok (.iaload, 1) := by decide +kernel
theorem dL_shift_244 : decode cL_shift 244 = .ok (.aload_n 2, 1) := by decide +kernel
theorem dL_shift_245 : decode cL_shift 245 = .ok (.iload 7, 2) := by decide +kernel
theorem dL_shift_247 : decode cL_shift 247 = .ok (.caload, 1) := by decide +kernel
theorem dL_shift_248 : decode cL_shift 248 = .ok (.bipush 99, 2) := by decide +kernel
theorem dL_shift_250 : decode cL_shift 250 = .ok (.if_icmp .ne 7, 3) := by decide +kernel
theorem dL_shift_253 : decode cL_shift 253 = .ok (.iconst 0, 1) := by decide +kernel
theorem dL_shift_254 : decode cL_shift 254 = .ok (.goto 4, 3) := by decide +kernel
theorem dL_shift_257 : decode cL_shift 257 = .ok (.iconst 1, 1) := by decide +kernel
theorem dL_shift_258 : decode cL_shift 258 = .ok (.isub, 1) := by decide +kernel
theorem dL_shift_259 : decode cL_shift 259 = .ok (.invokestatic 118, 3) := by decide +kernel
theorem dL_shift_262 : decode cL_shift 262 = .ok (.if_icmp .eq 5, 3) := by decide +kernel
theorem dL_shift_265 : decode cL_shift 265 = .ok (.iconst 0, 1) := by decide +kernel
theorem dL_shift_266 : decode cL_shift 266 = .ok (.ireturn, 1) := by decide +kernel
theorem dL_shift_267 : decode cL_shift 267 = .ok (.iinc 7 1, 3) := by decide +kernel
theorem dL_shift_270 : decode cL_shift 270 = .ok (.goto (-50), 3) := by decide +kernel
theorem dL_shift_273 : decode cL_shift 273 = .ok (.iconst 1, 1) := by decide +kernel
theorem dL_shift_274 : decode cL_shift 274 = .ok (.ireturn, 1) := by decide +kernel
