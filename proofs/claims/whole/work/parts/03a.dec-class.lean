theorem dX0_init_0 : decode cX0_init 0 = .ok (.aload_n 0, 1) := by decide +kernel
theorem dX0_init_1 : decode cX0_init 1 = .ok (.invokespecial 3, 3) := by decide +kernel
theorem dX0_init_4 : decode cX0_init 4 = .ok (.aload_n 0, 1) := by decide +kernel
theorem dX0_init_5 : decode cX0_init 5 = .ok (.new 9, 3) := by decide +kernel
theorem dX0_init_8 : decode cX0_init 8 = .ok (.dup, 1) := by decide +kernel
theorem dX0_init_9 : decode cX0_init 9 = .ok (.invokespecial 11, 3) := by decide +kernel
theorem dX0_init_12 : decode cX0_init 12 = .ok (.putfield 12, 3) := by decide +kernel
theorem dX0_init_15 : decode cX0_init 15 = .ok (.aload_n 0, 1) := by decide +kernel
theorem dX0_init_16 : decode cX0_init 16 = .ok (.new 18, 3) := by decide +kernel
theorem dX0_init_19 : decode cX0_init 19 = .ok (.dup, 1) := by decide +kernel
theorem dX0_init_20 : decode cX0_init 20 = .ok (.invokespecial 20, 3) := by decide +kernel
theorem dX0_init_23 : decode cX0_init 23 = .ok (.putfield 21, 3) := by decide +kernel
theorem dX0_init_26 : decode cX0_init 26 = .ok (.aload_n 0, 1) := by decide +kernel
theorem dX0_init_27 : decode cX0_init 27 = .ok (.new 18, 3) := by decide +kernel
theorem dX0_init_30 : decode cX0_init 30 = .ok (.dup, 1) := by decide +kernel
theorem dX0_init_31 : decode cX0_init 31 = .ok (.invokespecial 20, 3) := by decide +kernel
theorem dX0_init_34 : decode cX0_init 34 = .ok (.putfield 25, 3) := by decide +kernel
theorem dX0_init_37 : decode cX0_init 37 = .ok (.aload_n 0, 1) := by decide +kernel
theorem dX0_init_38 : decode cX0_init 38 = .ok (.sipush 200, 3) := by decide +kernel
theorem dX0_init_41 : decode cX0_init 41 = .ok (.newarray .char, 2) := by decide +kernel
theorem dX0_init_43 : decode cX0_init 43 = .ok (.putfield 28, 3) := by decide +kernel
theorem dX0_init_46 : decode cX0_init 46 = .ok (.aload_n 0, 1) := by decide +kernel
theorem dX0_init_47 : decode cX0_init 47 = .ok (.iconst 0, 1) := by decide +kernel
theorem dX0_init_48 : decode cX0_init 48 = .ok (.putfield 32, 3) := by decide +kernel
theorem dX0_init_51 : decode cX0_init 51 = .ok (.aload_n 0, 1) := by decide +kernel
theorem dX0_init_52 : decode cX0_init 52 = .ok (.iconst 0, 1) := by decide +kernel
theorem dX0_init_53 : decode cX0_init 53 = .ok (.putfield 36, 3) := by decide +kernel
theorem dX0_init_56 : decode cX0_init 56 = .ok (.aload_n 0, 1) := by decide +kernel
theorem dX0_init_57 : decode cX0_init 57 = .ok (.iconst 0, 1) := by decide +kernel
theorem dX0_init_58 : decode cX0_init 58 = .ok (.putfield 39, 3) := by decide +kernel
theorem dX0_init_61 : decode cX0_init 61 = .ok (.aload_n 0, 1) := by decide +kernel
theorem dX0_init_62 : decode cX0_init 62 = .ok (.iconst 0, 1) := by decide +kernel
theorem dX0_init_63 : decode cX0_init 63 = .ok (.putfield 42, 3) := by decide +kernel
theorem dX0_init_66 : decode cX0_init 66 = .ok (.aload_n 0, 1) := by decide +kernel
theorem dX0_init_67 : decode cX0_init 67 = .ok (.iconst 0, 1) := by decide +kernel
theorem dX0_init_68 : decode cX0_init 68 = .ok (.putfield 46, 3) := by decide +kernel
theorem dX0_init_71 : decode cX0_init 71 = .ok (.aload_n 0, 1) := by decide +kernel
theorem dX0_init_72 : decode cX0_init 72 = .ok (.iload_n 1, 1) := by decide +kernel
theorem dX0_init_73 : decode cX0_init 73 = .ok (.putfield 49, 3) := by decide +kernel
theorem dX0_init_76 : decode cX0_init 76 = .ok (.aload_n 0, 1) := by decide +kernel
theorem dX0_init_77 : decode cX0_init 77 = .ok (.iload_n 2, 1) := by decide +kernel
theorem dX0_init_78 : decode cX0_init 78 = .ok (.putfield 52, 3) := by decide +kernel
theorem dX0_init_81 : decode cX0_init 81 = .ok (.aload_n 0, 1) := by decide +kernel
theorem dX0_init_82 : decode cX0_init 82 = .ok (.getfield 21, 3) := by decide +kernel
theorem dX0_init_85 : decode cX0_init 85 = .ok (.iload_n 1, 1) := by decide +kernel
theorem dX0_init_86 : decode cX0_init 86 = .ok (.invokevirtual 55, 3) := by decide +kernel
theorem dX0_init_89 : decode cX0_init 89 = .ok (.return_, 1) := by decide +kernel
theorem dX0_allot_0 : decode cX0_allot 0 = .ok (.aload_n 0, 1) := by decide +kernel
theorem dX0_allot_1 : decode cX0_allot 1 = .ok (.getfield 21, 3) := by decide +kernel
theorem dX0_allot_4 : decode cX0_allot 4 = .ok (.aload_n 1, 1) := by decide +kernel
theorem dX0_allot_5 : decode cX0_allot 5 = .ok (.getfield 59, 3) := by decide +kernel
theorem dX0_allot_8 : decode cX0_allot 8 = .ok (.invokevirtual 64, 3) := by decide +kernel
theorem dX0_allot_11 : decode cX0_allot 11 = .ok (.istore_n 2, 1) := by decide +kernel
theorem dX0_allot_12 : decode cX0_allot 12 = .ok (.iload_n 2, 1) := by decide +kernel
theorem dX0_allot_13 : decode cX0_allot 13 = .ok (.iconst (-1), 1) := by decide +kernel
theorem dX0_allot_14 : decode cX0_allot 14 = .ok (.if_icmp .eq 17, 3) := by decide +kernel
theorem dX0_allot_17 : decode cX0_allot 17 = .ok (.aload_n 1, 1) := by decide +kernel
theorem dX0_allot_18 : decode cX0_allot 18 = .ok (.iload_n 2, 1) := by decide +kernel
theorem dX0_allot_19 : decode cX0_allot 19 = .ok (.putfield 68, 3) := by decide +kernel
theorem dX0_allot_22 : decode cX0_allot 22 = .ok (.aload_n 0, 1) := by decide +kernel
theorem dX0_allot_23 : decode cX0_allot 23 = .ok (.getfield 12, 3) := by decide +kernel
theorem dX0_allot_26 : decode cX0_allot 26 = .ok (.aload_n 1, 1) := by decide +kernel
theorem dX0_allot_27 : decode cX0_allot 27 = .ok (.invokevirtual 71, 3) := by decide +kernel
theorem dX0_allot_30 : decode cX0_allot 30 = .ok (.pop, 1) := by decide +kernel
theorem dX0_allot_31 : decode cX0_allot 31 = .ok (.return_, 1) := by decide +kernel
theorem dX0_proposalAt_0 : decode cX0_proposalAt 0 = .ok (.iload_n 1, 1) := by decide +kernel
theorem dX0_proposalAt_1 : decode cX0_proposalAt 1 = .ok (.ifCond .lt 14, 3) := by decide +kernel
theorem dX0_proposalAt_4 : decode cX0_proposalAt 4 = .ok (.iload_n 1, 1) := by decide +kernel
theorem dX0_proposalAt_5 : decode cX0_proposalAt 5 = .ok (.aload_n 0, 1) := by decide +kernel
theorem dX0_proposalAt_6 : decode cX0_proposalAt 6 = .ok (.getfield 12, 3) := by decide +kernel
theorem dX0_proposalAt_9 : decode cX0_proposalAt 9 = .ok (.invokevirtual 75, 3) := by decide +kernel
theorem dX0_proposalAt_12 : decode cX0_proposalAt 12 = .ok (.if_icmp .lt 5, 3) := by decide +kernel
theorem dX0_proposalAt_15 : decode cX0_proposalAt 15 = .ok (.aconst_null, 1) := by decide +kernel
theorem dX0_proposalAt_16 : decode cX0_proposalAt 16 = .ok (.areturn, 1) := by decide +kernel
theorem dX0_proposalAt_17 : decode cX0_proposalAt 17 = .ok (.aload_n 0, 1) := by decide +kernel
theorem dX0_proposalAt_18 : decode cX0_proposalAt 18 = .ok (.getfield 12, 3) := by decide +kernel
theorem dX0_proposalAt_21 : decode cX0_proposalAt 21 = .ok (.iload_n 1, 1) := by decide +kernel
theorem dX0_proposalAt_22 : decode cX0_proposalAt 22 = .ok (.invokevirtual 79, 3) := by decide +kernel
theorem dX0_proposalAt_25 : decode cX0_proposalAt 25 = .ok (.checkcast 60, 3) := by decide +kernel
theorem dX0_proposalAt_28 : decode cX0_proposalAt 28 = .ok (.areturn, 1) := by decide +kernel
theorem dX0_current_0 : decode cX0_current 0 = .ok (.aload_n 0, 1) := by decide +kernel
theorem dX0_current_1 : decode cX0_current 1 = .ok (.aload_n 0, 1) := by decide +kernel
theorem dX0_current_2 : decode cX0_current 2 = .ok (.getfield 21, 3) := by decide +kernel
theorem dX0_current_5 : decode cX0_current 5 = .ok (.invokevirtual 83, 3) := by decide +kernel
theorem dX0_current_8 : decode cX0_current 8 = .ok (.invokevirtual 86, 3) := by decide +kernel
theorem dX0_current_11 : decode cX0_current 11 = .ok (.areturn, 1) := by decide +kernel
theorem dX0_runShift_0 : decode cX0_runShift 0 = .ok (.aload_n 0, 1) := by decide +kernel
theorem dX0_runShift_1 : decode cX0_runShift 1 = .ok (.invokevirtual 90, 3) := by decide +kernel
theorem dX0_runShift_4 : decode cX0_runShift 4 = .ok (.astore_n 2, 1) := by decide +kernel
theorem dX0_runShift_5 : decode cX0_runShift 5 = .ok (.aload_n 2, 1) := by decide +kernel
theorem dX0_runShift_6 : decode cX0_runShift 6 = .ok (.ifnull 27, 3) := by decide +kernel
theorem dX0_runShift_9 : decode cX0_runShift 9 = .ok (.aload_n 2, 1) := by decide +kernel
theorem dX0_runShift_10 : decode cX0_runShift 10 = .ok (.iload_n 1, 1) := by decide +kernel
theorem dX0_runShift_11 : decode cX0_runShift 11 = .ok (.invokevirtual 94, 3) := by decide +kernel
theorem dX0_runShift_14 : decode cX0_runShift 14 = .ok (.iload_n 1, 1) := by decide +kernel
theorem dX0_runShift_15 : decode cX0_runShift 15 = .ok (.bipush 100, 2) := by decide +kernel
theorem dX0_runShift_17 : decode cX0_runShift 17 = .ok (.if_icmp .ne 16, 3) := by decide +kernel
theorem dX0_runShift_20 : decode cX0_runShift 20 = .ok (.aload_n 0, 1) := by decide +kernel
theorem dX0_runShift_21 : decode cX0_runShift 21 = .ok (.dup, 1) := by decide +kernel
theorem dX0_runShift_22 : decode cX0_runShift 22 = .ok (.getfield 39, 3) := by decide +kernel
theorem dX0_runShift_25 : decode cX0_runShift 25 = .ok (.aload_n 2, 1) := by decide +kernel
theorem dX0_runShift_26 : decode cX0_runShift 26 = .ok (.getfield 98, 3) := by decide +kernel
theorem dX0_runShift_29 : decode cX0_runShift 29 = .ok (.iadd, 1) := by decide +kernel
theorem dX0_runShift_30 : decode cX0_runShift 30 = .ok (.putfield 39, 3) := by decide +kernel
theorem dX0_runShift_33 : decode cX0_runShift 33 = .ok (.aload_n 0, 1) := by decide +kernel
theorem dX0_runShift_34 : decode cX0_runShift 34 = .ok (.aload_n 0, 1) := by decide +kernel
theorem dX0_runShift_35 : decode cX0_runShift 35 = .ok (.getfield 21, 3) := by decide +kernel
theorem dX0_runShift_38 : decode cX0_runShift 38 = .ok (.iload_n 1, 1) := by decide +kernel
theorem dX0_runShift_39 : decode cX0_runShift 39 = .ok (.invokevirtual 101, 3) := by decide +kernel
theorem dX0_runShift_42 : decode cX0_runShift 42 = .ok (.invokevirtual 86, 3) := by decide +kernel
theorem dX0_runShift_45 : decode cX0_runShift 45 = .ok (.astore_n 3, 1) := by decide +kernel
theorem dX0_runShift_46 : decode cX0_runShift 46 = .ok (.aload_n 3, 1) := by decide +kernel
theorem dX0_runShift_47 : decode cX0_runShift 47 = .ok (.ifnull 13, 3) := by decide +kernel
theorem dX0_runShift_50 : decode cX0_runShift 50 = .ok (.aload_n 3, 1) := by decide +kernel
theorem dX0_runShift_51 : decode cX0_runShift 51 = .ok (.dup, 1) := by decide +kernel
theorem dX0_runShift_52 : decode cX0_runShift 52 = .ok (.getfield 105, 3) := by decide +kernel
theorem dX0_runShift_55 : decode cX0_runShift 55 = .ok (.iconst 1, 1) := by decide +kernel
theorem dX0_runShift_56 : decode cX0_runShift 56 = .ok (.iadd, 1) := by decide +kernel
theorem dX0_runShift_57 : decode cX0_runShift 57 = .ok (.putfield 105, 3) := by decide +kernel
theorem dX0_runShift_60 : decode cX0_runShift 60 = .ok (.aload_n 0, 1) := by decide +kernel
theorem dX0_runShift_61 : decode cX0_runShift 61 = .ok (.iload_n 1, 1) := by decide +kernel
theorem dX0_runShift_62 : decode cX0_runShift 62 = .ok (.invokevirtual 108, 3) := by decide +kernel
theorem dX0_runShift_65 : decode cX0_runShift 65 = .ok (.aload_n 0, 1) := by decide +kernel
theorem dX0_runShift_66 : decode cX0_runShift 66 = .ok (.iconst 0, 1) := by decide +kernel
theorem dX0_runShift_67 : decode cX0_runShift 67 = .ok (.aload_n 0, 1) := by decide +kernel
theorem dX0_runShift_68 : decode cX0_runShift 68 = .ok (.getfield 39, 3) := by decide +kernel
theorem dX0_runShift_71 : decode cX0_runShift 71 = .ok (.aload_n 0, 1) := by decide +kernel
theorem dX0_runShift_72 : decode cX0_runShift 72 = .ok (.getfield 36, 3) := by decide +kernel
theorem dX0_runShift_75 : decode cX0_runShift 75 = .ok (.isub, 1) := by decide +kernel
theorem dX0_runShift_76 : decode cX0_runShift 76 = .ok (.invokestatic 111, 3) := by decide +kernel
theorem dX0_runShift_79 : decode cX0_runShift 79 = .ok (.putfield 39, 3) := by decide +kernel
theorem dX0_runShift_82 : decode cX0_runShift 82 = .ok (.aload_n 0, 1) := by decide +kernel
theorem dX0_runShift_83 : decode cX0_runShift 83 = .ok (.iconst 0, 1) := by decide +kernel
theorem dX0_runShift_84 : decode cX0_runShift 84 = .ok (.putfield 46, 3) := by decide +kernel
theorem dX0_runShift_87 : decode cX0_runShift 87 = .ok (.return_, 1) := by decide +kernel
theorem dX0_note_0 : decode cX0_note 0 = .ok (.aload_n 0, 1) := by decide +kernel
theorem dX0_note_1 : decode cX0_note 1 = .ok (.getfield 42, 3) := by decide +kernel
theorem dX0_note_4 : decode cX0_note 4 = .ok (.ifCond .eq 35, 3) := by decide +kernel
theorem dX0_note_7 : decode cX0_note 7 = .ok (.aload_n 0, 1) := by decide +kernel
theorem dX0_note_8 : decode cX0_note 8 = .ok (.getfield 32, 3) := by decide +kernel
theorem dX0_note_11 : decode cX0_note 11 = .ok (.aload_n 0, 1) := by decide +kernel
theorem dX0_note_12 : decode cX0_note 12 = .ok (.getfield 28, 3) := by decide +kernel
theorem dX0_note_15 : decode cX0_note 15 = .ok (.arraylength, 1) := by decide +kernel
theorem dX0_note_16 : decode cX0_note 16 = .ok (.if_icmp .ge 23, 3) := by decide +kernel
theorem dX0_note_19 : decode cX0_note 19 = .ok (.aload_n 0, 1) := by decide +kernel
theorem dX0_note_20 : decode cX0_note 20 = .ok (.getfield 28, 3) := by decide +kernel
theorem dX0_note_23 : decode cX0_note 23 = .ok (.aload_n 0, 1) := by decide +kernel
theorem dX0_note_24 : decode cX0_note 24 = .ok (.getfield 32, 3) := by decide +kernel
theorem dX0_note_27 : decode cX0_note 27 = .ok (.iload_n 1, 1) := by decide +kernel
theorem dX0_note_28 : decode cX0_note 28 = .ok (.castore, 1) := by decide +kernel
theorem dX0_note_29 : decode cX0_note 29 = .ok (.aload_n 0, 1) := by decide +kernel
theorem dX0_note_30 : decode cX0_note 30 = .ok (.dup, 1) := by decide +kernel
theorem dX0_note_31 : decode cX0_note 31 = .ok (.getfield 32, 3) := by decide +kernel
theorem dX0_note_34 : decode cX0_note 34 = .ok (.iconst 1, 1) := by decide +kernel
theorem dX0_note_35 : decode cX0_note 35 = .ok (.iadd, 1) := by decide +kernel
theorem dX0_note_36 : decode cX0_note 36 = .ok (.putfield 32, 3) := by decide +kernel
theorem dX0_note_39 : decode cX0_note 39 = .ok (.return_, 1) := by decide +kernel
theorem dX0_replay_0 : decode cX0_replay 0 = .ok (.aload_n 0, 1) := by decide +kernel
theorem dX0_replay_1 : decode cX0_replay 1 = .ok (.getfield 25, 3) := by decide +kernel
theorem dX0_replay_4 : decode cX0_replay 4 = .ok (.aload_n 0, 1) := by decide +kernel
theorem dX0_replay_5 : decode cX0_replay 5 = .ok (.getfield 49, 3) := by decide +kernel
theorem dX0_replay_8 : decode cX0_replay 8 = .ok (.invokevirtual 55, 3) := by decide +kernel
theorem dX0_replay_11 : decode cX0_replay 11 = .ok (.iconst 0, 1) := by decide +kernel
theorem dX0_replay_12 : decode cX0_replay 12 = .ok (.istore_n 1, 1) := by decide +kernel
theorem dX0_replay_13 : decode cX0_replay 13 = .ok (.iload_n 1, 1) := by decide +kernel
theorem dX0_replay_14 : decode cX0_replay 14 = .ok (.aload_n 0, 1) := by decide +kernel
theorem dX0_replay_15 : decode cX0_replay 15 = .ok (.getfield 12, 3) := by decide +kernel
theorem dX0_replay_18 : decode cX0_replay 18 = .ok (.invokevirtual 75, 3) := by decide +kernel
theorem dX0_replay_21 : decode cX0_replay 21 = .ok (.if_icmp .ge 31, 3) := by decide +kernel
theorem dX0_replay_24 : decode cX0_replay 24 = .ok (.aload_n 0, 1) := by decide +kernel
theorem dX0_replay_25 : decode cX0_replay 25 = .ok (.getfield 25, 3) := by decide +kernel
theorem dX0_replay_28 : decode cX0_replay 28 = .ok (.aload_n 0, 1) := by decide +kernel
theorem dX0_replay_29 : decode cX0_replay 29 = .ok (.getfield 12, 3) := by decide +kernel
theorem dX0_replay_32 : decode cX0_replay 32 = .ok (.iload_n 1, 1) := by decide +kernel
theorem dX0_replay_33 : decode cX0_replay 33 = .ok (.invokevirtual 79, 3) := by decide +kernel
theorem dX0_replay_36 : decode cX0_replay 36 = .ok (.checkcast 60, 3) := by decide +kernel
theorem dX0_replay_39 : decode cX0_replay 39 = .ok (.getfield 59, 3) := by decide +kernel
theorem dX0_replay_42 : decode cX0_replay 42 = .ok (.invokevirtual 64, 3) := by decide +kernel
theorem dX0_replay_45 : decode cX0_replay 45 = .ok (.pop, 1) := by decide +kernel
theorem dX0_replay_46 : decode cX0_replay 46 = .ok (.iinc 1 1, 3) := by decide +kernel
theorem dX0_replay_49 : decode cX0_replay 49 = .ok (.goto (-36), 3) := by decide +kernel
theorem dX0_replay_52 : decode cX0_replay 52 = .ok (.iconst 0, 1) := by decide +kernel
theorem dX0_replay_53 : decode cX0_replay 53 = .ok (.istore_n 1, 1) := by decide +kernel
theorem dX0_replay_54 : decode cX0_replay 54 = .ok (.iload_n 1, 1) := by decide +kernel
theorem dX0_replay_55 : decode cX0_replay 55 = .ok (.aload_n 0, 1) := by decide +kernel
theorem dX0_replay_56 : decode cX0_replay 56 = .ok (.getfield 32, 3) := by decide +kernel
theorem dX0_replay_59 : decode cX0_replay 59 = .ok (.if_icmp .ge 32, 3) := by decide +kernel
theorem dX0_replay_62 : decode cX0_replay 62 = .ok (.iload_n 1, 1) := by decide +kernel
theorem dX0_replay_63 : decode cX0_replay 63 = .ok (.aload_n 0, 1) := by decide +kernel
theorem dX0_replay_64 : decode cX0_replay 64 = .ok (.getfield 28, 3) := by decide +kernel
theorem dX0_replay_67 : decode cX0_replay 67 = .ok (.arraylength, 1) := by decide +kernel
theorem dX0_replay_68 : decode cX0_replay 68 = .ok (.if_icmp .ge 23, 3) := by decide +kernel
theorem dX0_replay_71 : decode cX0_replay 71 = .ok (.aload_n 0, 1) := by decide +kernel
theorem dX0_replay_72 : decode cX0_replay 72 = .ok (.getfield 25, 3) := by decide +kernel
theorem dX0_replay_75 : decode cX0_replay 75 = .ok (.aload_n 0, 1) := by decide +kernel
theorem dX0_replay_76 : decode cX0_replay 76 = .ok (.getfield 28, 3) := by decide +kernel
theorem dX0_replay_79 : decode cX0_replay 79 = .ok (.iload_n 1, 1) := by decide +kernel
theorem dX0_replay_80 : decode cX0_replay 80 = .ok (.caload, 1) := by decide +kernel
theorem dX0_replay_81 : decode cX0_replay 81 = .ok (.invokevirtual 101, 3) := by decide +kernel
theorem dX0_replay_84 : decode cX0_replay 84 = .ok (.pop, 1) := by decide +kernel
theorem dX0_replay_85 : decode cX0_replay 85 = .ok (.iinc 1 1, 3) := by decide +kernel
theorem dX0_replay_88 : decode cX0_replay 88 = .ok (.goto (-34), 3) := by decide +kernel
theorem dX0_replay_91 : decode cX0_replay 91 = .ok (.return_, 1) := by decide +kernel
theorem dX1_init_0 : decode cX1_init 0 = .ok (.aload_n 0, 1) := by decide +kernel
theorem dX1_init_1 : decode cX1_init 1 = .ok (.invokespecial 3, 3) := by decide +kernel
theorem dX1_init_4 : decode cX1_init 4 = .ok (.aload_n 0, 1) := by decide +kernel
theorem dX1_init_5 : decode cX1_init 5 = .ok (.bipush 8, 2) := by decide +kernel
theorem dX1_init_7 : decode cX1_init 7 = .ok (.newarray .int, 2) := by decide +kernel
theorem dX1_init_9 : decode cX1_init 9 = .ok (.putfield 9, 3) := by decide +kernel
theorem dX1_init_12 : decode cX1_init 12 = .ok (.aload_n 0, 1) := by decide +kernel
theorem dX1_init_13 : decode cX1_init 13 = .ok (.iconst 0, 1) := by decide +kernel
theorem dX1_init_14 : decode cX1_init 14 = .ok (.putfield 15, 3) := by decide +kernel
theorem dX1_init_17 : decode cX1_init 17 = .ok (.aload_n 0, 1) := by decide +kernel
theorem dX1_init_18 : decode cX1_init 18 = .ok (.iconst 0, 1) := by decide +kernel
theorem dX1_init_19 : decode cX1_init 19 = .ok (.putfield 19, 3) := by decide +kernel
theorem dX1_init_22 : decode cX1_init 22 = .ok (.return_, 1) := by decide +kernel
theorem dX1_begin_0 : decode cX1_begin 0 = .ok (.aload_n 0, 1) := by decide +kernel
theorem dX1_begin_1 : decode cX1_begin 1 = .ok (.iconst 0, 1) := by decide +kernel
theorem dX1_begin_2 : decode cX1_begin 2 = .ok (.putfield 15, 3) := by decide +kernel
theorem dX1_begin_5 : decode cX1_begin 5 = .ok (.aload_n 0, 1) := by decide +kernel
theorem dX1_begin_6 : decode cX1_begin 6 = .ok (.iload_n 1, 1) := by decide +kernel
theorem dX1_begin_7 : decode cX1_begin 7 = .ok (.putfield 19, 3) := by decide +kernel
theorem dX1_begin_10 : decode cX1_begin 10 = .ok (.return_, 1) := by decide +kernel
theorem dX1_allot_0 : decode cX1_allot 0 = .ok (.iload_n 1, 1) := by decide +kernel
theorem dX1_allot_1 : decode cX1_allot 1 = .ok (.aload_n 0, 1) := by decide +kernel
theorem dX1_allot_2 : decode cX1_allot 2 = .ok (.getfield 19, 3) := by decide +kernel
theorem dX1_allot_5 : decode cX1_allot 5 = .ok (.if_icmp .gt 15, 3) := by decide +kernel
theorem dX1_allot_8 : decode cX1_allot 8 = .ok (.aload_n 0, 1) := by decide +kernel
theorem dX1_allot_9 : decode cX1_allot 9 = .ok (.getfield 15, 3) := by decide +kernel
theorem dX1_allot_12 : decode cX1_allot 12 = .ok (.aload_n 0, 1) := by decide +kernel
theorem dX1_allot_13 : decode cX1_allot 13 = .ok (.getfield 9, 3) := by decide +kernel
theorem dX1_allot_16 : decode cX1_allot 16 = .ok (.arraylength, 1) := by decide +kernel
theorem dX1_allot_17 : decode cX1_allot 17 = .ok (.if_icmp .lt 5, 3) := by decide +kernel
theorem dX1_allot_20 : decode cX1_allot 20 = .ok (.iconst (-1), 1) := by decide +kernel
theorem dX1_allot_21 : decode cX1_allot 21 = .ok (.ireturn, 1) := by decide +kernel
theorem dX1_allot_22 : decode cX1_allot 22 = .ok (.aload_n 0, 1) := by decide +kernel
theorem dX1_allot_23 : decode cX1_allot 23 = .ok (.getfield 15, 3) := by decide +kernel
theorem dX1_allot_26 : decode cX1_allot 26 = .ok (.istore_n 2, 1) := by decide +kernel
theorem dX1_allot_27 : decode cX1_allot 27 = .ok (.aload_n 0, 1) := by decide +kernel
theorem dX1_allot_28 : decode cX1_allot 28 = .ok (.getfield 9, 3) := by decide +kernel
theorem dX1_allot_31 : decode cX1_allot 31 = .ok (.iload_n 2, 1) := by decide +kernel
theorem dX1_allot_32 : decode cX1_allot 32 = .ok (.iload_n 1, 1) := by decide +kernel
theorem dX1_allot_33 : decode cX1_allot 33 = .ok (.iastore, 1) := by decide +kernel
theorem dX1_allot_34 : decode cX1_allot 34 = .ok (.aload_n 0, 1) := by decide +kernel
theorem dX1_allot_35 : decode cX1_allot 35 = .ok (.dup, 1) := by decide +kernel
theorem dX1_allot_36 : decode cX1_allot 36 = .ok (.getfield 19, 3) := by decide +kernel
theorem dX1_allot_39 : decode cX1_allot 39 = .ok (.iload_n 1, 1) := by decide +kernel
theorem dX1_allot_40 : decode cX1_allot 40 = .ok (.isub, 1) := by decide +kernel
theorem dX1_allot_41 : decode cX1_allot 41 = .ok (.putfield 19, 3) := by decide +kernel
theorem dX1_allot_44 : decode cX1_allot 44 = .ok (.aload_n 0, 1) := by decide +kernel
theorem dX1_allot_45 : decode cX1_allot 45 = .ok (.dup, 1) := by decide +kernel
theorem dX1_allot_46 : decode cX1_allot 46 = .ok (.getfield 15, 3) := by decide +kernel
theorem dX1_allot_49 : decode cX1_allot 49 = .ok (.iconst 1, 1) := by decide +kernel
theorem dX1_allot_50 : decode cX1_allot 50 = .ok (.iadd, 1) := by decide +kernel
theorem dX1_allot_51 : decode cX1_allot 51 = .ok (.putfield 15, 3) := by decide +kernel
theorem dX1_allot_54 : decode cX1_allot 54 = .ok (.iload_n 2, 1) := by decide +kernel
theorem dX1_allot_55 : decode cX1_allot 55 = .ok (.ireturn, 1) := by decide +kernel
theorem dX1_leftAt_0 : decode cX1_leftAt 0 = .ok (.iload_n 1, 1) := by decide +kernel
theorem dX1_leftAt_1 : decode cX1_leftAt 1 = .ok (.ifCond .lt 20, 3) := by decide +kernel
theorem dX1_leftAt_4 : decode cX1_leftAt 4 = .ok (.iload_n 1, 1) := by decide +kernel
theorem dX1_leftAt_5 : decode cX1_leftAt 5 = .ok (.aload_n 0, 1) := by decide +kernel
theorem dX1_leftAt_6 : decode cX1_leftAt 6 = .ok (.getfield 15, 3) := by decide +kernel
theorem dX1_leftAt_9 : decode cX1_leftAt 9 = .ok (.if_icmp .ge 12, 3) := by decide +kernel
theorem dX1_leftAt_12 : decode cX1_leftAt 12 = .ok (.iload_n 1, 1) := by decide +kernel
theorem dX1_leftAt_13 : decode cX1_leftAt 13 = .ok (.aload_n 0, 1) := by decide +kernel
theorem dX1_leftAt_14 : decode cX1_leftAt 14 = .ok (.getfield 9, 3) := by decide +kernel
theorem dX1_leftAt_17 : decode cX1_leftAt 17 = .ok (.arraylength, 1) := by decide +kernel
theorem dX1_leftAt_18 : decode cX1_leftAt 18 = .ok (.if_icmp .lt 5, 3) := by decide +kernel
theorem dX1_leftAt_21 : decode cX1_leftAt 21 = .ok (.iconst 0, 1) := by decide +kernel
theorem dX1_leftAt_22 : decode cX1_leftAt 22 = .ok (.ireturn, 1) := by decide +kernel
theorem dX1_leftAt_23 : decode cX1_leftAt 23 = .ok (.aload_n 0, 1) := by decide +kernel
theorem dX1_leftAt_24 : decode cX1_leftAt 24 = .ok (.getfield 9, 3) := by decide +kernel
theorem dX1_leftAt_27 : decode cX1_leftAt 27 = .ok (.iload_n 1, 1) := by decide +kernel
theorem dX1_leftAt_28 : decode cX1_leftAt 28 = .ok (.iaload, 1) := by decide +kernel
theorem dX1_leftAt_29 : decode cX1_leftAt 29 = .ok (.ireturn, 1) := by decide +kernel
theorem dX1_leftAheadOf_0 : decode cX1_leftAheadOf 0 = .ok (.iconst 0, 1) := by decide +kernel
theorem dX1_leftAheadOf_1 : decode cX1_leftAheadOf 1 = .ok (.istore_n 2, 1) := by decide +kernel
theorem dX1_leftAheadOf_2 : decode cX1_leftAheadOf 2 = .ok (.iconst 0, 1) := by decide +kernel
theorem dX1_leftAheadOf_3 : decode cX1_leftAheadOf 3 = .ok (.istore_n 3, 1) := by decide +kernel
theorem dX1_leftAheadOf_4 : decode cX1_leftAheadOf 4 = .ok (.iload_n 3, 1) := by decide +kernel
theorem dX1_leftAheadOf_5 : decode cX1_leftAheadOf 5 = .ok (.iload_n 1, 1) := by decide +kernel
theorem dX1_leftAheadOf_6 : decode cX1_leftAheadOf 6 = .ok (.if_icmp .ge 25, 3) := by decide +kernel
theorem dX1_leftAheadOf_9 : decode cX1_leftAheadOf 9 = .ok (.iload_n 3, 1) := by decide +kernel
theorem dX1_leftAheadOf_10 : decode cX1_leftAheadOf 10 = .ok (.aload_n 0, 1) := by decide +kernel
theorem dX1_leftAheadOf_11 : decode cX1_leftAheadOf 11 = .ok (.getfield 15, 3) := by decide +kernel
theorem dX1_leftAheadOf_14 : decode cX1_leftAheadOf 14 = .ok (.if_icmp .ge 17, 3) := by decide +kernel
theorem dX1_leftAheadOf_17 : decode cX1_leftAheadOf 17 = .ok (.iload_n 2, 1) := by decide +kernel
theorem dX1_leftAheadOf_18 : decode cX1_leftAheadOf 18 = .ok (.aload_n 0, 1) := by decide +kernel
theorem dX1_leftAheadOf_19 : decode cX1_leftAheadOf 19 = .ok (.iload_n 3, 1) := by decide +kernel
theorem dX1_leftAheadOf_20 : decode cX1_leftAheadOf 20 = .ok (.invokevirtual 22, 3) := by decide +kernel
theorem dX1_leftAheadOf_23 : decode cX1_leftAheadOf 23 = .ok (.iadd, 1) := by decide +kernel
theorem dX1_leftAheadOf_24 : decode cX1_leftAheadOf 24 = .ok (.istore_n 2, 1) := by decide +kernel
theorem dX1_leftAheadOf_25 : decode cX1_leftAheadOf 25 = .ok (.iinc 3 1, 3) := by decide +kernel
theorem dX1_leftAheadOf_28 : decode cX1_leftAheadOf 28 = .ok (.goto (-24), 3) := by decide +kernel
theorem dX1_leftAheadOf_31 : decode cX1_leftAheadOf 31 = .ok (.iload_n 2, 1) := by decide +kernel
theorem dX1_leftAheadOf_32 : decode cX1_leftAheadOf 32 = .ok (.ireturn, 1) := by decide +kernel
theorem dX1_firstPlace_0 : decode cX1_firstPlace 0 = .ok (.iconst 0, 1) := by decide +kernel
theorem dX1_firstPlace_1 : decode cX1_firstPlace 1 = .ok (.istore_n 1, 1) := by decide +kernel
theorem dX1_firstPlace_2 : decode cX1_firstPlace 2 = .ok (.iload_n 1, 1) := by decide +kernel
theorem dX1_firstPlace_3 : decode cX1_firstPlace 3 = .ok (.aload_n 0, 1) := by decide +kernel
theorem dX1_firstPlace_4 : decode cX1_firstPlace 4 = .ok (.getfield 15, 3) := by decide +kernel
theorem dX1_firstPlace_7 : decode cX1_firstPlace 7 = .ok (.if_icmp .ge 19, 3) := by decide +kernel
theorem dX1_firstPlace_10 : decode cX1_firstPlace 10 = .ok (.aload_n 0, 1) := by decide +kernel
theorem dX1_firstPlace_11 : decode cX1_firstPlace 11 = .ok (.iload_n 1, 1) := by decide +kernel
theorem dX1_firstPlace_12 : decode cX1_firstPlace 12 = .ok (.invokevirtual 22, 3) := by decide +kernel
theorem dX1_firstPlace_15 : decode cX1_firstPlace 15 = .ok (.ifCond .le 5, 3) := by decide +kernel
theorem dX1_firstPlace_18 : decode cX1_firstPlace 18 = .ok (.iload_n 1, 1) := by decide +kernel
theorem dX1_firstPlace_19 : decode cX1_firstPlace 19 = .ok (.ireturn, 1) := by decide +kernel
theorem dX1_firstPlace_20 : decode cX1_firstPlace 20 = .ok (.iinc 1 1, 3) := by decide +kernel
theorem dX1_firstPlace_23 : decode cX1_firstPlace 23 = .ok (.goto (-21), 3) := by decide +kernel
theorem dX1_firstPlace_26 : decode cX1_firstPlace 26 = .ok (.iconst (-1), 1) := by decide +kernel
theorem dX1_firstPlace_27 : decode cX1_firstPlace 27 = .ok (.ireturn, 1) := by decide +kernel
theorem dX1_lastPlace_0 : decode cX1_lastPlace 0 = .ok (.aload_n 0, 1) := by decide +kernel
theorem dX1_lastPlace_1 : decode cX1_lastPlace 1 = .ok (.getfield 15, 3) := by decide +kernel
theorem dX1_lastPlace_4 : decode cX1_lastPlace 4 = .ok (.iconst 1, 1) := by decide +kernel
theorem dX1_lastPlace_5 : decode cX1_lastPlace 5 = .ok (.isub, 1) := by decide +kernel
theorem dX1_lastPlace_6 : decode cX1_lastPlace 6 = .ok (.istore_n 1, 1) := by decide +kernel
theorem dX1_lastPlace_7 : decode cX1_lastPlace 7 = .ok (.iload_n 1, 1) := by decide +kernel
theorem dX1_lastPlace_8 : decode cX1_lastPlace 8 = .ok (.ifCond .lt 19, 3) := by decide +kernel
theorem dX1_lastPlace_11 : decode cX1_lastPlace 11 = .ok (.aload_n 0, 1) := by decide +kernel
theorem dX1_lastPlace_12 : decode cX1_lastPlace 12 = .ok (.iload_n 1, 1) := by decide +kernel
theorem dX1_lastPlace_13 : decode cX1_lastPlace 13 = .ok (.invokevirtual 22, 3) := by decide +kernel
theorem dX1_lastPlace_16 : decode cX1_lastPlace 16 = .ok (.ifCond .le 5, 3) := by decide +kernel
theorem dX1_lastPlace_19 : decode cX1_lastPlace 19 = .ok (.iload_n 1, 1) := by decide +kernel
theorem dX1_lastPlace_20 : decode cX1_lastPlace 20 = .ok (.ireturn, 1) := by decide +kernel
theorem dX1_lastPlace_21 : decode cX1_lastPlace 21 = .ok (.iinc 1 (-1), 3) := by decide +kernel
theorem dX1_lastPlace_24 : decode cX1_lastPlace 24 = .ok (.goto (-17), 3) := by decide +kernel
theorem dX1_lastPlace_27 : decode cX1_lastPlace 27 = .ok (.iconst (-1), 1) := by decide +kernel
theorem dX1_lastPlace_28 : decode cX1_lastPlace 28 = .ok (.ireturn, 1) := by decide +kernel
theorem dX1_takeFrom_0 : decode cX1_takeFrom 0 = .ok (.iload_n 1, 1) := by decide +kernel
theorem dX1_takeFrom_1 : decode cX1_takeFrom 1 = .ok (.ifCond .lt 31, 3) := by decide +kernel
theorem dX1_takeFrom_4 : decode cX1_takeFrom 4 = .ok (.iload_n 1, 1) := by decide +kernel
theorem dX1_takeFrom_5 : decode cX1_takeFrom 5 = .ok (.aload_n 0, 1) := by decide +kernel
theorem dX1_takeFrom_6 : decode cX1_takeFrom 6 = .ok (.getfield 9, 3) := by decide +kernel
theorem dX1_takeFrom_9 : decode cX1_takeFrom 9 = .ok (.arraylength, 1) := by decide +kernel
theorem dX1_takeFrom_10 : decode cX1_takeFrom 10 = .ok (.if_icmp .ge 22, 3) := by decide +kernel
theorem dX1_takeFrom_13 : decode cX1_takeFrom 13 = .ok (.aload_n 0, 1) := by decide +kernel
theorem dX1_takeFrom_14 : decode cX1_takeFrom 14 = .ok (.getfield 9, 3) := by decide +kernel
theorem dX1_takeFrom_17 : decode cX1_takeFrom 17 = .ok (.iload_n 1, 1) := by decide +kernel
theorem dX1_takeFrom_18 : decode cX1_takeFrom 18 = .ok (.iaload, 1) := by decide +kernel
theorem dX1_takeFrom_19 : decode cX1_takeFrom 19 = .ok (.ifCond .le 13, 3) := by decide +kernel
theorem dX1_takeFrom_22 : decode cX1_takeFrom 22 = .ok (.aload_n 0, 1) := by decide +kernel
theorem dX1_takeFrom_23 : decode cX1_takeFrom 23 = .ok (.getfield 9, 3) := by decide +kernel
theorem dX1_takeFrom_26 : decode cX1_takeFrom 26 = .ok (.iload_n 1, 1) := by decide +kernel
theorem dX1_takeFrom_27 : decode cX1_takeFrom 27 = .ok (.dup2, 1) := by decide +kernel
theorem dX1_takeFrom_28 : decode cX1_takeFrom 28 = .ok (.iaload, 1) := by decide +kernel
theorem dX1_takeFrom_29 : decode cX1_takeFrom 29 = .ok (.iconst 1, 1) := by decide +kernel
theorem dX1_takeFrom_30 : decode cX1_takeFrom 30 = .ok (.isub, 1) := by decide +kernel
theorem dX1_takeFrom_31 : decode cX1_takeFrom 31 = .ok (.iastore, 1) := by decide +kernel
theorem dX1_takeFrom_32 : decode cX1_takeFrom 32 = .ok (.return_, 1) := by decide +kernel
theorem dX1_follow_0 : decode cX1_follow 0 = .ok (.iload_n 1, 1) := by decide +kernel
theorem dX1_follow_1 : decode cX1_follow 1 = .ok (.bipush 100, 2) := by decide +kernel
theorem dX1_follow_3 : decode cX1_follow 3 = .ok (.if_icmp .eq 9, 3) := by decide +kernel
theorem dX1_follow_6 : decode cX1_follow 6 = .ok (.iload_n 1, 1) := by decide +kernel
theorem dX1_follow_7 : decode cX1_follow 7 = .ok (.bipush 109, 2) := by decide +kernel
theorem dX1_follow_9 : decode cX1_follow 9 = .ok (.if_icmp .ne 11, 3) := by decide +kernel
theorem dX1_follow_12 : decode cX1_follow 12 = .ok (.aload_n 0, 1) := by decide +kernel
theorem dX1_follow_13 : decode cX1_follow 13 = .ok (.aload_n 0, 1) := by decide +kernel
theorem dX1_follow_14 : decode cX1_follow 14 = .ok (.invokevirtual 26, 3) := by decide +kernel
theorem dX1_follow_17 : decode cX1_follow 17 = .ok (.invokevirtual 30, 3) := by decide +kernel
theorem dX1_follow_20 : decode cX1_follow 20 = .ok (.iload_n 1, 1) := by decide +kernel
theorem dX1_follow_21 : decode cX1_follow 21 = .ok (.bipush 108, 2) := by decide +kernel
theorem dX1_follow_23 : decode cX1_follow 23 = .ok (.if_icmp .ne 8, 3) := by decide +kernel
theorem dX1_follow_26 : decode cX1_follow 26 = .ok (.aload_n 0, 1) := by decide +kernel
theorem dX1_follow_27 : decode cX1_follow 27 = .ok (.invokevirtual 34, 3) := by decide +kernel
theorem dX1_follow_30 : decode cX1_follow 30 = .ok (.ireturn, 1) := by decide +kernel
theorem dX1_follow_31 : decode cX1_follow 31 = .ok (.iconst (-1), 1) := by decide +kernel
theorem dX1_follow_32 : decode cX1_follow 32 = .ok (.ireturn, 1) := by decide +kernel
theorem dX1_lose_0 : decode cX1_lose 0 = .ok (.aload_n 0, 1) := by decide +kernel
theorem dX1_lose_1 : decode cX1_lose 1 = .ok (.getfield 19, 3) := by decide +kernel
theorem dX1_lose_4 : decode cX1_lose 4 = .ok (.ifCond .le 15, 3) := by decide +kernel
theorem dX1_lose_7 : decode cX1_lose 7 = .ok (.aload_n 0, 1) := by decide +kernel
theorem dX1_lose_8 : decode cX1_lose 8 = .ok (.dup, 1) := by decide +kernel
theorem dX1_lose_9 : decode cX1_lose 9 = .ok (.getfield 19, 3) := by decide +kernel
theorem dX1_lose_12 : decode cX1_lose 12 = .ok (.iconst 1, 1) := by decide +kernel
theorem dX1_lose_13 : decode cX1_lose 13 = .ok (.isub, 1) := by decide +kernel
theorem dX1_lose_14 : decode cX1_lose 14 = .ok (.putfield 19, 3) := by decide +kernel
theorem dX1_lose_17 : decode cX1_lose 17 = .ok (.iconst (-1), 1) := by decide +kernel
theorem dX1_lose_18 : decode cX1_lose 18 = .ok (.ireturn, 1) := by decide +kernel
theorem dX1_lose_19 : decode cX1_lose 19 = .ok (.aload_n 0, 1) := by decide +kernel
theorem dX1_lose_20 : decode cX1_lose 20 = .ok (.invokevirtual 37, 3) := by decide +kernel
theorem dX1_lose_23 : decode cX1_lose 23 = .ok (.istore_n 1, 1) := by decide +kernel
theorem dX1_lose_24 : decode cX1_lose 24 = .ok (.aload_n 0, 1) := by decide +kernel
theorem dX1_lose_25 : decode cX1_lose 25 = .ok (.iload_n 1, 1) := by decide +kernel
theorem dX1_lose_26 : decode cX1_lose 26 = .ok (.invokevirtual 30, 3) := by decide +kernel
theorem dX1_lose_29 : decode cX1_lose 29 = .ok (.iload_n 1, 1) := by decide +kernel
theorem dX1_lose_30 : decode cX1_lose 30 = .ok (.ireturn, 1) := by decide +kernel
theorem dX2_init_0 : decode cX2_init 0 = .ok (.aload_n 0, 1) := by decide +kernel
theorem dX2_init_1 : decode cX2_init 1 = .ok (.invokespecial 3, 3) := by decide +kernel
theorem dX2_init_4 : decode cX2_init 4 = .ok (.aload_n 0, 1) := by decide +kernel
theorem dX2_init_5 : decode cX2_init 5 = .ok (.iconst (-1), 1) := by decide +kernel
theorem dX2_init_6 : decode cX2_init 6 = .ok (.putfield 9, 3) := by decide +kernel
theorem dX2_init_9 : decode cX2_init 9 = .ok (.aload_n 0, 1) := by decide +kernel
theorem dX2_init_10 : decode cX2_init 10 = .ok (.iconst (-1), 1) := by decide +kernel
theorem dX2_init_11 : decode cX2_init 11 = .ok (.putfield 15, 3) := by decide +kernel
theorem dX2_init_14 : decode cX2_init 14 = .ok (.aload_n 0, 1) := by decide +kernel
theorem dX2_init_15 : decode cX2_init 15 = .ok (.bipush 114, 2) := by decide +kernel
theorem dX2_init_17 : decode cX2_init 17 = .ok (.putfield 18, 3) := by decide +kernel
theorem dX2_init_20 : decode cX2_init 20 = .ok (.aload_n 0, 1) := by decide +kernel
theorem dX2_init_21 : decode cX2_init 21 = .ok (.iconst 0, 1) := by decide +kernel
theorem dX2_init_22 : decode cX2_init 22 = .ok (.putfield 22, 3) := by decide +kernel
theorem dX2_init_25 : decode cX2_init 25 = .ok (.aload_n 0, 1) := by decide +kernel
theorem dX2_init_26 : decode cX2_init 26 = .ok (.iconst 0, 1) := by decide +kernel
theorem dX2_init_27 : decode cX2_init 27 = .ok (.putfield 25, 3) := by decide +kernel
theorem dX2_init_30 : decode cX2_init 30 = .ok (.aload_n 0, 1) := by decide +kernel
theorem dX2_init_31 : decode cX2_init 31 = .ok (.iconst 0, 1) := by decide +kernel
theorem dX2_init_32 : decode cX2_init 32 = .ok (.putfield 28, 3) := by decide +kernel
theorem dX2_init_35 : decode cX2_init 35 = .ok (.aload_n 0, 1) := by decide +kernel
theorem dX2_init_36 : decode cX2_init 36 = .ok (.iconst 0, 1) := by decide +kernel
theorem dX2_init_37 : decode cX2_init 37 = .ok (.putfield 31, 3) := by decide +kernel
theorem dX2_init_40 : decode cX2_init 40 = .ok (.aload_n 0, 1) := by decide +kernel
theorem dX2_init_41 : decode cX2_init 41 = .ok (.iload_n 1, 1) := by decide +kernel
theorem dX2_init_42 : decode cX2_init 42 = .ok (.putfield 34, 3) := by decide +kernel
theorem dX2_init_45 : decode cX2_init 45 = .ok (.aload_n 0, 1) := by decide +kernel
theorem dX2_init_46 : decode cX2_init 46 = .ok (.aload_n 2, 1) := by decide +kernel
theorem dX2_init_47 : decode cX2_init 47 = .ok (.putfield 37, 3) := by decide +kernel
theorem dX2_init_50 : decode cX2_init 50 = .ok (.aload_n 0, 1) := by decide +kernel
theorem dX2_init_51 : decode cX2_init 51 = .ok (.iload_n 3, 1) := by decide +kernel
theorem dX2_init_52 : decode cX2_init 52 = .ok (.putfield 41, 3) := by decide +kernel
theorem dX2_init_55 : decode cX2_init 55 = .ok (.aload_n 0, 1) := by decide +kernel
theorem dX2_init_56 : decode cX2_init 56 = .ok (.iload 4, 2) := by decide +kernel
theorem dX2_init_58 : decode cX2_init 58 = .ok (.putfield 44, 3) := by decide +kernel
theorem dX2_init_61 : decode cX2_init 61 = .ok (.aload_n 0, 1) := by decide +kernel
theorem dX2_init_62 : decode cX2_init 62 = .ok (.iload 5, 2) := by decide +kernel
theorem dX2_init_64 : decode cX2_init 64 = .ok (.putfield 47, 3) := by decide +kernel
theorem dX2_init_67 : decode cX2_init 67 = .ok (.aload_n 0, 1) := by decide +kernel
theorem dX2_init_68 : decode cX2_init 68 = .ok (.iload 6, 2) := by decide +kernel
theorem dX2_init_70 : decode cX2_init 70 = .ok (.putfield 50, 3) := by decide +kernel
theorem dX2_init_73 : decode cX2_init 73 = .ok (.return_, 1) := by decide +kernel
theorem dX2_hasSample_0 : decode cX2_hasSample 0 = .ok (.aload_n 0, 1) := by decide +kernel
theorem dX2_hasSample_1 : decode cX2_hasSample 1 = .ok (.getfield 15, 3) := by decide +kernel
theorem dX2_hasSample_4 : decode cX2_hasSample 4 = .ok (.iconst (-1), 1) := by decide +kernel
theorem dX2_hasSample_5 : decode cX2_hasSample 5 = .ok (.if_icmp .eq 7, 3) := by decide +kernel
theorem dX2_hasSample_8 : decode cX2_hasSample 8 = .ok (.iconst 1, 1) := by decide +kernel
theorem dX2_hasSample_9 : decode cX2_hasSample 9 = .ok (.goto 4, 3) := by decide +kernel
theorem dX2_hasSample_12 : decode cX2_hasSample 12 = .ok (.iconst 0, 1) := by decide +kernel
theorem dX2_hasSample_13 : decode cX2_hasSample 13 = .ok (.ireturn, 1) := by decide +kernel
theorem dX2_isCold_0 : decode cX2_isCold 0 = .ok (.aload_n 0, 1) := by decide +kernel
theorem dX2_isCold_1 : decode cX2_isCold 1 = .ok (.invokevirtual 53, 3) := by decide +kernel
theorem dX2_isCold_4 : decode cX2_isCold 4 = .ok (.ifCond .eq 16, 3) := by decide +kernel
theorem dX2_isCold_7 : decode cX2_isCold 7 = .ok (.aload_n 0, 1) := by decide +kernel
theorem dX2_isCold_8 : decode cX2_isCold 8 = .ok (.getfield 18, 3) := by decide +kernel
theorem dX2_isCold_11 : decode cX2_isCold 11 = .ok (.bipush 99, 2) := by decide +kernel
theorem dX2_isCold_13 : decode cX2_isCold 13 = .ok (.if_icmp .ne 7, 3) := by decide +kernel
theorem dX2_isCold_16 : decode cX2_isCold 16 = .ok (.iconst 1, 1) := by decide +kernel
theorem dX2_isCold_17 : decode cX2_isCold 17 = .ok (.goto 4, 3) := by decide +kernel
theorem dX2_isCold_20 : decode cX2_isCold 20 = .ok (.iconst 0, 1) := by decide +kernel
theorem dX2_isCold_21 : decode cX2_isCold 21 = .ok (.ireturn, 1) := by decide +kernel
theorem dX2_hasGoodSampleAtBeamline_0 : decode cX2_hasGoodSampleAtBeamline 0 = .ok (.aload_n 0, 1) := by decide +kernel
theorem dX2_hasGoodSampleAtBeamline_1 : decode cX2_hasGoodSampleAtBeamline 1 = .ok (.getfield 15, 3) := by decide +kernel
theorem dX2_hasGoodSampleAtBeamline_4 : decode cX2_hasGoodSampleAtBeamline 4 = .ok (.ifCond .le 16, 3) := by decide +kernel
theorem dX2_hasGoodSampleAtBeamline_7 : decode cX2_hasGoodSampleAtBeamline 7 = .ok (.aload_n 0, 1) := by decide +kernel
theorem dX2_hasGoodSampleAtBeamline_8 : decode cX2_hasGoodSampleAtBeamline 8 = .ok (.getfield 18, 3) := by decide +kernel
theorem dX2_hasGoodSampleAtBeamline_11 : decode cX2_hasGoodSampleAtBeamline 11 = .ok (.bipush 98, 2) := by decide +kernel
theorem dX2_hasGoodSampleAtBeamline_13 : decode cX2_hasGoodSampleAtBeamline 13 = .ok (.if_icmp .ne 7, 3) := by decide +kernel
theorem dX2_hasGoodSampleAtBeamline_16 : decode cX2_hasGoodSampleAtBeamline 16 = .ok (.iconst 1, 1) := by decide +kernel
theorem dX2_hasGoodSampleAtBeamline_17 : decode cX2_hasGoodSampleAtBeamline 17 = .ok (.goto 4, 3) := by decide +kernel
theorem dX2_hasGoodSampleAtBeamline_20 : decode cX2_hasGoodSampleAtBeamline 20 = .ok (.iconst 0, 1) := by decide +kernel
theorem dX2_hasGoodSampleAtBeamline_21 : decode cX2_hasGoodSampleAtBeamline 21 = .ok (.ireturn, 1) := by decide +kernel
theorem dX2_ageSample_0 : decode cX2_ageSample 0 = .ok (.aload_n 0, 1) := by decide +kernel
theorem dX2_ageSample_1 : decode cX2_ageSample 1 = .ok (.getfield 15, 3) := by decide +kernel
theorem dX2_ageSample_4 : decode cX2_ageSample 4 = .ok (.ifCond .le 22, 3) := by decide +kernel
theorem dX2_ageSample_7 : decode cX2_ageSample 7 = .ok (.aload_n 0, 1) := by decide +kernel
theorem dX2_ageSample_8 : decode cX2_ageSample 8 = .ok (.getfield 18, 3) := by decide +kernel
theorem dX2_ageSample_11 : decode cX2_ageSample 11 = .ok (.bipush 99, 2) := by decide +kernel
theorem dX2_ageSample_13 : decode cX2_ageSample 13 = .ok (.if_icmp .eq 13, 3) := by decide +kernel
theorem dX2_ageSample_16 : decode cX2_ageSample 16 = .ok (.aload_n 0, 1) := by decide +kernel
theorem dX2_ageSample_17 : decode cX2_ageSample 17 = .ok (.dup, 1) := by decide +kernel
theorem dX2_ageSample_18 : decode cX2_ageSample 18 = .ok (.getfield 15, 3) := by decide +kernel
theorem dX2_ageSample_21 : decode cX2_ageSample 21 = .ok (.iconst 1, 1) := by decide +kernel
theorem dX2_ageSample_22 : decode cX2_ageSample 22 = .ok (.isub, 1) := by decide +kernel
theorem dX2_ageSample_23 : decode cX2_ageSample 23 = .ok (.putfield 15, 3) := by decide +kernel
theorem dX2_ageSample_26 : decode cX2_ageSample 26 = .ok (.return_, 1) := by decide +kernel
theorem dX2_countShift_0 : decode cX2_countShift 0 = .ok (.iload_n 1, 1) := by decide +kernel
theorem dX2_countShift_1 : decode cX2_countShift 1 = .ok (.bipush 100, 2) := by decide +kernel
theorem dX2_countShift_3 : decode cX2_countShift 3 = .ok (.if_icmp .ne 16, 3) := by decide +kernel
theorem dX2_countShift_6 : decode cX2_countShift 6 = .ok (.aload_n 0, 1) := by decide +kernel
theorem dX2_countShift_7 : decode cX2_countShift 7 = .ok (.dup, 1) := by decide +kernel
theorem dX2_countShift_8 : decode cX2_countShift 8 = .ok (.getfield 22, 3) := by decide +kernel
theorem dX2_countShift_11 : decode cX2_countShift 11 = .ok (.iconst 1, 1) := by decide +kernel
theorem dX2_countShift_12 : decode cX2_countShift 12 = .ok (.iadd, 1) := by decide +kernel
theorem dX2_countShift_13 : decode cX2_countShift 13 = .ok (.putfield 22, 3) := by decide +kernel
theorem dX2_countShift_16 : decode cX2_countShift 16 = .ok (.goto 38, 3) := by decide +kernel
theorem dX2_countShift_19 : decode cX2_countShift 19 = .ok (.iload_n 1, 1) := by decide +kernel
theorem dX2_countShift_20 : decode cX2_countShift 20 = .ok (.bipush 109, 2) := by decide +kernel
theorem dX2_countShift_22 : decode cX2_countShift 22 = .ok (.if_icmp .ne 16, 3) := by decide +kernel
theorem dX2_countShift_25 : decode cX2_countShift 25 = .ok (.aload_n 0, 1) := by decide +kernel
theorem dX2_countShift_26 : decode cX2_countShift 26 = .ok (.dup, 1) := by decide +kernel
theorem dX2_countShift_27 : decode cX2_countShift 27 = .ok (.getfield 25, 3) := by decide +kernel
theorem dX2_countShift_30 : decode cX2_countShift 30 = .ok (.iconst 1, 1) := by decide +kernel
theorem dX2_countShift_31 : decode cX2_countShift 31 = .ok (.iadd, 1) := by decide +kernel
theorem dX2_countShift_32 : decode cX2_countShift 32 = .ok (.putfield 25, 3) := by decide +kernel
theorem dX2_countShift_35 : decode cX2_countShift 35 = .ok (.goto 19, 3) := by decide +kernel
theorem dX2_countShift_38 : decode cX2_countShift 38 = .ok (.iload_n 1, 1) := by decide +kernel
theorem dX2_countShift_39 : decode cX2_countShift 39 = .ok (.bipush 108, 2) := by decide +kernel
theorem dX2_countShift_41 : decode cX2_countShift 41 = .ok (.if_icmp .ne 13, 3) := by decide +kernel
theorem dX2_countShift_44 : decode cX2_countShift 44 = .ok (.aload_n 0, 1) := by decide +kernel
theorem dX2_countShift_45 : decode cX2_countShift 45 = .ok (.dup, 1) := by decide +kernel
theorem dX2_countShift_46 : decode cX2_countShift 46 = .ok (.getfield 28, 3) := by decide +kernel
theorem dX2_countShift_49 : decode cX2_countShift 49 = .ok (.iconst 1, 1) := by decide +kernel
theorem dX2_countShift_50 : decode cX2_countShift 50 = .ok (.iadd, 1) := by decide +kernel
theorem dX2_countShift_51 : decode cX2_countShift 51 = .ok (.putfield 28, 3) := by decide +kernel
theorem dX2_countShift_54 : decode cX2_countShift 54 = .ok (.return_, 1) := by decide +kernel
theorem dX3_init_0 : decode cX3_init 0 = .ok (.aload_n 0, 1) := by decide +kernel
theorem dX3_init_1 : decode cX3_init 1 = .ok (.invokespecial 1, 3) := by decide +kernel
theorem dX3_init_4 : decode cX3_init 4 = .ok (.aload_n 0, 1) := by decide +kernel
theorem dX3_init_5 : decode cX3_init 5 = .ok (.new 7, 3) := by decide +kernel
theorem dX3_init_8 : decode cX3_init 8 = .ok (.dup, 1) := by decide +kernel
theorem dX3_init_9 : decode cX3_init 9 = .ok (.invokespecial 9, 3) := by decide +kernel
theorem dX3_init_12 : decode cX3_init 12 = .ok (.putfield 10, 3) := by decide +kernel
theorem dX3_init_15 : decode cX3_init 15 = .ok (.aload_n 0, 1) := by decide +kernel
theorem dX3_init_16 : decode cX3_init 16 = .ok (.new 7, 3) := by decide +kernel
theorem dX3_init_19 : decode cX3_init 19 = .ok (.dup, 1) := by decide +kernel
theorem dX3_init_20 : decode cX3_init 20 = .ok (.invokespecial 9, 3) := by decide +kernel
theorem dX3_init_23 : decode cX3_init 23 = .ok (.putfield 16, 3) := by decide +kernel
theorem dX3_init_26 : decode cX3_init 26 = .ok (.aload_n 0, 1) := by decide +kernel
theorem dX3_init_27 : decode cX3_init 27 = .ok (.bipush 10, 2) := by decide +kernel
theorem dX3_init_29 : decode cX3_init 29 = .ok (.newarray .boolean, 2) := by decide +kernel
theorem dX3_init_31 : decode cX3_init 31 = .ok (.putfield 19, 3) := by decide +kernel
theorem dX3_init_34 : decode cX3_init 34 = .ok (.aload_n 0, 1) := by decide +kernel
theorem dX3_init_35 : decode cX3_init 35 = .ok (.bipush 10, 2) := by decide +kernel
theorem dX3_init_37 : decode cX3_init 37 = .ok (.newarray .boolean, 2) := by decide +kernel
theorem dX3_init_39 : decode cX3_init 39 = .ok (.putfield 23, 3) := by decide +kernel
theorem dX3_init_42 : decode cX3_init 42 = .ok (.aload_n 0, 1) := by decide +kernel
theorem dX3_init_43 : decode cX3_init 43 = .ok (.iconst 0, 1) := by decide +kernel
theorem dX3_init_44 : decode cX3_init 44 = .ok (.putfield 26, 3) := by decide +kernel
theorem dX3_init_47 : decode cX3_init 47 = .ok (.return_, 1) := by decide +kernel
theorem dX3_addBeamline_0 : decode cX3_addBeamline 0 = .ok (.iload_n 1, 1) := by decide +kernel
theorem dX3_addBeamline_1 : decode cX3_addBeamline 1 = .ok (.iconst 3, 1) := by decide +kernel
theorem dX3_addBeamline_2 : decode cX3_addBeamline 2 = .ok (.bipush 40, 2) := by decide +kernel
theorem dX3_addBeamline_4 : decode cX3_addBeamline 4 = .ok (.invokestatic 30, 3) := by decide +kernel
theorem dX3_addBeamline_7 : decode cX3_addBeamline 7 = .ok (.ifCond .ne 13, 3) := by decide +kernel
theorem dX3_addBeamline_10 : decode cX3_addBeamline 10 = .ok (.new 34, 3) := by decide +kernel
theorem dX3_addBeamline_13 : decode cX3_addBeamline 13 = .ok (.dup, 1) := by decide +kernel
theorem dX3_addBeamline_14 : decode cX3_addBeamline 14 = .ok (.ldc 36, 2) := by decide +kernel
theorem dX3_addBeamline_16 : decode cX3_addBeamline 16 = .ok (.invokespecial 38, 3) := by decide +kernel
theorem dX3_addBeamline_19 : decode cX3_addBeamline 19 = .ok (.athrow, 1) := by decide +kernel
theorem dX3_addBeamline_20 : decode cX3_addBeamline 20 = .ok (.iload_n 2, 1) := by decide +kernel
theorem dX3_addBeamline_21 : decode cX3_addBeamline 21 = .ok (.bipush 10, 2) := by decide +kernel
theorem dX3_addBeamline_23 : decode cX3_addBeamline 23 = .ok (.sipush 999, 3) := by decide +kernel
theorem dX3_addBeamline_26 : decode cX3_addBeamline 26 = .ok (.invokestatic 30, 3) := by decide +kernel
theorem dX3_addBeamline_29 : decode cX3_addBeamline 29 = .ok (.ifCond .ne 13, 3) := by decide +kernel
theorem dX3_addBeamline_32 : decode cX3_addBeamline 32 = .ok (.new 34, 3) := by decide +kernel
theorem dX3_addBeamline_35 : decode cX3_addBeamline 35 = .ok (.dup, 1) := by decide +kernel
theorem dX3_addBeamline_36 : decode cX3_addBeamline 36 = .ok (.ldc 41, 2) := by decide +kernel
theorem dX3_addBeamline_38 : decode cX3_addBeamline 38 = .ok (.invokespecial 38, 3) := by decide +kernel
theorem dX3_addBeamline_41 : decode cX3_addBeamline 41 = .ok (.athrow, 1) := by decide +kernel
theorem dX3_addBeamline_42 : decode cX3_addBeamline 42 = .ok (.aload_n 0, 1) := by decide +kernel
theorem dX3_addBeamline_43 : decode cX3_addBeamline 43 = .ok (.getfield 10, 3) := by decide +kernel
theorem dX3_addBeamline_46 : decode cX3_addBeamline 46 = .ok (.invokevirtual 43, 3) := by decide +kernel
theorem dX3_addBeamline_49 : decode cX3_addBeamline 49 = .ok (.iconst 2, 1) := by decide +kernel
theorem dX3_addBeamline_50 : decode cX3_addBeamline 50 = .ok (.if_icmp .lt 13, 3) := by decide +kernel
theorem dX3_addBeamline_53 : decode cX3_addBeamline 53 = .ok (.new 47, 3) := by decide +kernel
theorem dX3_addBeamline_56 : decode cX3_addBeamline 56 = .ok (.dup, 1) := by decide +kernel
theorem dX3_addBeamline_57 : decode cX3_addBeamline 57 = .ok (.ldc 49, 2) := by decide +kernel
theorem dX3_addBeamline_59 : decode cX3_addBeamline 59 = .ok (.invokespecial 51, 3) := by decide +kernel
theorem dX3_addBeamline_62 : decode cX3_addBeamline 62 = .ok (.athrow, 1) := by decide +kernel
theorem dX3_addBeamline_63 : decode cX3_addBeamline 63 = .ok (.aload_n 0, 1) := by decide +kernel
theorem dX3_addBeamline_64 : decode cX3_addBeamline 64 = .ok (.getfield 10, 3) := by decide +kernel
theorem dX3_addBeamline_67 : decode cX3_addBeamline 67 = .ok (.new 52, 3) := by decide +kernel
theorem dX3_addBeamline_70 : decode cX3_addBeamline 70 = .ok (.dup, 1) := by decide +kernel
theorem dX3_addBeamline_71 : decode cX3_addBeamline 71 = .ok (.iload_n 1, 1) := by decide +kernel
theorem dX3_addBeamline_72 : decode cX3_addBeamline 72 = .ok (.iload_n 2, 1) := by decide +kernel
theorem dX3_addBeamline_73 : decode cX3_addBeamline 73 = .ok (.invokespecial 54, 3) := by decide +kernel
theorem dX3_addBeamline_76 : decode cX3_addBeamline 76 = .ok (.invokevirtual 57, 3) := by decide +kernel
theorem dX3_addBeamline_79 : decode cX3_addBeamline 79 = .ok (.pop, 1) := by decide +kernel
theorem dX3_addBeamline_80 : decode cX3_addBeamline 80 = .ok (.aload_n 0, 1) := by decide +kernel
theorem dX3_addBeamline_81 : decode cX3_addBeamline 81 = .ok (.getfield 10, 3) := by decide +kernel
theorem dX3_addBeamline_84 : decode cX3_addBeamline 84 = .ok (.invokevirtual 43, 3) := by decide +kernel
theorem dX3_addBeamline_87 : decode cX3_addBeamline 87 = .ok (.iconst 1, 1) := by decide +kernel
theorem dX3_addBeamline_88 : decode cX3_addBeamline 88 = .ok (.isub, 1) := by decide +kernel
theorem dX3_addBeamline_89 : decode cX3_addBeamline 89 = .ok (.ireturn, 1) := by decide +kernel
theorem dX3_setRate_0 : decode cX3_setRate 0 = .ok (.aload_n 0, 1) := by decide +kernel
theorem dX3_setRate_1 : decode cX3_setRate 1 = .ok (.iload_n 1, 1) := by decide +kernel
theorem dX3_setRate_2 : decode cX3_setRate 2 = .ok (.invokevirtual 61, 3) := by decide +kernel
theorem dX3_setRate_5 : decode cX3_setRate 5 = .ok (.astore_n 3, 1) := by decide +kernel
theorem dX3_setRate_6 : decode cX3_setRate 6 = .ok (.iload_n 2, 1) := by decide +kernel
theorem dX3_setRate_7 : decode cX3_setRate 7 = .ok (.iconst 0, 1) := by decide +kernel
theorem dX3_setRate_8 : decode cX3_setRate 8 = .ok (.bipush 99, 2) := by decide +kernel
theorem dX3_setRate_10 : decode cX3_setRate 10 = .ok (.invokestatic 30, 3) := by decide +kernel
theorem dX3_setRate_13 : decode cX3_setRate 13 = .ok (.ifCond .ne 13, 3) := by decide +kernel
theorem dX3_setRate_16 : decode cX3_setRate 16 = .ok (.new 34, 3) := by decide +kernel
theorem dX3_setRate_19 : decode cX3_setRate 19 = .ok (.dup, 1) := by decide +kernel
theorem dX3_setRate_20 : decode cX3_setRate 20 = .ok (.ldc 65, 2) := by decide +kernel
theorem dX3_setRate_22 : decode cX3_setRate 22 = .ok (.invokespecial 38, 3) := by decide +kernel
theorem dX3_setRate_25 : decode cX3_setRate 25 = .ok (.athrow, 1) := by decide +kernel
theorem dX3_setRate_26 : decode cX3_setRate 26 = .ok (.aload_n 3, 1) := by decide +kernel
theorem dX3_setRate_27 : decode cX3_setRate 27 = .ok (.getfield 67, 3) := by decide +kernel
theorem dX3_setRate_30 : decode cX3_setRate 30 = .ok (.istore 4, 2) := by decide +kernel
theorem dX3_setRate_32 : decode cX3_setRate 32 = .ok (.aload_n 3, 1) := by decide +kernel
theorem dX3_setRate_33 : decode cX3_setRate 33 = .ok (.iload_n 2, 1) := by decide +kernel
theorem dX3_setRate_34 : decode cX3_setRate 34 = .ok (.putfield 67, 3) := by decide +kernel
theorem dX3_setRate_37 : decode cX3_setRate 37 = .ok (.iload 4, 2) := by decide +kernel
theorem dX3_setRate_39 : decode cX3_setRate 39 = .ok (.ireturn, 1) := by decide +kernel
theorem dX3_propose_0 : decode cX3_propose 0 = .ok (.aload_n 0, 1) := by decide +kernel
theorem dX3_propose_1 : decode cX3_propose 1 = .ok (.iload_n 1, 1) := by decide +kernel
theorem dX3_propose_2 : decode cX3_propose 2 = .ok (.invokevirtual 61, 3) := by decide +kernel
theorem dX3_propose_5 : decode cX3_propose 5 = .ok (.astore 6, 2) := by decide +kernel
theorem dX3_propose_7 : decode cX3_propose 7 = .ok (.iload_n 2, 1) := by decide +kernel
theorem dX3_propose_8 : decode cX3_propose 8 = .ok (.iconst 0, 1) := by decide +kernel
theorem dX3_propose_9 : decode cX3_propose 9 = .ok (.bipush 9, 2) := by decide +kernel
theorem dX3_propose_11 : decode cX3_propose 11 = .ok (.invokestatic 30, 3) := by decide +kernel
theorem dX3_propose_14 : decode cX3_propose 14 = .ok (.ifCond .ne 13, 3) := by decide +kernel
theorem dX3_propose_17 : decode cX3_propose 17 = .ok (.new 34, 3) := by decide +kernel
theorem dX3_propose_20 : decode cX3_propose 20 = .ok (.dup, 1) := by decide +kernel
theorem dX3_propose_21 : decode cX3_propose 21 = .ok (.ldc 70, 2) := by decide +kernel
theorem dX3_propose_23 : decode cX3_propose 23 = .ok (.invokespecial 38, 3) := by decide +kernel
theorem dX3_propose_26 : decode cX3_propose 26 = .ok (.athrow, 1) := by decide +kernel
theorem dX3_propose_27 : decode cX3_propose 27 = .ok (.iload_n 3, 1) := by decide +kernel
theorem dX3_propose_28 : decode cX3_propose 28 = .ok (.iconst 0, 1) := by decide +kernel
theorem dX3_propose_29 : decode cX3_propose 29 = .ok (.bipush 100, 2) := by decide +kernel
theorem dX3_propose_31 : decode cX3_propose 31 = .ok (.invokestatic 30, 3) := by decide +kernel
theorem dX3_propose_34 : decode cX3_propose 34 = .ok (.ifCond .ne 13, 3) := by decide +kernel
theorem dX3_propose_37 : decode cX3_propose 37 = .ok (.new 34, 3) := by decide +kernel
theorem dX3_propose_40 : decode cX3_propose 40 = .ok (.dup, 1) := by decide +kernel
theorem dX3_propose_41 : decode cX3_propose 41 = .ok (.ldc 72, 2) := by decide +kernel
theorem dX3_propose_43 : decode cX3_propose 43 = .ok (.invokespecial 38, 3) := by decide +kernel
theorem dX3_propose_46 : decode cX3_propose 46 = .ok (.athrow, 1) := by decide +kernel
theorem dX3_propose_47 : decode cX3_propose 47 = .ok (.iload 4, 2) := by decide +kernel
theorem dX3_propose_49 : decode cX3_propose 49 = .ok (.iconst 1, 1) := by decide +kernel
theorem dX3_propose_50 : decode cX3_propose 50 = .ok (.bipush 9, 2) := by decide +kernel
theorem dX3_propose_52 : decode cX3_propose 52 = .ok (.invokestatic 30, 3) := by decide +kernel
theorem dX3_propose_55 : decode cX3_propose 55 = .ok (.ifCond .ne 13, 3) := by decide +kernel
theorem dX3_propose_58 : decode cX3_propose 58 = .ok (.new 34, 3) := by decide +kernel
theorem dX3_propose_61 : decode cX3_propose 61 = .ok (.dup, 1) := by decide +kernel
theorem dX3_propose_62 : decode cX3_propose 62 = .ok (.ldc 74, 2) := by decide +kernel
theorem dX3_propose_64 : decode cX3_propose 64 = .ok (.invokespecial 38, 3) := by decide +kernel
theorem dX3_propose_67 : decode cX3_propose 67 = .ok (.athrow, 1) := by decide +kernel
theorem dX3_propose_68 : decode cX3_propose 68 = .ok (.iload 5, 2) := by decide +kernel
theorem dX3_propose_70 : decode cX3_propose 70 = .ok (.iconst 0, 1) := by decide +kernel
theorem dX3_propose_71 : decode cX3_propose 71 = .ok (.bipush 99, 2) := by decide +kernel
theorem dX3_propose_73 : decode cX3_propose 73 = .ok (.invokestatic 30, 3) := by decide +kernel
theorem dX3_propose_76 : decode cX3_propose 76 = .ok (.ifCond .ne 13, 3) := by decide +kernel
theorem dX3_propose_79 : decode cX3_propose 79 = .ok (.new 34, 3) := by decide +kernel
theorem dX3_propose_82 : decode cX3_propose 82 = .ok (.dup, 1) := by decide +kernel
theorem dX3_propose_83 : decode cX3_propose 83 = .ok (.ldc 76, 2) := by decide +kernel
theorem dX3_propose_85 : decode cX3_propose 85 = .ok (.invokespecial 38, 3) := by decide +kernel
theorem dX3_propose_88 : decode cX3_propose 88 = .ok (.athrow, 1) := by decide +kernel
theorem dX3_propose_89 : decode cX3_propose 89 = .ok (.aload 6, 2) := by decide +kernel
theorem dX3_propose_91 : decode cX3_propose 91 = .ok (.getfield 78, 3) := by decide +kernel
theorem dX3_propose_94 : decode cX3_propose 94 = .ok (.ifCond .eq 13, 3) := by decide +kernel
theorem dX3_propose_97 : decode cX3_propose 97 = .ok (.new 47, 3) := by decide +kernel
theorem dX3_propose_100 : decode cX3_propose 100 = .ok (.dup, 1) := by decide +kernel
theorem dX3_propose_101 : decode cX3_propose 101 = .ok (.ldc 82, 2) := by decide +kernel
theorem dX3_propose_103 : decode cX3_propose 103 = .ok (.invokespecial 51, 3) := by decide +kernel
theorem dX3_propose_106 : decode cX3_propose 106 = .ok (.athrow, 1) := by decide +kernel
theorem dX3_propose_107 : decode cX3_propose 107 = .ok (.aload_n 0, 1) := by decide +kernel
theorem dX3_propose_108 : decode cX3_propose 108 = .ok (.getfield 16, 3) := by decide +kernel
theorem dX3_propose_111 : decode cX3_propose 111 = .ok (.invokevirtual 43, 3) := by decide +kernel
theorem dX3_propose_114 : decode cX3_propose 114 = .ok (.bipush 8, 2) := by decide +kernel
theorem dX3_propose_116 : decode cX3_propose 116 = .ok (.if_icmp .lt 13, 3) := by decide +kernel
theorem dX3_propose_119 : decode cX3_propose 119 = .ok (.new 47, 3) := by decide +kernel
theorem dX3_propose_122 : decode cX3_propose 122 = .ok (.dup, 1) := by decide +kernel
theorem dX3_propose_123 : decode cX3_propose 123 = .ok (.ldc 84, 2) := by decide +kernel
theorem dX3_propose_125 : decode cX3_propose 125 = .ok (.invokespecial 51, 3) := by decide +kernel
theorem dX3_propose_128 : decode cX3_propose 128 = .ok (.athrow, 1) := by decide +kernel
theorem dX3_propose_129 : decode cX3_propose 129 = .ok (.aload_n 0, 1) := by decide +kernel
theorem dX3_propose_130 : decode cX3_propose 130 = .ok (.getfield 16, 3) := by decide +kernel
theorem dX3_propose_133 : decode cX3_propose 133 = .ok (.invokevirtual 43, 3) := by decide +kernel
theorem dX3_propose_136 : decode cX3_propose 136 = .ok (.istore 7, 2) := by decide +kernel
theorem dX3_propose_138 : decode cX3_propose 138 = .ok (.aload_n 0, 1) := by decide +kernel
theorem dX3_propose_139 : decode cX3_propose 139 = .ok (.getfield 16, 3) := by decide +kernel
theorem dX3_propose_142 : decode cX3_propose 142 = .ok (.new 86, 3) := by decide +kernel
theorem dX3_propose_145 : decode cX3_propose 145 = .ok (.dup, 1) := by decide +kernel
theorem dX3_propose_146 : decode cX3_propose 146 = .ok (.iload 7, 2) := by decide +kernel
theorem dX3_propose_148 : decode cX3_propose 148 = .ok (.aload 6, 2) := by decide +kernel
theorem dX3_propose_150 : decode cX3_propose 150 = .ok (.iload_n 2, 1) := by decide +kernel
theorem dX3_propose_151 : decode cX3_propose 151 = .ok (.iload_n 3, 1) := by decide +kernel
theorem dX3_propose_152 : decode cX3_propose 152 = .ok (.iload 4, 2) := by decide +kernel
theorem dX3_propose_154 : decode cX3_propose 154 = .ok (.iload 5, 2) := by decide +kernel
theorem dX3_propose_156 : decode cX3_propose 156 = .ok (.invokespecial 88, 3) := by decide +kernel
theorem dX3_propose_159 : decode cX3_propose 159 = .ok (.invokevirtual 57, 3) := by decide +kernel
theorem dX3_propose_162 : decode cX3_propose 162 = .ok (.pop, 1) := by decide +kernel
theorem dX3_propose_163 : decode cX3_propose 163 = .ok (.iload 7, 2) := by decide +kernel
theorem dX3_propose_165 : decode cX3_propose 165 = .ok (.ireturn, 1) := by decide +kernel
theorem dX3_meet_0 : decode cX3_meet 0 = .ok (.aload_n 0, 1) := by decide +kernel
theorem dX3_meet_1 : decode cX3_meet 1 = .ok (.iload_n 1, 1) := by decide +kernel
theorem dX3_meet_2 : decode cX3_meet 2 = .ok (.invokevirtual 61, 3) := by decide +kernel
theorem dX3_meet_5 : decode cX3_meet 5 = .ok (.astore_n 2, 1) := by decide +kernel
theorem dX3_meet_6 : decode cX3_meet 6 = .ok (.aload_n 2, 1) := by decide +kernel
theorem dX3_meet_7 : decode cX3_meet 7 = .ok (.getfield 78, 3) := by decide +kernel
theorem dX3_meet_10 : decode cX3_meet 10 = .ok (.ifCond .eq 13, 3) := by decide +kernel
theorem dX3_meet_13 : decode cX3_meet 13 = .ok (.new 47, 3) := by decide +kernel
theorem dX3_meet_16 : decode cX3_meet 16 = .ok (.dup, 1) := by decide +kernel
theorem dX3_meet_17 : decode cX3_meet 17 = .ok (.ldc 82, 2) := by decide +kernel
theorem dX3_meet_19 : decode cX3_meet 19 = .ok (.invokespecial 51, 3) := by decide +kernel
theorem dX3_meet_22 : decode cX3_meet 22 = .ok (.athrow, 1) := by decide +kernel
theorem dX3_meet_23 : decode cX3_meet 23 = .ok (.aload_n 2, 1) := by decide +kernel
theorem dX3_meet_24 : decode cX3_meet 24 = .ok (.iconst 1, 1) := by decide +kernel
theorem dX3_meet_25 : decode cX3_meet 25 = .ok (.putfield 78, 3) := by decide +kernel
theorem dX3_meet_28 : decode cX3_meet 28 = .ok (.bipush 100, 2) := by decide +kernel
theorem dX3_meet_30 : decode cX3_meet 30 = .ok (.istore_n 3, 1) := by decide +kernel
theorem dX3_meet_31 : decode cX3_meet 31 = .ok (.iload_n 3, 1) := by decide +kernel
theorem dX3_meet_32 : decode cX3_meet 32 = .ok (.ifCond .lt 15, 3) := by decide +kernel
theorem dX3_meet_35 : decode cX3_meet 35 = .ok (.aload_n 0, 1) := by decide +kernel
theorem dX3_meet_36 : decode cX3_meet 36 = .ok (.aload_n 2, 1) := by decide +kernel
theorem dX3_meet_37 : decode cX3_meet 37 = .ok (.iload_n 3, 1) := by decide +kernel
theorem dX3_meet_38 : decode cX3_meet 38 = .ok (.invokevirtual 91, 3) := by decide +kernel
theorem dX3_meet_41 : decode cX3_meet 41 = .ok (.iinc 3 (-1), 3) := by decide +kernel
theorem dX3_meet_44 : decode cX3_meet 44 = .ok (.goto (-13), 3) := by decide +kernel
theorem dX3_meet_47 : decode cX3_meet 47 = .ok (.aload_n 2, 1) := by decide +kernel
theorem dX3_meet_48 : decode cX3_meet 48 = .ok (.getfield 95, 3) := by decide +kernel
theorem dX3_meet_51 : decode cX3_meet 51 = .ok (.invokevirtual 43, 3) := by decide +kernel
theorem dX3_meet_54 : decode cX3_meet 54 = .ok (.ireturn, 1) := by decide +kernel
theorem dX3_reserve_0 : decode cX3_reserve 0 = .ok (.aload_n 0, 1) := by decide +kernel
theorem dX3_reserve_1 : decode cX3_reserve 1 = .ok (.iload_n 1, 1) := by decide +kernel
theorem dX3_reserve_2 : decode cX3_reserve 2 = .ok (.invokevirtual 61, 3) := by decide +kernel
theorem dX3_reserve_5 : decode cX3_reserve 5 = .ok (.astore_n 2, 1) := by decide +kernel
theorem dX3_reserve_6 : decode cX3_reserve 6 = .ok (.aload_n 2, 1) := by decide +kernel
theorem dX3_reserve_7 : decode cX3_reserve 7 = .ok (.getfield 78, 3) := by decide +kernel
theorem dX3_reserve_10 : decode cX3_reserve 10 = .ok (.ifCond .ne 13, 3) := by decide +kernel
theorem dX3_reserve_13 : decode cX3_reserve 13 = .ok (.new 47, 3) := by decide +kernel
theorem dX3_reserve_16 : decode cX3_reserve 16 = .ok (.dup, 1) := by decide +kernel
theorem dX3_reserve_17 : decode cX3_reserve 17 = .ok (.ldc 98, 2) := by decide +kernel
theorem dX3_reserve_19 : decode cX3_reserve 19 = .ok (.invokespecial 51, 3) := by decide +kernel
theorem dX3_reserve_22 : decode cX3_reserve 22 = .ok (.athrow, 1) := by decide +kernel
theorem dX3_reserve_23 : decode cX3_reserve 23 = .ok (.aload_n 2, 1) := by decide +kernel
theorem dX3_reserve_24 : decode cX3_reserve 24 = .ok (.getfield 100, 3) := by decide +kernel
theorem dX3_reserve_27 : decode cX3_reserve 27 = .ok (.getfield 104, 3) := by decide +kernel
theorem dX3_reserve_30 : decode cX3_reserve 30 = .ok (.ireturn, 1) := by decide +kernel
theorem dX3_train_0 : decode cX3_train 0 = .ok (.iload_n 1, 1) := by decide +kernel
theorem dX3_train_1 : decode cX3_train 1 = .ok (.ifCond .lt 12, 3) := by decide +kernel
theorem dX3_train_4 : decode cX3_train 4 = .ok (.iload_n 1, 1) := by decide +kernel
theorem dX3_train_5 : decode cX3_train 5 = .ok (.aload_n 0, 1) := by decide +kernel
theorem dX3_train_6 : decode cX3_train 6 = .ok (.getfield 19, 3) := by decide +kernel
theorem dX3_train_9 : decode cX3_train 9 = .ok (.arraylength, 1) := by decide +kernel
theorem dX3_train_10 : decode cX3_train 10 = .ok (.if_icmp .lt 13, 3) := by decide +kernel
theorem dX3_train_13 : decode cX3_train 13 = .ok (.new 109, 3) := by decide +kernel
theorem dX3_train_16 : decode cX3_train 16 = .ok (.dup, 1) := by decide +kernel
theorem dX3_train_17 : decode cX3_train 17 = .ok (.ldc 111, 2) := by decide +kernel
theorem dX3_train_19 : decode cX3_train 19 = .ok (.invokespecial 113, 3) := by decide +kernel
theorem dX3_train_22 : decode cX3_train 22 = .ok (.athrow, 1) := by decide +kernel
theorem dX3_train_23 : decode cX3_train 23 = .ok (.aload_n 0, 1) := by decide +kernel
theorem dX3_train_24 : decode cX3_train 24 = .ok (.getfield 19, 3) := by decide +kernel
theorem dX3_train_27 : decode cX3_train 27 = .ok (.iload_n 1, 1) := by decide +kernel
theorem dX3_train_28 : decode cX3_train 28 = .ok (.baload, 1) := by decide +kernel
theorem dX3_train_29 : decode cX3_train 29 = .ok (.ifCond .eq 13, 3) := by decide +kernel
theorem dX3_train_32 : decode cX3_train 32 = .ok (.new 47, 3) := by decide +kernel
theorem dX3_train_35 : decode cX3_train 35 = .ok (.dup, 1) := by decide +kernel
theorem dX3_train_36 : decode cX3_train 36 = .ok (.ldc 114, 2) := by decide +kernel
theorem dX3_train_38 : decode cX3_train 38 = .ok (.invokespecial 51, 3) := by decide +kernel
theorem dX3_train_41 : decode cX3_train 41 = .ok (.athrow, 1) := by decide +kernel
theorem dX3_train_42 : decode cX3_train 42 = .ok (.aload_n 0, 1) := by decide +kernel
theorem dX3_train_43 : decode cX3_train 43 = .ok (.getfield 19, 3) := by decide +kernel
theorem dX3_train_46 : decode cX3_train 46 = .ok (.iload_n 1, 1) := by decide +kernel
theorem dX3_train_47 : decode cX3_train 47 = .ok (.iconst 1, 1) := by decide +kernel
theorem dX3_train_48 : decode cX3_train 48 = .ok (.bastore, 1) := by decide +kernel
theorem dX3_train_49 : decode cX3_train 49 = .ok (.iconst 0, 1) := by decide +kernel
theorem dX3_train_50 : decode cX3_train 50 = .ok (.istore_n 2, 1) := by decide +kernel
theorem dX3_train_51 : decode cX3_train 51 = .ok (.aload_n 0, 1) := by decide +kernel
theorem dX3_train_52 : decode cX3_train 52 = .ok (.getfield 19, 3) := by decide +kernel
theorem dX3_train_55 : decode cX3_train 55 = .ok (.astore_n 3, 1) := by decide +kernel
theorem dX3_train_56 : decode cX3_train 56 = .ok (.aload_n 3, 1) := by decide +kernel
theorem dX3_train_57 : decode cX3_train 57 = .ok (.arraylength, 1) := by decide +kernel
theorem dX3_train_58 : decode cX3_train 58 = .ok (.istore 4, 2) := by decide +kernel
theorem dX3_train_60 : decode cX3_train 60 = .ok (.iconst 0, 1) := by decide +kernel
theorem dX3_train_61 : decode cX3_train 61 = .ok (.istore 5, 2) := by decide +kernel
theorem dX3_train_63 : decode cX3_train 63 = .ok (.iload 5, 2) := by decide +kernel
theorem dX3_train_65 : decode cX3_train 65 = .ok (.iload 4, 2) := by decide +kernel
theorem dX3_train_67 : decode cX3_train 67 = .ok (.if_icmp .ge 23, 3) := by decide +kernel
theorem dX3_train_70 : decode cX3_train 70 = .ok (.aload_n 3, 1) := by decide +kernel
theorem dX3_train_71 : decode cX3_train 71 = .ok (.iload 5, 2) := by decide +kernel
theorem dX3_train_73 : decode cX3_train 73 = .ok (.baload, 1) := by decide +kernel
theorem dX3_train_74 : decode cX3_train 74 = .ok (.istore 6, 2) := by decide +kernel
theorem dX3_train_76 : decode cX3_train 76 = .ok (.iload 6, 2) := by decide +kernel
theorem dX3_train_78 : decode cX3_train 78 = .ok (.ifCond .eq 6, 3) := by decide +kernel
theorem dX3_train_81 : decode cX3_train 81 = .ok (.iinc 2 1, 3) := by decide +kernel
theorem dX3_train_84 : decode cX3_train 84 = .ok (.iinc 5 1, 3) := by decide +kernel
theorem dX3_train_87 : decode cX3_train 87 = .ok (.goto (-24), 3) := by decide +kernel
theorem dX3_train_90 : decode cX3_train 90 = .ok (.iload_n 2, 1) := by decide +kernel
theorem dX3_train_91 : decode cX3_train 91 = .ok (.ireturn, 1) := by decide +kernel
theorem dX3_setThere_0 : decode cX3_setThere 0 = .ok (.iload_n 1, 1) := by decide +kernel
theorem dX3_setThere_1 : decode cX3_setThere 1 = .ok (.ifCond .lt 12, 3) := by decide +kernel
theorem dX3_setThere_4 : decode cX3_setThere 4 = .ok (.iload_n 1, 1) := by decide +kernel
theorem dX3_setThere_5 : decode cX3_setThere 5 = .ok (.aload_n 0, 1) := by decide +kernel
theorem dX3_setThere_6 : decode cX3_setThere 6 = .ok (.getfield 23, 3) := by decide +kernel
theorem dX3_setThere_9 : decode cX3_setThere 9 = .ok (.arraylength, 1) := by decide +kernel
theorem dX3_setThere_10 : decode cX3_setThere 10 = .ok (.if_icmp .lt 13, 3) := by decide +kernel
theorem dX3_setThere_13 : decode cX3_setThere 13 = .ok (.new 109, 3) := by decide +kernel
theorem dX3_setThere_16 : decode cX3_setThere 16 = .ok (.dup, 1) := by decide +kernel
theorem dX3_setThere_17 : decode cX3_setThere 17 = .ok (.ldc 111, 2) := by decide +kernel
theorem dX3_setThere_19 : decode cX3_setThere 19 = .ok (.invokespecial 113, 3) := by decide +kernel
theorem dX3_setThere_22 : decode cX3_setThere 22 = .ok (.athrow, 1) := by decide +kernel
theorem dX3_setThere_23 : decode cX3_setThere 23 = .ok (.aload_n 0, 1) := by decide +kernel
theorem dX3_setThere_24 : decode cX3_setThere 24 = .ok (.getfield 23, 3) := by decide +kernel
theorem dX3_setThere_27 : decode cX3_setThere 27 = .ok (.iload_n 1, 1) := by decide +kernel
theorem dX3_setThere_28 : decode cX3_setThere 28 = .ok (.baload, 1) := by decide +kernel
theorem dX3_setThere_29 : decode cX3_setThere 29 = .ok (.istore_n 3, 1) := by decide +kernel
theorem dX3_setThere_30 : decode cX3_setThere 30 = .ok (.aload_n 0, 1) := by decide +kernel
theorem dX3_setThere_31 : decode cX3_setThere 31 = .ok (.getfield 23, 3) := by decide +kernel
theorem dX3_setThere_34 : decode cX3_setThere 34 = .ok (.iload_n 1, 1) := by decide +kernel
theorem dX3_setThere_35 : decode cX3_setThere 35 = .ok (.iload_n 2, 1) := by decide +kernel
theorem dX3_setThere_36 : decode cX3_setThere 36 = .ok (.bastore, 1) := by decide +kernel
theorem dX3_setThere_37 : decode cX3_setThere 37 = .ok (.iload_n 3, 1) := by decide +kernel
theorem dX3_setThere_38 : decode cX3_setThere 38 = .ok (.ireturn, 1) := by decide +kernel
theorem dX3_bring_0 : decode cX3_bring 0 = .ok (.aload_n 0, 1) := by decide +kernel
theorem dX3_bring_1 : decode cX3_bring 1 = .ok (.iload_n 1, 1) := by decide +kernel
theorem dX3_bring_2 : decode cX3_bring 2 = .ok (.invokevirtual 116, 3) := by decide +kernel
theorem dX3_bring_5 : decode cX3_bring 5 = .ok (.astore_n 3, 1) := by decide +kernel
theorem dX3_bring_6 : decode cX3_bring 6 = .ok (.iload_n 2, 1) := by decide +kernel
theorem dX3_bring_7 : decode cX3_bring 7 = .ok (.iconst 1, 1) := by decide +kernel
theorem dX3_bring_8 : decode cX3_bring 8 = .ok (.bipush 50, 2) := by decide +kernel
theorem dX3_bring_10 : decode cX3_bring 10 = .ok (.invokestatic 30, 3) := by decide +kernel
theorem dX3_bring_13 : decode cX3_bring 13 = .ok (.ifCond .ne 13, 3) := by decide +kernel
theorem dX3_bring_16 : decode cX3_bring 16 = .ok (.new 34, 3) := by decide +kernel
theorem dX3_bring_19 : decode cX3_bring 19 = .ok (.dup, 1) := by decide +kernel
theorem dX3_bring_20 : decode cX3_bring 20 = .ok (.ldc 120, 2) := by decide +kernel
theorem dX3_bring_22 : decode cX3_bring 22 = .ok (.invokespecial 38, 3) := by decide +kernel
theorem dX3_bring_25 : decode cX3_bring 25 = .ok (.athrow, 1) := by decide +kernel
theorem dX3_bring_26 : decode cX3_bring 26 = .ok (.aload_n 3, 1) := by decide +kernel
theorem dX3_bring_27 : decode cX3_bring 27 = .ok (.getfield 122, 3) := by decide +kernel
theorem dX3_bring_30 : decode cX3_bring 30 = .ok (.istore 4, 2) := by decide +kernel
theorem dX3_bring_32 : decode cX3_bring 32 = .ok (.aload_n 3, 1) := by decide +kernel
theorem dX3_bring_33 : decode cX3_bring 33 = .ok (.iload_n 2, 1) := by decide +kernel
theorem dX3_bring_34 : decode cX3_bring 34 = .ok (.putfield 122, 3) := by decide +kernel
theorem dX3_bring_37 : decode cX3_bring 37 = .ok (.aload_n 3, 1) := by decide +kernel
theorem dX3_bring_38 : decode cX3_bring 38 = .ok (.bipush 114, 2) := by decide +kernel
theorem dX3_bring_40 : decode cX3_bring 40 = .ok (.putfield 125, 3) := by decide +kernel
theorem dX3_bring_43 : decode cX3_bring 43 = .ok (.iload 4, 2) := by decide +kernel
theorem dX3_bring_45 : decode cX3_bring 45 = .ok (.ireturn, 1) := by decide +kernel
theorem dX3_put_0 : decode cX3_put 0 = .ok (.aload_n 0, 1) := by decide +kernel
theorem dX3_put_1 : decode cX3_put 1 = .ok (.iload_n 1, 1) := by decide +kernel
theorem dX3_put_2 : decode cX3_put 2 = .ok (.invokevirtual 116, 3) := by decide +kernel
theorem dX3_put_5 : decode cX3_put 5 = .ok (.astore_n 3, 1) := by decide +kernel
theorem dX3_put_6 : decode cX3_put 6 = .ok (.iload_n 2, 1) := by decide +kernel
theorem dX3_put_7 : decode cX3_put 7 = .ok (.bipush 114, 2) := by decide +kernel
theorem dX3_put_9 : decode cX3_put 9 = .ok (.if_icmp .eq 25, 3) := by decide +kernel
theorem dX3_put_12 : decode cX3_put 12 = .ok (.iload_n 2, 1) := by decide +kernel
theorem dX3_put_13 : decode cX3_put 13 = .ok (.bipush 99, 2) := by decide +kernel
theorem dX3_put_15 : decode cX3_put 15 = .ok (.if_icmp .eq 19, 3) := by decide +kernel
theorem dX3_put_18 : decode cX3_put 18 = .ok (.iload_n 2, 1) := by decide +kernel
theorem dX3_put_19 : decode cX3_put 19 = .ok (.bipush 98, 2) := by decide +kernel
theorem dX3_put_21 : decode cX3_put 21 = .ok (.if_icmp .eq 13, 3) := by decide +kernel
theorem dX3_put_24 : decode cX3_put 24 = .ok (.new 34, 3) := by decide +kernel
theorem dX3_put_27 : decode cX3_put 27 = .ok (.dup, 1) := by decide +kernel
theorem dX3_put_28 : decode cX3_put 28 = .ok (.ldc 129, 2) := by decide +kernel
theorem dX3_put_30 : decode cX3_put 30 = .ok (.invokespecial 38, 3) := by decide +kernel
theorem dX3_put_33 : decode cX3_put 33 = .ok (.athrow, 1) := by decide +kernel
theorem dX3_put_34 : decode cX3_put 34 = .ok (.aload_n 3, 1) := by decide +kernel
theorem dX3_put_35 : decode cX3_put 35 = .ok (.invokevirtual 131, 3) := by decide +kernel
theorem dX3_put_38 : decode cX3_put 38 = .ok (.ifCond .ne 13, 3) := by decide +kernel
theorem dX3_put_41 : decode cX3_put 41 = .ok (.new 135, 3) := by decide +kernel
theorem dX3_put_44 : decode cX3_put 44 = .ok (.dup, 1) := by decide +kernel
theorem dX3_put_45 : decode cX3_put 45 = .ok (.ldc 137, 2) := by decide +kernel
theorem dX3_put_47 : decode cX3_put 47 = .ok (.invokespecial 139, 3) := by decide +kernel
theorem dX3_put_50 : decode cX3_put 50 = .ok (.athrow, 1) := by decide +kernel
theorem dX3_put_51 : decode cX3_put 51 = .ok (.iload_n 2, 1) := by decide +kernel
theorem dX3_put_52 : decode cX3_put 52 = .ok (.bipush 99, 2) := by decide +kernel
theorem dX3_put_54 : decode cX3_put 54 = .ok (.if_icmp .ne 28, 3) := by decide +kernel
theorem dX3_put_57 : decode cX3_put 57 = .ok (.aload_n 3, 1) := by decide +kernel
theorem dX3_put_58 : decode cX3_put 58 = .ok (.invokevirtual 140, 3) := by decide +kernel
theorem dX3_put_61 : decode cX3_put 61 = .ok (.ifCond .ne 21, 3) := by decide +kernel
theorem dX3_put_64 : decode cX3_put 64 = .ok (.aload_n 0, 1) := by decide +kernel
theorem dX3_put_65 : decode cX3_put 65 = .ok (.invokevirtual 143, 3) := by decide +kernel
theorem dX3_put_68 : decode cX3_put 68 = .ok (.iconst 3, 1) := by decide +kernel
theorem dX3_put_69 : decode cX3_put 69 = .ok (.if_icmp .lt 13, 3) := by decide +kernel
theorem dX3_put_72 : decode cX3_put 72 = .ok (.new 146, 3) := by decide +kernel
theorem dX3_put_75 : decode cX3_put 75 = .ok (.dup, 1) := by decide +kernel
theorem dX3_put_76 : decode cX3_put 76 = .ok (.ldc 148, 2) := by decide +kernel
theorem dX3_put_78 : decode cX3_put 78 = .ok (.invokespecial 150, 3) := by decide +kernel
theorem dX3_put_81 : decode cX3_put 81 = .ok (.athrow, 1) := by decide +kernel
theorem dX3_put_82 : decode cX3_put 82 = .ok (.aload_n 3, 1) := by decide +kernel
theorem dX3_put_83 : decode cX3_put 83 = .ok (.getfield 125, 3) := by decide +kernel
theorem dX3_put_86 : decode cX3_put 86 = .ok (.istore 4, 2) := by decide +kernel
theorem dX3_put_88 : decode cX3_put 88 = .ok (.aload_n 3, 1) := by decide +kernel
theorem dX3_put_89 : decode cX3_put 89 = .ok (.iload_n 2, 1) := by decide +kernel
theorem dX3_put_90 : decode cX3_put 90 = .ok (.putfield 125, 3) := by decide +kernel
theorem dX3_put_93 : decode cX3_put 93 = .ok (.iload 4, 2) := by decide +kernel
theorem dX3_put_95 : decode cX3_put 95 = .ok (.ireturn, 1) := by decide +kernel
theorem dX3_life_0 : decode cX3_life 0 = .ok (.aload_n 0, 1) := by decide +kernel
theorem dX3_life_1 : decode cX3_life 1 = .ok (.iload_n 1, 1) := by decide +kernel
theorem dX3_life_2 : decode cX3_life 2 = .ok (.invokevirtual 116, 3) := by decide +kernel
theorem dX3_life_5 : decode cX3_life 5 = .ok (.astore_n 2, 1) := by decide +kernel
theorem dX3_life_6 : decode cX3_life 6 = .ok (.aload_n 2, 1) := by decide +kernel
theorem dX3_life_7 : decode cX3_life 7 = .ok (.invokevirtual 131, 3) := by decide +kernel
theorem dX3_life_10 : decode cX3_life 10 = .ok (.ifCond .ne 13, 3) := by decide +kernel
theorem dX3_life_13 : decode cX3_life 13 = .ok (.new 135, 3) := by decide +kernel
theorem dX3_life_16 : decode cX3_life 16 = .ok (.dup, 1) := by decide +kernel
theorem dX3_life_17 : decode cX3_life 17 = .ok (.ldc 137, 2) := by decide +kernel
theorem dX3_life_19 : decode cX3_life 19 = .ok (.invokespecial 139, 3) := by decide +kernel
theorem dX3_life_22 : decode cX3_life 22 = .ok (.athrow, 1) := by decide +kernel
theorem dX3_life_23 : decode cX3_life 23 = .ok (.aload_n 2, 1) := by decide +kernel
theorem dX3_life_24 : decode cX3_life 24 = .ok (.getfield 122, 3) := by decide +kernel
theorem dX3_life_27 : decode cX3_life 27 = .ok (.ireturn, 1) := by decide +kernel
theorem dX3_on_0 : decode cX3_on 0 = .ok (.aload_n 0, 1) := by decide +kernel
theorem dX3_on_1 : decode cX3_on 1 = .ok (.iload_n 1, 1) := by decide +kernel
theorem dX3_on_2 : decode cX3_on 2 = .ok (.invokevirtual 61, 3) := by decide +kernel
theorem dX3_on_5 : decode cX3_on 5 = .ok (.invokevirtual 151, 3) := by decide +kernel
theorem dX3_on_8 : decode cX3_on 8 = .ok (.astore_n 2, 1) := by decide +kernel
theorem dX3_on_9 : decode cX3_on 9 = .ok (.aload_n 2, 1) := by decide +kernel
theorem dX3_on_10 : decode cX3_on 10 = .ok (.ifnonnull 13, 3) := by decide +kernel
theorem dX3_on_13 : decode cX3_on 13 = .ok (.new 135, 3) := by decide +kernel
theorem dX3_on_16 : decode cX3_on 16 = .ok (.dup, 1) := by decide +kernel
theorem dX3_on_17 : decode cX3_on 17 = .ok (.ldc 155, 2) := by decide +kernel
theorem dX3_on_19 : decode cX3_on 19 = .ok (.invokespecial 139, 3) := by decide +kernel
theorem dX3_on_22 : decode cX3_on 22 = .ok (.athrow, 1) := by decide +kernel
theorem dX3_on_23 : decode cX3_on 23 = .ok (.aload_n 2, 1) := by decide +kernel
theorem dX3_on_24 : decode cX3_on 24 = .ok (.getfield 157, 3) := by decide +kernel
theorem dX3_on_27 : decode cX3_on 27 = .ok (.ireturn, 1) := by decide +kernel
theorem dX3_reason_0 : decode cX3_reason 0 = .ok (.aload_n 0, 1) := by decide +kernel
theorem dX3_reason_1 : decode cX3_reason 1 = .ok (.aload_n 0, 1) := by decide +kernel
theorem dX3_reason_2 : decode cX3_reason 2 = .ok (.iload_n 1, 1) := by decide +kernel
theorem dX3_reason_3 : decode cX3_reason 3 = .ok (.invokevirtual 61, 3) := by decide +kernel
theorem dX3_reason_6 : decode cX3_reason 6 = .ok (.invokevirtual 160, 3) := by decide +kernel
theorem dX3_reason_9 : decode cX3_reason 9 = .ok (.ireturn, 1) := by decide +kernel
theorem dX3_fail_0 : decode cX3_fail 0 = .ok (.aload_n 0, 1) := by decide +kernel
theorem dX3_fail_1 : decode cX3_fail 1 = .ok (.iload_n 1, 1) := by decide +kernel
theorem dX3_fail_2 : decode cX3_fail 2 = .ok (.invokevirtual 61, 3) := by decide +kernel
theorem dX3_fail_5 : decode cX3_fail 5 = .ok (.astore_n 2, 1) := by decide +kernel
theorem dX3_fail_6 : decode cX3_fail 6 = .ok (.aload_n 2, 1) := by decide +kernel
theorem dX3_fail_7 : decode cX3_fail 7 = .ok (.getfield 164, 3) := by decide +kernel
theorem dX3_fail_10 : decode cX3_fail 10 = .ok (.ifCond .eq 13, 3) := by decide +kernel
theorem dX3_fail_13 : decode cX3_fail 13 = .ok (.new 47, 3) := by decide +kernel
theorem dX3_fail_16 : decode cX3_fail 16 = .ok (.dup, 1) := by decide +kernel
theorem dX3_fail_17 : decode cX3_fail 17 = .ok (.ldc 167, 2) := by decide +kernel
theorem dX3_fail_19 : decode cX3_fail 19 = .ok (.invokespecial 51, 3) := by decide +kernel
theorem dX3_fail_22 : decode cX3_fail 22 = .ok (.athrow, 1) := by decide +kernel
theorem dX3_fail_23 : decode cX3_fail 23 = .ok (.aload_n 2, 1) := by decide +kernel
theorem dX3_fail_24 : decode cX3_fail 24 = .ok (.iconst 1, 1) := by decide +kernel
theorem dX3_fail_25 : decode cX3_fail 25 = .ok (.putfield 164, 3) := by decide +kernel
theorem dX3_fail_28 : decode cX3_fail 28 = .ok (.aload_n 2, 1) := by decide +kernel
theorem dX3_fail_29 : decode cX3_fail 29 = .ok (.invokevirtual 151, 3) := by decide +kernel
theorem dX3_fail_32 : decode cX3_fail 32 = .ok (.ifnull 7, 3) := by decide +kernel
theorem dX3_fail_35 : decode cX3_fail 35 = .ok (.iconst 1, 1) := by decide +kernel
theorem dX3_fail_36 : decode cX3_fail 36 = .ok (.goto 4, 3) := by decide +kernel
theorem dX3_fail_39 : decode cX3_fail 39 = .ok (.iconst 0, 1) := by decide +kernel
theorem dX3_fail_40 : decode cX3_fail 40 = .ok (.ireturn, 1) := by decide +kernel
theorem dX3_pass_0 : decode cX3_pass 0 = .ok (.iload_n 1, 1) := by decide +kernel
theorem dX3_pass_1 : decode cX3_pass 1 = .ok (.iconst 1, 1) := by decide +kernel
theorem dX3_pass_2 : decode cX3_pass 2 = .ok (.bipush 20, 2) := by decide +kernel
theorem dX3_pass_4 : decode cX3_pass 4 = .ok (.invokestatic 30, 3) := by decide +kernel
theorem dX3_pass_7 : decode cX3_pass 7 = .ok (.ifCond .ne 13, 3) := by decide +kernel
theorem dX3_pass_10 : decode cX3_pass 10 = .ok (.new 34, 3) := by decide +kernel
theorem dX3_pass_13 : decode cX3_pass 13 = .ok (.dup, 1) := by decide +kernel
theorem dX3_pass_14 : decode cX3_pass 14 = .ok (.ldc 169, 2) := by decide +kernel
theorem dX3_pass_16 : decode cX3_pass 16 = .ok (.invokespecial 38, 3) := by decide +kernel
theorem dX3_pass_19 : decode cX3_pass 19 = .ok (.athrow, 1) := by decide +kernel
theorem dX3_pass_20 : decode cX3_pass 20 = .ok (.iload_n 1, 1) := by decide +kernel
theorem dX3_pass_21 : decode cX3_pass 21 = .ok (.sipush 200, 3) := by decide +kernel
theorem dX3_pass_24 : decode cX3_pass 24 = .ok (.aload_n 0, 1) := by decide +kernel
theorem dX3_pass_25 : decode cX3_pass 25 = .ok (.getfield 26, 3) := by decide +kernel
theorem dX3_pass_28 : decode cX3_pass 28 = .ok (.isub, 1) := by decide +kernel
theorem dX3_pass_29 : decode cX3_pass 29 = .ok (.if_icmp .le 13, 3) := by decide +kernel
theorem dX3_pass_32 : decode cX3_pass 32 = .ok (.new 47, 3) := by decide +kernel
theorem dX3_pass_35 : decode cX3_pass 35 = .ok (.dup, 1) := by decide +kernel
theorem dX3_pass_36 : decode cX3_pass 36 = .ok (.ldc 171, 2) := by decide +kernel
theorem dX3_pass_38 : decode cX3_pass 38 = .ok (.invokespecial 51, 3) := by decide +kernel
theorem dX3_pass_41 : decode cX3_pass 41 = .ok (.athrow, 1) := by decide +kernel
theorem dX3_pass_42 : decode cX3_pass 42 = .ok (.iconst 0, 1) := by decide +kernel
theorem dX3_pass_43 : decode cX3_pass 43 = .ok (.istore_n 2, 1) := by decide +kernel
theorem dX3_pass_44 : decode cX3_pass 44 = .ok (.iconst 0, 1) := by decide +kernel
theorem dX3_pass_45 : decode cX3_pass 45 = .ok (.istore_n 3, 1) := by decide +kernel
theorem dX3_pass_46 : decode cX3_pass 46 = .ok (.iload_n 3, 1) := by decide +kernel
theorem dX3_pass_47 : decode cX3_pass 47 = .ok (.iload_n 1, 1) := by decide +kernel
theorem dX3_pass_48 : decode cX3_pass 48 = .ok (.if_icmp .ge 16, 3) := by decide +kernel
theorem dX3_pass_51 : decode cX3_pass 51 = .ok (.iload_n 2, 1) := by decide +kernel
theorem dX3_pass_52 : decode cX3_pass 52 = .ok (.aload_n 0, 1) := by decide +kernel
theorem dX3_pass_53 : decode cX3_pass 53 = .ok (.invokevirtual 173, 3) := by decide +kernel
theorem dX3_pass_56 : decode cX3_pass 56 = .ok (.iadd, 1) := by decide +kernel
theorem dX3_pass_57 : decode cX3_pass 57 = .ok (.istore_n 2, 1) := by decide +kernel
theorem dX3_pass_58 : decode cX3_pass 58 = .ok (.iinc 3 1, 3) := by decide +kernel
theorem dX3_pass_61 : decode cX3_pass 61 = .ok (.goto (-15), 3) := by decide +kernel
theorem dX3_pass_64 : decode cX3_pass 64 = .ok (.iload_n 2, 1) := by decide +kernel
theorem dX3_pass_65 : decode cX3_pass 65 = .ok (.ireturn, 1) := by decide +kernel
theorem dX3_time_0 : decode cX3_time 0 = .ok (.aload_n 0, 1) := by decide +kernel
theorem dX3_time_1 : decode cX3_time 1 = .ok (.getfield 26, 3) := by decide +kernel
theorem dX3_time_4 : decode cX3_time 4 = .ok (.ireturn, 1) := by decide +kernel
theorem dX3_used_0 : decode cX3_used 0 = .ok (.aload_n 0, 1) := by decide +kernel
theorem dX3_used_1 : decode cX3_used 1 = .ok (.iload_n 1, 1) := by decide +kernel
theorem dX3_used_2 : decode cX3_used 2 = .ok (.invokevirtual 61, 3) := by decide +kernel
theorem dX3_used_5 : decode cX3_used 5 = .ok (.getfield 176, 3) := by decide +kernel
theorem dX3_used_8 : decode cX3_used 8 = .ok (.ireturn, 1) := by decide +kernel
theorem dX3_left_0 : decode cX3_left 0 = .ok (.aload_n 0, 1) := by decide +kernel
theorem dX3_left_1 : decode cX3_left 1 = .ok (.iload_n 1, 1) := by decide +kernel
theorem dX3_left_2 : decode cX3_left 2 = .ok (.invokevirtual 116, 3) := by decide +kernel
theorem dX3_left_5 : decode cX3_left 5 = .ok (.invokestatic 179, 3) := by decide +kernel
theorem dX3_left_8 : decode cX3_left 8 = .ok (.ireturn, 1) := by decide +kernel
theorem dX3_leftAnew_0 : decode cX3_leftAnew 0 = .ok (.aload_n 0, 1) := by decide +kernel
theorem dX3_leftAnew_1 : decode cX3_leftAnew 1 = .ok (.iload_n 1, 1) := by decide +kernel
theorem dX3_leftAnew_2 : decode cX3_leftAnew 2 = .ok (.invokevirtual 116, 3) := by decide +kernel
theorem dX3_leftAnew_5 : decode cX3_leftAnew 5 = .ok (.astore_n 2, 1) := by decide +kernel
theorem dX3_leftAnew_6 : decode cX3_leftAnew 6 = .ok (.aload_n 2, 1) := by decide +kernel
theorem dX3_leftAnew_7 : decode cX3_leftAnew 7 = .ok (.getfield 183, 3) := by decide +kernel
theorem dX3_leftAnew_10 : decode cX3_leftAnew 10 = .ok (.invokevirtual 187, 3) := by decide +kernel
theorem dX3_leftAnew_13 : decode cX3_leftAnew 13 = .ok (.aload_n 2, 1) := by decide +kernel
theorem dX3_leftAnew_14 : decode cX3_leftAnew 14 = .ok (.getfield 183, 3) := by decide +kernel
theorem dX3_leftAnew_17 : decode cX3_leftAnew 17 = .ok (.getfield 190, 3) := by decide +kernel
theorem dX3_leftAnew_20 : decode cX3_leftAnew 20 = .ok (.aload_n 2, 1) := by decide +kernel
theorem dX3_leftAnew_21 : decode cX3_leftAnew 21 = .ok (.getfield 193, 3) := by decide +kernel
theorem dX3_leftAnew_24 : decode cX3_leftAnew 24 = .ok (.invokevirtual 196, 3) := by decide +kernel
theorem dX3_leftAnew_27 : decode cX3_leftAnew 27 = .ok (.ireturn, 1) := by decide +kernel
theorem dX3_nextAt_0 : decode cX3_nextAt 0 = .ok (.aload_n 0, 1) := by decide +kernel
theorem dX3_nextAt_1 : decode cX3_nextAt 1 = .ok (.iload_n 1, 1) := by decide +kernel
theorem dX3_nextAt_2 : decode cX3_nextAt 2 = .ok (.invokevirtual 116, 3) := by decide +kernel
theorem dX3_nextAt_5 : decode cX3_nextAt 5 = .ok (.astore_n 2, 1) := by decide +kernel
theorem dX3_nextAt_6 : decode cX3_nextAt 6 = .ok (.aload_n 2, 1) := by decide +kernel
theorem dX3_nextAt_7 : decode cX3_nextAt 7 = .ok (.invokestatic 179, 3) := by decide +kernel
theorem dX3_nextAt_10 : decode cX3_nextAt 10 = .ok (.ifCond .ne 13, 3) := by decide +kernel
theorem dX3_nextAt_13 : decode cX3_nextAt 13 = .ok (.new 135, 3) := by decide +kernel
theorem dX3_nextAt_16 : decode cX3_nextAt 16 = .ok (.dup, 1) := by decide +kernel
theorem dX3_nextAt_17 : decode cX3_nextAt 17 = .ok (.ldc 200, 2) := by decide +kernel
theorem dX3_nextAt_19 : decode cX3_nextAt 19 = .ok (.invokespecial 139, 3) := by decide +kernel
theorem dX3_nextAt_22 : decode cX3_nextAt 22 = .ok (.athrow, 1) := by decide +kernel
theorem dX3_nextAt_23 : decode cX3_nextAt 23 = .ok (.aload_n 0, 1) := by decide +kernel
theorem dX3_nextAt_24 : decode cX3_nextAt 24 = .ok (.getfield 26, 3) := by decide +kernel
theorem dX3_nextAt_27 : decode cX3_nextAt 27 = .ok (.aload_n 2, 1) := by decide +kernel
theorem dX3_nextAt_28 : decode cX3_nextAt 28 = .ok (.getfield 183, 3) := by decide +kernel
theorem dX3_nextAt_31 : decode cX3_nextAt 31 = .ok (.getfield 100, 3) := by decide +kernel
theorem dX3_nextAt_34 : decode cX3_nextAt 34 = .ok (.aload_n 2, 1) := by decide +kernel
theorem dX3_nextAt_35 : decode cX3_nextAt 35 = .ok (.getfield 193, 3) := by decide +kernel
theorem dX3_nextAt_38 : decode cX3_nextAt 38 = .ok (.invokevirtual 202, 3) := by decide +kernel
theorem dX3_nextAt_41 : decode cX3_nextAt 41 = .ok (.iadd, 1) := by decide +kernel
theorem dX3_nextAt_42 : decode cX3_nextAt 42 = .ok (.ireturn, 1) := by decide +kernel
theorem dX3_count_0 : decode cX3_count 0 = .ok (.aload_n 0, 1) := by decide +kernel
theorem dX3_count_1 : decode cX3_count 1 = .ok (.iload_n 1, 1) := by decide +kernel
theorem dX3_count_2 : decode cX3_count 2 = .ok (.invokevirtual 116, 3) := by decide +kernel
theorem dX3_count_5 : decode cX3_count 5 = .ok (.astore_n 3, 1) := by decide +kernel
theorem dX3_count_6 : decode cX3_count 6 = .ok (.iload_n 2, 1) := by decide +kernel
theorem dX3_count_7 : decode cX3_count 7 = .ok (.bipush 100, 2) := by decide +kernel
theorem dX3_count_9 : decode cX3_count 9 = .ok (.if_icmp .ne 8, 3) := by decide +kernel
theorem dX3_count_12 : decode cX3_count 12 = .ok (.aload_n 3, 1) := by decide +kernel
theorem dX3_count_13 : decode cX3_count 13 = .ok (.getfield 205, 3) := by decide +kernel
theorem dX3_count_16 : decode cX3_count 16 = .ok (.ireturn, 1) := by decide +kernel
theorem dX3_count_17 : decode cX3_count 17 = .ok (.iload_n 2, 1) := by decide +kernel
theorem dX3_count_18 : decode cX3_count 18 = .ok (.bipush 109, 2) := by decide +kernel
theorem dX3_count_20 : decode cX3_count 20 = .ok (.if_icmp .ne 8, 3) := by decide +kernel
theorem dX3_count_23 : decode cX3_count 23 = .ok (.aload_n 3, 1) := by decide +kernel
theorem dX3_count_24 : decode cX3_count 24 = .ok (.getfield 208, 3) := by decide +kernel
theorem dX3_count_27 : decode cX3_count 27 = .ok (.ireturn, 1) := by decide +kernel
theorem dX3_count_28 : decode cX3_count 28 = .ok (.iload_n 2, 1) := by decide +kernel
theorem dX3_count_29 : decode cX3_count 29 = .ok (.bipush 108, 2) := by decide +kernel
theorem dX3_count_31 : decode cX3_count 31 = .ok (.if_icmp .ne 8, 3) := by decide +kernel
theorem dX3_count_34 : decode cX3_count 34 = .ok (.aload_n 3, 1) := by decide +kernel
theorem dX3_count_35 : decode cX3_count 35 = .ok (.getfield 211, 3) := by decide +kernel
theorem dX3_count_38 : decode cX3_count 38 = .ok (.ireturn, 1) := by decide +kernel
theorem dX3_count_39 : decode cX3_count 39 = .ok (.iload_n 2, 1) := by decide +kernel
theorem dX3_count_40 : decode cX3_count 40 = .ok (.bipush 111, 2) := by decide +kernel
theorem dX3_count_42 : decode cX3_count 42 = .ok (.if_icmp .ne 8, 3) := by decide +kernel
theorem dX3_count_45 : decode cX3_count 45 = .ok (.aload_n 3, 1) := by decide +kernel
theorem dX3_count_46 : decode cX3_count 46 = .ok (.getfield 214, 3) := by decide +kernel
theorem dX3_count_49 : decode cX3_count 49 = .ok (.ireturn, 1) := by decide +kernel
theorem dX3_count_50 : decode cX3_count 50 = .ok (.new 34, 3) := by decide +kernel
theorem dX3_count_53 : decode cX3_count 53 = .ok (.dup, 1) := by decide +kernel
theorem dX3_count_54 : decode cX3_count 54 = .ok (.ldc 217, 2) := by decide +kernel
theorem dX3_count_56 : decode cX3_count 56 = .ok (.invokespecial 38, 3) := by decide +kernel
theorem dX3_count_59 : decode cX3_count 59 = .ok (.athrow, 1) := by decide +kernel
theorem dX3_mostOwed_0 : decode cX3_mostOwed 0 = .ok (.iconst 0, 1) := by decide +kernel
theorem dX3_mostOwed_1 : decode cX3_mostOwed 1 = .ok (.istore_n 1, 1) := by decide +kernel
theorem dX3_mostOwed_2 : decode cX3_mostOwed 2 = .ok (.iconst (-1), 1) := by decide +kernel
theorem dX3_mostOwed_3 : decode cX3_mostOwed 3 = .ok (.istore_n 2, 1) := by decide +kernel
theorem dX3_mostOwed_4 : decode cX3_mostOwed 4 = .ok (.iconst 0, 1) := by decide +kernel
theorem dX3_mostOwed_5 : decode cX3_mostOwed 5 = .ok (.istore_n 3, 1) := by decide +kernel
theorem dX3_mostOwed_6 : decode cX3_mostOwed 6 = .ok (.iload_n 3, 1) := by decide +kernel
theorem dX3_mostOwed_7 : decode cX3_mostOwed 7 = .ok (.bipush 10, 2) := by decide +kernel
theorem dX3_mostOwed_9 : decode cX3_mostOwed 9 = .ok (.if_icmp .ge 27, 3) := by decide +kernel
theorem dX3_mostOwed_12 : decode cX3_mostOwed 12 = .ok (.aload_n 0, 1) := by decide +kernel
theorem dX3_mostOwed_13 : decode cX3_mostOwed 13 = .ok (.iload_n 3, 1) := by decide +kernel
theorem dX3_mostOwed_14 : decode cX3_mostOwed 14 = .ok (.invokevirtual 219, 3) := by decide +kernel
theorem dX3_mostOwed_17 : decode cX3_mostOwed 17 = .ok (.istore 4, 2) := by decide +kernel
theorem dX3_mostOwed_19 : decode cX3_mostOwed 19 = .ok (.iload 4, 2) := by decide +kernel
theorem dX3_mostOwed_21 : decode cX3_mostOwed 21 = .ok (.iload_n 1, 1) := by decide +kernel
theorem dX3_mostOwed_22 : decode cX3_mostOwed 22 = .ok (.if_icmp .le 8, 3) := by decide +kernel
theorem dX3_mostOwed_25 : decode cX3_mostOwed 25 = .ok (.iload 4, 2) := by decide +kernel
theorem dX3_mostOwed_27 : decode cX3_mostOwed 27 = .ok (.istore_n 1, 1) := by decide +kernel
theorem dX3_mostOwed_28 : decode cX3_mostOwed 28 = .ok (.iload_n 3, 1) := by decide +kernel
theorem dX3_mostOwed_29 : decode cX3_mostOwed 29 = .ok (.istore_n 2, 1) := by decide +kernel
theorem dX3_mostOwed_30 : decode cX3_mostOwed 30 = .ok (.iinc 3 1, 3) := by decide +kernel
theorem dX3_mostOwed_33 : decode cX3_mostOwed 33 = .ok (.goto (-27), 3) := by decide +kernel
theorem dX3_mostOwed_36 : decode cX3_mostOwed 36 = .ok (.iload_n 2, 1) := by decide +kernel
theorem dX3_mostOwed_37 : decode cX3_mostOwed 37 = .ok (.ifCond .ge 13, 3) := by decide +kernel
theorem dX3_mostOwed_40 : decode cX3_mostOwed 40 = .ok (.new 135, 3) := by decide +kernel
theorem dX3_mostOwed_43 : decode cX3_mostOwed 43 = .ok (.dup, 1) := by decide +kernel
theorem dX3_mostOwed_44 : decode cX3_mostOwed 44 = .ok (.ldc 222, 2) := by decide +kernel
theorem dX3_mostOwed_46 : decode cX3_mostOwed 46 = .ok (.invokespecial 139, 3) := by decide +kernel
theorem dX3_mostOwed_49 : decode cX3_mostOwed 49 = .ok (.athrow, 1) := by decide +kernel
theorem dX3_mostOwed_50 : decode cX3_mostOwed 50 = .ok (.iload_n 2, 1) := by decide +kernel
theorem dX3_mostOwed_51 : decode cX3_mostOwed 51 = .ok (.ireturn, 1) := by decide +kernel
theorem dX3_doneShare_0 : decode cX3_doneShare 0 = .ok (.iconst 0, 1) := by decide +kernel
theorem dX3_doneShare_1 : decode cX3_doneShare 1 = .ok (.istore_n 1, 1) := by decide +kernel
theorem dX3_doneShare_2 : decode cX3_doneShare 2 = .ok (.iconst 0, 1) := by decide +kernel
theorem dX3_doneShare_3 : decode cX3_doneShare 3 = .ok (.istore_n 2, 1) := by decide +kernel
theorem dX3_doneShare_4 : decode cX3_doneShare 4 = .ok (.iconst 0, 1) := by decide +kernel
theorem dX3_doneShare_5 : decode cX3_doneShare 5 = .ok (.istore_n 3, 1) := by decide +kernel
theorem dX3_doneShare_6 : decode cX3_doneShare 6 = .ok (.iload_n 3, 1) := by decide +kernel
theorem dX3_doneShare_7 : decode cX3_doneShare 7 = .ok (.aload_n 0, 1) := by decide +kernel
theorem dX3_doneShare_8 : decode cX3_doneShare 8 = .ok (.getfield 16, 3) := by decide +kernel
theorem dX3_doneShare_11 : decode cX3_doneShare 11 = .ok (.invokevirtual 43, 3) := by decide +kernel
theorem dX3_doneShare_14 : decode cX3_doneShare 14 = .ok (.if_icmp .ge 50, 3) := by decide +kernel
theorem dX3_doneShare_17 : decode cX3_doneShare 17 = .ok (.aload_n 0, 1) := by decide +kernel
theorem dX3_doneShare_18 : decode cX3_doneShare 18 = .ok (.getfield 16, 3) := by decide +kernel
theorem dX3_doneShare_21 : decode cX3_doneShare 21 = .ok (.iload_n 3, 1) := by decide +kernel
theorem dX3_doneShare_22 : decode cX3_doneShare 22 = .ok (.invokevirtual 224, 3) := by decide +kernel
theorem dX3_doneShare_25 : decode cX3_doneShare 25 = .ok (.checkcast 86, 3) := by decide +kernel
theorem dX3_doneShare_28 : decode cX3_doneShare 28 = .ok (.astore 4, 2) := by decide +kernel
theorem dX3_doneShare_30 : decode cX3_doneShare 30 = .ok (.iload_n 1, 1) := by decide +kernel
theorem dX3_doneShare_31 : decode cX3_doneShare 31 = .ok (.aload 4, 2) := by decide +kernel
theorem dX3_doneShare_33 : decode cX3_doneShare 33 = .ok (.getfield 205, 3) := by decide +kernel
theorem dX3_doneShare_36 : decode cX3_doneShare 36 = .ok (.iadd, 1) := by decide +kernel
theorem dX3_doneShare_37 : decode cX3_doneShare 37 = .ok (.istore_n 1, 1) := by decide +kernel
theorem dX3_doneShare_38 : decode cX3_doneShare 38 = .ok (.iload_n 2, 1) := by decide +kernel
theorem dX3_doneShare_39 : decode cX3_doneShare 39 = .ok (.aload 4, 2) := by decide +kernel
theorem dX3_doneShare_41 : decode cX3_doneShare 41 = .ok (.getfield 205, 3) := by decide +kernel
theorem dX3_doneShare_44 : decode cX3_doneShare 44 = .ok (.aload 4, 2) := by decide +kernel
theorem dX3_doneShare_46 : decode cX3_doneShare 46 = .ok (.getfield 208, 3) := by decide +kernel
theorem dX3_doneShare_49 : decode cX3_doneShare 49 = .ok (.iadd, 1) := by decide +kernel
theorem dX3_doneShare_50 : decode cX3_doneShare 50 = .ok (.aload 4, 2) := by decide +kernel
theorem dX3_doneShare_52 : decode cX3_doneShare 52 = .ok (.getfield 211, 3) := by decide +kernel
theorem dX3_doneShare_55 : decode cX3_doneShare 55 = .ok (.iadd, 1) := by decide +kernel
theorem dX3_doneShare_56 : decode cX3_doneShare 56 = .ok (.iadd, 1) := by decide +kernel
theorem dX3_doneShare_57 : decode cX3_doneShare 57 = .ok (.istore_n 2, 1) := by decide +kernel
theorem dX3_doneShare_58 : decode cX3_doneShare 58 = .ok (.iinc 3 1, 3) := by decide +kernel
theorem dX3_doneShare_61 : decode cX3_doneShare 61 = .ok (.goto (-55), 3) := by decide +kernel
theorem dX3_doneShare_64 : decode cX3_doneShare 64 = .ok (.iload_n 2, 1) := by decide +kernel
theorem dX3_doneShare_65 : decode cX3_doneShare 65 = .ok (.ifCond .ne 13, 3) := by decide +kernel
theorem dX3_doneShare_68 : decode cX3_doneShare 68 = .ok (.new 228, 3) := by decide +kernel
theorem dX3_doneShare_71 : decode cX3_doneShare 71 = .ok (.dup, 1) := by decide +kernel
theorem dX3_doneShare_72 : decode cX3_doneShare 72 = .ok (.ldc 230, 2) := by decide +kernel
theorem dX3_doneShare_74 : decode cX3_doneShare 74 = .ok (.invokespecial 232, 3) := by decide +kernel
theorem dX3_doneShare_77 : decode cX3_doneShare 77 = .ok (.athrow, 1) := by decide +kernel
theorem dX3_doneShare_78 : decode cX3_doneShare 78 = .ok (.iload_n 1, 1) := by decide +kernel
theorem dX3_doneShare_79 : decode cX3_doneShare 79 = .ok (.i2f, 1) := by decide +kernel
theorem dX3_doneShare_80 : decode cX3_doneShare 80 = .ok (.iload_n 2, 1) := by decide +kernel
theorem dX3_doneShare_81 : decode cX3_doneShare 81 = .ok (.i2f, 1) := by decide +kernel
theorem dX3_doneShare_82 : decode cX3_doneShare 82 = .ok (.fdiv, 1) := by decide +kernel
theorem dX3_doneShare_83 : decode cX3_doneShare 83 = .ok (.freturn, 1) := by decide +kernel
theorem dX3_meanScore_0 : decode cX3_meanScore 0 = .ok (.iconst 0, 1) := by decide +kernel
theorem dX3_meanScore_1 : decode cX3_meanScore 1 = .ok (.istore_n 1, 1) := by decide +kernel
theorem dX3_meanScore_2 : decode cX3_meanScore 2 = .ok (.iconst 0, 1) := by decide +kernel
theorem dX3_meanScore_3 : decode cX3_meanScore 3 = .ok (.istore_n 2, 1) := by decide +kernel
theorem dX3_meanScore_4 : decode cX3_meanScore 4 = .ok (.iconst 0, 1) := by decide +kernel
theorem dX3_meanScore_5 : decode cX3_meanScore 5 = .ok (.istore_n 3, 1) := by decide +kernel
theorem dX3_meanScore_6 : decode cX3_meanScore 6 = .ok (.iload_n 3, 1) := by decide +kernel
theorem dX3_meanScore_7 : decode cX3_meanScore 7 = .ok (.aload_n 0, 1) := by decide +kernel
theorem dX3_meanScore_8 : decode cX3_meanScore 8 = .ok (.getfield 16, 3) := by decide +kernel
theorem dX3_meanScore_11 : decode cX3_meanScore 11 = .ok (.invokevirtual 43, 3) := by decide +kernel
theorem dX3_meanScore_14 : decode cX3_meanScore 14 = .ok (.if_icmp .ge 42, 3) := by decide +kernel
theorem dX3_meanScore_17 : decode cX3_meanScore 17 = .ok (.aload_n 0, 1) := by decide +kernel
theorem dX3_meanScore_18 : decode cX3_meanScore 18 = .ok (.getfield 16, 3) := by decide +kernel
theorem dX3_meanScore_21 : decode cX3_meanScore 21 = .ok (.iload_n 3, 1) := by decide +kernel
theorem dX3_meanScore_22 : decode cX3_meanScore 22 = .ok (.invokevirtual 224, 3) := by decide +kernel
theorem dX3_meanScore_25 : decode cX3_meanScore 25 = .ok (.checkcast 86, 3) := by decide +kernel
theorem dX3_meanScore_28 : decode cX3_meanScore 28 = .ok (.astore 4, 2) := by decide +kernel
theorem dX3_meanScore_30 : decode cX3_meanScore 30 = .ok (.aload 4, 2) := by decide +kernel
theorem dX3_meanScore_32 : decode cX3_meanScore 32 = .ok (.getfield 193, 3) := by decide +kernel
theorem dX3_meanScore_35 : decode cX3_meanScore 35 = .ok (.iconst (-1), 1) := by decide +kernel
theorem dX3_meanScore_36 : decode cX3_meanScore 36 = .ok (.if_icmp .eq 14, 3) := by decide +kernel
theorem dX3_meanScore_39 : decode cX3_meanScore 39 = .ok (.iload_n 1, 1) := by decide +kernel
theorem dX3_meanScore_40 : decode cX3_meanScore 40 = .ok (.aload 4, 2) := by decide +kernel
theorem dX3_meanScore_42 : decode cX3_meanScore 42 = .ok (.getfield 233, 3) := by decide +kernel
theorem dX3_meanScore_45 : decode cX3_meanScore 45 = .ok (.iadd, 1) := by decide +kernel
theorem dX3_meanScore_46 : decode cX3_meanScore 46 = .ok (.istore_n 1, 1) := by decide +kernel
theorem dX3_meanScore_47 : decode cX3_meanScore 47 = .ok (.iinc 2 1, 3) := by decide +kernel
theorem dX3_meanScore_50 : decode cX3_meanScore 50 = .ok (.iinc 3 1, 3) := by decide +kernel
theorem dX3_meanScore_53 : decode cX3_meanScore 53 = .ok (.goto (-47), 3) := by decide +kernel
theorem dX3_meanScore_56 : decode cX3_meanScore 56 = .ok (.iload_n 2, 1) := by decide +kernel
theorem dX3_meanScore_57 : decode cX3_meanScore 57 = .ok (.ifCond .ne 13, 3) := by decide +kernel
theorem dX3_meanScore_60 : decode cX3_meanScore 60 = .ok (.new 228, 3) := by decide +kernel
theorem dX3_meanScore_63 : decode cX3_meanScore 63 = .ok (.dup, 1) := by decide +kernel
theorem dX3_meanScore_64 : decode cX3_meanScore 64 = .ok (.ldc 236, 2) := by decide +kernel
theorem dX3_meanScore_66 : decode cX3_meanScore 66 = .ok (.invokespecial 232, 3) := by decide +kernel
theorem dX3_meanScore_69 : decode cX3_meanScore 69 = .ok (.athrow, 1) := by decide +kernel
theorem dX3_meanScore_70 : decode cX3_meanScore 70 = .ok (.iload_n 1, 1) := by decide +kernel
theorem dX3_meanScore_71 : decode cX3_meanScore 71 = .ok (.i2d, 1) := by decide +kernel
theorem dX3_meanScore_72 : decode cX3_meanScore 72 = .ok (.iload_n 2, 1) := by decide +kernel
theorem dX3_meanScore_73 : decode cX3_meanScore 73 = .ok (.i2d, 1) := by decide +kernel
theorem dX3_meanScore_74 : decode cX3_meanScore 74 = .ok (.ddiv, 1) := by decide +kernel
theorem dX3_meanScore_75 : decode cX3_meanScore 75 = .ok (.dreturn, 1) := by decide +kernel
theorem dX3_isWithin_0 : decode cX3_isWithin 0 = .ok (.iload_n 0, 1) := by decide +kernel
theorem dX3_isWithin_1 : decode cX3_isWithin 1 = .ok (.iload_n 1, 1) := by decide +kernel
theorem dX3_isWithin_2 : decode cX3_isWithin 2 = .ok (.if_icmp .lt 12, 3) := by decide +kernel
theorem dX3_isWithin_5 : decode cX3_isWithin 5 = .ok (.iload_n 0, 1) := by decide +kernel
theorem dX3_isWithin_6 : decode cX3_isWithin 6 = .ok (.iload_n 2, 1) := by decide +kernel
theorem dX3_isWithin_7 : decode cX3_isWithin 7 = .ok (.if_icmp .gt 7, 3) := by decide +kernel
theorem dX3_isWithin_10 : decode cX3_isWithin 10 = .ok (.iconst 1, 1) := by decide +kernel
theorem dX3_isWithin_11 : decode cX3_isWithin 11 = .ok (.goto 4, 3) := by decide +kernel
theorem dX3_isWithin_14 : decode cX3_isWithin 14 = .ok (.iconst 0, 1) := by decide +kernel
theorem dX3_isWithin_15 : decode cX3_isWithin 15 = .ok (.ireturn, 1) := by decide +kernel
theorem dX3_beamlineNumbered_0 : decode cX3_beamlineNumbered 0 = .ok (.iload_n 1, 1) := by decide +kernel
theorem dX3_beamlineNumbered_1 : decode cX3_beamlineNumbered 1 = .ok (.ifCond .lt 14, 3) := by decide +kernel
theorem dX3_beamlineNumbered_4 : decode cX3_beamlineNumbered 4 = .ok (.iload_n 1, 1) := by decide +kernel
theorem dX3_beamlineNumbered_5 : decode cX3_beamlineNumbered 5 = .ok (.aload_n 0, 1) := by decide +kernel
theorem dX3_beamlineNumbered_6 : decode cX3_beamlineNumbered 6 = .ok (.getfield 10, 3) := by decide +kernel
theorem dX3_beamlineNumbered_9 : decode cX3_beamlineNumbered 9 = .ok (.invokevirtual 43, 3) := by decide +kernel
theorem dX3_beamlineNumbered_12 : decode cX3_beamlineNumbered 12 = .ok (.if_icmp .lt 13, 3) := by decide +kernel
theorem dX3_beamlineNumbered_15 : decode cX3_beamlineNumbered 15 = .ok (.new 109, 3) := by decide +kernel
theorem dX3_beamlineNumbered_18 : decode cX3_beamlineNumbered 18 = .ok (.dup, 1) := by decide +kernel
theorem dX3_beamlineNumbered_19 : decode cX3_beamlineNumbered 19 = .ok (.ldc 238, 2) := by decide +kernel
theorem dX3_beamlineNumbered_21 : decode cX3_beamlineNumbered 21 = .ok (.invokespecial 113, 3) := by decide +kernel
theorem dX3_beamlineNumbered_24 : decode cX3_beamlineNumbered 24 = .ok (.athrow, 1) := by decide +kernel
theorem dX3_beamlineNumbered_25 : decode cX3_beamlineNumbered 25 = .ok (.aload_n 0, 1) := by decide +kernel
theorem dX3_beamlineNumbered_26 : decode cX3_beamlineNumbered 26 = .ok (.getfield 10, 3) := by decide +kernel
theorem dX3_beamlineNumbered_29 : decode cX3_beamlineNumbered 29 = .ok (.iload_n 1, 1) := by decide +kernel
theorem dX3_beamlineNumbered_30 : decode cX3_beamlineNumbered 30 = .ok (.invokevirtual 224, 3) := by decide +kernel
theorem dX3_beamlineNumbered_33 : decode cX3_beamlineNumbered 33 = .ok (.checkcast 52, 3) := by decide +kernel
theorem dX3_beamlineNumbered_36 : decode cX3_beamlineNumbered 36 = .ok (.areturn, 1) := by decide +kernel
theorem dX3_proposalNumbered_0 : decode cX3_proposalNumbered 0 = .ok (.iload_n 1, 1) := by decide +kernel
theorem dX3_proposalNumbered_1 : decode cX3_proposalNumbered 1 = .ok (.ifCond .lt 14, 3) := by decide +kernel
theorem dX3_proposalNumbered_4 : decode cX3_proposalNumbered 4 = .ok (.iload_n 1, 1) := by decide +kernel
theorem dX3_proposalNumbered_5 : decode cX3_proposalNumbered 5 = .ok (.aload_n 0, 1) := by decide +kernel
theorem dX3_proposalNumbered_6 : decode cX3_proposalNumbered 6 = .ok (.getfield 16, 3) := by decide +kernel
theorem dX3_proposalNumbered_9 : decode cX3_proposalNumbered 9 = .ok (.invokevirtual 43, 3) := by decide +kernel
theorem dX3_proposalNumbered_12 : decode cX3_proposalNumbered 12 = .ok (.if_icmp .lt 13, 3) := by decide +kernel
theorem dX3_proposalNumbered_15 : decode cX3_proposalNumbered 15 = .ok (.new 109, 3) := by decide +kernel
theorem dX3_proposalNumbered_18 : decode cX3_proposalNumbered 18 = .ok (.dup, 1) := by decide +kernel
theorem dX3_proposalNumbered_19 : decode cX3_proposalNumbered 19 = .ok (.ldc 240, 2) := by decide +kernel
theorem dX3_proposalNumbered_21 : decode cX3_proposalNumbered 21 = .ok (.invokespecial 113, 3) := by decide +kernel
theorem dX3_proposalNumbered_24 : decode cX3_proposalNumbered 24 = .ok (.athrow, 1) := by decide +kernel
theorem dX3_proposalNumbered_25 : decode cX3_proposalNumbered 25 = .ok (.aload_n 0, 1) := by decide +kernel
theorem dX3_proposalNumbered_26 : decode cX3_proposalNumbered 26 = .ok (.getfield 16, 3) := by decide +kernel
theorem dX3_proposalNumbered_29 : decode cX3_proposalNumbered 29 = .ok (.iload_n 1, 1) := by decide +kernel
theorem dX3_proposalNumbered_30 : decode cX3_proposalNumbered 30 = .ok (.invokevirtual 224, 3) := by decide +kernel
theorem dX3_proposalNumbered_33 : decode cX3_proposalNumbered 33 = .ok (.checkcast 86, 3) := by decide +kernel
theorem dX3_proposalNumbered_36 : decode cX3_proposalNumbered 36 = .ok (.areturn, 1) := by decide +kernel
theorem dX3_allotAtScore_0 : decode cX3_allotAtScore 0 = .ok (.iconst 0, 1) := by decide +kernel
theorem dX3_allotAtScore_1 : decode cX3_allotAtScore 1 = .ok (.istore_n 3, 1) := by decide +kernel
theorem dX3_allotAtScore_2 : decode cX3_allotAtScore 2 = .ok (.iload_n 3, 1) := by decide +kernel
theorem dX3_allotAtScore_3 : decode cX3_allotAtScore 3 = .ok (.aload_n 0, 1) := by decide +kernel
theorem dX3_allotAtScore_4 : decode cX3_allotAtScore 4 = .ok (.getfield 16, 3) := by decide +kernel
theorem dX3_allotAtScore_7 : decode cX3_allotAtScore 7 = .ok (.invokevirtual 43, 3) := by decide +kernel
theorem dX3_allotAtScore_10 : decode cX3_allotAtScore 10 = .ok (.if_icmp .ge 46, 3) := by decide +kernel
theorem dX3_allotAtScore_13 : decode cX3_allotAtScore 13 = .ok (.aload_n 0, 1) := by decide +kernel
theorem dX3_allotAtScore_14 : decode cX3_allotAtScore 14 = .ok (.getfield 16, 3) := by decide +kernel
theorem dX3_allotAtScore_17 : decode cX3_allotAtScore 17 = .ok (.iload_n 3, 1) := by decide +kernel
theorem dX3_allotAtScore_18 : decode cX3_allotAtScore 18 = .ok (.invokevirtual 224, 3) := by decide +kernel
theorem dX3_allotAtScore_21 : decode cX3_allotAtScore 21 = .ok (.checkcast 86, 3) := by decide +kernel
theorem dX3_allotAtScore_24 : decode cX3_allotAtScore 24 = .ok (.astore 4, 2) := by decide +kernel
theorem dX3_allotAtScore_26 : decode cX3_allotAtScore 26 = .ok (.aload 4, 2) := by decide +kernel
theorem dX3_allotAtScore_28 : decode cX3_allotAtScore 28 = .ok (.getfield 183, 3) := by decide +kernel
theorem dX3_allotAtScore_31 : decode cX3_allotAtScore 31 = .ok (.aload_n 1, 1) := by decide +kernel
theorem dX3_allotAtScore_32 : decode cX3_allotAtScore 32 = .ok (.if_acmp .ne 18, 3) := by decide +kernel
theorem dX3_allotAtScore_35 : decode cX3_allotAtScore 35 = .ok (.aload 4, 2) := by decide +kernel
theorem dX3_allotAtScore_37 : decode cX3_allotAtScore 37 = .ok (.getfield 233, 3) := by decide +kernel
theorem dX3_allotAtScore_40 : decode cX3_allotAtScore 40 = .ok (.iload_n 2, 1) := by decide +kernel
theorem dX3_allotAtScore_41 : decode cX3_allotAtScore 41 = .ok (.if_icmp .ne 9, 3) := by decide +kernel
theorem dX3_allotAtScore_44 : decode cX3_allotAtScore 44 = .ok (.aload_n 1, 1) := by decide +kernel
theorem dX3_allotAtScore_45 : decode cX3_allotAtScore 45 = .ok (.aload 4, 2) := by decide +kernel
theorem dX3_allotAtScore_47 : decode cX3_allotAtScore 47 = .ok (.invokevirtual 242, 3) := by decide +kernel
theorem dX3_allotAtScore_50 : decode cX3_allotAtScore 50 = .ok (.iinc 3 1, 3) := by decide +kernel
theorem dX3_allotAtScore_53 : decode cX3_allotAtScore 53 = .ok (.goto (-51), 3) := by decide +kernel
theorem dX3_allotAtScore_56 : decode cX3_allotAtScore 56 = .ok (.return_, 1) := by decide +kernel
theorem dX3_countCold_0 : decode cX3_countCold 0 = .ok (.iconst 0, 1) := by decide +kernel
theorem dX3_countCold_1 : decode cX3_countCold 1 = .ok (.istore_n 1, 1) := by decide +kernel
theorem dX3_countCold_2 : decode cX3_countCold 2 = .ok (.iconst 0, 1) := by decide +kernel
theorem dX3_countCold_3 : decode cX3_countCold 3 = .ok (.istore_n 2, 1) := by decide +kernel
theorem dX3_countCold_4 : decode cX3_countCold 4 = .ok (.iload_n 2, 1) := by decide +kernel
theorem dX3_countCold_5 : decode cX3_countCold 5 = .ok (.aload_n 0, 1) := by decide +kernel
theorem dX3_countCold_6 : decode cX3_countCold 6 = .ok (.getfield 16, 3) := by decide +kernel
theorem dX3_countCold_9 : decode cX3_countCold 9 = .ok (.invokevirtual 43, 3) := by decide +kernel
theorem dX3_countCold_12 : decode cX3_countCold 12 = .ok (.if_icmp .ge 29, 3) := by decide +kernel
theorem dX3_countCold_15 : decode cX3_countCold 15 = .ok (.aload_n 0, 1) := by decide +kernel
theorem dX3_countCold_16 : decode cX3_countCold 16 = .ok (.getfield 16, 3) := by decide +kernel
theorem dX3_countCold_19 : decode cX3_countCold 19 = .ok (.iload_n 2, 1) := by decide +kernel
theorem dX3_countCold_20 : decode cX3_countCold 20 = .ok (.invokevirtual 224, 3) := by decide +kernel
theorem dX3_countCold_23 : decode cX3_countCold 23 = .ok (.checkcast 86, 3) := by decide +kernel
theorem dX3_countCold_26 : decode cX3_countCold 26 = .ok (.invokevirtual 140, 3) := by decide +kernel
theorem dX3_countCold_29 : decode cX3_countCold 29 = .ok (.ifCond .eq 6, 3) := by decide +kernel
theorem dX3_countCold_32 : decode cX3_countCold 32 = .ok (.iinc 1 1, 3) := by decide +kernel
theorem dX3_countCold_35 : decode cX3_countCold 35 = .ok (.iinc 2 1, 3) := by decide +kernel
theorem dX3_countCold_38 : decode cX3_countCold 38 = .ok (.goto (-34), 3) := by decide +kernel
theorem dX3_countCold_41 : decode cX3_countCold 41 = .ok (.iload_n 1, 1) := by decide +kernel
theorem dX3_countCold_42 : decode cX3_countCold 42 = .ok (.ireturn, 1) := by decide +kernel
theorem dX3_owedTo_0 : decode cX3_owedTo 0 = .ok (.iconst 0, 1) := by decide +kernel
theorem dX3_owedTo_1 : decode cX3_owedTo 1 = .ok (.istore_n 2, 1) := by decide +kernel
theorem dX3_owedTo_2 : decode cX3_owedTo 2 = .ok (.iconst 0, 1) := by decide +kernel
theorem dX3_owedTo_3 : decode cX3_owedTo 3 = .ok (.istore_n 3, 1) := by decide +kernel
theorem dX3_owedTo_4 : decode cX3_owedTo 4 = .ok (.iload_n 3, 1) := by decide +kernel
theorem dX3_owedTo_5 : decode cX3_owedTo 5 = .ok (.aload_n 0, 1) := by decide +kernel
theorem dX3_owedTo_6 : decode cX3_owedTo 6 = .ok (.getfield 16, 3) := by decide +kernel
theorem dX3_owedTo_9 : decode cX3_owedTo 9 = .ok (.invokevirtual 43, 3) := by decide +kernel
theorem dX3_owedTo_12 : decode cX3_owedTo 12 = .ok (.if_icmp .ge 39, 3) := by decide +kernel
theorem dX3_owedTo_15 : decode cX3_owedTo 15 = .ok (.aload_n 0, 1) := by decide +kernel
theorem dX3_owedTo_16 : decode cX3_owedTo 16 = .ok (.getfield 16, 3) := by decide +kernel
theorem dX3_owedTo_19 : decode cX3_owedTo 19 = .ok (.iload_n 3, 1) := by decide +kernel
theorem dX3_owedTo_20 : decode cX3_owedTo 20 = .ok (.invokevirtual 224, 3) := by decide +kernel
theorem dX3_owedTo_23 : decode cX3_owedTo 23 = .ok (.checkcast 86, 3) := by decide +kernel
theorem dX3_owedTo_26 : decode cX3_owedTo 26 = .ok (.astore 4, 2) := by decide +kernel
theorem dX3_owedTo_28 : decode cX3_owedTo 28 = .ok (.aload 4, 2) := by decide +kernel
theorem dX3_owedTo_30 : decode cX3_owedTo 30 = .ok (.getfield 246, 3) := by decide +kernel
theorem dX3_owedTo_33 : decode cX3_owedTo 33 = .ok (.iload_n 1, 1) := by decide +kernel
theorem dX3_owedTo_34 : decode cX3_owedTo 34 = .ok (.if_icmp .ne 11, 3) := by decide +kernel
theorem dX3_owedTo_37 : decode cX3_owedTo 37 = .ok (.iload_n 2, 1) := by decide +kernel
theorem dX3_owedTo_38 : decode cX3_owedTo 38 = .ok (.aload 4, 2) := by decide +kernel
theorem dX3_owedTo_40 : decode cX3_owedTo 40 = .ok (.getfield 214, 3) := by decide +kernel
theorem dX3_owedTo_43 : decode cX3_owedTo 43 = .ok (.iadd, 1) := by decide +kernel
theorem dX3_owedTo_44 : decode cX3_owedTo 44 = .ok (.istore_n 2, 1) := by decide +kernel
theorem dX3_owedTo_45 : decode cX3_owedTo 45 = .ok (.iinc 3 1, 3) := by decide +kernel
theorem dX3_owedTo_48 : decode cX3_owedTo 48 = .ok (.goto (-44), 3) := by decide +kernel
theorem dX3_owedTo_51 : decode cX3_owedTo 51 = .ok (.iload_n 2, 1) := by decide +kernel
theorem dX3_owedTo_52 : decode cX3_owedTo 52 = .ok (.ireturn, 1) := by decide +kernel
theorem dX3_leftKept_0 : decode cX3_leftKept 0 = .ok (.aload_n 0, 1) := by decide +kernel
theorem dX3_leftKept_1 : decode cX3_leftKept 1 = .ok (.getfield 183, 3) := by decide +kernel
theorem dX3_leftKept_4 : decode cX3_leftKept 4 = .ok (.getfield 100, 3) := by decide +kernel
theorem dX3_leftKept_7 : decode cX3_leftKept 7 = .ok (.aload_n 0, 1) := by decide +kernel
theorem dX3_leftKept_8 : decode cX3_leftKept 8 = .ok (.getfield 193, 3) := by decide +kernel
theorem dX3_leftKept_11 : decode cX3_leftKept 11 = .ok (.invokevirtual 196, 3) := by decide +kernel
theorem dX3_leftKept_14 : decode cX3_leftKept 14 = .ok (.ireturn, 1) := by decide +kernel
theorem dX3_isMarked_0 : decode cX3_isMarked 0 = .ok (.iload_n 1, 1) := by decide +kernel
theorem dX3_isMarked_1 : decode cX3_isMarked 1 = .ok (.ifCond .lt 19, 3) := by decide +kernel
theorem dX3_isMarked_4 : decode cX3_isMarked 4 = .ok (.iload_n 1, 1) := by decide +kernel
theorem dX3_isMarked_5 : decode cX3_isMarked 5 = .ok (.aload_n 0, 1) := by decide +kernel
theorem dX3_isMarked_6 : decode cX3_isMarked 6 = .ok (.arraylength, 1) := by decide +kernel
theorem dX3_isMarked_7 : decode cX3_isMarked 7 = .ok (.if_icmp .ge 13, 3) := by decide +kernel
theorem dX3_isMarked_10 : decode cX3_isMarked 10 = .ok (.aload_n 0, 1) := by decide +kernel
theorem dX3_isMarked_11 : decode cX3_isMarked 11 = .ok (.iload_n 1, 1) := by decide +kernel
theorem dX3_isMarked_12 : decode cX3_isMarked 12 = .ok (.baload, 1) := by decide +kernel
theorem dX3_isMarked_13 : decode cX3_isMarked 13 = .ok (.ifCond .eq 7, 3) := by decide +kernel
theorem dX3_isMarked_16 : decode cX3_isMarked 16 = .ok (.iconst 1, 1) := by decide +kernel
theorem dX3_isMarked_17 : decode cX3_isMarked 17 = .ok (.goto 4, 3) := by decide +kernel
theorem dX3_isMarked_20 : decode cX3_isMarked 20 = .ok (.iconst 0, 1) := by decide +kernel
theorem dX3_isMarked_21 : decode cX3_isMarked 21 = .ok (.ireturn, 1) := by decide +kernel
theorem dX3_reasonAt_0 : decode cX3_reasonAt 0 = .ok (.aload_n 1, 1) := by decide +kernel
theorem dX3_reasonAt_1 : decode cX3_reasonAt 1 = .ok (.invokevirtual 151, 3) := by decide +kernel
theorem dX3_reasonAt_4 : decode cX3_reasonAt 4 = .ok (.astore_n 2, 1) := by decide +kernel
theorem dX3_reasonAt_5 : decode cX3_reasonAt 5 = .ok (.aload_n 2, 1) := by decide +kernel
theorem dX3_reasonAt_6 : decode cX3_reasonAt 6 = .ok (.ifnonnull 6, 3) := by decide +kernel
theorem dX3_reasonAt_9 : decode cX3_reasonAt 9 = .ok (.bipush 113, 2) := by decide +kernel
theorem dX3_reasonAt_11 : decode cX3_reasonAt 11 = .ok (.ireturn, 1) := by decide +kernel
theorem dX3_reasonAt_12 : decode cX3_reasonAt 12 = .ok (.aload_n 1, 1) := by decide +kernel
theorem dX3_reasonAt_13 : decode cX3_reasonAt 13 = .ok (.getfield 164, 3) := by decide +kernel
theorem dX3_reasonAt_16 : decode cX3_reasonAt 16 = .ok (.ifCond .eq 6, 3) := by decide +kernel
theorem dX3_reasonAt_19 : decode cX3_reasonAt 19 = .ok (.bipush 102, 2) := by decide +kernel
theorem dX3_reasonAt_21 : decode cX3_reasonAt 21 = .ok (.ireturn, 1) := by decide +kernel
theorem dX3_reasonAt_22 : decode cX3_reasonAt 22 = .ok (.aload_n 0, 1) := by decide +kernel
theorem dX3_reasonAt_23 : decode cX3_reasonAt 23 = .ok (.getfield 19, 3) := by decide +kernel
theorem dX3_reasonAt_26 : decode cX3_reasonAt 26 = .ok (.aload_n 2, 1) := by decide +kernel
theorem dX3_reasonAt_27 : decode cX3_reasonAt 27 = .ok (.getfield 246, 3) := by decide +kernel
theorem dX3_reasonAt_30 : decode cX3_reasonAt 30 = .ok (.invokestatic 249, 3) := by decide +kernel
theorem dX3_reasonAt_33 : decode cX3_reasonAt 33 = .ok (.ifCond .ne 6, 3) := by decide +kernel
theorem dX3_reasonAt_36 : decode cX3_reasonAt 36 = .ok (.bipush 116, 2) := by decide +kernel
theorem dX3_reasonAt_38 : decode cX3_reasonAt 38 = .ok (.ireturn, 1) := by decide +kernel
theorem dX3_reasonAt_39 : decode cX3_reasonAt 39 = .ok (.aload_n 0, 1) := by decide +kernel
theorem dX3_reasonAt_40 : decode cX3_reasonAt 40 = .ok (.getfield 23, 3) := by decide +kernel
theorem dX3_reasonAt_43 : decode cX3_reasonAt 43 = .ok (.aload_n 2, 1) := by decide +kernel
theorem dX3_reasonAt_44 : decode cX3_reasonAt 44 = .ok (.getfield 246, 3) := by decide +kernel
theorem dX3_reasonAt_47 : decode cX3_reasonAt 47 = .ok (.invokestatic 249, 3) := by decide +kernel
theorem dX3_reasonAt_50 : decode cX3_reasonAt 50 = .ok (.ifCond .ne 6, 3) := by decide +kernel
theorem dX3_reasonAt_53 : decode cX3_reasonAt 53 = .ok (.bipush 112, 2) := by decide +kernel
theorem dX3_reasonAt_55 : decode cX3_reasonAt 55 = .ok (.ireturn, 1) := by decide +kernel
theorem dX3_reasonAt_56 : decode cX3_reasonAt 56 = .ok (.aload_n 2, 1) := by decide +kernel
theorem dX3_reasonAt_57 : decode cX3_reasonAt 57 = .ok (.invokevirtual 253, 3) := by decide +kernel
theorem dX3_reasonAt_60 : decode cX3_reasonAt 60 = .ok (.ifCond .ne 6, 3) := by decide +kernel
theorem dX3_reasonAt_63 : decode cX3_reasonAt 63 = .ok (.bipush 115, 2) := by decide +kernel
theorem dX3_reasonAt_65 : decode cX3_reasonAt 65 = .ok (.ireturn, 1) := by decide +kernel
theorem dX3_reasonAt_66 : decode cX3_reasonAt 66 = .ok (.aload_n 2, 1) := by decide +kernel
theorem dX3_reasonAt_67 : decode cX3_reasonAt 67 = .ok (.getfield 256, 3) := by decide +kernel
theorem dX3_reasonAt_70 : decode cX3_reasonAt 70 = .ok (.aload_n 1, 1) := by decide +kernel
theorem dX3_reasonAt_71 : decode cX3_reasonAt 71 = .ok (.getfield 259, 3) := by decide +kernel
theorem dX3_reasonAt_74 : decode cX3_reasonAt 74 = .ok (.aload_n 1, 1) := by decide +kernel
theorem dX3_reasonAt_75 : decode cX3_reasonAt 75 = .ok (.getfield 176, 3) := by decide +kernel
theorem dX3_reasonAt_78 : decode cX3_reasonAt 78 = .ok (.isub, 1) := by decide +kernel
theorem dX3_reasonAt_79 : decode cX3_reasonAt 79 = .ok (.if_icmp .le 6, 3) := by decide +kernel
theorem dX3_reasonAt_82 : decode cX3_reasonAt 82 = .ok (.bipush 100, 2) := by decide +kernel
theorem dX3_reasonAt_84 : decode cX3_reasonAt 84 = .ok (.ireturn, 1) := by decide +kernel
theorem dX3_reasonAt_85 : decode cX3_reasonAt 85 = .ok (.bipush 45, 2) := by decide +kernel
theorem dX3_reasonAt_87 : decode cX3_reasonAt 87 = .ok (.ireturn, 1) := by decide +kernel
theorem dX3_kindFor_0 : decode cX3_kindFor 0 = .ok (.iload_n 0, 1) := by decide +kernel
theorem dX3_kindFor_1 : decode cX3_kindFor 1 = .ok (.bipush 45, 2) := by decide +kernel
theorem dX3_kindFor_3 : decode cX3_kindFor 3 = .ok (.if_icmp .ne 6, 3) := by decide +kernel
theorem dX3_kindFor_6 : decode cX3_kindFor 6 = .ok (.bipush 100, 2) := by decide +kernel
theorem dX3_kindFor_8 : decode cX3_kindFor 8 = .ok (.ireturn, 1) := by decide +kernel
theorem dX3_kindFor_9 : decode cX3_kindFor 9 = .ok (.iload_n 0, 1) := by decide +kernel
theorem dX3_kindFor_10 : decode cX3_kindFor 10 = .ok (.bipush 113, 2) := by decide +kernel
theorem dX3_kindFor_12 : decode cX3_kindFor 12 = .ok (.if_icmp .ne 6, 3) := by decide +kernel
theorem dX3_kindFor_15 : decode cX3_kindFor 15 = .ok (.bipush 105, 2) := by decide +kernel
theorem dX3_kindFor_17 : decode cX3_kindFor 17 = .ok (.ireturn, 1) := by decide +kernel
theorem dX3_kindFor_18 : decode cX3_kindFor 18 = .ok (.iload_n 0, 1) := by decide +kernel
theorem dX3_kindFor_19 : decode cX3_kindFor 19 = .ok (.bipush 102, 2) := by decide +kernel
theorem dX3_kindFor_21 : decode cX3_kindFor 21 = .ok (.if_icmp .ne 6, 3) := by decide +kernel
theorem dX3_kindFor_24 : decode cX3_kindFor 24 = .ok (.bipush 108, 2) := by decide +kernel
theorem dX3_kindFor_26 : decode cX3_kindFor 26 = .ok (.ireturn, 1) := by decide +kernel
theorem dX3_kindFor_27 : decode cX3_kindFor 27 = .ok (.bipush 109, 2) := by decide +kernel
theorem dX3_kindFor_29 : decode cX3_kindFor 29 = .ok (.ireturn, 1) := by decide +kernel
theorem dX3_passOne_0 : decode cX3_passOne 0 = .ok (.iconst 0, 1) := by decide +kernel
theorem dX3_passOne_1 : decode cX3_passOne 1 = .ok (.istore_n 1, 1) := by decide +kernel
theorem dX3_passOne_2 : decode cX3_passOne 2 = .ok (.iconst 0, 1) := by decide +kernel
theorem dX3_passOne_3 : decode cX3_passOne 3 = .ok (.istore_n 2, 1) := by decide +kernel
theorem dX3_passOne_4 : decode cX3_passOne 4 = .ok (.iload_n 2, 1) := by decide +kernel
theorem dX3_passOne_5 : decode cX3_passOne 5 = .ok (.aload_n 0, 1) := by decide +kernel
theorem dX3_passOne_6 : decode cX3_passOne 6 = .ok (.getfield 10, 3) := by decide +kernel
theorem dX3_passOne_9 : decode cX3_passOne 9 = .ok (.invokevirtual 43, 3) := by decide +kernel
theorem dX3_passOne_12 : decode cX3_passOne 12 = .ok (.if_icmp .ge 47, 3) := by decide +kernel
theorem dX3_passOne_15 : decode cX3_passOne 15 = .ok (.aload_n 0, 1) := by decide +kernel
theorem dX3_passOne_16 : decode cX3_passOne 16 = .ok (.getfield 10, 3) := by decide +kernel
theorem dX3_passOne_19 : decode cX3_passOne 19 = .ok (.iload_n 2, 1) := by decide +kernel
theorem dX3_passOne_20 : decode cX3_passOne 20 = .ok (.invokevirtual 224, 3) := by decide +kernel
theorem dX3_passOne_23 : decode cX3_passOne 23 = .ok (.checkcast 52, 3) := by decide +kernel
theorem dX3_passOne_26 : decode cX3_passOne 26 = .ok (.astore_n 3, 1) := by decide +kernel
theorem dX3_passOne_27 : decode cX3_passOne 27 = .ok (.aload_n 0, 1) := by decide +kernel
theorem dX3_passOne_28 : decode cX3_passOne 28 = .ok (.aload_n 3, 1) := by decide +kernel
theorem dX3_passOne_29 : decode cX3_passOne 29 = .ok (.invokevirtual 160, 3) := by decide +kernel
theorem dX3_passOne_32 : decode cX3_passOne 32 = .ok (.invokestatic 262, 3) := by decide +kernel
theorem dX3_passOne_35 : decode cX3_passOne 35 = .ok (.istore 4, 2) := by decide +kernel
theorem dX3_passOne_37 : decode cX3_passOne 37 = .ok (.aload_n 3, 1) := by decide +kernel
theorem dX3_passOne_38 : decode cX3_passOne 38 = .ok (.iload 4, 2) := by decide +kernel
theorem dX3_passOne_40 : decode cX3_passOne 40 = .ok (.invokevirtual 266, 3) := by decide +kernel
theorem dX3_passOne_43 : decode cX3_passOne 43 = .ok (.iload 4, 2) := by decide +kernel
theorem dX3_passOne_45 : decode cX3_passOne 45 = .ok (.bipush 100, 2) := by decide +kernel
theorem dX3_passOne_47 : decode cX3_passOne 47 = .ok (.if_icmp .ne 6, 3) := by decide +kernel
theorem dX3_passOne_50 : decode cX3_passOne 50 = .ok (.iinc 1 1, 3) := by decide +kernel
theorem dX3_passOne_53 : decode cX3_passOne 53 = .ok (.iinc 2 1, 3) := by decide +kernel
theorem dX3_passOne_56 : decode cX3_passOne 56 = .ok (.goto (-52), 3) := by decide +kernel
theorem dX3_passOne_59 : decode cX3_passOne 59 = .ok (.iconst 0, 1) := by decide +kernel
theorem dX3_passOne_60 : decode cX3_passOne 60 = .ok (.istore_n 2, 1) := by decide +kernel
theorem dX3_passOne_61 : decode cX3_passOne 61 = .ok (.iload_n 2, 1) := by decide +kernel
theorem dX3_passOne_62 : decode cX3_passOne 62 = .ok (.aload_n 0, 1) := by decide +kernel
theorem dX3_passOne_63 : decode cX3_passOne 63 = .ok (.getfield 16, 3) := by decide +kernel
theorem dX3_passOne_66 : decode cX3_passOne 66 = .ok (.invokevirtual 43, 3) := by decide +kernel
theorem dX3_passOne_69 : decode cX3_passOne 69 = .ok (.if_icmp .ge 23, 3) := by decide +kernel
theorem dX3_passOne_72 : decode cX3_passOne 72 = .ok (.aload_n 0, 1) := by decide +kernel
theorem dX3_passOne_73 : decode cX3_passOne 73 = .ok (.getfield 16, 3) := by decide +kernel
theorem dX3_passOne_76 : decode cX3_passOne 76 = .ok (.iload_n 2, 1) := by decide +kernel
theorem dX3_passOne_77 : decode cX3_passOne 77 = .ok (.invokevirtual 224, 3) := by decide +kernel
theorem dX3_passOne_80 : decode cX3_passOne 80 = .ok (.checkcast 86, 3) := by decide +kernel
theorem dX3_passOne_83 : decode cX3_passOne 83 = .ok (.invokevirtual 270, 3) := by decide +kernel
theorem dX3_passOne_86 : decode cX3_passOne 86 = .ok (.iinc 2 1, 3) := by decide +kernel
theorem dX3_passOne_89 : decode cX3_passOne 89 = .ok (.goto (-28), 3) := by decide +kernel
theorem dX3_passOne_92 : decode cX3_passOne 92 = .ok (.aload_n 0, 1) := by decide +kernel
theorem dX3_passOne_93 : decode cX3_passOne 93 = .ok (.dup, 1) := by decide +kernel
theorem dX3_passOne_94 : decode cX3_passOne 94 = .ok (.getfield 26, 3) := by decide +kernel
theorem dX3_passOne_97 : decode cX3_passOne 97 = .ok (.iconst 1, 1) := by decide +kernel
theorem dX3_passOne_98 : decode cX3_passOne 98 = .ok (.iadd, 1) := by decide +kernel
theorem dX3_passOne_99 : decode cX3_passOne 99 = .ok (.putfield 26, 3) := by decide +kernel
theorem dX3_passOne_102 : decode cX3_passOne 102 = .ok (.iload_n 1, 1) := by decide +kernel
theorem dX3_passOne_103 : decode cX3_passOne 103 = .ok (.ireturn, 1) := by decide +kernel
theorem dJx00060_init_a7421_0 : decode cJx00060_init_a7421 0 = .ok (.aload_n 0, 1) := by decide +kernel
theorem dJx00060_init_a7421_1 : decode cJx00060_init_a7421 1 = .ok (.aload_n 1, 1) := by decide +kernel
theorem dJx00060_init_a7421_2 : decode cJx00060_init_a7421 2 = .ok (.invokespecial 7, 3) := by decide +kernel
theorem dJx00060_init_a7421_5 : decode cJx00060_init_a7421 5 = .ok (.return_, 1) := by decide +kernel
theorem dJ9_max_7cf53_0 : decode cJ9_max_7cf53 0 = .ok (.iload_n 0, 1) := by decide +kernel
theorem dJ9_max_7cf53_1 : decode cJ9_max_7cf53 1 = .ok (.iload_n 1, 1) := by decide +kernel
theorem dJ9_max_7cf53_2 : decode cJ9_max_7cf53 2 = .ok (.if_icmp .lt 7, 3) := by decide +kernel
theorem dJ9_max_7cf53_5 : decode cJ9_max_7cf53 5 = .ok (.iload_n 0, 1) := by decide +kernel
theorem dJ9_max_7cf53_6 : decode cJ9_max_7cf53 6 = .ok (.goto 4, 3) := by decide +kernel
theorem dJ9_max_7cf53_9 : decode cJ9_max_7cf53 9 = .ok (.iload_n 1, 1) := by decide +kernel
theorem dJ9_max_7cf53_10 : decode cJ9_max_7cf53 10 = .ok (.ireturn, 1) := by decide +kernel
theorem dJ9_min_7cf53_0 : decode cJ9_min_7cf53 0 = .ok (.iload_n 0, 1) := by decide +kernel
theorem dJ9_min_7cf53_1 : decode cJ9_min_7cf53 1 = .ok (.iload_n 1, 1) := by decide +kernel
theorem dJ9_min_7cf53_2 : decode cJ9_min_7cf53 2 = .ok (.if_icmp .gt 7, 3) := by decide +kernel
theorem dJ9_min_7cf53_5 : decode cJ9_min_7cf53 5 = .ok (.iload_n 0, 1) := by decide +kernel
theorem dJ9_min_7cf53_6 : decode cJ9_min_7cf53 6 = .ok (.goto 4, 3) := by decide +kernel
theorem dJ9_min_7cf53_9 : decode cJ9_min_7cf53 9 = .ok (.iload_n 1, 1) := by decide +kernel
theorem dJ9_min_7cf53_10 : decode cJ9_min_7cf53 10 = .ok (.ireturn, 1) := by decide +kernel
theorem dJxa1e45_init_da8c8_0 : decode cJxa1e45_init_da8c8 0 = .ok (.aload_n 0, 1) := by decide +kernel
theorem dJxa1e45_init_da8c8_1 : decode cJxa1e45_init_da8c8 1 = .ok (.invokespecial 1, 3) := by decide +kernel
theorem dJxa1e45_init_da8c8_4 : decode cJxa1e45_init_da8c8 4 = .ok (.return_, 1) := by decide +kernel
theorem dJxc12de_init_da8c8_0 : decode cJxc12de_init_da8c8 0 = .ok (.aload_n 0, 1) := by decide +kernel
theorem dJxc12de_init_da8c8_1 : decode cJxc12de_init_da8c8 1 = .ok (.invokespecial 1, 3) := by decide +kernel
theorem dJxc12de_init_da8c8_4 : decode cJxc12de_init_da8c8 4 = .ok (.aload_n 0, 1) := by decide +kernel
theorem dJxc12de_init_da8c8_5 : decode cJxc12de_init_da8c8 5 = .ok (.iconst 0, 1) := by decide +kernel
theorem dJxc12de_init_da8c8_6 : decode cJxc12de_init_da8c8 6 = .ok (.putfield 7, 3) := by decide +kernel
theorem dJxc12de_init_da8c8_9 : decode cJxc12de_init_da8c8 9 = .ok (.return_, 1) := by decide +kernel
theorem dJx4a65c_init_da8c8_0 : decode cJx4a65c_init_da8c8 0 = .ok (.aload_n 0, 1) := by decide +kernel
theorem dJx4a65c_init_da8c8_1 : decode cJx4a65c_init_da8c8 1 = .ok (.invokespecial 1, 3) := by decide +kernel
theorem dJx4a65c_init_da8c8_4 : decode cJx4a65c_init_da8c8 4 = .ok (.aload_n 0, 1) := by decide +kernel
theorem dJx4a65c_init_da8c8_5 : decode cJx4a65c_init_da8c8 5 = .ok (.getstatic 39, 3) := by decide +kernel
theorem dJx4a65c_init_da8c8_8 : decode cJx4a65c_init_da8c8 8 = .ok (.putfield 9, 3) := by decide +kernel
theorem dJx4a65c_init_da8c8_11 : decode cJx4a65c_init_da8c8 11 = .ok (.return_, 1) := by decide +kernel
theorem dJx4a65c_grow_92f84_0 : decode cJx4a65c_grow_92f84 0 = .ok (.aload_n 0, 1) := by decide +kernel
theorem dJx4a65c_grow_92f84_1 : decode cJx4a65c_grow_92f84 1 = .ok (.getfield 9, 3) := by decide +kernel
theorem dJx4a65c_grow_92f84_4 : decode cJx4a65c_grow_92f84 4 = .ok (.arraylength, 1) := by decide +kernel
theorem dJx4a65c_grow_92f84_5 : decode cJx4a65c_grow_92f84 5 = .ok (.istore_n 2, 1) := by decide +kernel
theorem dJx4a65c_grow_92f84_6 : decode cJx4a65c_grow_92f84 6 = .ok (.iload_n 2, 1) := by decide +kernel
theorem dJx4a65c_grow_92f84_7 : decode cJx4a65c_grow_92f84 7 = .ok (.ifCond .gt 13, 3) := by decide +kernel
theorem dJx4a65c_grow_92f84_10 : decode cJx4a65c_grow_92f84 10 = .ok (.aload_n 0, 1) := by decide +kernel
theorem dJx4a65c_grow_92f84_11 : decode cJx4a65c_grow_92f84 11 = .ok (.getfield 9, 3) := by decide +kernel
theorem dJx4a65c_grow_92f84_14 : decode cJx4a65c_grow_92f84 14 = .ok (.getstatic 39, 3) := by decide +kernel
theorem dJx4a65c_grow_92f84_17 : decode cJx4a65c_grow_92f84 17 = .ok (.if_acmp .eq 28, 3) := by decide +kernel
theorem dJx4a65c_grow_92f84_20 : decode cJx4a65c_grow_92f84 20 = .ok (.iload_n 2, 1) := by decide +kernel
theorem dJx4a65c_grow_92f84_21 : decode cJx4a65c_grow_92f84 21 = .ok (.iload_n 1, 1) := by decide +kernel
theorem dJx4a65c_grow_92f84_22 : decode cJx4a65c_grow_92f84 22 = .ok (.iload_n 2, 1) := by decide +kernel
theorem dJx4a65c_grow_92f84_23 : decode cJx4a65c_grow_92f84 23 = .ok (.isub, 1) := by decide +kernel
theorem dJx4a65c_grow_92f84_24 : decode cJx4a65c_grow_92f84 24 = .ok (.iload_n 2, 1) := by decide +kernel
theorem dJx4a65c_grow_92f84_25 : decode cJx4a65c_grow_92f84 25 = .ok (.iconst 1, 1) := by decide +kernel
theorem dJx4a65c_grow_92f84_26 : decode cJx4a65c_grow_92f84 26 = .ok (.ishr, 1) := by decide +kernel
theorem dJx4a65c_grow_92f84_27 : decode cJx4a65c_grow_92f84 27 = .ok (.invokestatic 73, 3) := by decide +kernel
theorem dJx4a65c_grow_92f84_30 : decode cJx4a65c_grow_92f84 30 = .ok (.istore_n 3, 1) := by decide +kernel
theorem dJx4a65c_grow_92f84_31 : decode cJx4a65c_grow_92f84 31 = .ok (.aload_n 0, 1) := by decide +kernel
theorem dJx4a65c_grow_92f84_32 : decode cJx4a65c_grow_92f84 32 = .ok (.aload_n 0, 1) := by decide +kernel
theorem dJx4a65c_grow_92f84_33 : decode cJx4a65c_grow_92f84 33 = .ok (.getfield 9, 3) := by decide +kernel
theorem dJx4a65c_grow_92f84_36 : decode cJx4a65c_grow_92f84 36 = .ok (.iload_n 3, 1) := by decide +kernel
theorem dJx4a65c_grow_92f84_37 : decode cJx4a65c_grow_92f84 37 = .ok (.invokestatic 66, 3) := by decide +kernel
theorem dJx4a65c_grow_92f84_40 : decode cJx4a65c_grow_92f84 40 = .ok (.dup_x1, 1) := by decide +kernel
theorem dJx4a65c_grow_92f84_41 : decode cJx4a65c_grow_92f84 41 = .ok (.putfield 9, 3) := by decide +kernel
theorem dJx4a65c_grow_92f84_44 : decode cJx4a65c_grow_92f84 44 = .ok (.areturn, 1) := by decide +kernel
theorem dJx4a65c_grow_92f84_45 : decode cJx4a65c_grow_92f84 45 = .ok (.aload_n 0, 1) := by decide +kernel
theorem dJx4a65c_grow_92f84_46 : decode cJx4a65c_grow_92f84 46 = .ok (.bipush 10, 2) := by decide +kernel
theorem dJx4a65c_grow_92f84_48 : decode cJx4a65c_grow_92f84 48 = .ok (.iload_n 1, 1) := by decide +kernel
theorem dJx4a65c_grow_92f84_49 : decode cJx4a65c_grow_92f84 49 = .ok (.invokestatic 79, 3) := by decide +kernel
theorem dJx4a65c_grow_92f84_52 : decode cJx4a65c_grow_92f84 52 = .ok (.anewarray 7, 3) := by decide +kernel
theorem dJx4a65c_grow_92f84_55 : decode cJx4a65c_grow_92f84 55 = .ok (.dup_x1, 1) := by decide +kernel
theorem dJx4a65c_grow_92f84_56 : decode cJx4a65c_grow_92f84 56 = .ok (.putfield 9, 3) := by decide +kernel
theorem dJx4a65c_grow_92f84_59 : decode cJx4a65c_grow_92f84 59 = .ok (.areturn, 1) := by decide +kernel
theorem dJx4a65c_grow_d5877_0 : decode cJx4a65c_grow_d5877 0 = .ok (.aload_n 0, 1) := by decide +kernel
theorem dJx4a65c_grow_d5877_1 : decode cJx4a65c_grow_d5877 1 = .ok (.aload_n 0, 1) := by decide +kernel
theorem dJx4a65c_grow_d5877_2 : decode cJx4a65c_grow_d5877 2 = .ok (.getfield 48, 3) := by decide +kernel
theorem dJx4a65c_grow_d5877_5 : decode cJx4a65c_grow_d5877 5 = .ok (.iconst 1, 1) := by decide +kernel
theorem dJx4a65c_grow_d5877_6 : decode cJx4a65c_grow_d5877 6 = .ok (.iadd, 1) := by decide +kernel
theorem dJx4a65c_grow_d5877_7 : decode cJx4a65c_grow_d5877 7 = .ok (.invokevirtual 69, 3) := by decide +kernel
theorem dJx4a65c_grow_d5877_10 : decode cJx4a65c_grow_d5877 10 = .ok (.areturn, 1) := by decide +kernel
theorem dJx4a65c_size_8abf5_0 : decode cJx4a65c_size_8abf5 0 = .ok (.aload_n 0, 1) := by decide +kernel
theorem dJx4a65c_size_8abf5_1 : decode cJx4a65c_size_8abf5 1 = .ok (.getfield 48, 3) := by decide +kernel
theorem dJx4a65c_size_8abf5_4 : decode cJx4a65c_size_8abf5 4 = .ok (.ireturn, 1) := by decide +kernel
theorem dJx4a65c_elementData_915e3_0 : decode cJx4a65c_elementData_915e3 0 = .ok (.aload_n 0, 1) := by decide +kernel
theorem dJx4a65c_elementData_915e3_1 : decode cJx4a65c_elementData_915e3 1 = .ok (.getfield 9, 3) := by decide +kernel
theorem dJx4a65c_elementData_915e3_4 : decode cJx4a65c_elementData_915e3 4 = .ok (.iload_n 1, 1) := by decide +kernel
theorem dJx4a65c_elementData_915e3_5 : decode cJx4a65c_elementData_915e3 5 = .ok (.aaload, 1) := by decide +kernel
theorem dJx4a65c_elementData_915e3_6 : decode cJx4a65c_elementData_915e3 6 = .ok (.areturn, 1) := by decide +kernel
theorem dJx4a65c_get_915e3_0 : decode cJx4a65c_get_915e3 0 = .ok (.iload_n 1, 1) := by decide +kernel
theorem dJx4a65c_get_915e3_1 : decode cJx4a65c_get_915e3 1 = .ok (.aload_n 0, 1) := by decide +kernel
theorem dJx4a65c_get_915e3_2 : decode cJx4a65c_get_915e3 2 = .ok (.getfield 48, 3) := by decide +kernel
theorem dJx4a65c_get_915e3_5 : decode cJx4a65c_get_915e3 5 = .ok (.invokestatic 118, 3) := by decide +kernel
theorem dJx4a65c_get_915e3_8 : decode cJx4a65c_get_915e3 8 = .ok (.pop, 1) := by decide +kernel
theorem dJx4a65c_get_915e3_9 : decode cJx4a65c_get_915e3 9 = .ok (.aload_n 0, 1) := by decide +kernel
theorem dJx4a65c_get_915e3_10 : decode cJx4a65c_get_915e3 10 = .ok (.iload_n 1, 1) := by decide +kernel
theorem dJx4a65c_get_915e3_11 : decode cJx4a65c_get_915e3 11 = .ok (.invokevirtual 123, 3) := by decide +kernel
theorem dJx4a65c_get_915e3_14 : decode cJx4a65c_get_915e3 14 = .ok (.areturn, 1) := by decide +kernel
theorem dJx4a65c_add_72be8_0 : decode cJx4a65c_add_72be8 0 = .ok (.iload_n 3, 1) := by decide +kernel
theorem dJx4a65c_add_72be8_1 : decode cJx4a65c_add_72be8 1 = .ok (.aload_n 2, 1) := by decide +kernel
theorem dJx4a65c_add_72be8_2 : decode cJx4a65c_add_72be8 2 = .ok (.arraylength, 1) := by decide +kernel
theorem dJx4a65c_add_72be8_3 : decode cJx4a65c_add_72be8 3 = .ok (.if_icmp .ne 8, 3) := by decide +kernel
theorem dJx4a65c_add_72be8_6 : decode cJx4a65c_add_72be8 6 = .ok (.aload_n 0, 1) := by decide +kernel
theorem dJx4a65c_add_72be8_7 : decode cJx4a65c_add_72be8 7 = .ok (.invokevirtual 129, 3) := by decide +kernel
theorem dJx4a65c_add_72be8_10 : decode cJx4a65c_add_72be8 10 = .ok (.astore_n 2, 1) := by decide +kernel
theorem dJx4a65c_add_72be8_11 : decode cJx4a65c_add_72be8 11 = .ok (.aload_n 2, 1) := by decide +kernel
theorem dJx4a65c_add_72be8_12 : decode cJx4a65c_add_72be8 12 = .ok (.iload_n 3, 1) := by decide +kernel
theorem dJx4a65c_add_72be8_13 : decode cJx4a65c_add_72be8 13 = .ok (.aload_n 1, 1) := by decide +kernel
theorem dJx4a65c_add_72be8_14 : decode cJx4a65c_add_72be8 14 = .ok (.aastore, 1) := by decide +kernel
theorem dJx4a65c_add_72be8_15 : decode cJx4a65c_add_72be8 15 = .ok (.aload_n 0, 1) := by decide +kernel
theorem dJx4a65c_add_72be8_16 : decode cJx4a65c_add_72be8 16 = .ok (.iload_n 3, 1) := by decide +kernel
theorem dJx4a65c_add_72be8_17 : decode cJx4a65c_add_72be8 17 = .ok (.iconst 1, 1) := by decide +kernel
theorem dJx4a65c_add_72be8_18 : decode cJx4a65c_add_72be8 18 = .ok (.iadd, 1) := by decide +kernel
theorem dJx4a65c_add_72be8_19 : decode cJx4a65c_add_72be8 19 = .ok (.putfield 48, 3) := by decide +kernel
theorem dJx4a65c_add_72be8_22 : decode cJx4a65c_add_72be8 22 = .ok (.return_, 1) := by decide +kernel
theorem dJx4a65c_add_9ea2d_0 : decode cJx4a65c_add_9ea2d 0 = .ok (.aload_n 0, 1) := by decide +kernel
theorem dJx4a65c_add_9ea2d_1 : decode cJx4a65c_add_9ea2d 1 = .ok (.dup, 1) := by decide +kernel
theorem dJx4a65c_add_9ea2d_2 : decode cJx4a65c_add_9ea2d 2 = .ok (.getfield 63, 3) := by decide +kernel
theorem dJx4a65c_add_9ea2d_5 : decode cJx4a65c_add_9ea2d 5 = .ok (.iconst 1, 1) := by decide +kernel
theorem dJx4a65c_add_9ea2d_6 : decode cJx4a65c_add_9ea2d 6 = .ok (.iadd, 1) := by decide +kernel
theorem dJx4a65c_add_9ea2d_7 : decode cJx4a65c_add_9ea2d 7 = .ok (.putfield 63, 3) := by decide +kernel
theorem dJx4a65c_add_9ea2d_10 : decode cJx4a65c_add_9ea2d 10 = .ok (.aload_n 0, 1) := by decide +kernel
theorem dJx4a65c_add_9ea2d_11 : decode cJx4a65c_add_9ea2d 11 = .ok (.aload_n 1, 1) := by decide +kernel
theorem dJx4a65c_add_9ea2d_12 : decode cJx4a65c_add_9ea2d 12 = .ok (.aload_n 0, 1) := by decide +kernel
theorem dJx4a65c_add_9ea2d_13 : decode cJx4a65c_add_9ea2d 13 = .ok (.getfield 9, 3) := by decide +kernel
theorem dJx4a65c_add_9ea2d_16 : decode cJx4a65c_add_9ea2d 16 = .ok (.aload_n 0, 1) := by decide +kernel
theorem dJx4a65c_add_9ea2d_17 : decode cJx4a65c_add_9ea2d 17 = .ok (.getfield 48, 3) := by decide +kernel
theorem dJx4a65c_add_9ea2d_20 : decode cJx4a65c_add_9ea2d 20 = .ok (.invokevirtual 131, 3) := by decide +kernel
theorem dJx4a65c_add_9ea2d_23 : decode cJx4a65c_add_9ea2d 23 = .ok (.iconst 1, 1) := by decide +kernel
theorem dJx4a65c_add_9ea2d_24 : decode cJx4a65c_add_9ea2d 24 = .ok (.ireturn, 1) := by decide +kernel
theorem dJ15_checkIndex_7cf53_0 : decode cJ15_checkIndex_7cf53 0 = .ok (.iload_n 0, 1) := by decide +kernel
theorem dJ15_checkIndex_7cf53_1 : decode cJ15_checkIndex_7cf53 1 = .ok (.iload_n 1, 1) := by decide +kernel
theorem dJ15_checkIndex_7cf53_2 : decode cJ15_checkIndex_7cf53 2 = .ok (.aconst_null, 1) := by decide +kernel
theorem dJ15_checkIndex_7cf53_3 : decode cJ15_checkIndex_7cf53 3 = .ok (.invokestatic 105, 3) := by decide +kernel
theorem dJ15_checkIndex_7cf53_6 : decode cJ15_checkIndex_7cf53 6 = .ok (.ireturn, 1) := by decide +kernel
theorem dJ3_checkIndex_8e157_0 : decode cJ3_checkIndex_8e157 0 = .ok (.iload_n 0, 1) := by decide +kernel
theorem dJ3_checkIndex_8e157_1 : decode cJ3_checkIndex_8e157 1 = .ok (.ifCond .lt 8, 3) := by decide +kernel
theorem dJ3_checkIndex_8e157_4 : decode cJ3_checkIndex_8e157 4 = .ok (.iload_n 0, 1) := by decide +kernel
theorem dJ3_checkIndex_8e157_5 : decode cJ3_checkIndex_8e157 5 = .ok (.iload_n 1, 1) := by decide +kernel
theorem dJ3_checkIndex_8e157_6 : decode cJ3_checkIndex_8e157 6 = .ok (.if_icmp .lt 10, 3) := by decide +kernel
theorem dJ3_checkIndex_8e157_9 : decode cJ3_checkIndex_8e157 9 = .ok (.aload_n 2, 1) := by decide +kernel
theorem dJ3_checkIndex_8e157_10 : decode cJ3_checkIndex_8e157 10 = .ok (.iload_n 0, 1) := by decide +kernel
theorem dJ3_checkIndex_8e157_11 : decode cJ3_checkIndex_8e157 11 = .ok (.iload_n 1, 1) := by decide +kernel
theorem dJ3_checkIndex_8e157_12 : decode cJ3_checkIndex_8e157 12 = .ok (.invokestatic 95, 3) := by decide +kernel
theorem dJ3_checkIndex_8e157_15 : decode cJ3_checkIndex_8e157 15 = .ok (.athrow, 1) := by decide +kernel
theorem dJ3_checkIndex_8e157_16 : decode cJ3_checkIndex_8e157 16 = .ok (.iload_n 0, 1) := by decide +kernel
theorem dJ3_checkIndex_8e157_17 : decode cJ3_checkIndex_8e157 17 = .ok (.ireturn, 1) := by decide +kernel
theorem dL_addBeamline_0 : decode cL_addBeamline 0 = .ok (.aload_n 3, 1) := by decide +kernel
theorem dL_addBeamline_1 : decode cL_addBeamline 1 = .ok (.iconst 0, 1) := by decide +kernel
theorem dL_addBeamline_2 : decode cL_addBeamline 2 = .ok (.aload_n 0, 1) := by decide +kernel
theorem dL_addBeamline_3 : decode cL_addBeamline 3 = .ok (.iload_n 1, 1) := by decide +kernel
theorem dL_addBeamline_4 : decode cL_addBeamline 4 = .ok (.iload_n 2, 1) := by decide +kernel
theorem dL_addBeamline_5 : decode cL_addBeamline 5 = .ok (.invokevirtual 7, 3) := by decide +kernel
theorem dL_addBeamline_8 : decode cL_addBeamline 8 = .ok (.i2l, 1) := by decide +kernel
theorem dL_addBeamline_9 : decode cL_addBeamline 9 = .ok (.lastore, 1) := by decide +kernel
theorem dL_addBeamline_10 : decode cL_addBeamline 10 = .ok (.goto 11, 3) := by decide +kernel
theorem dL_addBeamline_13 : decode cL_addBeamline 13 = .ok (.astore 4, 2) := by decide +kernel
theorem dL_addBeamline_15 : decode cL_addBeamline 15 = .ok (.iconst 1, 1) := by decide +kernel
theorem dL_addBeamline_16 : decode cL_addBeamline 16 = .ok (.ireturn, 1) := by decide +kernel
theorem dL_addBeamline_17 : decode cL_addBeamline 17 = .ok (.astore 4, 2) := by decide +kernel
theorem dL_addBeamline_19 : decode cL_addBeamline 19 = .ok (.iconst 2, 1) := by decide +kernel
theorem dL_addBeamline_20 : decode cL_addBeamline 20 = .ok (.ireturn, 1) := by decide +kernel
theorem dL_addBeamline_21 : decode cL_addBeamline 21 = .ok (.iconst 0, 1) := by decide +kernel
theorem dL_addBeamline_22 : decode cL_addBeamline 22 = .ok (.ireturn, 1) := by decide +kernel
theorem dL_setRate_0 : decode cL_setRate 0 = .ok (.aload_n 3, 1) := by decide +kernel
theorem dL_setRate_1 : decode cL_setRate 1 = .ok (.iconst 0, 1) := by decide +kernel
theorem dL_setRate_2 : decode cL_setRate 2 = .ok (.aload_n 0, 1) := by decide +kernel
theorem dL_setRate_3 : decode cL_setRate 3 = .ok (.iload_n 1, 1) := by decide +kernel
theorem dL_setRate_4 : decode cL_setRate 4 = .ok (.iload_n 2, 1) := by decide +kernel
theorem dL_setRate_5 : decode cL_setRate 5 = .ok (.invokevirtual 17, 3) := by decide +kernel
theorem dL_setRate_8 : decode cL_setRate 8 = .ok (.i2l, 1) := by decide +kernel
theorem dL_setRate_9 : decode cL_setRate 9 = .ok (.lastore, 1) := by decide +kernel
theorem dL_setRate_10 : decode cL_setRate 10 = .ok (.goto 11, 3) := by decide +kernel
theorem dL_setRate_13 : decode cL_setRate 13 = .ok (.astore 4, 2) := by decide +kernel
theorem dL_setRate_15 : decode cL_setRate 15 = .ok (.iconst 1, 1) := by decide +kernel
theorem dL_setRate_16 : decode cL_setRate 16 = .ok (.ireturn, 1) := by decide +kernel
theorem dL_setRate_17 : decode cL_setRate 17 = .ok (.astore 4, 2) := by decide +kernel
theorem dL_setRate_19 : decode cL_setRate 19 = .ok (.iconst 2, 1) := by decide +kernel
theorem dL_setRate_20 : decode cL_setRate 20 = .ok (.ireturn, 1) := by decide +kernel
theorem dL_setRate_21 : decode cL_setRate 21 = .ok (.iconst 0, 1) := by decide +kernel
theorem dL_setRate_22 : decode cL_setRate 22 = .ok (.ireturn, 1) := by decide +kernel
theorem dL_propose_0 : decode cL_propose 0 = .ok (.aload 6, 2) := by decide +kernel
theorem dL_propose_2 : decode cL_propose 2 = .ok (.iconst 0, 1) := by decide +kernel
theorem dL_propose_3 : decode cL_propose 3 = .ok (.aload_n 0, 1) := by decide +kernel
theorem dL_propose_4 : decode cL_propose 4 = .ok (.iload_n 1, 1) := by decide +kernel
theorem dL_propose_5 : decode cL_propose 5 = .ok (.iload_n 2, 1) := by decide +kernel
theorem dL_propose_6 : decode cL_propose 6 = .ok (.iload_n 3, 1) := by decide +kernel
theorem dL_propose_7 : decode cL_propose 7 = .ok (.iload 4, 2) := by decide +kernel
theorem dL_propose_9 : decode cL_propose 9 = .ok (.iload 5, 2) := by decide +kernel
theorem dL_propose_11 : decode cL_propose 11 = .ok (.invokevirtual 22, 3) := by decide +kernel
theorem dL_propose_14 : decode cL_propose 14 = .ok (.i2l, 1) := by decide +kernel
theorem dL_propose_15 : decode cL_propose 15 = .ok (.lastore, 1) := by decide +kernel
theorem dL_propose_16 : decode cL_propose 16 = .ok (.goto 15, 3) := by decide +kernel
theorem dL_propose_19 : decode cL_propose 19 = .ok (.astore 7, 2) := by decide +kernel
theorem dL_propose_21 : decode cL_propose 21 = .ok (.iconst 1, 1) := by decide +kernel
theorem dL_propose_22 : decode cL_propose 22 = .ok (.ireturn, 1) := by decide +kernel
theorem dL_propose_23 : decode cL_propose 23 = .ok (.astore 7, 2) := by decide +kernel
theorem dL_propose_25 : decode cL_propose 25 = .ok (.iconst 2, 1) := by decide +kernel
theorem dL_propose_26 : decode cL_propose 26 = .ok (.ireturn, 1) := by decide +kernel
theorem dL_propose_27 : decode cL_propose 27 = .ok (.astore 7, 2) := by decide +kernel
theorem dL_propose_29 : decode cL_propose 29 = .ok (.iconst 3, 1) := by decide +kernel
theorem dL_propose_30 : decode cL_propose 30 = .ok (.ireturn, 1) := by decide +kernel
theorem dL_propose_31 : decode cL_propose 31 = .ok (.iconst 0, 1) := by decide +kernel
theorem dL_propose_32 : decode cL_propose 32 = .ok (.ireturn, 1) := by decide +kernel
theorem dL_meet_0 : decode cL_meet 0 = .ok (.aload_n 2, 1) := by decide +kernel
theorem dL_meet_1 : decode cL_meet 1 = .ok (.iconst 0, 1) := by decide +kernel
theorem dL_meet_2 : decode cL_meet 2 = .ok (.aload_n 0, 1) := by decide +kernel
theorem dL_meet_3 : decode cL_meet 3 = .ok (.iload_n 1, 1) := by decide +kernel
theorem dL_meet_4 : decode cL_meet 4 = .ok (.invokevirtual 26, 3) := by decide +kernel
theorem dL_meet_7 : decode cL_meet 7 = .ok (.i2l, 1) := by decide +kernel
theorem dL_meet_8 : decode cL_meet 8 = .ok (.lastore, 1) := by decide +kernel
theorem dL_meet_9 : decode cL_meet 9 = .ok (.goto 9, 3) := by decide +kernel
theorem dL_meet_12 : decode cL_meet 12 = .ok (.astore_n 3, 1) := by decide +kernel
theorem dL_meet_13 : decode cL_meet 13 = .ok (.iconst 1, 1) := by decide +kernel
theorem dL_meet_14 : decode cL_meet 14 = .ok (.ireturn, 1) := by decide +kernel
theorem dL_meet_15 : decode cL_meet 15 = .ok (.astore_n 3, 1) := by decide +kernel
theorem dL_meet_16 : decode cL_meet 16 = .ok (.iconst 2, 1) := by decide +kernel
theorem dL_meet_17 : decode cL_meet 17 = .ok (.ireturn, 1) := by decide +kernel
theorem dL_meet_18 : decode cL_meet 18 = .ok (.iconst 0, 1) := by decide +kernel
theorem dL_meet_19 : decode cL_meet 19 = .ok (.ireturn, 1) := by decide +kernel
theorem dL_reserve_0 : decode cL_reserve 0 = .ok (.aload_n 2, 1) := by decide +kernel
theorem dL_reserve_1 : decode cL_reserve 1 = .ok (.iconst 0, 1) := by decide +kernel
theorem dL_reserve_2 : decode cL_reserve 2 = .ok (.aload_n 0, 1) := by decide +kernel
theorem dL_reserve_3 : decode cL_reserve 3 = .ok (.iload_n 1, 1) := by decide +kernel
theorem dL_reserve_4 : decode cL_reserve 4 = .ok (.invokevirtual 30, 3) := by decide +kernel
theorem dL_reserve_7 : decode cL_reserve 7 = .ok (.i2l, 1) := by decide +kernel
theorem dL_reserve_8 : decode cL_reserve 8 = .ok (.lastore, 1) := by decide +kernel
theorem dL_reserve_9 : decode cL_reserve 9 = .ok (.goto 9, 3) := by decide +kernel
theorem dL_reserve_12 : decode cL_reserve 12 = .ok (.astore_n 3, 1) := by decide +kernel
theorem dL_reserve_13 : decode cL_reserve 13 = .ok (.iconst 1, 1) := by decide +kernel
theorem dL_reserve_14 : decode cL_reserve 14 = .ok (.ireturn, 1) := by decide +kernel
theorem dL_reserve_15 : decode cL_reserve 15 = .ok (.astore_n 3, 1) := by decide +kernel
theorem dL_reserve_16 : decode cL_reserve 16 = .ok (.iconst 2, 1) := by decide +kernel
theorem dL_reserve_17 : decode cL_reserve 17 = .ok (.ireturn, 1) := by decide +kernel
theorem dL_reserve_18 : decode cL_reserve 18 = .ok (.iconst 0, 1) := by decide +kernel
theorem dL_reserve_19 : decode cL_reserve 19 = .ok (.ireturn, 1) := by decide +kernel
theorem dL_train_0 : decode cL_train 0 = .ok (.aload_n 2, 1) := by decide +kernel
theorem dL_train_1 : decode cL_train 1 = .ok (.iconst 0, 1) := by decide +kernel
theorem dL_train_2 : decode cL_train 2 = .ok (.aload_n 0, 1) := by decide +kernel
theorem dL_train_3 : decode cL_train 3 = .ok (.iload_n 1, 1) := by decide +kernel
theorem dL_train_4 : decode cL_train 4 = .ok (.invokevirtual 33, 3) := by decide +kernel
theorem dL_train_7 : decode cL_train 7 = .ok (.i2l, 1) := by decide +kernel
theorem dL_train_8 : decode cL_train 8 = .ok (.lastore, 1) := by decide +kernel
theorem dL_train_9 : decode cL_train 9 = .ok (.goto 9, 3) := by decide +kernel
theorem dL_train_12 : decode cL_train 12 = .ok (.astore_n 3, 1) := by decide +kernel
theorem dL_train_13 : decode cL_train 13 = .ok (.iconst 1, 1) := by decide +kernel
theorem dL_train_14 : decode cL_train 14 = .ok (.ireturn, 1) := by decide +kernel
theorem dL_train_15 : decode cL_train 15 = .ok (.astore_n 3, 1) := by decide +kernel
theorem dL_train_16 : decode cL_train 16 = .ok (.iconst 2, 1) := by decide +kernel
theorem dL_train_17 : decode cL_train 17 = .ok (.ireturn, 1) := by decide +kernel
theorem dL_train_18 : decode cL_train 18 = .ok (.iconst 0, 1) := by decide +kernel
theorem dL_train_19 : decode cL_train 19 = .ok (.ireturn, 1) := by decide +kernel
theorem dL_setThere_0 : decode cL_setThere 0 = .ok (.aload_n 3, 1) := by decide +kernel
theorem dL_setThere_1 : decode cL_setThere 1 = .ok (.iconst 0, 1) := by decide +kernel
theorem dL_setThere_2 : decode cL_setThere 2 = .ok (.aload_n 0, 1) := by decide +kernel
theorem dL_setThere_3 : decode cL_setThere 3 = .ok (.iload_n 1, 1) := by decide +kernel
theorem dL_setThere_4 : decode cL_setThere 4 = .ok (.iload_n 2, 1) := by decide +kernel
theorem dL_setThere_5 : decode cL_setThere 5 = .ok (.invokevirtual 36, 3) := by decide +kernel
theorem dL_setThere_8 : decode cL_setThere 8 = .ok (.ifCond .eq 7, 3) := by decide +kernel
theorem dL_setThere_11 : decode cL_setThere 11 = .ok (.lconst 1, 1) := by decide +kernel
theorem dL_setThere_12 : decode cL_setThere 12 = .ok (.goto 4, 3) := by decide +kernel
theorem dL_setThere_15 : decode cL_setThere 15 = .ok (.lconst 0, 1) := by decide +kernel
theorem dL_setThere_16 : decode cL_setThere 16 = .ok (.lastore, 1) := by decide +kernel
theorem dL_setThere_17 : decode cL_setThere 17 = .ok (.goto 7, 3) := by decide +kernel
theorem dL_setThere_20 : decode cL_setThere 20 = .ok (.astore 4, 2) := by decide +kernel
theorem dL_setThere_22 : decode cL_setThere 22 = .ok (.iconst 1, 1) := by decide +kernel
theorem dL_setThere_23 : decode cL_setThere 23 = .ok (.ireturn, 1) := by decide +kernel
theorem dL_setThere_24 : decode cL_setThere 24 = .ok (.iconst 0, 1) := by decide +kernel
theorem dL_setThere_25 : decode cL_setThere 25 = .ok (.ireturn, 1) := by decide +kernel
theorem dL_bring_0 : decode cL_bring 0 = .ok (.aload_n 3, 1) := by decide +kernel
theorem dL_bring_1 : decode cL_bring 1 = .ok (.iconst 0, 1) := by decide +kernel
theorem dL_bring_2 : decode cL_bring 2 = .ok (.aload_n 0, 1) := by decide +kernel
theorem dL_bring_3 : decode cL_bring 3 = .ok (.iload_n 1, 1) := by decide +kernel
theorem dL_bring_4 : decode cL_bring 4 = .ok (.iload_n 2, 1) := by decide +kernel
theorem dL_bring_5 : decode cL_bring 5 = .ok (.invokevirtual 40, 3) := by decide +kernel
theorem dL_bring_8 : decode cL_bring 8 = .ok (.i2l, 1) := by decide +kernel
theorem dL_bring_9 : decode cL_bring 9 = .ok (.lastore, 1) := by decide +kernel
theorem dL_bring_10 : decode cL_bring 10 = .ok (.goto 11, 3) := by decide +kernel
theorem dL_bring_13 : decode cL_bring 13 = .ok (.astore 4, 2) := by decide +kernel
theorem dL_bring_15 : decode cL_bring 15 = .ok (.iconst 1, 1) := by decide +kernel
theorem dL_bring_16 : decode cL_bring 16 = .ok (.ireturn, 1) := by decide +kernel
theorem dL_bring_17 : decode cL_bring 17 = .ok (.astore 4, 2) := by decide +kernel
theorem dL_bring_19 : decode cL_bring 19 = .ok (.iconst 2, 1) := by decide +kernel
theorem dL_bring_20 : decode cL_bring 20 = .ok (.ireturn, 1) := by decide +kernel
theorem dL_bring_21 : decode cL_bring 21 = .ok (.iconst 0, 1) := by decide +kernel
theorem dL_bring_22 : decode cL_bring 22 = .ok (.ireturn, 1) := by decide +kernel
theorem dL_put_0 : decode cL_put 0 = .ok (.aload_n 3, 1) := by decide +kernel
theorem dL_put_1 : decode cL_put 1 = .ok (.iconst 0, 1) := by decide +kernel
theorem dL_put_2 : decode cL_put 2 = .ok (.aload_n 0, 1) := by decide +kernel
theorem dL_put_3 : decode cL_put 3 = .ok (.iload_n 1, 1) := by decide +kernel
theorem dL_put_4 : decode cL_put 4 = .ok (.iload_n 2, 1) := by decide +kernel
theorem dL_put_5 : decode cL_put 5 = .ok (.invokevirtual 43, 3) := by decide +kernel
theorem dL_put_8 : decode cL_put 8 = .ok (.i2l, 1) := by decide +kernel
theorem dL_put_9 : decode cL_put 9 = .ok (.lastore, 1) := by decide +kernel
theorem dL_put_10 : decode cL_put 10 = .ok (.goto 19, 3) := by decide +kernel
theorem dL_put_13 : decode cL_put 13 = .ok (.astore 4, 2) := by decide +kernel
theorem dL_put_15 : decode cL_put 15 = .ok (.iconst 1, 1) := by decide +kernel
theorem dL_put_16 : decode cL_put 16 = .ok (.ireturn, 1) := by decide +kernel
theorem dL_put_17 : decode cL_put 17 = .ok (.astore 4, 2) := by decide +kernel
theorem dL_put_19 : decode cL_put 19 = .ok (.iconst 2, 1) := by decide +kernel
theorem dL_put_20 : decode cL_put 20 = .ok (.ireturn, 1) := by decide +kernel
theorem dL_put_21 : decode cL_put 21 = .ok (.astore 4, 2) := by decide +kernel
theorem dL_put_23 : decode cL_put 23 = .ok (.iconst 3, 1) := by decide +kernel
theorem dL_put_24 : decode cL_put 24 = .ok (.ireturn, 1) := by decide +kernel
theorem dL_put_25 : decode cL_put 25 = .ok (.astore 4, 2) := by decide +kernel
theorem dL_put_27 : decode cL_put 27 = .ok (.iconst 4, 1) := by decide +kernel
theorem dL_put_28 : decode cL_put 28 = .ok (.ireturn, 1) := by decide +kernel
theorem dL_put_29 : decode cL_put 29 = .ok (.iconst 0, 1) := by decide +kernel
theorem dL_put_30 : decode cL_put 30 = .ok (.ireturn, 1) := by decide +kernel
theorem dL_life_0 : decode cL_life 0 = .ok (.aload_n 2, 1) := by decide +kernel
theorem dL_life_1 : decode cL_life 1 = .ok (.iconst 0, 1) := by decide +kernel
theorem dL_life_2 : decode cL_life 2 = .ok (.aload_n 0, 1) := by decide +kernel
theorem dL_life_3 : decode cL_life 3 = .ok (.iload_n 1, 1) := by decide +kernel
theorem dL_life_4 : decode cL_life 4 = .ok (.invokevirtual 51, 3) := by decide +kernel
theorem dL_life_7 : decode cL_life 7 = .ok (.i2l, 1) := by decide +kernel
theorem dL_life_8 : decode cL_life 8 = .ok (.lastore, 1) := by decide +kernel
theorem dL_life_9 : decode cL_life 9 = .ok (.goto 9, 3) := by decide +kernel
theorem dL_life_12 : decode cL_life 12 = .ok (.astore_n 3, 1) := by decide +kernel
theorem dL_life_13 : decode cL_life 13 = .ok (.iconst 1, 1) := by decide +kernel
theorem dL_life_14 : decode cL_life 14 = .ok (.ireturn, 1) := by decide +kernel
theorem dL_life_15 : decode cL_life 15 = .ok (.astore_n 3, 1) := by decide +kernel
theorem dL_life_16 : decode cL_life 16 = .ok (.iconst 2, 1) := by decide +kernel
theorem dL_life_17 : decode cL_life 17 = .ok (.ireturn, 1) := by decide +kernel
theorem dL_life_18 : decode cL_life 18 = .ok (.iconst 0, 1) := by decide +kernel
theorem dL_life_19 : decode cL_life 19 = .ok (.ireturn, 1) := by decide +kernel
theorem dL_on_0 : decode cL_on 0 = .ok (.aload_n 2, 1) := by decide +kernel
theorem dL_on_1 : decode cL_on 1 = .ok (.iconst 0, 1) := by decide +kernel
theorem dL_on_2 : decode cL_on 2 = .ok (.aload_n 0, 1) := by decide +kernel
theorem dL_on_3 : decode cL_on 3 = .ok (.iload_n 1, 1) := by decide +kernel
theorem dL_on_4 : decode cL_on 4 = .ok (.invokevirtual 54, 3) := by decide +kernel
theorem dL_on_7 : decode cL_on 7 = .ok (.i2l, 1) := by decide +kernel
theorem dL_on_8 : decode cL_on 8 = .ok (.lastore, 1) := by decide +kernel
theorem dL_on_9 : decode cL_on 9 = .ok (.goto 9, 3) := by decide +kernel
theorem dL_on_12 : decode cL_on 12 = .ok (.astore_n 3, 1) := by decide +kernel
theorem dL_on_13 : decode cL_on 13 = .ok (.iconst 1, 1) := by decide +kernel
theorem dL_on_14 : decode cL_on 14 = .ok (.ireturn, 1) := by decide +kernel
theorem dL_on_15 : decode cL_on 15 = .ok (.astore_n 3, 1) := by decide +kernel
theorem dL_on_16 : decode cL_on 16 = .ok (.iconst 2, 1) := by decide +kernel
theorem dL_on_17 : decode cL_on 17 = .ok (.ireturn, 1) := by decide +kernel
theorem dL_on_18 : decode cL_on 18 = .ok (.iconst 0, 1) := by decide +kernel
theorem dL_on_19 : decode cL_on 19 = .ok (.ireturn, 1) := by decide +kernel
theorem dL_reason_0 : decode cL_reason 0 = .ok (.aload_n 2, 1) := by decide +kernel
theorem dL_reason_1 : decode cL_reason 1 = .ok (.iconst 0, 1) := by decide +kernel
theorem dL_reason_2 : decode cL_reason 2 = .ok (.aload_n 0, 1) := by decide +kernel
theorem dL_reason_3 : decode cL_reason 3 = .ok (.iload_n 1, 1) := by decide +kernel
theorem dL_reason_4 : decode cL_reason 4 = .ok (.invokevirtual 57, 3) := by decide +kernel
theorem dL_reason_7 : decode cL_reason 7 = .ok (.i2l, 1) := by decide +kernel
theorem dL_reason_8 : decode cL_reason 8 = .ok (.lastore, 1) := by decide +kernel
theorem dL_reason_9 : decode cL_reason 9 = .ok (.goto 6, 3) := by decide +kernel
theorem dL_reason_12 : decode cL_reason 12 = .ok (.astore_n 3, 1) := by decide +kernel
theorem dL_reason_13 : decode cL_reason 13 = .ok (.iconst 1, 1) := by decide +kernel
theorem dL_reason_14 : decode cL_reason 14 = .ok (.ireturn, 1) := by decide +kernel
theorem dL_reason_15 : decode cL_reason 15 = .ok (.iconst 0, 1) := by decide +kernel
theorem dL_reason_16 : decode cL_reason 16 = .ok (.ireturn, 1) := by decide +kernel
theorem dL_fail_0 : decode cL_fail 0 = .ok (.aload_n 2, 1) := by decide +kernel
theorem dL_fail_1 : decode cL_fail 1 = .ok (.iconst 0, 1) := by decide +kernel
theorem dL_fail_2 : decode cL_fail 2 = .ok (.aload_n 0, 1) := by decide +kernel
theorem dL_fail_3 : decode cL_fail 3 = .ok (.iload_n 1, 1) := by decide +kernel
theorem dL_fail_4 : decode cL_fail 4 = .ok (.invokevirtual 61, 3) := by decide +kernel
theorem dL_fail_7 : decode cL_fail 7 = .ok (.ifCond .eq 7, 3) := by decide +kernel
theorem dL_fail_10 : decode cL_fail 10 = .ok (.lconst 1, 1) := by decide +kernel
theorem dL_fail_11 : decode cL_fail 11 = .ok (.goto 4, 3) := by decide +kernel
theorem dL_fail_14 : decode cL_fail 14 = .ok (.lconst 0, 1) := by decide +kernel
theorem dL_fail_15 : decode cL_fail 15 = .ok (.lastore, 1) := by decide +kernel
theorem dL_fail_16 : decode cL_fail 16 = .ok (.goto 9, 3) := by decide +kernel
theorem dL_fail_19 : decode cL_fail 19 = .ok (.astore_n 3, 1) := by decide +kernel
theorem dL_fail_20 : decode cL_fail 20 = .ok (.iconst 1, 1) := by decide +kernel
theorem dL_fail_21 : decode cL_fail 21 = .ok (.ireturn, 1) := by decide +kernel
theorem dL_fail_22 : decode cL_fail 22 = .ok (.astore_n 3, 1) := by decide +kernel
theorem dL_fail_23 : decode cL_fail 23 = .ok (.iconst 2, 1) := by decide +kernel
theorem dL_fail_24 : decode cL_fail 24 = .ok (.ireturn, 1) := by decide +kernel
theorem dL_fail_25 : decode cL_fail 25 = .ok (.iconst 0, 1) := by decide +kernel
theorem dL_fail_26 : decode cL_fail 26 = .ok (.ireturn, 1) := by decide +kernel
theorem dL_pass_0 : decode cL_pass 0 = .ok (.aload_n 2, 1) := by decide +kernel
theorem dL_pass_1 : decode cL_pass 1 = .ok (.iconst 0, 1) := by decide +kernel
theorem dL_pass_2 : decode cL_pass 2 = .ok (.aload_n 0, 1) := by decide +kernel
theorem dL_pass_3 : decode cL_pass 3 = .ok (.iload_n 1, 1) := by decide +kernel
theorem dL_pass_4 : decode cL_pass 4 = .ok (.invokevirtual 65, 3) := by decide +kernel
theorem dL_pass_7 : decode cL_pass 7 = .ok (.i2l, 1) := by decide +kernel
theorem dL_pass_8 : decode cL_pass 8 = .ok (.lastore, 1) := by decide +kernel
theorem dL_pass_9 : decode cL_pass 9 = .ok (.goto 9, 3) := by decide +kernel
theorem dL_pass_12 : decode cL_pass 12 = .ok (.astore_n 3, 1) := by decide +kernel
theorem dL_pass_13 : decode cL_pass 13 = .ok (.iconst 1, 1) := by decide +kernel
theorem dL_pass_14 : decode cL_pass 14 = .ok (.ireturn, 1) := by decide +kernel
theorem dL_pass_15 : decode cL_pass 15 = .ok (.astore_n 3, 1) := by decide +kernel
theorem dL_pass_16 : decode cL_pass 16 = .ok (.iconst 2, 1) := by decide +kernel
theorem dL_pass_17 : decode cL_pass 17 = .ok (.ireturn, 1) := by decide +kernel
theorem dL_pass_18 : decode cL_pass 18 = .ok (.iconst 0, 1) := by decide +kernel
theorem dL_pass_19 : decode cL_pass 19 = .ok (.ireturn, 1) := by decide +kernel
theorem dL_used_0 : decode cL_used 0 = .ok (.aload_n 2, 1) := by decide +kernel
theorem dL_used_1 : decode cL_used 1 = .ok (.iconst 0, 1) := by decide +kernel
theorem dL_used_2 : decode cL_used 2 = .ok (.aload_n 0, 1) := by decide +kernel
theorem dL_used_3 : decode cL_used 3 = .ok (.iload_n 1, 1) := by decide +kernel
theorem dL_used_4 : decode cL_used 4 = .ok (.invokevirtual 68, 3) := by decide +kernel
theorem dL_used_7 : decode cL_used 7 = .ok (.i2l, 1) := by decide +kernel
theorem dL_used_8 : decode cL_used 8 = .ok (.lastore, 1) := by decide +kernel
theorem dL_used_9 : decode cL_used 9 = .ok (.goto 6, 3) := by decide +kernel
theorem dL_used_12 : decode cL_used 12 = .ok (.astore_n 3, 1) := by decide +kernel
theorem dL_used_13 : decode cL_used 13 = .ok (.iconst 1, 1) := by decide +kernel
theorem dL_used_14 : decode cL_used 14 = .ok (.ireturn, 1) := by decide +kernel
theorem dL_used_15 : decode cL_used 15 = .ok (.iconst 0, 1) := by decide +kernel
theorem dL_used_16 : decode cL_used 16 = .ok (.ireturn, 1) := by decide +kernel
theorem dL_left_0 : decode cL_left 0 = .ok (.aload_n 2, 1) := by decide +kernel
theorem dL_left_1 : decode cL_left 1 = .ok (.iconst 0, 1) := by decide +kernel
theorem dL_left_2 : decode cL_left 2 = .ok (.aload_n 0, 1) := by decide +kernel
theorem dL_left_3 : decode cL_left 3 = .ok (.iload_n 1, 1) := by decide +kernel
theorem dL_left_4 : decode cL_left 4 = .ok (.invokevirtual 71, 3) := by decide +kernel
theorem dL_left_7 : decode cL_left 7 = .ok (.i2l, 1) := by decide +kernel
theorem dL_left_8 : decode cL_left 8 = .ok (.lastore, 1) := by decide +kernel
theorem dL_left_9 : decode cL_left 9 = .ok (.goto 6, 3) := by decide +kernel
theorem dL_left_12 : decode cL_left 12 = .ok (.astore_n 3, 1) := by decide +kernel
theorem dL_left_13 : decode cL_left 13 = .ok (.iconst 1, 1) := by decide +kernel
theorem dL_left_14 : decode cL_left 14 = .ok (.ireturn, 1) := by decide +kernel
theorem dL_left_15 : decode cL_left 15 = .ok (.iconst 0, 1) := by decide +kernel
theorem dL_left_16 : decode cL_left 16 = .ok (.ireturn, 1) := by decide +kernel
theorem dL_leftAnew_0 : decode cL_leftAnew 0 = .ok (.aload_n 2, 1) := by decide +kernel
theorem dL_leftAnew_1 : decode cL_leftAnew 1 = .ok (.iconst 0, 1) := by decide +kernel
theorem dL_leftAnew_2 : decode cL_leftAnew 2 = .ok (.aload_n 0, 1) := by decide +kernel
theorem dL_leftAnew_3 : decode cL_leftAnew 3 = .ok (.iload_n 1, 1) := by decide +kernel
theorem dL_leftAnew_4 : decode cL_leftAnew 4 = .ok (.invokevirtual 74, 3) := by decide +kernel
theorem dL_leftAnew_7 : decode cL_leftAnew 7 = .ok (.i2l, 1) := by decide +kernel
theorem dL_leftAnew_8 : decode cL_leftAnew 8 = .ok (.lastore, 1) := by decide +kernel
theorem dL_leftAnew_9 : decode cL_leftAnew 9 = .ok (.goto 6, 3) := by decide +kernel
theorem dL_leftAnew_12 : decode cL_leftAnew 12 = .ok (.astore_n 3, 1) := by decide +kernel
theorem dL_leftAnew_13 : decode cL_leftAnew 13 = .ok (.iconst 1, 1) := by decide +kernel
theorem dL_leftAnew_14 : decode cL_leftAnew 14 = .ok (.ireturn, 1) := by decide +kernel
theorem dL_leftAnew_15 : decode cL_leftAnew 15 = .ok (.iconst 0, 1) := by decide +kernel
theorem dL_leftAnew_16 : decode cL_leftAnew 16 = .ok (.ireturn, 1) := by decide +kernel
theorem dL_nextAt_0 : decode cL_nextAt 0 = .ok (.aload_n 2, 1) := by decide +kernel
theorem dL_nextAt_1 : decode cL_nextAt 1 = .ok (.iconst 0, 1) := by decide +kernel
theorem dL_nextAt_2 : decode cL_nextAt 2 = .ok (.aload_n 0, 1) := by decide +kernel
theorem dL_nextAt_3 : decode cL_nextAt 3 = .ok (.iload_n 1, 1) := by decide +kernel
theorem dL_nextAt_4 : decode cL_nextAt 4 = .ok (.invokevirtual 77, 3) := by decide +kernel
theorem dL_nextAt_7 : decode cL_nextAt 7 = .ok (.i2l, 1) := by decide +kernel
theorem dL_nextAt_8 : decode cL_nextAt 8 = .ok (.lastore, 1) := by decide +kernel
theorem dL_nextAt_9 : decode cL_nextAt 9 = .ok (.goto 9, 3) := by decide +kernel
theorem dL_nextAt_12 : decode cL_nextAt 12 = .ok (.astore_n 3, 1) := by decide +kernel
theorem dL_nextAt_13 : decode cL_nextAt 13 = .ok (.iconst 1, 1) := by decide +kernel
theorem dL_nextAt_14 : decode cL_nextAt 14 = .ok (.ireturn, 1) := by decide +kernel
theorem dL_nextAt_15 : decode cL_nextAt 15 = .ok (.astore_n 3, 1) := by decide +kernel
theorem dL_nextAt_16 : decode cL_nextAt 16 = .ok (.iconst 2, 1) := by decide +kernel
theorem dL_nextAt_17 : decode cL_nextAt 17 = .ok (.ireturn, 1) := by decide +kernel
theorem dL_nextAt_18 : decode cL_nextAt 18 = .ok (.iconst 0, 1) := by decide +kernel
theorem dL_nextAt_19 : decode cL_nextAt 19 = .ok (.ireturn, 1) := by decide +kernel
theorem dL_count_0 : decode cL_count 0 = .ok (.aload_n 3, 1) := by decide +kernel
theorem dL_count_1 : decode cL_count 1 = .ok (.iconst 0, 1) := by decide +kernel
theorem dL_count_2 : decode cL_count 2 = .ok (.aload_n 0, 1) := by decide +kernel
theorem dL_count_3 : decode cL_count 3 = .ok (.iload_n 1, 1) := by decide +kernel
theorem dL_count_4 : decode cL_count 4 = .ok (.iload_n 2, 1) := by decide +kernel
theorem dL_count_5 : decode cL_count 5 = .ok (.invokevirtual 80, 3) := by decide +kernel
theorem dL_count_8 : decode cL_count 8 = .ok (.i2l, 1) := by decide +kernel
theorem dL_count_9 : decode cL_count 9 = .ok (.lastore, 1) := by decide +kernel
theorem dL_count_10 : decode cL_count 10 = .ok (.goto 11, 3) := by decide +kernel
theorem dL_count_13 : decode cL_count 13 = .ok (.astore 4, 2) := by decide +kernel
theorem dL_count_15 : decode cL_count 15 = .ok (.iconst 1, 1) := by decide +kernel
theorem dL_count_16 : decode cL_count 16 = .ok (.ireturn, 1) := by decide +kernel
theorem dL_count_17 : decode cL_count 17 = .ok (.astore 4, 2) := by decide +kernel
theorem dL_count_19 : decode cL_count 19 = .ok (.iconst 2, 1) := by decide +kernel
theorem dL_count_20 : decode cL_count 20 = .ok (.ireturn, 1) := by decide +kernel
theorem dL_count_21 : decode cL_count 21 = .ok (.iconst 0, 1) := by decide +kernel
theorem dL_count_22 : decode cL_count 22 = .ok (.ireturn, 1) := by decide +kernel
theorem dL_mostOwed_0 : decode cL_mostOwed 0 = .ok (.aload_n 1, 1) := by decide +kernel
theorem dL_mostOwed_1 : decode cL_mostOwed 1 = .ok (.iconst 0, 1) := by decide +kernel
theorem dL_mostOwed_2 : decode cL_mostOwed 2 = .ok (.aload_n 0, 1) := by decide +kernel
theorem dL_mostOwed_3 : decode cL_mostOwed 3 = .ok (.invokevirtual 84, 3) := by decide +kernel
theorem dL_mostOwed_6 : decode cL_mostOwed 6 = .ok (.i2l, 1) := by decide +kernel
theorem dL_mostOwed_7 : decode cL_mostOwed 7 = .ok (.lastore, 1) := by decide +kernel
theorem dL_mostOwed_8 : decode cL_mostOwed 8 = .ok (.goto 6, 3) := by decide +kernel
theorem dL_mostOwed_11 : decode cL_mostOwed 11 = .ok (.astore_n 2, 1) := by decide +kernel
theorem dL_mostOwed_12 : decode cL_mostOwed 12 = .ok (.iconst 1, 1) := by decide +kernel
theorem dL_mostOwed_13 : decode cL_mostOwed 13 = .ok (.ireturn, 1) := by decide +kernel
theorem dL_mostOwed_14 : decode cL_mostOwed 14 = .ok (.iconst 0, 1) := by decide +kernel
theorem dL_mostOwed_15 : decode cL_mostOwed 15 = .ok (.ireturn, 1) := by decide +kernel
theorem dL_doneShare_0 : decode cL_doneShare 0 = .ok (.aload_n 1, 1) := by decide +kernel
theorem dL_doneShare_1 : decode cL_doneShare 1 = .ok (.iconst 0, 1) := by decide +kernel
theorem dL_doneShare_2 : decode cL_doneShare 2 = .ok (.aload_n 0, 1) := by decide +kernel
theorem dL_doneShare_3 : decode cL_doneShare 3 = .ok (.invokevirtual 88, 3) := by decide +kernel
theorem dL_doneShare_6 : decode cL_doneShare 6 = .ok (.f2d, 1) := by decide +kernel
theorem dL_doneShare_7 : decode cL_doneShare 7 = .ok (.dastore, 1) := by decide +kernel
theorem dL_doneShare_8 : decode cL_doneShare 8 = .ok (.goto 6, 3) := by decide +kernel
theorem dL_doneShare_11 : decode cL_doneShare 11 = .ok (.astore_n 2, 1) := by decide +kernel
theorem dL_doneShare_12 : decode cL_doneShare 12 = .ok (.iconst 1, 1) := by decide +kernel
theorem dL_doneShare_13 : decode cL_doneShare 13 = .ok (.ireturn, 1) := by decide +kernel
theorem dL_doneShare_14 : decode cL_doneShare 14 = .ok (.iconst 0, 1) := by decide +kernel
theorem dL_doneShare_15 : decode cL_doneShare 15 = .ok (.ireturn, 1) := by decide +kernel
theorem dL_meanScore_0 : decode cL_meanScore 0 = .ok (.aload_n 1, 1) := by decide +kernel
theorem dL_meanScore_1 : decode cL_meanScore 1 = .ok (.iconst 0, 1) := by decide +kernel
theorem dL_meanScore_2 : decode cL_meanScore 2 = .ok (.aload_n 0, 1) := by decide +kernel
theorem dL_meanScore_3 : decode cL_meanScore 3 = .ok (.invokevirtual 94, 3) := by decide +kernel
theorem dL_meanScore_6 : decode cL_meanScore 6 = .ok (.dastore, 1) := by decide +kernel
theorem dL_meanScore_7 : decode cL_meanScore 7 = .ok (.goto 6, 3) := by decide +kernel
theorem dL_meanScore_10 : decode cL_meanScore 10 = .ok (.astore_n 2, 1) := by decide +kernel
theorem dL_meanScore_11 : decode cL_meanScore 11 = .ok (.iconst 1, 1) := by decide +kernel
theorem dL_meanScore_12 : decode cL_meanScore 12 = .ok (.ireturn, 1) := by decide +kernel
theorem dL_meanScore_13 : decode cL_meanScore 13 = .ok (.iconst 0, 1) := by decide +kernel
theorem dL_meanScore_14 : decode cL_meanScore 14 = .ok (.ireturn, 1) := by decide +kernel
