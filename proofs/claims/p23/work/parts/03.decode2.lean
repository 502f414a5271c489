theorem dX4_init_23 : decode cX4_init 23 = .ok (.putfield 19, 3) := by decide +kernel
theorem dX4_init_26 : decode cX4_init 26 = .ok (.aload_n 0, 1) := by decide +kernel
theorem dX4_init_27 : decode cX4_init 27 = .ok (.new 23, 3) := by decide +kernel
theorem dX4_init_30 : decode cX4_init 30 = .ok (.dup, 1) := by decide +kernel
theorem dX4_init_31 : decode cX4_init 31 = .ok (.aload_n 0, 1) := by decide +kernel
theorem dX4_init_32 : decode cX4_init 32 = .ok (.getfield 19, 3) := by decide +kernel
theorem dX4_init_35 : decode cX4_init 35 = .ok (.invokespecial 25, 3) := by decide +kernel
theorem dX4_init_38 : decode cX4_init 38 = .ok (.putfield 28, 3) := by decide +kernel
theorem dX4_init_41 : decode cX4_init 41 = .ok (.aload_n 0, 1) := by decide +kernel
theorem dX4_init_42 : decode cX4_init 42 = .ok (.bipush 64, 2) := by decide +kernel
theorem dX4_init_44 : decode cX4_init 44 = .ok (.newarray .int, 2) := by decide +kernel
theorem dX4_init_46 : decode cX4_init 46 = .ok (.putfield 32, 3) := by decide +kernel
theorem dX4_init_49 : decode cX4_init 49 = .ok (.aload_n 0, 1) := by decide +kernel
theorem dX4_init_50 : decode cX4_init 50 = .ok (.bipush 64, 2) := by decide +kernel
theorem dX4_init_52 : decode cX4_init 52 = .ok (.newarray .int, 2) := by decide +kernel
theorem dX4_init_54 : decode cX4_init 54 = .ok (.putfield 36, 3) := by decide +kernel
theorem dX4_init_57 : decode cX4_init 57 = .ok (.aload_n 0, 1) := by decide +kernel
theorem dX4_init_58 : decode cX4_init 58 = .ok (.iconst 0, 1) := by decide +kernel
theorem dX4_init_59 : decode cX4_init 59 = .ok (.putfield 39, 3) := by decide +kernel
theorem dX4_init_62 : decode cX4_init 62 = .ok (.aload_n 0, 1) := by decide +kernel
theorem dX4_init_63 : decode cX4_init 63 = .ok (.bipush 8, 2) := by decide +kernel
theorem dX4_init_65 : decode cX4_init 65 = .ok (.putfield 43, 3) := by decide +kernel
theorem dX4_init_68 : decode cX4_init 68 = .ok (.aload_n 0, 1) := by decide +kernel
theorem dX4_init_69 : decode cX4_init 69 = .ok (.iconst 0, 1) := by decide +kernel
theorem dX4_init_70 : decode cX4_init 70 = .ok (.putfield 46, 3) := by decide +kernel
theorem dX4_init_73 : decode cX4_init 73 = .ok (.aload_n 0, 1) := by decide +kernel
theorem dX4_init_74 : decode cX4_init 74 = .ok (.iconst 0, 1) := by decide +kernel
theorem dX4_init_75 : decode cX4_init 75 = .ok (.putfield 50, 3) := by decide +kernel
theorem dX4_init_78 : decode cX4_init 78 = .ok (.aload_n 0, 1) := by decide +kernel
theorem dX4_init_79 : decode cX4_init 79 = .ok (.iconst 0, 1) := by decide +kernel
theorem dX4_init_80 : decode cX4_init 80 = .ok (.putfield 53, 3) := by decide +kernel
theorem dX4_init_83 : decode cX4_init 83 = .ok (.aload_n 0, 1) := by decide +kernel
theorem dX4_init_84 : decode cX4_init 84 = .ok (.iconst 0, 1) := by decide +kernel
theorem dX4_init_85 : decode cX4_init 85 = .ok (.putfield 56, 3) := by decide +kernel
theorem dX4_init_88 : decode cX4_init 88 = .ok (.return_, 1) := by decide +kernel
theorem dX4_reset_0 : decode cX4_reset 0 = .ok (.iload_n 1, 1) := by decide +kernel
theorem dX4_reset_1 : decode cX4_reset 1 = .ok (.iconst 1, 1) := by decide +kernel
theorem dX4_reset_2 : decode cX4_reset 2 = .ok (.bipush 8, 2) := by decide +kernel
theorem dX4_reset_4 : decode cX4_reset 4 = .ok (.invokestatic 59, 3) := by decide +kernel
theorem dX4_reset_7 : decode cX4_reset 7 = .ok (.ifCond .eq 13, 3) := by decide +kernel
theorem dX4_reset_10 : decode cX4_reset 10 = .ok (.iload_n 2, 1) := by decide +kernel
theorem dX4_reset_11 : decode cX4_reset 11 = .ok (.iconst 1, 1) := by decide +kernel
theorem dX4_reset_12 : decode cX4_reset 12 = .ok (.bipush 8, 2) := by decide +kernel
theorem dX4_reset_14 : decode cX4_reset 14 = .ok (.invokestatic 59, 3) := by decide +kernel
theorem dX4_reset_17 : decode cX4_reset 17 = .ok (.ifCond .ne 6, 3) := by decide +kernel
theorem dX4_reset_20 : decode cX4_reset 20 = .ok (.bipush (-2), 2) := by decide +kernel
theorem dX4_reset_22 : decode cX4_reset 22 = .ok (.ireturn, 1) := by decide +kernel
theorem dX4_reset_23 : decode cX4_reset 23 = .ok (.aload_n 0, 1) := by decide +kernel
theorem dX4_reset_24 : decode cX4_reset 24 = .ok (.getfield 12, 3) := by decide +kernel
theorem dX4_reset_27 : decode cX4_reset 27 = .ok (.iload_n 1, 1) := by decide +kernel
theorem dX4_reset_28 : decode cX4_reset 28 = .ok (.iload_n 2, 1) := by decide +kernel
theorem dX4_reset_29 : decode cX4_reset 29 = .ok (.invokevirtual 63, 3) := by decide +kernel
theorem dX4_reset_32 : decode cX4_reset 32 = .ok (.aload_n 0, 1) := by decide +kernel
theorem dX4_reset_33 : decode cX4_reset 33 = .ok (.getfield 19, 3) := by decide +kernel
theorem dX4_reset_36 : decode cX4_reset 36 = .ok (.invokevirtual 67, 3) := by decide +kernel
theorem dX4_reset_39 : decode cX4_reset 39 = .ok (.aload_n 0, 1) := by decide +kernel
theorem dX4_reset_40 : decode cX4_reset 40 = .ok (.getfield 28, 3) := by decide +kernel
theorem dX4_reset_43 : decode cX4_reset 43 = .ok (.invokevirtual 70, 3) := by decide +kernel
theorem dX4_reset_46 : decode cX4_reset 46 = .ok (.iconst 0, 1) := by decide +kernel
theorem dX4_reset_47 : decode cX4_reset 47 = .ok (.istore_n 3, 1) := by decide +kernel
theorem dX4_reset_48 : decode cX4_reset 48 = .ok (.iload_n 3, 1) := by decide +kernel
theorem dX4_reset_49 : decode cX4_reset 49 = .ok (.bipush 64, 2) := by decide +kernel
theorem dX4_reset_51 : decode cX4_reset 51 = .ok (.if_icmp .ge 16, 3) := by decide +kernel
theorem dX4_reset_54 : decode cX4_reset 54 = .ok (.aload_n 0, 1) := by decide +kernel
theorem dX4_reset_55 : decode cX4_reset 55 = .ok (.getfield 32, 3) := by decide +kernel
theorem dX4_reset_58 : decode cX4_reset 58 = .ok (.iload_n 3, 1) := by decide +kernel
theorem dX4_reset_59 : decode cX4_reset 59 = .ok (.iconst 0, 1) := by decide +kernel
theorem dX4_reset_60 : decode cX4_reset 60 = .ok (.iastore, 1) := by decide +kernel
theorem dX4_reset_61 : decode cX4_reset 61 = .ok (.iinc 3 1, 3) := by decide +kernel
theorem dX4_reset_64 : decode cX4_reset 64 = .ok (.goto (-16), 3) := by decide +kernel
theorem dX4_reset_67 : decode cX4_reset 67 = .ok (.aload_n 0, 1) := by decide +kernel
theorem dX4_reset_68 : decode cX4_reset 68 = .ok (.iconst 0, 1) := by decide +kernel
theorem dX4_reset_69 : decode cX4_reset 69 = .ok (.putfield 39, 3) := by decide +kernel
theorem dX4_reset_72 : decode cX4_reset 72 = .ok (.aload_n 0, 1) := by decide +kernel
theorem dX4_reset_73 : decode cX4_reset 73 = .ok (.iconst 0, 1) := by decide +kernel
theorem dX4_reset_74 : decode cX4_reset 74 = .ok (.putfield 53, 3) := by decide +kernel
theorem dX4_reset_77 : decode cX4_reset 77 = .ok (.aload_n 0, 1) := by decide +kernel
theorem dX4_reset_78 : decode cX4_reset 78 = .ok (.iconst 0, 1) := by decide +kernel
theorem dX4_reset_79 : decode cX4_reset 79 = .ok (.putfield 56, 3) := by decide +kernel
theorem dX4_reset_82 : decode cX4_reset 82 = .ok (.aload_n 0, 1) := by decide +kernel
theorem dX4_reset_83 : decode cX4_reset 83 = .ok (.getfield 12, 3) := by decide +kernel
theorem dX4_reset_86 : decode cX4_reset 86 = .ok (.invokevirtual 73, 3) := by decide +kernel
theorem dX4_reset_89 : decode cX4_reset 89 = .ok (.ireturn, 1) := by decide +kernel
theorem dX4_setDiodes_0 : decode cX4_setDiodes 0 = .ok (.aload_n 0, 1) := by decide +kernel
theorem dX4_setDiodes_1 : decode cX4_setDiodes 1 = .ok (.getfield 12, 3) := by decide +kernel
theorem dX4_setDiodes_4 : decode cX4_setDiodes 4 = .ok (.iload_n 1, 1) := by decide +kernel
theorem dX4_setDiodes_5 : decode cX4_setDiodes 5 = .ok (.putfield 77, 3) := by decide +kernel
theorem dX4_setDiodes_8 : decode cX4_setDiodes 8 = .ok (.aload_n 0, 1) := by decide +kernel
theorem dX4_setDiodes_9 : decode cX4_setDiodes 9 = .ok (.getfield 12, 3) := by decide +kernel
theorem dX4_setDiodes_12 : decode cX4_setDiodes 12 = .ok (.invokevirtual 80, 3) := by decide +kernel
theorem dX4_setDiodes_15 : decode cX4_setDiodes 15 = .ok (.ireturn, 1) := by decide +kernel
theorem dX4_setBlocking_0 : decode cX4_setBlocking 0 = .ok (.aload_n 0, 1) := by decide +kernel
theorem dX4_setBlocking_1 : decode cX4_setBlocking 1 = .ok (.getfield 46, 3) := by decide +kernel
theorem dX4_setBlocking_4 : decode cX4_setBlocking 4 = .ok (.iload_n 1, 1) := by decide +kernel
theorem dX4_setBlocking_5 : decode cX4_setBlocking 5 = .ok (.if_icmp .eq 7, 3) := by decide +kernel
theorem dX4_setBlocking_8 : decode cX4_setBlocking 8 = .ok (.iconst 1, 1) := by decide +kernel
theorem dX4_setBlocking_9 : decode cX4_setBlocking 9 = .ok (.goto 4, 3) := by decide +kernel
theorem dX4_setBlocking_12 : decode cX4_setBlocking 12 = .ok (.iconst 0, 1) := by decide +kernel
theorem dX4_setBlocking_13 : decode cX4_setBlocking 13 = .ok (.invokestatic 83, 3) := by decide +kernel
theorem dX4_setBlocking_16 : decode cX4_setBlocking 16 = .ok (.istore_n 2, 1) := by decide +kernel
theorem dX4_setBlocking_17 : decode cX4_setBlocking 17 = .ok (.aload_n 0, 1) := by decide +kernel
theorem dX4_setBlocking_18 : decode cX4_setBlocking 18 = .ok (.iload_n 1, 1) := by decide +kernel
theorem dX4_setBlocking_19 : decode cX4_setBlocking 19 = .ok (.putfield 46, 3) := by decide +kernel
theorem dX4_setBlocking_22 : decode cX4_setBlocking 22 = .ok (.iload_n 2, 1) := by decide +kernel
theorem dX4_setBlocking_23 : decode cX4_setBlocking 23 = .ok (.ireturn, 1) := by decide +kernel
theorem dX4_setLateRelease_0 : decode cX4_setLateRelease 0 = .ok (.aload_n 0, 1) := by decide +kernel
theorem dX4_setLateRelease_1 : decode cX4_setLateRelease 1 = .ok (.getfield 50, 3) := by decide +kernel
theorem dX4_setLateRelease_4 : decode cX4_setLateRelease 4 = .ok (.iload_n 1, 1) := by decide +kernel
theorem dX4_setLateRelease_5 : decode cX4_setLateRelease 5 = .ok (.if_icmp .eq 7, 3) := by decide +kernel
theorem dX4_setLateRelease_8 : decode cX4_setLateRelease 8 = .ok (.iconst 1, 1) := by decide +kernel
theorem dX4_setLateRelease_9 : decode cX4_setLateRelease 9 = .ok (.goto 4, 3) := by decide +kernel
theorem dX4_setLateRelease_12 : decode cX4_setLateRelease 12 = .ok (.iconst 0, 1) := by decide +kernel
theorem dX4_setLateRelease_13 : decode cX4_setLateRelease 13 = .ok (.invokestatic 83, 3) := by decide +kernel
theorem dX4_setLateRelease_16 : decode cX4_setLateRelease 16 = .ok (.istore_n 2, 1) := by decide +kernel
theorem dX4_setLateRelease_17 : decode cX4_setLateRelease 17 = .ok (.aload_n 0, 1) := by decide +kernel
theorem dX4_setLateRelease_18 : decode cX4_setLateRelease 18 = .ok (.iload_n 1, 1) := by decide +kernel
theorem dX4_setLateRelease_19 : decode cX4_setLateRelease 19 = .ok (.putfield 50, 3) := by decide +kernel
theorem dX4_setLateRelease_22 : decode cX4_setLateRelease 22 = .ok (.iload_n 2, 1) := by decide +kernel
theorem dX4_setLateRelease_23 : decode cX4_setLateRelease 23 = .ok (.ireturn, 1) := by decide +kernel
theorem dX4_setSlope_0 : decode cX4_setSlope 0 = .ok (.iload_n 1, 1) := by decide +kernel
theorem dX4_setSlope_1 : decode cX4_setSlope 1 = .ok (.iconst 1, 1) := by decide +kernel
theorem dX4_setSlope_2 : decode cX4_setSlope 2 = .ok (.bipush 64, 2) := by decide +kernel
theorem dX4_setSlope_4 : decode cX4_setSlope 4 = .ok (.invokestatic 59, 3) := by decide +kernel
theorem dX4_setSlope_7 : decode cX4_setSlope 7 = .ok (.ifCond .ne 6, 3) := by decide +kernel
theorem dX4_setSlope_10 : decode cX4_setSlope 10 = .ok (.bipush (-2), 2) := by decide +kernel
theorem dX4_setSlope_12 : decode cX4_setSlope 12 = .ok (.ireturn, 1) := by decide +kernel
theorem dX4_setSlope_13 : decode cX4_setSlope 13 = .ok (.aload_n 0, 1) := by decide +kernel
theorem dX4_setSlope_14 : decode cX4_setSlope 14 = .ok (.getfield 43, 3) := by decide +kernel
theorem dX4_setSlope_17 : decode cX4_setSlope 17 = .ok (.istore_n 2, 1) := by decide +kernel
theorem dX4_setSlope_18 : decode cX4_setSlope 18 = .ok (.aload_n 0, 1) := by decide +kernel
theorem dX4_setSlope_19 : decode cX4_setSlope 19 = .ok (.iload_n 1, 1) := by decide +kernel
theorem dX4_setSlope_20 : decode cX4_setSlope 20 = .ok (.putfield 43, 3) := by decide +kernel
theorem dX4_setSlope_23 : decode cX4_setSlope 23 = .ok (.iload_n 2, 1) := by decide +kernel
theorem dX4_setSlope_24 : decode cX4_setSlope 24 = .ok (.ireturn, 1) := by decide +kernel
theorem dX4_setVoices_0 : decode cX4_setVoices 0 = .ok (.iload_n 1, 1) := by decide +kernel
theorem dX4_setVoices_1 : decode cX4_setVoices 1 = .ok (.iconst 1, 1) := by decide +kernel
theorem dX4_setVoices_2 : decode cX4_setVoices 2 = .ok (.bipush 8, 2) := by decide +kernel
theorem dX4_setVoices_4 : decode cX4_setVoices 4 = .ok (.invokestatic 59, 3) := by decide +kernel
theorem dX4_setVoices_7 : decode cX4_setVoices 7 = .ok (.ifCond .eq 12, 3) := by decide +kernel
theorem dX4_setVoices_10 : decode cX4_setVoices 10 = .ok (.iload_n 2, 1) := by decide +kernel
theorem dX4_setVoices_11 : decode cX4_setVoices 11 = .ok (.iconst 0, 1) := by decide +kernel
theorem dX4_setVoices_12 : decode cX4_setVoices 12 = .ok (.iconst 2, 1) := by decide +kernel
theorem dX4_setVoices_13 : decode cX4_setVoices 13 = .ok (.invokestatic 59, 3) := by decide +kernel
theorem dX4_setVoices_16 : decode cX4_setVoices 16 = .ok (.ifCond .ne 6, 3) := by decide +kernel
theorem dX4_setVoices_19 : decode cX4_setVoices 19 = .ok (.bipush (-2), 2) := by decide +kernel
theorem dX4_setVoices_21 : decode cX4_setVoices 21 = .ok (.ireturn, 1) := by decide +kernel
theorem dX4_setVoices_22 : decode cX4_setVoices 22 = .ok (.aload_n 0, 1) := by decide +kernel
theorem dX4_setVoices_23 : decode cX4_setVoices 23 = .ok (.getfield 28, 3) := by decide +kernel
theorem dX4_setVoices_26 : decode cX4_setVoices 26 = .ok (.getfield 87, 3) := by decide +kernel
theorem dX4_setVoices_29 : decode cX4_setVoices 29 = .ok (.istore_n 3, 1) := by decide +kernel
theorem dX4_setVoices_30 : decode cX4_setVoices 30 = .ok (.aload_n 0, 1) := by decide +kernel
theorem dX4_setVoices_31 : decode cX4_setVoices 31 = .ok (.getfield 28, 3) := by decide +kernel
theorem dX4_setVoices_34 : decode cX4_setVoices 34 = .ok (.iload_n 1, 1) := by decide +kernel
theorem dX4_setVoices_35 : decode cX4_setVoices 35 = .ok (.aload_n 0, 1) := by decide +kernel
theorem dX4_setVoices_36 : decode cX4_setVoices 36 = .ok (.getfield 39, 3) := by decide +kernel
theorem dX4_setVoices_39 : decode cX4_setVoices 39 = .ok (.invokevirtual 90, 3) := by decide +kernel
theorem dX4_setVoices_42 : decode cX4_setVoices 42 = .ok (.aload_n 0, 1) := by decide +kernel
theorem dX4_setVoices_43 : decode cX4_setVoices 43 = .ok (.getfield 28, 3) := by decide +kernel
theorem dX4_setVoices_46 : decode cX4_setVoices 46 = .ok (.iload_n 2, 1) := by decide +kernel
theorem dX4_setVoices_47 : decode cX4_setVoices 47 = .ok (.putfield 93, 3) := by decide +kernel
theorem dX4_setVoices_50 : decode cX4_setVoices 50 = .ok (.iload_n 3, 1) := by decide +kernel
theorem dX4_setVoices_51 : decode cX4_setVoices 51 = .ok (.ireturn, 1) := by decide +kernel
theorem dX4_setKey_0 : decode cX4_setKey 0 = .ok (.aload_n 0, 1) := by decide +kernel
theorem dX4_setKey_1 : decode cX4_setKey 1 = .ok (.getfield 12, 3) := by decide +kernel
theorem dX4_setKey_4 : decode cX4_setKey 4 = .ok (.iload_n 1, 1) := by decide +kernel
theorem dX4_setKey_5 : decode cX4_setKey 5 = .ok (.invokevirtual 96, 3) := by decide +kernel
theorem dX4_setKey_8 : decode cX4_setKey 8 = .ok (.ifCond .ne 5, 3) := by decide +kernel
theorem dX4_setKey_11 : decode cX4_setKey 11 = .ok (.iconst (-1), 1) := by decide +kernel
theorem dX4_setKey_12 : decode cX4_setKey 12 = .ok (.ireturn, 1) := by decide +kernel
theorem dX4_setKey_13 : decode cX4_setKey 13 = .ok (.iload_n 2, 1) := by decide +kernel
theorem dX4_setKey_14 : decode cX4_setKey 14 = .ok (.iconst 0, 1) := by decide +kernel
theorem dX4_setKey_15 : decode cX4_setKey 15 = .ok (.iconst 2, 1) := by decide +kernel
theorem dX4_setKey_16 : decode cX4_setKey 16 = .ok (.invokestatic 59, 3) := by decide +kernel
theorem dX4_setKey_19 : decode cX4_setKey 19 = .ok (.ifCond .ne 6, 3) := by decide +kernel
theorem dX4_setKey_22 : decode cX4_setKey 22 = .ok (.bipush (-2), 2) := by decide +kernel
theorem dX4_setKey_24 : decode cX4_setKey 24 = .ok (.ireturn, 1) := by decide +kernel
theorem dX4_setKey_25 : decode cX4_setKey 25 = .ok (.aload_n 0, 1) := by decide +kernel
theorem dX4_setKey_26 : decode cX4_setKey 26 = .ok (.getfield 12, 3) := by decide +kernel
theorem dX4_setKey_29 : decode cX4_setKey 29 = .ok (.getfield 100, 3) := by decide +kernel
theorem dX4_setKey_32 : decode cX4_setKey 32 = .ok (.iload_n 1, 1) := by decide +kernel
theorem dX4_setKey_33 : decode cX4_setKey 33 = .ok (.iaload, 1) := by decide +kernel
theorem dX4_setKey_34 : decode cX4_setKey 34 = .ok (.istore_n 3, 1) := by decide +kernel
theorem dX4_setKey_35 : decode cX4_setKey 35 = .ok (.aload_n 0, 1) := by decide +kernel
theorem dX4_setKey_36 : decode cX4_setKey 36 = .ok (.getfield 12, 3) := by decide +kernel
theorem dX4_setKey_39 : decode cX4_setKey 39 = .ok (.iload_n 1, 1) := by decide +kernel
theorem dX4_setKey_40 : decode cX4_setKey 40 = .ok (.iload_n 2, 1) := by decide +kernel
theorem dX4_setKey_41 : decode cX4_setKey 41 = .ok (.invokevirtual 103, 3) := by decide +kernel
theorem dX4_setKey_44 : decode cX4_setKey 44 = .ok (.iload_n 3, 1) := by decide +kernel
theorem dX4_setKey_45 : decode cX4_setKey 45 = .ok (.ireturn, 1) := by decide +kernel
theorem dX4_liftAll_0 : decode cX4_liftAll 0 = .ok (.aload_n 0, 1) := by decide +kernel
theorem dX4_liftAll_1 : decode cX4_liftAll 1 = .ok (.getfield 12, 3) := by decide +kernel
theorem dX4_liftAll_4 : decode cX4_liftAll 4 = .ok (.invokevirtual 106, 3) := by decide +kernel
theorem dX4_liftAll_7 : decode cX4_liftAll 7 = .ok (.istore_n 1, 1) := by decide +kernel
theorem dX4_liftAll_8 : decode cX4_liftAll 8 = .ok (.aload_n 0, 1) := by decide +kernel
theorem dX4_liftAll_9 : decode cX4_liftAll 9 = .ok (.getfield 12, 3) := by decide +kernel
theorem dX4_liftAll_12 : decode cX4_liftAll 12 = .ok (.invokevirtual 109, 3) := by decide +kernel
theorem dX4_liftAll_15 : decode cX4_liftAll 15 = .ok (.iload_n 1, 1) := by decide +kernel
theorem dX4_liftAll_16 : decode cX4_liftAll 16 = .ok (.ireturn, 1) := by decide +kernel
theorem dX4_sustain_0 : decode cX4_sustain 0 = .ok (.aload_n 0, 1) := by decide +kernel
theorem dX4_sustain_1 : decode cX4_sustain 1 = .ok (.getfield 28, 3) := by decide +kernel
theorem dX4_sustain_4 : decode cX4_sustain 4 = .ok (.iload_n 1, 1) := by decide +kernel
theorem dX4_sustain_5 : decode cX4_sustain 5 = .ok (.aload_n 0, 1) := by decide +kernel
theorem dX4_sustain_6 : decode cX4_sustain 6 = .ok (.getfield 39, 3) := by decide +kernel
theorem dX4_sustain_9 : decode cX4_sustain 9 = .ok (.invokevirtual 112, 3) := by decide +kernel
theorem dX4_sustain_12 : decode cX4_sustain 12 = .ok (.ireturn, 1) := by decide +kernel
theorem dX4_sostenuto_0 : decode cX4_sostenuto 0 = .ok (.aload_n 0, 1) := by decide +kernel
theorem dX4_sostenuto_1 : decode cX4_sostenuto 1 = .ok (.getfield 28, 3) := by decide +kernel
theorem dX4_sostenuto_4 : decode cX4_sostenuto 4 = .ok (.iload_n 1, 1) := by decide +kernel
theorem dX4_sostenuto_5 : decode cX4_sostenuto 5 = .ok (.aload_n 0, 1) := by decide +kernel
theorem dX4_sostenuto_6 : decode cX4_sostenuto 6 = .ok (.getfield 39, 3) := by decide +kernel
theorem dX4_sostenuto_9 : decode cX4_sostenuto 9 = .ok (.invokevirtual 116, 3) := by decide +kernel
theorem dX4_sostenuto_12 : decode cX4_sostenuto 12 = .ok (.ireturn, 1) := by decide +kernel
theorem dX4_tick_0 : decode cX4_tick 0 = .ok (.iload_n 1, 1) := by decide +kernel
theorem dX4_tick_1 : decode cX4_tick 1 = .ok (.iconst 1, 1) := by decide +kernel
theorem dX4_tick_2 : decode cX4_tick 2 = .ok (.sipush 1000, 3) := by decide +kernel
theorem dX4_tick_5 : decode cX4_tick 5 = .ok (.invokestatic 59, 3) := by decide +kernel
theorem dX4_tick_8 : decode cX4_tick 8 = .ok (.ifCond .ne 6, 3) := by decide +kernel
theorem dX4_tick_11 : decode cX4_tick 11 = .ok (.bipush (-2), 2) := by decide +kernel
theorem dX4_tick_13 : decode cX4_tick 13 = .ok (.ireturn, 1) := by decide +kernel
theorem dX4_tick_14 : decode cX4_tick 14 = .ok (.iload_n 1, 1) := by decide +kernel
theorem dX4_tick_15 : decode cX4_tick 15 = .ok (.aload_n 0, 1) := by decide +kernel
theorem dX4_tick_16 : decode cX4_tick 16 = .ok (.getfield 12, 3) := by decide +kernel
theorem dX4_tick_19 : decode cX4_tick 19 = .ok (.getfield 119, 3) := by decide +kernel
theorem dX4_tick_22 : decode cX4_tick 22 = .ok (.invokestatic 122, 3) := by decide +kernel
theorem dX4_tick_25 : decode cX4_tick 25 = .ok (.istore_n 2, 1) := by decide +kernel
theorem dX4_tick_26 : decode cX4_tick 26 = .ok (.iconst 0, 1) := by decide +kernel
theorem dX4_tick_27 : decode cX4_tick 27 = .ok (.istore_n 3, 1) := by decide +kernel
theorem dX4_tick_28 : decode cX4_tick 28 = .ok (.iload_n 3, 1) := by decide +kernel
theorem dX4_tick_29 : decode cX4_tick 29 = .ok (.iload_n 2, 1) := by decide +kernel
theorem dX4_tick_30 : decode cX4_tick 30 = .ok (.if_icmp .ge 37, 3) := by decide +kernel
theorem dX4_tick_33 : decode cX4_tick 33 = .ok (.aload_n 0, 1) := by decide +kernel
theorem dX4_tick_34 : decode cX4_tick 34 = .ok (.aload_n 0, 1) := by decide +kernel
theorem dX4_tick_35 : decode cX4_tick 35 = .ok (.getfield 39, 3) := by decide +kernel
theorem dX4_tick_38 : decode cX4_tick 38 = .ok (.aload_n 0, 1) := by decide +kernel
theorem dX4_tick_39 : decode cX4_tick 39 = .ok (.getfield 12, 3) := by decide +kernel
theorem dX4_tick_42 : decode cX4_tick 42 = .ok (.getfield 119, 3) := by decide +kernel
theorem dX4_tick_45 : decode cX4_tick 45 = .ok (.invokestatic 128, 3) := by decide +kernel
theorem dX4_tick_48 : decode cX4_tick 48 = .ok (.invokevirtual 131, 3) := by decide +kernel
theorem dX4_tick_51 : decode cX4_tick 51 = .ok (.aload_n 0, 1) := by decide +kernel
theorem dX4_tick_52 : decode cX4_tick 52 = .ok (.dup, 1) := by decide +kernel
theorem dX4_tick_53 : decode cX4_tick 53 = .ok (.getfield 39, 3) := by decide +kernel
theorem dX4_tick_56 : decode cX4_tick 56 = .ok (.iconst 1, 1) := by decide +kernel
theorem dX4_tick_57 : decode cX4_tick 57 = .ok (.iadd, 1) := by decide +kernel
theorem dX4_tick_58 : decode cX4_tick 58 = .ok (.putfield 39, 3) := by decide +kernel
theorem dX4_tick_61 : decode cX4_tick 61 = .ok (.iinc 3 1, 3) := by decide +kernel
theorem dX4_tick_64 : decode cX4_tick 64 = .ok (.goto (-36), 3) := by decide +kernel
theorem dX4_tick_67 : decode cX4_tick 67 = .ok (.aload_n 0, 1) := by decide +kernel
theorem dX4_tick_68 : decode cX4_tick 68 = .ok (.dup, 1) := by decide +kernel
theorem dX4_tick_69 : decode cX4_tick 69 = .ok (.getfield 39, 3) := by decide +kernel
theorem dX4_tick_72 : decode cX4_tick 72 = .ok (.iload_n 1, 1) := by decide +kernel
theorem dX4_tick_73 : decode cX4_tick 73 = .ok (.iload_n 2, 1) := by decide +kernel
theorem dX4_tick_74 : decode cX4_tick 74 = .ok (.isub, 1) := by decide +kernel
theorem dX4_tick_75 : decode cX4_tick 75 = .ok (.iadd, 1) := by decide +kernel
theorem dX4_tick_76 : decode cX4_tick 76 = .ok (.putfield 39, 3) := by decide +kernel
theorem dX4_tick_79 : decode cX4_tick 79 = .ok (.aload_n 0, 1) := by decide +kernel
theorem dX4_tick_80 : decode cX4_tick 80 = .ok (.getfield 39, 3) := by decide +kernel
theorem dX4_tick_83 : decode cX4_tick 83 = .ok (.ireturn, 1) := by decide +kernel
theorem dX4_key_0 : decode cX4_key 0 = .ok (.aload_n 0, 1) := by decide +kernel
theorem dX4_key_1 : decode cX4_key 1 = .ok (.getfield 12, 3) := by decide +kernel
theorem dX4_key_4 : decode cX4_key 4 = .ok (.iload_n 1, 1) := by decide +kernel
theorem dX4_key_5 : decode cX4_key 5 = .ok (.invokevirtual 96, 3) := by decide +kernel
theorem dX4_key_8 : decode cX4_key 8 = .ok (.ifCond .ne 5, 3) := by decide +kernel
theorem dX4_key_11 : decode cX4_key 11 = .ok (.iconst (-1), 1) := by decide +kernel
theorem dX4_key_12 : decode cX4_key 12 = .ok (.ireturn, 1) := by decide +kernel
theorem dX4_key_13 : decode cX4_key 13 = .ok (.iload_n 2, 1) := by decide +kernel
theorem dX4_key_14 : decode cX4_key 14 = .ok (.tableswitch 140 0 7 #[46, 56, 63, 83, 92, 104, 116, 128], 46) := by decide +kernel
theorem dX4_key_60 : decode cX4_key 60 = .ok (.aload_n 0, 1) := by decide +kernel
theorem dX4_key_61 : decode cX4_key 61 = .ok (.getfield 12, 3) := by decide +kernel
theorem dX4_key_64 : decode cX4_key 64 = .ok (.getfield 100, 3) := by decide +kernel
theorem dX4_key_67 : decode cX4_key 67 = .ok (.iload_n 1, 1) := by decide +kernel
theorem dX4_key_68 : decode cX4_key 68 = .ok (.iaload, 1) := by decide +kernel
theorem dX4_key_69 : decode cX4_key 69 = .ok (.ireturn, 1) := by decide +kernel
theorem dX4_key_70 : decode cX4_key 70 = .ok (.aload_n 0, 1) := by decide +kernel
theorem dX4_key_71 : decode cX4_key 71 = .ok (.getfield 32, 3) := by decide +kernel
theorem dX4_key_74 : decode cX4_key 74 = .ok (.iload_n 1, 1) := by decide +kernel
theorem dX4_key_75 : decode cX4_key 75 = .ok (.iaload, 1) := by decide +kernel
theorem dX4_key_76 : decode cX4_key 76 = .ok (.ireturn, 1) := by decide +kernel
theorem dX4_key_77 : decode cX4_key 77 = .ok (.aload_n 0, 1) := by decide +kernel
theorem dX4_key_78 : decode cX4_key 78 = .ok (.getfield 32, 3) := by decide +kernel
theorem dX4_key_81 : decode cX4_key 81 = .ok (.iload_n 1, 1) := by decide +kernel
theorem dX4_key_82 : decode cX4_key 82 = .ok (.iaload, 1) := by decide +kernel
theorem dX4_key_83 : decode cX4_key 83 = .ok (.ifCond .ne 7, 3) := by decide +kernel
theorem dX4_key_86 : decode cX4_key 86 = .ok (.iconst 0, 1) := by decide +kernel
theorem dX4_key_87 : decode cX4_key 87 = .ok (.goto 9, 3) := by decide +kernel
theorem dX4_key_90 : decode cX4_key 90 = .ok (.aload_n 0, 1) := by decide +kernel
theorem dX4_key_91 : decode cX4_key 91 = .ok (.getfield 36, 3) := by decide +kernel
theorem dX4_key_94 : decode cX4_key 94 = .ok (.iload_n 1, 1) := by decide +kernel
theorem dX4_key_95 : decode cX4_key 95 = .ok (.iaload, 1) := by decide +kernel
theorem dX4_key_96 : decode cX4_key 96 = .ok (.ireturn, 1) := by decide +kernel
theorem dX4_key_97 : decode cX4_key 97 = .ok (.aload_n 0, 1) := by decide +kernel
theorem dX4_key_98 : decode cX4_key 98 = .ok (.getfield 28, 3) := by decide +kernel
theorem dX4_key_101 : decode cX4_key 101 = .ok (.iload_n 1, 1) := by decide +kernel
theorem dX4_key_102 : decode cX4_key 102 = .ok (.invokevirtual 135, 3) := by decide +kernel
theorem dX4_key_105 : decode cX4_key 105 = .ok (.ireturn, 1) := by decide +kernel
theorem dX4_key_106 : decode cX4_key 106 = .ok (.aload_n 0, 1) := by decide +kernel
theorem dX4_key_107 : decode cX4_key 107 = .ok (.getfield 12, 3) := by decide +kernel
theorem dX4_key_110 : decode cX4_key 110 = .ok (.iload_n 1, 1) := by decide +kernel
theorem dX4_key_111 : decode cX4_key 111 = .ok (.invokevirtual 139, 3) := by decide +kernel
theorem dX4_key_114 : decode cX4_key 114 = .ok (.invokestatic 83, 3) := by decide +kernel
theorem dX4_key_117 : decode cX4_key 117 = .ok (.ireturn, 1) := by decide +kernel
theorem dX4_key_118 : decode cX4_key 118 = .ok (.aload_n 0, 1) := by decide +kernel
theorem dX4_key_119 : decode cX4_key 119 = .ok (.getfield 12, 3) := by decide +kernel
theorem dX4_key_122 : decode cX4_key 122 = .ok (.iload_n 1, 1) := by decide +kernel
theorem dX4_key_123 : decode cX4_key 123 = .ok (.invokevirtual 142, 3) := by decide +kernel
theorem dX4_key_126 : decode cX4_key 126 = .ok (.invokestatic 83, 3) := by decide +kernel
theorem dX4_key_129 : decode cX4_key 129 = .ok (.ireturn, 1) := by decide +kernel
theorem dX4_key_130 : decode cX4_key 130 = .ok (.aload_n 0, 1) := by decide +kernel
theorem dX4_key_131 : decode cX4_key 131 = .ok (.getfield 12, 3) := by decide +kernel
theorem dX4_key_134 : decode cX4_key 134 = .ok (.iload_n 1, 1) := by decide +kernel
theorem dX4_key_135 : decode cX4_key 135 = .ok (.invokevirtual 145, 3) := by decide +kernel
theorem dX4_key_138 : decode cX4_key 138 = .ok (.invokestatic 83, 3) := by decide +kernel
theorem dX4_key_141 : decode cX4_key 141 = .ok (.ireturn, 1) := by decide +kernel
theorem dX4_key_142 : decode cX4_key 142 = .ok (.aload_n 0, 1) := by decide +kernel
theorem dX4_key_143 : decode cX4_key 143 = .ok (.getfield 12, 3) := by decide +kernel
theorem dX4_key_146 : decode cX4_key 146 = .ok (.iload_n 1, 1) := by decide +kernel
theorem dX4_key_147 : decode cX4_key 147 = .ok (.invokevirtual 148, 3) := by decide +kernel
theorem dX4_key_150 : decode cX4_key 150 = .ok (.invokestatic 83, 3) := by decide +kernel
theorem dX4_key_153 : decode cX4_key 153 = .ok (.ireturn, 1) := by decide +kernel
theorem dX4_key_154 : decode cX4_key 154 = .ok (.bipush (-2), 2) := by decide +kernel
theorem dX4_key_156 : decode cX4_key 156 = .ok (.ireturn, 1) := by decide +kernel
theorem dX4_voice_0 : decode cX4_voice 0 = .ok (.iload_n 1, 1) := by decide +kernel
theorem dX4_voice_1 : decode cX4_voice 1 = .ok (.ifCond .lt 14, 3) := by decide +kernel
theorem dX4_voice_4 : decode cX4_voice 4 = .ok (.iload_n 1, 1) := by decide +kernel
theorem dX4_voice_5 : decode cX4_voice 5 = .ok (.aload_n 0, 1) := by decide +kernel
theorem dX4_voice_6 : decode cX4_voice 6 = .ok (.getfield 28, 3) := by decide +kernel
theorem dX4_voice_9 : decode cX4_voice 9 = .ok (.getfield 87, 3) := by decide +kernel
theorem dX4_voice_12 : decode cX4_voice 12 = .ok (.if_icmp .lt 5, 3) := by decide +kernel
theorem dX4_voice_15 : decode cX4_voice 15 = .ok (.iconst (-1), 1) := by decide +kernel
theorem dX4_voice_16 : decode cX4_voice 16 = .ok (.ireturn, 1) := by decide +kernel
theorem dX4_voice_17 : decode cX4_voice 17 = .ok (.aload_n 0, 1) := by decide +kernel
theorem dX4_voice_18 : decode cX4_voice 18 = .ok (.getfield 28, 3) := by decide +kernel
theorem dX4_voice_21 : decode cX4_voice 21 = .ok (.getfield 151, 3) := by decide +kernel
theorem dX4_voice_24 : decode cX4_voice 24 = .ok (.iload_n 1, 1) := by decide +kernel
theorem dX4_voice_25 : decode cX4_voice 25 = .ok (.iaload, 1) := by decide +kernel
theorem dX4_voice_26 : decode cX4_voice 26 = .ok (.ifCond .ne 7, 3) := by decide +kernel
theorem dX4_voice_29 : decode cX4_voice 29 = .ok (.iconst 1, 1) := by decide +kernel
theorem dX4_voice_30 : decode cX4_voice 30 = .ok (.goto 4, 3) := by decide +kernel
theorem dX4_voice_33 : decode cX4_voice 33 = .ok (.iconst 0, 1) := by decide +kernel
theorem dX4_voice_34 : decode cX4_voice 34 = .ok (.istore_n 3, 1) := by decide +kernel
theorem dX4_voice_35 : decode cX4_voice 35 = .ok (.iload_n 2, 1) := by decide +kernel
theorem dX4_voice_36 : decode cX4_voice 36 = .ok (.tableswitch 116 0 4 #[36, 46, 65, 84, 103], 36) := by decide +kernel
theorem dX4_voice_72 : decode cX4_voice 72 = .ok (.aload_n 0, 1) := by decide +kernel
theorem dX4_voice_73 : decode cX4_voice 73 = .ok (.getfield 28, 3) := by decide +kernel
theorem dX4_voice_76 : decode cX4_voice 76 = .ok (.getfield 151, 3) := by decide +kernel
theorem dX4_voice_79 : decode cX4_voice 79 = .ok (.iload_n 1, 1) := by decide +kernel
theorem dX4_voice_80 : decode cX4_voice 80 = .ok (.iaload, 1) := by decide +kernel
theorem dX4_voice_81 : decode cX4_voice 81 = .ok (.ireturn, 1) := by decide +kernel
theorem dX4_voice_82 : decode cX4_voice 82 = .ok (.iload_n 3, 1) := by decide +kernel
theorem dX4_voice_83 : decode cX4_voice 83 = .ok (.ifCond .eq 8, 3) := by decide +kernel
theorem dX4_voice_86 : decode cX4_voice 86 = .ok (.bipush (-3), 2) := by decide +kernel
theorem dX4_voice_88 : decode cX4_voice 88 = .ok (.goto 12, 3) := by decide +kernel
theorem dX4_voice_91 : decode cX4_voice 91 = .ok (.aload_n 0, 1) := by decide +kernel
theorem dX4_voice_92 : decode cX4_voice 92 = .ok (.getfield 28, 3) := by decide +kernel
theorem dX4_voice_95 : decode cX4_voice 95 = .ok (.getfield 154, 3) := by decide +kernel
theorem dX4_voice_98 : decode cX4_voice 98 = .ok (.iload_n 1, 1) := by decide +kernel
theorem dX4_voice_99 : decode cX4_voice 99 = .ok (.iaload, 1) := by decide +kernel
theorem dX4_voice_100 : decode cX4_voice 100 = .ok (.ireturn, 1) := by decide +kernel
theorem dX4_voice_101 : decode cX4_voice 101 = .ok (.iload_n 3, 1) := by decide +kernel
theorem dX4_voice_102 : decode cX4_voice 102 = .ok (.ifCond .eq 8, 3) := by decide +kernel
theorem dX4_voice_105 : decode cX4_voice 105 = .ok (.bipush (-3), 2) := by decide +kernel
theorem dX4_voice_107 : decode cX4_voice 107 = .ok (.goto 12, 3) := by decide +kernel
theorem dX4_voice_110 : decode cX4_voice 110 = .ok (.aload_n 0, 1) := by decide +kernel
theorem dX4_voice_111 : decode cX4_voice 111 = .ok (.getfield 28, 3) := by decide +kernel
theorem dX4_voice_114 : decode cX4_voice 114 = .ok (.getfield 157, 3) := by decide +kernel
theorem dX4_voice_117 : decode cX4_voice 117 = .ok (.iload_n 1, 1) := by decide +kernel
theorem dX4_voice_118 : decode cX4_voice 118 = .ok (.iaload, 1) := by decide +kernel
theorem dX4_voice_119 : decode cX4_voice 119 = .ok (.ireturn, 1) := by decide +kernel
theorem dX4_voice_120 : decode cX4_voice 120 = .ok (.iload_n 3, 1) := by decide +kernel
theorem dX4_voice_121 : decode cX4_voice 121 = .ok (.ifCond .eq 8, 3) := by decide +kernel
theorem dX4_voice_124 : decode cX4_voice 124 = .ok (.bipush (-3), 2) := by decide +kernel
theorem dX4_voice_126 : decode cX4_voice 126 = .ok (.goto 12, 3) := by decide +kernel
theorem dX4_voice_129 : decode cX4_voice 129 = .ok (.aload_n 0, 1) := by decide +kernel
theorem dX4_voice_130 : decode cX4_voice 130 = .ok (.getfield 28, 3) := by decide +kernel
theorem dX4_voice_133 : decode cX4_voice 133 = .ok (.getfield 160, 3) := by decide +kernel
theorem dX4_voice_136 : decode cX4_voice 136 = .ok (.iload_n 1, 1) := by decide +kernel
theorem dX4_voice_137 : decode cX4_voice 137 = .ok (.iaload, 1) := by decide +kernel
theorem dX4_voice_138 : decode cX4_voice 138 = .ok (.ireturn, 1) := by decide +kernel
theorem dX4_voice_139 : decode cX4_voice 139 = .ok (.aload_n 0, 1) := by decide +kernel
theorem dX4_voice_140 : decode cX4_voice 140 = .ok (.getfield 28, 3) := by decide +kernel
theorem dX4_voice_143 : decode cX4_voice 143 = .ok (.getfield 163, 3) := by decide +kernel
theorem dX4_voice_146 : decode cX4_voice 146 = .ok (.iload_n 1, 1) := by decide +kernel
theorem dX4_voice_147 : decode cX4_voice 147 = .ok (.baload, 1) := by decide +kernel
theorem dX4_voice_148 : decode cX4_voice 148 = .ok (.invokestatic 83, 3) := by decide +kernel
theorem dX4_voice_151 : decode cX4_voice 151 = .ok (.ireturn, 1) := by decide +kernel
theorem dX4_voice_152 : decode cX4_voice 152 = .ok (.bipush (-2), 2) := by decide +kernel
theorem dX4_voice_154 : decode cX4_voice 154 = .ok (.ireturn, 1) := by decide +kernel
theorem dX4_count_0 : decode cX4_count 0 = .ok (.iload_n 1, 1) := by decide +kernel
theorem dX4_count_1 : decode cX4_count 1 = .ok (.tableswitch 160 0 11 #[63, 68, 76, 84, 92, 100, 108, 125, 134, 142, 147, 152], 63) := by decide +kernel
theorem dX4_count_64 : decode cX4_count 64 = .ok (.aload_n 0, 1) := by decide +kernel
theorem dX4_count_65 : decode cX4_count 65 = .ok (.getfield 39, 3) := by decide +kernel
theorem dX4_count_68 : decode cX4_count 68 = .ok (.ireturn, 1) := by decide +kernel
theorem dX4_count_69 : decode cX4_count 69 = .ok (.aload_n 0, 1) := by decide +kernel
theorem dX4_count_70 : decode cX4_count 70 = .ok (.getfield 12, 3) := by decide +kernel
theorem dX4_count_73 : decode cX4_count 73 = .ok (.invokevirtual 73, 3) := by decide +kernel
theorem dX4_count_76 : decode cX4_count 76 = .ok (.ireturn, 1) := by decide +kernel
theorem dX4_count_77 : decode cX4_count 77 = .ok (.aload_n 0, 1) := by decide +kernel
theorem dX4_count_78 : decode cX4_count 78 = .ok (.getfield 12, 3) := by decide +kernel
theorem dX4_count_81 : decode cX4_count 81 = .ok (.invokevirtual 106, 3) := by decide +kernel
theorem dX4_count_84 : decode cX4_count 84 = .ok (.ireturn, 1) := by decide +kernel
theorem dX4_count_85 : decode cX4_count 85 = .ok (.aload_n 0, 1) := by decide +kernel
theorem dX4_count_86 : decode cX4_count 86 = .ok (.getfield 12, 3) := by decide +kernel
theorem dX4_count_89 : decode cX4_count 89 = .ok (.invokevirtual 80, 3) := by decide +kernel
theorem dX4_count_92 : decode cX4_count 92 = .ok (.ireturn, 1) := by decide +kernel
theorem dX4_count_93 : decode cX4_count 93 = .ok (.aload_n 0, 1) := by decide +kernel
theorem dX4_count_94 : decode cX4_count 94 = .ok (.getfield 12, 3) := by decide +kernel
theorem dX4_count_97 : decode cX4_count 97 = .ok (.invokevirtual 167, 3) := by decide +kernel
theorem dX4_count_100 : decode cX4_count 100 = .ok (.ireturn, 1) := by decide +kernel
theorem dX4_count_101 : decode cX4_count 101 = .ok (.aload_n 0, 1) := by decide +kernel
theorem dX4_count_102 : decode cX4_count 102 = .ok (.getfield 28, 3) := by decide +kernel
theorem dX4_count_105 : decode cX4_count 105 = .ok (.getfield 87, 3) := by decide +kernel
theorem dX4_count_108 : decode cX4_count 108 = .ok (.ireturn, 1) := by decide +kernel
theorem dX4_count_109 : decode cX4_count 109 = .ok (.aload_n 0, 1) := by decide +kernel
theorem dX4_count_110 : decode cX4_count 110 = .ok (.getfield 28, 3) := by decide +kernel
theorem dX4_count_113 : decode cX4_count 113 = .ok (.getfield 87, 3) := by decide +kernel
theorem dX4_count_116 : decode cX4_count 116 = .ok (.aload_n 0, 1) := by decide +kernel
theorem dX4_count_117 : decode cX4_count 117 = .ok (.getfield 28, 3) := by decide +kernel
theorem dX4_count_120 : decode cX4_count 120 = .ok (.iconst 0, 1) := by decide +kernel
theorem dX4_count_121 : decode cX4_count 121 = .ok (.invokevirtual 170, 3) := by decide +kernel
theorem dX4_count_124 : decode cX4_count 124 = .ok (.isub, 1) := by decide +kernel
theorem dX4_count_125 : decode cX4_count 125 = .ok (.ireturn, 1) := by decide +kernel
theorem dX4_count_126 : decode cX4_count 126 = .ok (.aload_n 0, 1) := by decide +kernel
theorem dX4_count_127 : decode cX4_count 127 = .ok (.getfield 28, 3) := by decide +kernel
theorem dX4_count_130 : decode cX4_count 130 = .ok (.iconst 2, 1) := by decide +kernel
theorem dX4_count_131 : decode cX4_count 131 = .ok (.invokevirtual 170, 3) := by decide +kernel
theorem dX4_count_134 : decode cX4_count 134 = .ok (.ireturn, 1) := by decide +kernel
theorem dX4_count_135 : decode cX4_count 135 = .ok (.aload_n 0, 1) := by decide +kernel
theorem dX4_count_136 : decode cX4_count 136 = .ok (.getfield 19, 3) := by decide +kernel
theorem dX4_count_139 : decode cX4_count 139 = .ok (.getfield 173, 3) := by decide +kernel
theorem dX4_count_142 : decode cX4_count 142 = .ok (.ireturn, 1) := by decide +kernel
theorem dX4_count_143 : decode cX4_count 143 = .ok (.aload_n 0, 1) := by decide +kernel
theorem dX4_count_144 : decode cX4_count 144 = .ok (.getfield 53, 3) := by decide +kernel
theorem dX4_count_147 : decode cX4_count 147 = .ok (.ireturn, 1) := by decide +kernel
theorem dX4_count_148 : decode cX4_count 148 = .ok (.aload_n 0, 1) := by decide +kernel
theorem dX4_count_149 : decode cX4_count 149 = .ok (.getfield 56, 3) := by decide +kernel
theorem dX4_count_152 : decode cX4_count 152 = .ok (.ireturn, 1) := by decide +kernel
theorem dX4_count_153 : decode cX4_count 153 = .ok (.aload_n 0, 1) := by decide +kernel
theorem dX4_count_154 : decode cX4_count 154 = .ok (.getfield 28, 3) := by decide +kernel
theorem dX4_count_157 : decode cX4_count 157 = .ok (.getfield 176, 3) := by decide +kernel
theorem dX4_count_160 : decode cX4_count 160 = .ok (.ireturn, 1) := by decide +kernel
theorem dX4_count_161 : decode cX4_count 161 = .ok (.bipush (-2), 2) := by decide +kernel
theorem dX4_count_163 : decode cX4_count 163 = .ok (.ireturn, 1) := by decide +kernel
theorem dX4_log_0 : decode cX4_log 0 = .ok (.iload_n 1, 1) := by decide +kernel
theorem dX4_log_1 : decode cX4_log 1 = .ok (.ifCond .lt 12, 3) := by decide +kernel
theorem dX4_log_4 : decode cX4_log 4 = .ok (.iload_n 2, 1) := by decide +kernel
theorem dX4_log_5 : decode cX4_log 5 = .ok (.iconst 0, 1) := by decide +kernel
theorem dX4_log_6 : decode cX4_log 6 = .ok (.iconst 2, 1) := by decide +kernel
theorem dX4_log_7 : decode cX4_log 7 = .ok (.invokestatic 59, 3) := by decide +kernel
theorem dX4_log_10 : decode cX4_log 10 = .ok (.ifCond .ne 6, 3) := by decide +kernel
theorem dX4_log_13 : decode cX4_log 13 = .ok (.bipush (-2), 2) := by decide +kernel
theorem dX4_log_15 : decode cX4_log 15 = .ok (.ireturn, 1) := by decide +kernel
theorem dX4_log_16 : decode cX4_log 16 = .ok (.iload_n 1, 1) := by decide +kernel
theorem dX4_log_17 : decode cX4_log 17 = .ok (.aload_n 0, 1) := by decide +kernel
theorem dX4_log_18 : decode cX4_log 18 = .ok (.getfield 19, 3) := by decide +kernel
theorem dX4_log_21 : decode cX4_log 21 = .ok (.invokevirtual 179, 3) := by decide +kernel
theorem dX4_log_24 : decode cX4_log 24 = .ok (.if_icmp .lt 6, 3) := by decide +kernel
theorem dX4_log_27 : decode cX4_log 27 = .ok (.bipush (-3), 2) := by decide +kernel
theorem dX4_log_29 : decode cX4_log 29 = .ok (.ireturn, 1) := by decide +kernel
theorem dX4_log_30 : decode cX4_log 30 = .ok (.aload_n 0, 1) := by decide +kernel
theorem dX4_log_31 : decode cX4_log 31 = .ok (.getfield 19, 3) := by decide +kernel
theorem dX4_log_34 : decode cX4_log 34 = .ok (.iload_n 1, 1) := by decide +kernel
theorem dX4_log_35 : decode cX4_log 35 = .ok (.invokevirtual 180, 3) := by decide +kernel
theorem dX4_log_38 : decode cX4_log 38 = .ok (.istore_n 3, 1) := by decide +kernel
theorem dX4_log_39 : decode cX4_log 39 = .ok (.iload_n 2, 1) := by decide +kernel
theorem dX4_log_40 : decode cX4_log 40 = .ok (.lookupswitch 48 #[(0, 28), (1, 38)], 28) := by decide +kernel
theorem dX4_log_68 : decode cX4_log 68 = .ok (.aload_n 0, 1) := by decide +kernel
theorem dX4_log_69 : decode cX4_log 69 = .ok (.getfield 19, 3) := by decide +kernel
theorem dX4_log_72 : decode cX4_log 72 = .ok (.getfield 183, 3) := by decide +kernel
theorem dX4_log_75 : decode cX4_log 75 = .ok (.iload_n 3, 1) := by decide +kernel
theorem dX4_log_76 : decode cX4_log 76 = .ok (.iaload, 1) := by decide +kernel
theorem dX4_log_77 : decode cX4_log 77 = .ok (.ireturn, 1) := by decide +kernel
theorem dX4_log_78 : decode cX4_log 78 = .ok (.aload_n 0, 1) := by decide +kernel
theorem dX4_log_79 : decode cX4_log 79 = .ok (.getfield 19, 3) := by decide +kernel
theorem dX4_log_82 : decode cX4_log 82 = .ok (.getfield 186, 3) := by decide +kernel
theorem dX4_log_85 : decode cX4_log 85 = .ok (.iload_n 3, 1) := by decide +kernel
theorem dX4_log_86 : decode cX4_log 86 = .ok (.iaload, 1) := by decide +kernel
theorem dX4_log_87 : decode cX4_log 87 = .ok (.ireturn, 1) := by decide +kernel
theorem dX4_log_88 : decode cX4_log 88 = .ok (.aload_n 0, 1) := by decide +kernel
theorem dX4_log_89 : decode cX4_log 89 = .ok (.getfield 19, 3) := by decide +kernel
theorem dX4_log_92 : decode cX4_log 92 = .ok (.getfield 189, 3) := by decide +kernel
theorem dX4_log_95 : decode cX4_log 95 = .ok (.iload_n 3, 1) := by decide +kernel
theorem dX4_log_96 : decode cX4_log 96 = .ok (.iaload, 1) := by decide +kernel
theorem dX4_log_97 : decode cX4_log 97 = .ok (.ireturn, 1) := by decide +kernel
theorem dX4_velocity_0 : decode cX4_velocity 0 = .ok (.iload_n 1, 1) := by decide +kernel
theorem dX4_velocity_1 : decode cX4_velocity 1 = .ok (.iconst 0, 1) := by decide +kernel
theorem dX4_velocity_2 : decode cX4_velocity 2 = .ok (.sipush 1000, 3) := by decide +kernel
theorem dX4_velocity_5 : decode cX4_velocity 5 = .ok (.invokestatic 59, 3) := by decide +kernel
theorem dX4_velocity_8 : decode cX4_velocity 8 = .ok (.ifCond .eq 11, 3) := by decide +kernel
theorem dX4_velocity_11 : decode cX4_velocity 11 = .ok (.aload_n 0, 1) := by decide +kernel
theorem dX4_velocity_12 : decode cX4_velocity 12 = .ok (.iload_n 1, 1) := by decide +kernel
theorem dX4_velocity_13 : decode cX4_velocity 13 = .ok (.invokevirtual 190, 3) := by decide +kernel
theorem dX4_velocity_16 : decode cX4_velocity 16 = .ok (.goto 5, 3) := by decide +kernel
theorem dX4_velocity_19 : decode cX4_velocity 19 = .ok (.bipush (-2), 2) := by decide +kernel
theorem dX4_velocity_21 : decode cX4_velocity 21 = .ok (.ireturn, 1) := by decide +kernel
theorem dX4_nextTaken_0 : decode cX4_nextTaken 0 = .ok (.aload_n 0, 1) := by decide +kernel
theorem dX4_nextTaken_1 : decode cX4_nextTaken 1 = .ok (.getfield 28, 3) := by decide +kernel
theorem dX4_nextTaken_4 : decode cX4_nextTaken 4 = .ok (.invokevirtual 193, 3) := by decide +kernel
theorem dX4_nextTaken_7 : decode cX4_nextTaken 7 = .ok (.bipush (-3), 2) := by decide +kernel
theorem dX4_nextTaken_9 : decode cX4_nextTaken 9 = .ok (.if_icmp .ne 13, 3) := by decide +kernel
theorem dX4_nextTaken_12 : decode cX4_nextTaken 12 = .ok (.aload_n 0, 1) := by decide +kernel
theorem dX4_nextTaken_13 : decode cX4_nextTaken 13 = .ok (.getfield 28, 3) := by decide +kernel
theorem dX4_nextTaken_16 : decode cX4_nextTaken 16 = .ok (.invokevirtual 196, 3) := by decide +kernel
theorem dX4_nextTaken_19 : decode cX4_nextTaken 19 = .ok (.goto 5, 3) := by decide +kernel
theorem dX4_nextTaken_22 : decode cX4_nextTaken 22 = .ok (.bipush (-3), 2) := by decide +kernel
theorem dX4_nextTaken_24 : decode cX4_nextTaken 24 = .ok (.ireturn, 1) := by decide +kernel
theorem dX4_connected_0 : decode cX4_connected 0 = .ok (.iload_n 1, 1) := by decide +kernel
theorem dX4_connected_1 : decode cX4_connected 1 = .ok (.ifCond .lt 14, 3) := by decide +kernel
theorem dX4_connected_4 : decode cX4_connected 4 = .ok (.iload_n 1, 1) := by decide +kernel
theorem dX4_connected_5 : decode cX4_connected 5 = .ok (.aload_n 0, 1) := by decide +kernel
theorem dX4_connected_6 : decode cX4_connected 6 = .ok (.getfield 12, 3) := by decide +kernel
theorem dX4_connected_9 : decode cX4_connected 9 = .ok (.getfield 119, 3) := by decide +kernel
theorem dX4_connected_12 : decode cX4_connected 12 = .ok (.if_icmp .lt 6, 3) := by decide +kernel
theorem dX4_connected_15 : decode cX4_connected 15 = .ok (.bipush (-2), 2) := by decide +kernel
theorem dX4_connected_17 : decode cX4_connected 17 = .ok (.ireturn, 1) := by decide +kernel
theorem dX4_connected_18 : decode cX4_connected 18 = .ok (.aload_n 0, 1) := by decide +kernel
theorem dX4_connected_19 : decode cX4_connected 19 = .ok (.getfield 12, 3) := by decide +kernel
theorem dX4_connected_22 : decode cX4_connected 22 = .ok (.getfield 199, 3) := by decide +kernel
theorem dX4_connected_25 : decode cX4_connected 25 = .ok (.iload_n 1, 1) := by decide +kernel
theorem dX4_connected_26 : decode cX4_connected 26 = .ok (.invokevirtual 203, 3) := by decide +kernel
theorem dX4_connected_29 : decode cX4_connected 29 = .ok (.aload_n 0, 1) := by decide +kernel
theorem dX4_connected_30 : decode cX4_connected 30 = .ok (.getfield 12, 3) := by decide +kernel
theorem dX4_connected_33 : decode cX4_connected 33 = .ok (.getfield 199, 3) := by decide +kernel
theorem dX4_connected_36 : decode cX4_connected 36 = .ok (.getfield 208, 3) := by decide +kernel
theorem dX4_connected_39 : decode cX4_connected 39 = .ok (.iload_n 1, 1) := by decide +kernel
theorem dX4_connected_40 : decode cX4_connected 40 = .ok (.iaload, 1) := by decide +kernel
theorem dX4_connected_41 : decode cX4_connected 41 = .ok (.bipush 8, 2) := by decide +kernel
theorem dX4_connected_43 : decode cX4_connected 43 = .ok (.ishl, 1) := by decide +kernel
theorem dX4_connected_44 : decode cX4_connected 44 = .ok (.ior, 1) := by decide +kernel
theorem dX4_connected_45 : decode cX4_connected 45 = .ok (.ireturn, 1) := by decide +kernel
theorem dX4_worstKey_0 : decode cX4_worstKey 0 = .ok (.bipush (-3), 2) := by decide +kernel
theorem dX4_worstKey_2 : decode cX4_worstKey 2 = .ok (.istore_n 1, 1) := by decide +kernel
theorem dX4_worstKey_3 : decode cX4_worstKey 3 = .ok (.aload_n 0, 1) := by decide +kernel
theorem dX4_worstKey_4 : decode cX4_worstKey 4 = .ok (.getfield 12, 3) := by decide +kernel
theorem dX4_worstKey_7 : decode cX4_worstKey 7 = .ok (.invokevirtual 80, 3) := by decide +kernel
theorem dX4_worstKey_10 : decode cX4_worstKey 10 = .ok (.istore_n 2, 1) := by decide +kernel
theorem dX4_worstKey_11 : decode cX4_worstKey 11 = .ok (.iconst 0, 1) := by decide +kernel
theorem dX4_worstKey_12 : decode cX4_worstKey 12 = .ok (.istore_n 3, 1) := by decide +kernel
theorem dX4_worstKey_13 : decode cX4_worstKey 13 = .ok (.iload_n 3, 1) := by decide +kernel
theorem dX4_worstKey_14 : decode cX4_worstKey 14 = .ok (.aload_n 0, 1) := by decide +kernel
theorem dX4_worstKey_15 : decode cX4_worstKey 15 = .ok (.getfield 12, 3) := by decide +kernel
theorem dX4_worstKey_18 : decode cX4_worstKey 18 = .ok (.invokevirtual 73, 3) := by decide +kernel
theorem dX4_worstKey_21 : decode cX4_worstKey 21 = .ok (.if_icmp .ge 46, 3) := by decide +kernel
theorem dX4_worstKey_24 : decode cX4_worstKey 24 = .ok (.iload_n 2, 1) := by decide +kernel
theorem dX4_worstKey_25 : decode cX4_worstKey 25 = .ok (.ifCond .le 42, 3) := by decide +kernel
theorem dX4_worstKey_28 : decode cX4_worstKey 28 = .ok (.aload_n 0, 1) := by decide +kernel
theorem dX4_worstKey_29 : decode cX4_worstKey 29 = .ok (.getfield 12, 3) := by decide +kernel
theorem dX4_worstKey_32 : decode cX4_worstKey 32 = .ok (.getfield 100, 3) := by decide +kernel
theorem dX4_worstKey_35 : decode cX4_worstKey 35 = .ok (.iload_n 3, 1) := by decide +kernel
theorem dX4_worstKey_36 : decode cX4_worstKey 36 = .ok (.iaload, 1) := by decide +kernel
theorem dX4_worstKey_37 : decode cX4_worstKey 37 = .ok (.ifCond .eq 24, 3) := by decide +kernel
theorem dX4_worstKey_40 : decode cX4_worstKey 40 = .ok (.aload_n 0, 1) := by decide +kernel
theorem dX4_worstKey_41 : decode cX4_worstKey 41 = .ok (.getfield 12, 3) := by decide +kernel
theorem dX4_worstKey_44 : decode cX4_worstKey 44 = .ok (.iload_n 3, 1) := by decide +kernel
theorem dX4_worstKey_45 : decode cX4_worstKey 45 = .ok (.invokevirtual 211, 3) := by decide +kernel
theorem dX4_worstKey_48 : decode cX4_worstKey 48 = .ok (.istore 4, 2) := by decide +kernel
theorem dX4_worstKey_50 : decode cX4_worstKey 50 = .ok (.iload 4, 2) := by decide +kernel
theorem dX4_worstKey_52 : decode cX4_worstKey 52 = .ok (.iload_n 2, 1) := by decide +kernel
theorem dX4_worstKey_53 : decode cX4_worstKey 53 = .ok (.if_icmp .ge 8, 3) := by decide +kernel
theorem dX4_worstKey_56 : decode cX4_worstKey 56 = .ok (.iload 4, 2) := by decide +kernel
theorem dX4_worstKey_58 : decode cX4_worstKey 58 = .ok (.istore_n 2, 1) := by decide +kernel
theorem dX4_worstKey_59 : decode cX4_worstKey 59 = .ok (.iload_n 3, 1) := by decide +kernel
theorem dX4_worstKey_60 : decode cX4_worstKey 60 = .ok (.istore_n 1, 1) := by decide +kernel
theorem dX4_worstKey_61 : decode cX4_worstKey 61 = .ok (.iinc 3 1, 3) := by decide +kernel
theorem dX4_worstKey_64 : decode cX4_worstKey 64 = .ok (.goto (-51), 3) := by decide +kernel
theorem dX4_worstKey_67 : decode cX4_worstKey 67 = .ok (.iload_n 1, 1) := by decide +kernel
theorem dX4_worstKey_68 : decode cX4_worstKey 68 = .ok (.ireturn, 1) := by decide +kernel
theorem dX4_restAfter_0 : decode cX4_restAfter 0 = .ok (.iload_n 1, 1) := by decide +kernel
theorem dX4_restAfter_1 : decode cX4_restAfter 1 = .ok (.iconst 1, 1) := by decide +kernel
theorem dX4_restAfter_2 : decode cX4_restAfter 2 = .ok (.sipush 1000, 3) := by decide +kernel
theorem dX4_restAfter_5 : decode cX4_restAfter 5 = .ok (.invokestatic 59, 3) := by decide +kernel
theorem dX4_restAfter_8 : decode cX4_restAfter 8 = .ok (.ifCond .ne 6, 3) := by decide +kernel
theorem dX4_restAfter_11 : decode cX4_restAfter 11 = .ok (.bipush (-2), 2) := by decide +kernel
theorem dX4_restAfter_13 : decode cX4_restAfter 13 = .ok (.ireturn, 1) := by decide +kernel
theorem dX4_restAfter_14 : decode cX4_restAfter 14 = .ok (.iload_n 1, 1) := by decide +kernel
theorem dX4_restAfter_15 : decode cX4_restAfter 15 = .ok (.aload_n 0, 1) := by decide +kernel
theorem dX4_restAfter_16 : decode cX4_restAfter 16 = .ok (.getfield 12, 3) := by decide +kernel
theorem dX4_restAfter_19 : decode cX4_restAfter 19 = .ok (.getfield 119, 3) := by decide +kernel
theorem dX4_restAfter_22 : decode cX4_restAfter 22 = .ok (.invokestatic 122, 3) := by decide +kernel
theorem dX4_restAfter_25 : decode cX4_restAfter 25 = .ok (.istore_n 2, 1) := by decide +kernel
theorem dX4_restAfter_26 : decode cX4_restAfter 26 = .ok (.iconst 0, 1) := by decide +kernel
theorem dX4_restAfter_27 : decode cX4_restAfter 27 = .ok (.istore_n 3, 1) := by decide +kernel
theorem dX4_restAfter_28 : decode cX4_restAfter 28 = .ok (.iload_n 3, 1) := by decide +kernel
theorem dX4_restAfter_29 : decode cX4_restAfter 29 = .ok (.iload_n 2, 1) := by decide +kernel
theorem dX4_restAfter_30 : decode cX4_restAfter 30 = .ok (.if_icmp .gt 19, 3) := by decide +kernel
theorem dX4_restAfter_33 : decode cX4_restAfter 33 = .ok (.aload_n 0, 1) := by decide +kernel
theorem dX4_restAfter_34 : decode cX4_restAfter 34 = .ok (.iload_n 3, 1) := by decide +kernel
theorem dX4_restAfter_35 : decode cX4_restAfter 35 = .ok (.invokevirtual 214, 3) := by decide +kernel
theorem dX4_restAfter_38 : decode cX4_restAfter 38 = .ok (.ifCond .eq 5, 3) := by decide +kernel
theorem dX4_restAfter_41 : decode cX4_restAfter 41 = .ok (.iload_n 3, 1) := by decide +kernel
theorem dX4_restAfter_42 : decode cX4_restAfter 42 = .ok (.ireturn, 1) := by decide +kernel
theorem dX4_restAfter_43 : decode cX4_restAfter 43 = .ok (.iinc 3 1, 3) := by decide +kernel
theorem dX4_restAfter_46 : decode cX4_restAfter 46 = .ok (.goto (-18), 3) := by decide +kernel
theorem dX4_restAfter_49 : decode cX4_restAfter 49 = .ok (.bipush (-3), 2) := by decide +kernel
theorem dX4_restAfter_51 : decode cX4_restAfter 51 = .ok (.ireturn, 1) := by decide +kernel
theorem dX4_scanRow_0 : decode cX4_scanRow 0 = .ok (.iload_n 1, 1) := by decide +kernel
theorem dX4_scanRow_1 : decode cX4_scanRow 1 = .ok (.aload_n 0, 1) := by decide +kernel
theorem dX4_scanRow_2 : decode cX4_scanRow 2 = .ok (.getfield 12, 3) := by decide +kernel
theorem dX4_scanRow_5 : decode cX4_scanRow 5 = .ok (.getfield 217, 3) := by decide +kernel
theorem dX4_scanRow_8 : decode cX4_scanRow 8 = .ok (.imul, 1) := by decide +kernel
theorem dX4_scanRow_9 : decode cX4_scanRow 9 = .ok (.istore_n 2, 1) := by decide +kernel
theorem dX4_scanRow_10 : decode cX4_scanRow 10 = .ok (.iconst 0, 1) := by decide +kernel
theorem dX4_scanRow_11 : decode cX4_scanRow 11 = .ok (.istore_n 3, 1) := by decide +kernel
theorem dX4_scanRow_12 : decode cX4_scanRow 12 = .ok (.iload_n 3, 1) := by decide +kernel
theorem dX4_scanRow_13 : decode cX4_scanRow 13 = .ok (.aload_n 0, 1) := by decide +kernel
theorem dX4_scanRow_14 : decode cX4_scanRow 14 = .ok (.getfield 12, 3) := by decide +kernel
theorem dX4_scanRow_17 : decode cX4_scanRow 17 = .ok (.getfield 217, 3) := by decide +kernel
theorem dX4_scanRow_20 : decode cX4_scanRow 20 = .ok (.if_icmp .ge 16, 3) := by decide +kernel
theorem dX4_scanRow_23 : decode cX4_scanRow 23 = .ok (.aload_n 0, 1) := by decide +kernel
theorem dX4_scanRow_24 : decode cX4_scanRow 24 = .ok (.iload_n 2, 1) := by decide +kernel
theorem dX4_scanRow_25 : decode cX4_scanRow 25 = .ok (.iload_n 3, 1) := by decide +kernel
theorem dX4_scanRow_26 : decode cX4_scanRow 26 = .ok (.iadd, 1) := by decide +kernel
theorem dX4_scanRow_27 : decode cX4_scanRow 27 = .ok (.invokevirtual 220, 3) := by decide +kernel
theorem dX4_scanRow_30 : decode cX4_scanRow 30 = .ok (.iinc 3 1, 3) := by decide +kernel
theorem dX4_scanRow_33 : decode cX4_scanRow 33 = .ok (.goto (-21), 3) := by decide +kernel
theorem dX4_scanRow_36 : decode cX4_scanRow 36 = .ok (.return_, 1) := by decide +kernel
theorem dX4_scanKey_0 : decode cX4_scanKey 0 = .ok (.aload_n 0, 1) := by decide +kernel
theorem dX4_scanKey_1 : decode cX4_scanKey 1 = .ok (.getfield 12, 3) := by decide +kernel
theorem dX4_scanKey_4 : decode cX4_scanKey 4 = .ok (.iload_n 1, 1) := by decide +kernel
theorem dX4_scanKey_5 : decode cX4_scanKey 5 = .ok (.invokevirtual 139, 3) := by decide +kernel
theorem dX4_scanKey_8 : decode cX4_scanKey 8 = .ok (.istore_n 2, 1) := by decide +kernel
theorem dX4_scanKey_9 : decode cX4_scanKey 9 = .ok (.aload_n 0, 1) := by decide +kernel
theorem dX4_scanKey_10 : decode cX4_scanKey 10 = .ok (.getfield 12, 3) := by decide +kernel
theorem dX4_scanKey_13 : decode cX4_scanKey 13 = .ok (.iload_n 1, 1) := by decide +kernel
theorem dX4_scanKey_14 : decode cX4_scanKey 14 = .ok (.invokevirtual 142, 3) := by decide +kernel
theorem dX4_scanKey_17 : decode cX4_scanKey 17 = .ok (.istore_n 3, 1) := by decide +kernel
theorem dX4_scanKey_18 : decode cX4_scanKey 18 = .ok (.aload_n 0, 1) := by decide +kernel
theorem dX4_scanKey_19 : decode cX4_scanKey 19 = .ok (.getfield 32, 3) := by decide +kernel
theorem dX4_scanKey_22 : decode cX4_scanKey 22 = .ok (.iload_n 1, 1) := by decide +kernel
theorem dX4_scanKey_23 : decode cX4_scanKey 23 = .ok (.iaload, 1) := by decide +kernel
theorem dX4_scanKey_24 : decode cX4_scanKey 24 = .ok (.iconst 2, 1) := by decide +kernel
theorem dX4_scanKey_25 : decode cX4_scanKey 25 = .ok (.if_icmp .ne 7, 3) := by decide +kernel
theorem dX4_scanKey_28 : decode cX4_scanKey 28 = .ok (.iconst 1, 1) := by decide +kernel
theorem dX4_scanKey_29 : decode cX4_scanKey 29 = .ok (.goto 4, 3) := by decide +kernel
theorem dX4_scanKey_32 : decode cX4_scanKey 32 = .ok (.iconst 0, 1) := by decide +kernel
theorem dX4_scanKey_33 : decode cX4_scanKey 33 = .ok (.istore 4, 2) := by decide +kernel
theorem dX4_scanKey_35 : decode cX4_scanKey 35 = .ok (.aload_n 0, 1) := by decide +kernel
theorem dX4_scanKey_36 : decode cX4_scanKey 36 = .ok (.getfield 32, 3) := by decide +kernel
theorem dX4_scanKey_39 : decode cX4_scanKey 39 = .ok (.iload_n 1, 1) := by decide +kernel
theorem dX4_scanKey_40 : decode cX4_scanKey 40 = .ok (.iaload, 1) := by decide +kernel
theorem dX4_scanKey_41 : decode cX4_scanKey 41 = .ok (.ifCond .ne 13, 3) := by decide +kernel
theorem dX4_scanKey_44 : decode cX4_scanKey 44 = .ok (.iload_n 2, 1) := by decide +kernel
theorem dX4_scanKey_45 : decode cX4_scanKey 45 = .ok (.ifCond .eq 9, 3) := by decide +kernel
theorem dX4_scanKey_48 : decode cX4_scanKey 48 = .ok (.aload_n 0, 1) := by decide +kernel
theorem dX4_scanKey_49 : decode cX4_scanKey 49 = .ok (.iload_n 1, 1) := by decide +kernel
theorem dX4_scanKey_50 : decode cX4_scanKey 50 = .ok (.iconst 1, 1) := by decide +kernel
theorem dX4_scanKey_51 : decode cX4_scanKey 51 = .ok (.invokevirtual 223, 3) := by decide +kernel
theorem dX4_scanKey_54 : decode cX4_scanKey 54 = .ok (.aload_n 0, 1) := by decide +kernel
theorem dX4_scanKey_55 : decode cX4_scanKey 55 = .ok (.getfield 32, 3) := by decide +kernel
theorem dX4_scanKey_58 : decode cX4_scanKey 58 = .ok (.iload_n 1, 1) := by decide +kernel
theorem dX4_scanKey_59 : decode cX4_scanKey 59 = .ok (.iaload, 1) := by decide +kernel
theorem dX4_scanKey_60 : decode cX4_scanKey 60 = .ok (.iconst 1, 1) := by decide +kernel
theorem dX4_scanKey_61 : decode cX4_scanKey 61 = .ok (.if_icmp .ne 26, 3) := by decide +kernel
theorem dX4_scanKey_64 : decode cX4_scanKey 64 = .ok (.iload_n 3, 1) := by decide +kernel
theorem dX4_scanKey_65 : decode cX4_scanKey 65 = .ok (.ifCond .eq 11, 3) := by decide +kernel
theorem dX4_scanKey_68 : decode cX4_scanKey 68 = .ok (.aload_n 0, 1) := by decide +kernel
theorem dX4_scanKey_69 : decode cX4_scanKey 69 = .ok (.iload_n 1, 1) := by decide +kernel
theorem dX4_scanKey_70 : decode cX4_scanKey 70 = .ok (.invokevirtual 226, 3) := by decide +kernel
theorem dX4_scanKey_73 : decode cX4_scanKey 73 = .ok (.goto 14, 3) := by decide +kernel
theorem dX4_scanKey_76 : decode cX4_scanKey 76 = .ok (.iload_n 2, 1) := by decide +kernel
theorem dX4_scanKey_77 : decode cX4_scanKey 77 = .ok (.ifCond .ne 10, 3) := by decide +kernel
theorem dX4_scanKey_80 : decode cX4_scanKey 80 = .ok (.aload_n 0, 1) := by decide +kernel
theorem dX4_scanKey_81 : decode cX4_scanKey 81 = .ok (.getfield 32, 3) := by decide +kernel
theorem dX4_scanKey_84 : decode cX4_scanKey 84 = .ok (.iload_n 1, 1) := by decide +kernel
theorem dX4_scanKey_85 : decode cX4_scanKey 85 = .ok (.iconst 0, 1) := by decide +kernel
theorem dX4_scanKey_86 : decode cX4_scanKey 86 = .ok (.iastore, 1) := by decide +kernel
theorem dX4_scanKey_87 : decode cX4_scanKey 87 = .ok (.iload 4, 2) := by decide +kernel
theorem dX4_scanKey_89 : decode cX4_scanKey 89 = .ok (.ifCond .eq 32, 3) := by decide +kernel
theorem dX4_scanKey_92 : decode cX4_scanKey 92 = .ok (.iload_n 3, 1) := by decide +kernel
theorem dX4_scanKey_93 : decode cX4_scanKey 93 = .ok (.ifCond .ne 28, 3) := by decide +kernel
theorem dX4_scanKey_96 : decode cX4_scanKey 96 = .ok (.aload_n 0, 1) := by decide +kernel
theorem dX4_scanKey_97 : decode cX4_scanKey 97 = .ok (.getfield 50, 3) := by decide +kernel
theorem dX4_scanKey_100 : decode cX4_scanKey 100 = .ok (.ifCond .ne 15, 3) := by decide +kernel
theorem dX4_scanKey_103 : decode cX4_scanKey 103 = .ok (.aload_n 0, 1) := by decide +kernel
theorem dX4_scanKey_104 : decode cX4_scanKey 104 = .ok (.getfield 28, 3) := by decide +kernel
theorem dX4_scanKey_107 : decode cX4_scanKey 107 = .ok (.iload_n 1, 1) := by decide +kernel
theorem dX4_scanKey_108 : decode cX4_scanKey 108 = .ok (.aload_n 0, 1) := by decide +kernel
theorem dX4_scanKey_109 : decode cX4_scanKey 109 = .ok (.getfield 39, 3) := by decide +kernel
theorem dX4_scanKey_112 : decode cX4_scanKey 112 = .ok (.invokevirtual 229, 3) := by decide +kernel
theorem dX4_scanKey_115 : decode cX4_scanKey 115 = .ok (.aload_n 0, 1) := by decide +kernel
theorem dX4_scanKey_116 : decode cX4_scanKey 116 = .ok (.iload_n 1, 1) := by decide +kernel
theorem dX4_scanKey_117 : decode cX4_scanKey 117 = .ok (.iconst 3, 1) := by decide +kernel
theorem dX4_scanKey_118 : decode cX4_scanKey 118 = .ok (.invokevirtual 223, 3) := by decide +kernel
theorem dX4_scanKey_121 : decode cX4_scanKey 121 = .ok (.aload_n 0, 1) := by decide +kernel
theorem dX4_scanKey_122 : decode cX4_scanKey 122 = .ok (.getfield 32, 3) := by decide +kernel
theorem dX4_scanKey_125 : decode cX4_scanKey 125 = .ok (.iload_n 1, 1) := by decide +kernel
theorem dX4_scanKey_126 : decode cX4_scanKey 126 = .ok (.iaload, 1) := by decide +kernel
theorem dX4_scanKey_127 : decode cX4_scanKey 127 = .ok (.iconst 3, 1) := by decide +kernel
theorem dX4_scanKey_128 : decode cX4_scanKey 128 = .ok (.if_icmp .ne 38, 3) := by decide +kernel
theorem dX4_scanKey_131 : decode cX4_scanKey 131 = .ok (.iload_n 3, 1) := by decide +kernel
theorem dX4_scanKey_132 : decode cX4_scanKey 132 = .ok (.ifCond .eq 11, 3) := by decide +kernel
theorem dX4_scanKey_135 : decode cX4_scanKey 135 = .ok (.aload_n 0, 1) := by decide +kernel
theorem dX4_scanKey_136 : decode cX4_scanKey 136 = .ok (.iload_n 1, 1) := by decide +kernel
theorem dX4_scanKey_137 : decode cX4_scanKey 137 = .ok (.invokevirtual 226, 3) := by decide +kernel
theorem dX4_scanKey_140 : decode cX4_scanKey 140 = .ok (.goto 26, 3) := by decide +kernel
theorem dX4_scanKey_143 : decode cX4_scanKey 143 = .ok (.iload_n 2, 1) := by decide +kernel
theorem dX4_scanKey_144 : decode cX4_scanKey 144 = .ok (.ifCond .ne 22, 3) := by decide +kernel
theorem dX4_scanKey_147 : decode cX4_scanKey 147 = .ok (.aload_n 0, 1) := by decide +kernel
theorem dX4_scanKey_148 : decode cX4_scanKey 148 = .ok (.getfield 28, 3) := by decide +kernel
theorem dX4_scanKey_151 : decode cX4_scanKey 151 = .ok (.iload_n 1, 1) := by decide +kernel
theorem dX4_scanKey_152 : decode cX4_scanKey 152 = .ok (.aload_n 0, 1) := by decide +kernel
theorem dX4_scanKey_153 : decode cX4_scanKey 153 = .ok (.getfield 39, 3) := by decide +kernel
theorem dX4_scanKey_156 : decode cX4_scanKey 156 = .ok (.invokevirtual 229, 3) := by decide +kernel
theorem dX4_scanKey_159 : decode cX4_scanKey 159 = .ok (.aload_n 0, 1) := by decide +kernel
theorem dX4_scanKey_160 : decode cX4_scanKey 160 = .ok (.getfield 32, 3) := by decide +kernel
theorem dX4_scanKey_163 : decode cX4_scanKey 163 = .ok (.iload_n 1, 1) := by decide +kernel
theorem dX4_scanKey_164 : decode cX4_scanKey 164 = .ok (.iconst 0, 1) := by decide +kernel
theorem dX4_scanKey_165 : decode cX4_scanKey 165 = .ok (.iastore, 1) := by decide +kernel
theorem dX4_scanKey_166 : decode cX4_scanKey 166 = .ok (.return_, 1) := by decide +kernel
theorem dX4_enter_0 : decode cX4_enter 0 = .ok (.aload_n 0, 1) := by decide +kernel
theorem dX4_enter_1 : decode cX4_enter 1 = .ok (.getfield 32, 3) := by decide +kernel
theorem dX4_enter_4 : decode cX4_enter 4 = .ok (.iload_n 1, 1) := by decide +kernel
theorem dX4_enter_5 : decode cX4_enter 5 = .ok (.iload_n 2, 1) := by decide +kernel
theorem dX4_enter_6 : decode cX4_enter 6 = .ok (.iastore, 1) := by decide +kernel
theorem dX4_enter_7 : decode cX4_enter 7 = .ok (.aload_n 0, 1) := by decide +kernel
theorem dX4_enter_8 : decode cX4_enter 8 = .ok (.getfield 36, 3) := by decide +kernel
theorem dX4_enter_11 : decode cX4_enter 11 = .ok (.iload_n 1, 1) := by decide +kernel
theorem dX4_enter_12 : decode cX4_enter 12 = .ok (.aload_n 0, 1) := by decide +kernel
theorem dX4_enter_13 : decode cX4_enter 13 = .ok (.getfield 39, 3) := by decide +kernel
theorem dX4_enter_16 : decode cX4_enter 16 = .ok (.iastore, 1) := by decide +kernel
theorem dX4_enter_17 : decode cX4_enter 17 = .ok (.return_, 1) := by decide +kernel
theorem dX4_strike_0 : decode cX4_strike 0 = .ok (.aload_n 0, 1) := by decide +kernel
theorem dX4_strike_1 : decode cX4_strike 1 = .ok (.getfield 32, 3) := by decide +kernel
theorem dX4_strike_4 : decode cX4_strike 4 = .ok (.iload_n 1, 1) := by decide +kernel
theorem dX4_strike_5 : decode cX4_strike 5 = .ok (.iconst 2, 1) := by decide +kernel
theorem dX4_strike_6 : decode cX4_strike 6 = .ok (.iastore, 1) := by decide +kernel
theorem dX4_strike_7 : decode cX4_strike 7 = .ok (.aload_n 0, 1) := by decide +kernel
theorem dX4_strike_8 : decode cX4_strike 8 = .ok (.getfield 46, 3) := by decide +kernel
theorem dX4_strike_11 : decode cX4_strike 11 = .ok (.ifCond .eq 40, 3) := by decide +kernel
theorem dX4_strike_14 : decode cX4_strike 14 = .ok (.aload_n 0, 1) := by decide +kernel
theorem dX4_strike_15 : decode cX4_strike 15 = .ok (.getfield 12, 3) := by decide +kernel
theorem dX4_strike_18 : decode cX4_strike 18 = .ok (.iload_n 1, 1) := by decide +kernel
theorem dX4_strike_19 : decode cX4_strike 19 = .ok (.invokevirtual 148, 3) := by decide +kernel
theorem dX4_strike_22 : decode cX4_strike 22 = .ok (.ifCond .eq 29, 3) := by decide +kernel
theorem dX4_strike_25 : decode cX4_strike 25 = .ok (.aload_n 0, 1) := by decide +kernel
theorem dX4_strike_26 : decode cX4_strike 26 = .ok (.dup, 1) := by decide +kernel
theorem dX4_strike_27 : decode cX4_strike 27 = .ok (.getfield 56, 3) := by decide +kernel
theorem dX4_strike_30 : decode cX4_strike 30 = .ok (.iconst 1, 1) := by decide +kernel
theorem dX4_strike_31 : decode cX4_strike 31 = .ok (.iadd, 1) := by decide +kernel
theorem dX4_strike_32 : decode cX4_strike 32 = .ok (.putfield 56, 3) := by decide +kernel
theorem dX4_strike_35 : decode cX4_strike 35 = .ok (.aload_n 0, 1) := by decide +kernel
theorem dX4_strike_36 : decode cX4_strike 36 = .ok (.getfield 19, 3) := by decide +kernel
theorem dX4_strike_39 : decode cX4_strike 39 = .ok (.aload_n 0, 1) := by decide +kernel
theorem dX4_strike_40 : decode cX4_strike 40 = .ok (.getfield 39, 3) := by decide +kernel
theorem dX4_strike_43 : decode cX4_strike 43 = .ok (.iconst 4, 1) := by decide +kernel
theorem dX4_strike_44 : decode cX4_strike 44 = .ok (.iload_n 1, 1) := by decide +kernel
theorem dX4_strike_45 : decode cX4_strike 45 = .ok (.invokevirtual 232, 3) := by decide +kernel
theorem dX4_strike_48 : decode cX4_strike 48 = .ok (.goto 48, 3) := by decide +kernel
theorem dX4_strike_51 : decode cX4_strike 51 = .ok (.aload_n 0, 1) := by decide +kernel
theorem dX4_strike_52 : decode cX4_strike 52 = .ok (.dup, 1) := by decide +kernel
theorem dX4_strike_53 : decode cX4_strike 53 = .ok (.getfield 53, 3) := by decide +kernel
theorem dX4_strike_56 : decode cX4_strike 56 = .ok (.iconst 1, 1) := by decide +kernel
theorem dX4_strike_57 : decode cX4_strike 57 = .ok (.iadd, 1) := by decide +kernel
theorem dX4_strike_58 : decode cX4_strike 58 = .ok (.putfield 53, 3) := by decide +kernel
theorem dX4_strike_61 : decode cX4_strike 61 = .ok (.aload_n 0, 1) := by decide +kernel
theorem dX4_strike_62 : decode cX4_strike 62 = .ok (.getfield 28, 3) := by decide +kernel
theorem dX4_strike_65 : decode cX4_strike 65 = .ok (.iload_n 1, 1) := by decide +kernel
theorem dX4_strike_66 : decode cX4_strike 66 = .ok (.aload_n 0, 1) := by decide +kernel
theorem dX4_strike_67 : decode cX4_strike 67 = .ok (.aload_n 0, 1) := by decide +kernel
theorem dX4_strike_68 : decode cX4_strike 68 = .ok (.getfield 39, 3) := by decide +kernel
theorem dX4_strike_71 : decode cX4_strike 71 = .ok (.aload_n 0, 1) := by decide +kernel
theorem dX4_strike_72 : decode cX4_strike 72 = .ok (.getfield 36, 3) := by decide +kernel
theorem dX4_strike_75 : decode cX4_strike 75 = .ok (.iload_n 1, 1) := by decide +kernel
theorem dX4_strike_76 : decode cX4_strike 76 = .ok (.iaload, 1) := by decide +kernel
theorem dX4_strike_77 : decode cX4_strike 77 = .ok (.isub, 1) := by decide +kernel
theorem dX4_strike_78 : decode cX4_strike 78 = .ok (.aload_n 0, 1) := by decide +kernel
theorem dX4_strike_79 : decode cX4_strike 79 = .ok (.getfield 12, 3) := by decide +kernel
theorem dX4_strike_82 : decode cX4_strike 82 = .ok (.getfield 119, 3) := by decide +kernel
theorem dX4_strike_85 : decode cX4_strike 85 = .ok (.idiv, 1) := by decide +kernel
theorem dX4_strike_86 : decode cX4_strike 86 = .ok (.invokevirtual 190, 3) := by decide +kernel
theorem dX4_strike_89 : decode cX4_strike 89 = .ok (.aload_n 0, 1) := by decide +kernel
theorem dX4_strike_90 : decode cX4_strike 90 = .ok (.getfield 39, 3) := by decide +kernel
theorem dX4_strike_93 : decode cX4_strike 93 = .ok (.invokevirtual 236, 3) := by decide +kernel
theorem dX4_strike_96 : decode cX4_strike 96 = .ok (.return_, 1) := by decide +kernel
theorem dX4_velocityAfter_0 : decode cX4_velocityAfter 0 = .ok (.iconst 1, 1) := by decide +kernel
theorem dX4_velocityAfter_1 : decode cX4_velocityAfter 1 = .ok (.bipush 127, 2) := by decide +kernel
theorem dX4_velocityAfter_3 : decode cX4_velocityAfter 3 = .ok (.sipush 128, 3) := by decide +kernel
theorem dX4_velocityAfter_6 : decode cX4_velocityAfter 6 = .ok (.aload_n 0, 1) := by decide +kernel
theorem dX4_velocityAfter_7 : decode cX4_velocityAfter 7 = .ok (.getfield 43, 3) := by decide +kernel
theorem dX4_velocityAfter_10 : decode cX4_velocityAfter 10 = .ok (.iload_n 1, 1) := by decide +kernel
theorem dX4_velocityAfter_11 : decode cX4_velocityAfter 11 = .ok (.imul, 1) := by decide +kernel
theorem dX4_velocityAfter_12 : decode cX4_velocityAfter 12 = .ok (.isub, 1) := by decide +kernel
theorem dX4_velocityAfter_13 : decode cX4_velocityAfter 13 = .ok (.invokestatic 122, 3) := by decide +kernel
theorem dX4_velocityAfter_16 : decode cX4_velocityAfter 16 = .ok (.invokestatic 239, 3) := by decide +kernel
theorem dX4_velocityAfter_19 : decode cX4_velocityAfter 19 = .ok (.ireturn, 1) := by decide +kernel
theorem dX4_allRestBehind_0 : decode cX4_allRestBehind 0 = .ok (.iconst 0, 1) := by decide +kernel
theorem dX4_allRestBehind_1 : decode cX4_allRestBehind 1 = .ok (.istore_n 2, 1) := by decide +kernel
theorem dX4_allRestBehind_2 : decode cX4_allRestBehind 2 = .ok (.iload_n 2, 1) := by decide +kernel
theorem dX4_allRestBehind_3 : decode cX4_allRestBehind 3 = .ok (.aload_n 0, 1) := by decide +kernel
theorem dX4_allRestBehind_4 : decode cX4_allRestBehind 4 = .ok (.getfield 12, 3) := by decide +kernel
theorem dX4_allRestBehind_7 : decode cX4_allRestBehind 7 = .ok (.getfield 119, 3) := by decide +kernel
theorem dX4_allRestBehind_10 : decode cX4_allRestBehind 10 = .ok (.if_icmp .ge 79, 3) := by decide +kernel
theorem dX4_allRestBehind_13 : decode cX4_allRestBehind 13 = .ok (.iload_n 2, 1) := by decide +kernel
theorem dX4_allRestBehind_14 : decode cX4_allRestBehind 14 = .ok (.aload_n 0, 1) := by decide +kernel
theorem dX4_allRestBehind_15 : decode cX4_allRestBehind 15 = .ok (.getfield 39, 3) := by decide +kernel
theorem dX4_allRestBehind_18 : decode cX4_allRestBehind 18 = .ok (.isub, 1) := by decide +kernel
theorem dX4_allRestBehind_19 : decode cX4_allRestBehind 19 = .ok (.aload_n 0, 1) := by decide +kernel
theorem dX4_allRestBehind_20 : decode cX4_allRestBehind 20 = .ok (.getfield 12, 3) := by decide +kernel
theorem dX4_allRestBehind_23 : decode cX4_allRestBehind 23 = .ok (.getfield 119, 3) := by decide +kernel
theorem dX4_allRestBehind_26 : decode cX4_allRestBehind 26 = .ok (.invokestatic 128, 3) := by decide +kernel
theorem dX4_allRestBehind_29 : decode cX4_allRestBehind 29 = .ok (.iload_n 1, 1) := by decide +kernel
theorem dX4_allRestBehind_30 : decode cX4_allRestBehind 30 = .ok (.if_icmp .ge 7, 3) := by decide +kernel
theorem dX4_allRestBehind_33 : decode cX4_allRestBehind 33 = .ok (.iconst 1, 1) := by decide +kernel
theorem dX4_allRestBehind_34 : decode cX4_allRestBehind 34 = .ok (.goto 4, 3) := by decide +kernel
theorem dX4_allRestBehind_37 : decode cX4_allRestBehind 37 = .ok (.iconst 0, 1) := by decide +kernel
theorem dX4_allRestBehind_38 : decode cX4_allRestBehind 38 = .ok (.istore_n 3, 1) := by decide +kernel
theorem dX4_allRestBehind_39 : decode cX4_allRestBehind 39 = .ok (.iload_n 3, 1) := by decide +kernel
theorem dX4_allRestBehind_40 : decode cX4_allRestBehind 40 = .ok (.ifCond .eq 29, 3) := by decide +kernel
theorem dX4_allRestBehind_43 : decode cX4_allRestBehind 43 = .ok (.aload_n 0, 1) := by decide +kernel
theorem dX4_allRestBehind_44 : decode cX4_allRestBehind 44 = .ok (.getfield 12, 3) := by decide +kernel
theorem dX4_allRestBehind_47 : decode cX4_allRestBehind 47 = .ok (.aload_n 0, 1) := by decide +kernel
theorem dX4_allRestBehind_48 : decode cX4_allRestBehind 48 = .ok (.getfield 12, 3) := by decide +kernel
theorem dX4_allRestBehind_51 : decode cX4_allRestBehind 51 = .ok (.getfield 199, 3) := by decide +kernel
theorem dX4_allRestBehind_54 : decode cX4_allRestBehind 54 = .ok (.iload_n 2, 1) := by decide +kernel
theorem dX4_allRestBehind_55 : decode cX4_allRestBehind 55 = .ok (.invokevirtual 242, 3) := by decide +kernel
theorem dX4_allRestBehind_58 : decode cX4_allRestBehind 58 = .ok (.ifCond .ne 7, 3) := by decide +kernel
theorem dX4_allRestBehind_61 : decode cX4_allRestBehind 61 = .ok (.iconst 1, 1) := by decide +kernel
theorem dX4_allRestBehind_62 : decode cX4_allRestBehind 62 = .ok (.goto 12, 3) := by decide +kernel
theorem dX4_allRestBehind_65 : decode cX4_allRestBehind 65 = .ok (.iconst 0, 1) := by decide +kernel
theorem dX4_allRestBehind_66 : decode cX4_allRestBehind 66 = .ok (.goto 8, 3) := by decide +kernel
theorem dX4_allRestBehind_69 : decode cX4_allRestBehind 69 = .ok (.aload_n 0, 1) := by decide +kernel
theorem dX4_allRestBehind_70 : decode cX4_allRestBehind 70 = .ok (.iload_n 2, 1) := by decide +kernel
theorem dX4_allRestBehind_71 : decode cX4_allRestBehind 71 = .ok (.invokevirtual 246, 3) := by decide +kernel
theorem dX4_allRestBehind_74 : decode cX4_allRestBehind 74 = .ok (.istore 4, 2) := by decide +kernel
theorem dX4_allRestBehind_76 : decode cX4_allRestBehind 76 = .ok (.iload 4, 2) := by decide +kernel
theorem dX4_allRestBehind_78 : decode cX4_allRestBehind 78 = .ok (.ifCond .ne 5, 3) := by decide +kernel
theorem dX4_allRestBehind_81 : decode cX4_allRestBehind 81 = .ok (.iconst 0, 1) := by decide +kernel
theorem dX4_allRestBehind_82 : decode cX4_allRestBehind 82 = .ok (.ireturn, 1) := by decide +kernel
theorem dX4_allRestBehind_83 : decode cX4_allRestBehind 83 = .ok (.iinc 2 1, 3) := by decide +kernel
theorem dX4_allRestBehind_86 : decode cX4_allRestBehind 86 = .ok (.goto (-84), 3) := by decide +kernel
theorem dX4_allRestBehind_89 : decode cX4_allRestBehind 89 = .ok (.iconst 1, 1) := by decide +kernel
theorem dX4_allRestBehind_90 : decode cX4_allRestBehind 90 = .ok (.ireturn, 1) := by decide +kernel
theorem dX4_rowRests_0 : decode cX4_rowRests 0 = .ok (.iload_n 1, 1) := by decide +kernel
theorem dX4_rowRests_1 : decode cX4_rowRests 1 = .ok (.aload_n 0, 1) := by decide +kernel
theorem dX4_rowRests_2 : decode cX4_rowRests 2 = .ok (.getfield 12, 3) := by decide +kernel
theorem dX4_rowRests_5 : decode cX4_rowRests 5 = .ok (.getfield 217, 3) := by decide +kernel
theorem dX4_rowRests_8 : decode cX4_rowRests 8 = .ok (.imul, 1) := by decide +kernel
theorem dX4_rowRests_9 : decode cX4_rowRests 9 = .ok (.istore_n 2, 1) := by decide +kernel
theorem dX4_rowRests_10 : decode cX4_rowRests 10 = .ok (.iconst 0, 1) := by decide +kernel
theorem dX4_rowRests_11 : decode cX4_rowRests 11 = .ok (.istore_n 3, 1) := by decide +kernel
theorem dX4_rowRests_12 : decode cX4_rowRests 12 = .ok (.iload_n 3, 1) := by decide +kernel
theorem dX4_rowRests_13 : decode cX4_rowRests 13 = .ok (.aload_n 0, 1) := by decide +kernel
theorem dX4_rowRests_14 : decode cX4_rowRests 14 = .ok (.getfield 12, 3) := by decide +kernel
theorem dX4_rowRests_17 : decode cX4_rowRests 17 = .ok (.getfield 217, 3) := by decide +kernel
theorem dX4_rowRests_20 : decode cX4_rowRests 20 = .ok (.if_icmp .ge 22, 3) := by decide +kernel
theorem dX4_rowRests_23 : decode cX4_rowRests 23 = .ok (.aload_n 0, 1) := by decide +kernel
theorem dX4_rowRests_24 : decode cX4_rowRests 24 = .ok (.getfield 32, 3) := by decide +kernel
theorem dX4_rowRests_27 : decode cX4_rowRests 27 = .ok (.iload_n 2, 1) := by decide +kernel
theorem dX4_rowRests_28 : decode cX4_rowRests 28 = .ok (.iload_n 3, 1) := by decide +kernel
theorem dX4_rowRests_29 : decode cX4_rowRests 29 = .ok (.iadd, 1) := by decide +kernel
theorem dX4_rowRests_30 : decode cX4_rowRests 30 = .ok (.iaload, 1) := by decide +kernel
theorem dX4_rowRests_31 : decode cX4_rowRests 31 = .ok (.ifCond .eq 5, 3) := by decide +kernel
theorem dX4_rowRests_34 : decode cX4_rowRests 34 = .ok (.iconst 0, 1) := by decide +kernel
theorem dX4_rowRests_35 : decode cX4_rowRests 35 = .ok (.ireturn, 1) := by decide +kernel
theorem dX4_rowRests_36 : decode cX4_rowRests 36 = .ok (.iinc 3 1, 3) := by decide +kernel
theorem dX4_rowRests_39 : decode cX4_rowRests 39 = .ok (.goto (-27), 3) := by decide +kernel
theorem dX4_rowRests_42 : decode cX4_rowRests 42 = .ok (.iconst 1, 1) := by decide +kernel
theorem dX4_rowRests_43 : decode cX4_rowRests 43 = .ok (.ireturn, 1) := by decide +kernel
theorem dX4_within_0 : decode cX4_within 0 = .ok (.iload_n 0, 1) := by decide +kernel
theorem dX4_within_1 : decode cX4_within 1 = .ok (.iload_n 1, 1) := by decide +kernel
theorem dX4_within_2 : decode cX4_within 2 = .ok (.if_icmp .lt 12, 3) := by decide +kernel
theorem dX4_within_5 : decode cX4_within 5 = .ok (.iload_n 0, 1) := by decide +kernel
theorem dX4_within_6 : decode cX4_within 6 = .ok (.iload_n 2, 1) := by decide +kernel
theorem dX4_within_7 : decode cX4_within 7 = .ok (.if_icmp .gt 7, 3) := by decide +kernel
theorem dX4_within_10 : decode cX4_within 10 = .ok (.iconst 1, 1) := by decide +kernel
theorem dX4_within_11 : decode cX4_within 11 = .ok (.goto 4, 3) := by decide +kernel
theorem dX4_within_14 : decode cX4_within 14 = .ok (.iconst 0, 1) := by decide +kernel
theorem dX4_within_15 : decode cX4_within 15 = .ok (.ireturn, 1) := by decide +kernel
theorem dX4_one_0 : decode cX4_one 0 = .ok (.iload_n 0, 1) := by decide +kernel
theorem dX4_one_1 : decode cX4_one 1 = .ok (.ifCond .eq 7, 3) := by decide +kernel
theorem dX4_one_4 : decode cX4_one 4 = .ok (.iconst 1, 1) := by decide +kernel
theorem dX4_one_5 : decode cX4_one 5 = .ok (.goto 4, 3) := by decide +kernel
theorem dX4_one_8 : decode cX4_one 8 = .ok (.iconst 0, 1) := by decide +kernel
theorem dX4_one_9 : decode cX4_one 9 = .ok (.ireturn, 1) := by decide +kernel
theorem dJ6_bitCount_0f7a4_0 : decode cJ6_bitCount_0f7a4 0 = .ok (.iload_n 0, 1) := by decide +kernel
theorem dJ6_bitCount_0f7a4_1 : decode cJ6_bitCount_0f7a4 1 = .ok (.iload_n 0, 1) := by decide +kernel
theorem dJ6_bitCount_0f7a4_2 : decode cJ6_bitCount_0f7a4 2 = .ok (.iconst 1, 1) := by decide +kernel
theorem dJ6_bitCount_0f7a4_3 : decode cJ6_bitCount_0f7a4 3 = .ok (.iushr, 1) := by decide +kernel
theorem dJ6_bitCount_0f7a4_4 : decode cJ6_bitCount_0f7a4 4 = .ok (.ldc_w 265, 3) := by decide +kernel
theorem dJ6_bitCount_0f7a4_7 : decode cJ6_bitCount_0f7a4 7 = .ok (.iand, 1) := by decide +kernel
theorem dJ6_bitCount_0f7a4_8 : decode cJ6_bitCount_0f7a4 8 = .ok (.isub, 1) := by decide +kernel
theorem dJ6_bitCount_0f7a4_9 : decode cJ6_bitCount_0f7a4 9 = .ok (.istore_n 0, 1) := by decide +kernel
theorem dJ6_bitCount_0f7a4_10 : decode cJ6_bitCount_0f7a4 10 = .ok (.iload_n 0, 1) := by decide +kernel
theorem dJ6_bitCount_0f7a4_11 : decode cJ6_bitCount_0f7a4 11 = .ok (.ldc_w 266, 3) := by decide +kernel
theorem dJ6_bitCount_0f7a4_14 : decode cJ6_bitCount_0f7a4 14 = .ok (.iand, 1) := by decide +kernel
theorem dJ6_bitCount_0f7a4_15 : decode cJ6_bitCount_0f7a4 15 = .ok (.iload_n 0, 1) := by decide +kernel
theorem dJ6_bitCount_0f7a4_16 : decode cJ6_bitCount_0f7a4 16 = .ok (.iconst 2, 1) := by decide +kernel
theorem dJ6_bitCount_0f7a4_17 : decode cJ6_bitCount_0f7a4 17 = .ok (.iushr, 1) := by decide +kernel
theorem dJ6_bitCount_0f7a4_18 : decode cJ6_bitCount_0f7a4 18 = .ok (.ldc_w 266, 3) := by decide +kernel
theorem dJ6_bitCount_0f7a4_21 : decode cJ6_bitCount_0f7a4 21 = .ok (.iand, 1) := by decide +kernel
theorem dJ6_bitCount_0f7a4_22 : decode cJ6_bitCount_0f7a4 22 = .ok (.iadd, 1) := by decide +kernel
theorem dJ6_bitCount_0f7a4_23 : decode cJ6_bitCount_0f7a4 23 = .ok (.istore_n 0, 1) := by decide +kernel
theorem dJ6_bitCount_0f7a4_24 : decode cJ6_bitCount_0f7a4 24 = .ok (.iload_n 0, 1) := by decide +kernel
theorem dJ6_bitCount_0f7a4_25 : decode cJ6_bitCount_0f7a4 25 = .ok (.iload_n 0, 1) := by decide +kernel
theorem dJ6_bitCount_0f7a4_26 : decode cJ6_bitCount_0f7a4 26 = .ok (.iconst 4, 1) := by decide +kernel
theorem dJ6_bitCount_0f7a4_27 : decode cJ6_bitCount_0f7a4 27 = .ok (.iushr, 1) := by decide +kernel
theorem dJ6_bitCount_0f7a4_28 : decode cJ6_bitCount_0f7a4 28 = .ok (.iadd, 1) := by decide +kernel
theorem dJ6_bitCount_0f7a4_29 : decode cJ6_bitCount_0f7a4 29 = .ok (.ldc_w 267, 3) := by decide +kernel
theorem dJ6_bitCount_0f7a4_32 : decode cJ6_bitCount_0f7a4 32 = .ok (.iand, 1) := by decide +kernel
theorem dJ6_bitCount_0f7a4_33 : decode cJ6_bitCount_0f7a4 33 = .ok (.istore_n 0, 1) := by decide +kernel
theorem dJ6_bitCount_0f7a4_34 : decode cJ6_bitCount_0f7a4 34 = .ok (.iload_n 0, 1) := by decide +kernel
theorem dJ6_bitCount_0f7a4_35 : decode cJ6_bitCount_0f7a4 35 = .ok (.iload_n 0, 1) := by decide +kernel
theorem dJ6_bitCount_0f7a4_36 : decode cJ6_bitCount_0f7a4 36 = .ok (.bipush 8, 2) := by decide +kernel
theorem dJ6_bitCount_0f7a4_38 : decode cJ6_bitCount_0f7a4 38 = .ok (.iushr, 1) := by decide +kernel
theorem dJ6_bitCount_0f7a4_39 : decode cJ6_bitCount_0f7a4 39 = .ok (.iadd, 1) := by decide +kernel
theorem dJ6_bitCount_0f7a4_40 : decode cJ6_bitCount_0f7a4 40 = .ok (.istore_n 0, 1) := by decide +kernel
theorem dJ6_bitCount_0f7a4_41 : decode cJ6_bitCount_0f7a4 41 = .ok (.iload_n 0, 1) := by decide +kernel
theorem dJ6_bitCount_0f7a4_42 : decode cJ6_bitCount_0f7a4 42 = .ok (.iload_n 0, 1) := by decide +kernel
theorem dJ6_bitCount_0f7a4_43 : decode cJ6_bitCount_0f7a4 43 = .ok (.bipush 16, 2) := by decide +kernel
theorem dJ6_bitCount_0f7a4_45 : decode cJ6_bitCount_0f7a4 45 = .ok (.iushr, 1) := by decide +kernel
theorem dJ6_bitCount_0f7a4_46 : decode cJ6_bitCount_0f7a4 46 = .ok (.iadd, 1) := by decide +kernel
theorem dJ6_bitCount_0f7a4_47 : decode cJ6_bitCount_0f7a4 47 = .ok (.istore_n 0, 1) := by decide +kernel
theorem dJ6_bitCount_0f7a4_48 : decode cJ6_bitCount_0f7a4 48 = .ok (.iload_n 0, 1) := by decide +kernel
theorem dJ6_bitCount_0f7a4_49 : decode cJ6_bitCount_0f7a4 49 = .ok (.bipush 63, 2) := by decide +kernel
theorem dJ6_bitCount_0f7a4_51 : decode cJ6_bitCount_0f7a4 51 = .ok (.iand, 1) := by decide +kernel
theorem dJ6_bitCount_0f7a4_52 : decode cJ6_bitCount_0f7a4 52 = .ok (.ireturn, 1) := by decide +kernel
theorem dJ9_floorMod_7cf53_0 : decode cJ9_floorMod_7cf53 0 = .ok (.iload_n 0, 1) := by decide +kernel
theorem dJ9_floorMod_7cf53_1 : decode cJ9_floorMod_7cf53 1 = .ok (.iload_n 1, 1) := by decide +kernel
theorem dJ9_floorMod_7cf53_2 : decode cJ9_floorMod_7cf53 2 = .ok (.irem, 1) := by decide +kernel
theorem dJ9_floorMod_7cf53_3 : decode cJ9_floorMod_7cf53 3 = .ok (.istore_n 2, 1) := by decide +kernel
theorem dJ9_floorMod_7cf53_4 : decode cJ9_floorMod_7cf53 4 = .ok (.iload_n 0, 1) := by decide +kernel
theorem dJ9_floorMod_7cf53_5 : decode cJ9_floorMod_7cf53 5 = .ok (.iload_n 1, 1) := by decide +kernel
theorem dJ9_floorMod_7cf53_6 : decode cJ9_floorMod_7cf53 6 = .ok (.ixor, 1) := by decide +kernel
theorem dJ9_floorMod_7cf53_7 : decode cJ9_floorMod_7cf53 7 = .ok (.ifCond .ge 11, 3) := by decide +kernel
theorem dJ9_floorMod_7cf53_10 : decode cJ9_floorMod_7cf53 10 = .ok (.iload_n 2, 1) := by decide +kernel
theorem dJ9_floorMod_7cf53_11 : decode cJ9_floorMod_7cf53 11 = .ok (.ifCond .eq 7, 3) := by decide +kernel
theorem dJ9_floorMod_7cf53_14 : decode cJ9_floorMod_7cf53 14 = .ok (.iload_n 2, 1) := by decide +kernel
theorem dJ9_floorMod_7cf53_15 : decode cJ9_floorMod_7cf53 15 = .ok (.iload_n 1, 1) := by decide +kernel
theorem dJ9_floorMod_7cf53_16 : decode cJ9_floorMod_7cf53 16 = .ok (.iadd, 1) := by decide +kernel
theorem dJ9_floorMod_7cf53_17 : decode cJ9_floorMod_7cf53 17 = .ok (.ireturn, 1) := by decide +kernel
theorem dJ9_floorMod_7cf53_18 : decode cJ9_floorMod_7cf53 18 = .ok (.iload_n 2, 1) := by decide +kernel
theorem dJ9_floorMod_7cf53_19 : decode cJ9_floorMod_7cf53 19 = .ok (.ireturn, 1) := by decide +kernel
theorem dJ9_max_7cf53_0 : decode cJ9_max_7cf53 0 = .ok (.iload_n 0, 1) := by decide +kernel
theorem dJ9_max_7cf53_1 : decode cJ9_max_7cf53 1 = .ok (.iload_n 1, 1) := by decide +kernel
theorem dJ9_max_7cf53_2 : decode cJ9_max_7cf53 2 = .ok (.if_icmp .lt 7, 3) := by decide +kernel
theorem dJ9_max_7cf53_5 : decode cJ9_max_7cf53 5 = .ok (.iload_n 0, 1) := by decide +kernel
theorem dJ9_max_7cf53_6 : decode cJ9_max_7cf53 6 = .ok (.goto 4, 3) := by decide +kernel
theorem dJ9_max_7cf53_9 : decode cJ9_max_7cf53 9 = .ok (.iload_n 1, 1) := by decide +kernel
theorem dJ9_max_7cf53_10 : decode cJ9_max_7cf53 10 = .ok (.ireturn, 1) := by decide +kernel
theorem dJ9_min_7cf53_0 : decode cJ9_min_7cf53 0 = .ok (.iload_n 0, 1) := by decide +kernel
theorem dJ9_min_7cf53_1 : decode cJ9_min_7cf53 1 = .ok (.iload_n 1, 1) := by decide +kernel
theorem dJ9_min_7cf53_2 : decode cJ9_min_7cf53 2 = .ok (.if_icmp .gt 7, 3) := by decide +kernel
theorem dJ9_min_7cf53_5 : decode cJ9_min_7cf53 5 = .ok (.iload_n 0, 1) := by decide +kernel
theorem dJ9_min_7cf53_6 : decode cJ9_min_7cf53 6 = .ok (.goto 4, 3) := by decide +kernel
theorem dJ9_min_7cf53_9 : decode cJ9_min_7cf53 9 = .ok (.iload_n 1, 1) := by decide +kernel
theorem dJ9_min_7cf53_10 : decode cJ9_min_7cf53 10 = .ok (.ireturn, 1) := by decide +kernel
theorem dL_cell_0 : decode cL_cell 0 = .ok (.iload_n 1, 1) := by decide +kernel
theorem dL_cell_1 : decode cL_cell 1 = .ok (.aload_n 0, 1) := by decide +kernel
theorem dL_cell_2 : decode cL_cell 2 = .ok (.arraylength, 1) := by decide +kernel
theorem dL_cell_3 : decode cL_cell 3 = .ok (.if_icmp .ge 9, 3) := by decide +kernel
theorem dL_cell_6 : decode cL_cell 6 = .ok (.aload_n 0, 1) := by decide +kernel
theorem dL_cell_7 : decode cL_cell 7 = .ok (.iload_n 1, 1) := by decide +kernel
theorem dL_cell_8 : decode cL_cell 8 = .ok (.iaload, 1) := by decide +kernel
theorem dL_cell_9 : decode cL_cell 9 = .ok (.goto 11, 3) := by decide +kernel
theorem dL_cell_12 : decode cL_cell 12 = .ok (.ldc 7, 2) := by decide +kernel
theorem dL_cell_14 : decode cL_cell 14 = .ok (.iload_n 1, 1) := by decide +kernel
theorem dL_cell_15 : decode cL_cell 15 = .ok (.imul, 1) := by decide +kernel
theorem dL_cell_16 : decode cL_cell 16 = .ok (.sipush 3301, 3) := by decide +kernel
theorem dL_cell_19 : decode cL_cell 19 = .ok (.iadd, 1) := by decide +kernel
theorem dL_cell_20 : decode cL_cell 20 = .ok (.ireturn, 1) := by decide +kernel
theorem dL_low_0 : decode cL_low 0 = .ok (.iload_n 0, 1) := by decide +kernel
theorem dL_low_1 : decode cL_low 1 = .ok (.ldc 8, 2) := by decide +kernel
theorem dL_low_3 : decode cL_low 3 = .ok (.iand, 1) := by decide +kernel
theorem dL_low_4 : decode cL_low 4 = .ok (.iload_n 1, 1) := by decide +kernel
theorem dL_low_5 : decode cL_low 5 = .ok (.irem, 1) := by decide +kernel
theorem dL_low_6 : decode cL_low 6 = .ok (.ireturn, 1) := by decide +kernel
theorem dL_matrix_0 : decode cL_matrix 0 = .ok (.iconst 0, 1) := by decide +kernel
theorem dL_matrix_1 : decode cL_matrix 1 = .ok (.istore 4, 2) := by decide +kernel
theorem dL_matrix_3 : decode cL_matrix 3 = .ok (.iconst 0, 1) := by decide +kernel
theorem dL_matrix_4 : decode cL_matrix 4 = .ok (.istore 5, 2) := by decide +kernel
theorem dL_matrix_6 : decode cL_matrix 6 = .ok (.iconst 0, 1) := by decide +kernel
theorem dL_matrix_7 : decode cL_matrix 7 = .ok (.istore 6, 2) := by decide +kernel
theorem dL_matrix_9 : decode cL_matrix 9 = .ok (.iconst 0, 1) := by decide +kernel
theorem dL_matrix_10 : decode cL_matrix 10 = .ok (.istore 7, 2) := by decide +kernel
theorem dL_matrix_12 : decode cL_matrix 12 = .ok (.iload 7, 2) := by decide +kernel
theorem dL_matrix_14 : decode cL_matrix 14 = .ok (.iload_n 1, 1) := by decide +kernel
theorem dL_matrix_15 : decode cL_matrix 15 = .ok (.if_icmp .ge 511, 3) := by decide +kernel
theorem dL_matrix_18 : decode cL_matrix 18 = .ok (.aload_n 0, 1) := by decide +kernel
theorem dL_matrix_19 : decode cL_matrix 19 = .ok (.iload 7, 2) := by decide +kernel
theorem dL_matrix_21 : decode cL_matrix 21 = .ok (.invokevirtual 9, 3) := by decide +kernel
theorem dL_matrix_24 : decode cL_matrix 24 = .ok (.istore 8, 2) := by decide +kernel
theorem dL_matrix_26 : decode cL_matrix 26 = .ok (.iload 8, 2) := by decide +kernel
theorem dL_matrix_28 : decode cL_matrix 28 = .ok (.iload 7, 2) := by decide +kernel
theorem dL_matrix_30 : decode cL_matrix 30 = .ok (.ishr, 1) := by decide +kernel
theorem dL_matrix_31 : decode cL_matrix 31 = .ok (.iconst 1, 1) := by decide +kernel
theorem dL_matrix_32 : decode cL_matrix 32 = .ok (.iand, 1) := by decide +kernel
theorem dL_matrix_33 : decode cL_matrix 33 = .ok (.ifCond .eq 23, 3) := by decide +kernel
theorem dL_matrix_36 : decode cL_matrix 36 = .ok (.aload_n 0, 1) := by decide +kernel
theorem dL_matrix_37 : decode cL_matrix 37 = .ok (.iload_n 1, 1) := by decide +kernel
theorem dL_matrix_38 : decode cL_matrix 38 = .ok (.invokevirtual 9, 3) := by decide +kernel
theorem dL_matrix_41 : decode cL_matrix 41 = .ok (.bipush (-2), 2) := by decide +kernel
theorem dL_matrix_43 : decode cL_matrix 43 = .ok (.if_icmp .ne 13, 3) := by decide +kernel
theorem dL_matrix_46 : decode cL_matrix 46 = .ok (.aload_n 0, 1) := by decide +kernel
theorem dL_matrix_47 : decode cL_matrix 47 = .ok (.iconst (-1), 1) := by decide +kernel
theorem dL_matrix_48 : decode cL_matrix 48 = .ok (.invokevirtual 9, 3) := by decide +kernel
theorem dL_matrix_51 : decode cL_matrix 51 = .ok (.bipush (-2), 2) := by decide +kernel
theorem dL_matrix_53 : decode cL_matrix 53 = .ok (.if_icmp .eq 5, 3) := by decide +kernel
theorem dL_matrix_56 : decode cL_matrix 56 = .ok (.iconst 0, 1) := by decide +kernel
theorem dL_matrix_57 : decode cL_matrix 57 = .ok (.ireturn, 1) := by decide +kernel
theorem dL_matrix_58 : decode cL_matrix 58 = .ok (.iconst 0, 1) := by decide +kernel
theorem dL_matrix_59 : decode cL_matrix 59 = .ok (.istore 9, 2) := by decide +kernel
theorem dL_matrix_61 : decode cL_matrix 61 = .ok (.iload 9, 2) := by decide +kernel
