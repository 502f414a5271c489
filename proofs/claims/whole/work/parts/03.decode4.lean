theorem dX5_pressed_28 : decode cX5_pressed 28 = .ok (.istore_n 1, 1) := by decide +kernel
theorem dX5_pressed_29 : decode cX5_pressed 29 = .ok (.iinc 2 1, 3) := by decide +kernel
theorem dX5_pressed_32 : decode cX5_pressed 32 = .ok (.goto (-28), 3) := by decide +kernel
theorem dX5_pressed_35 : decode cX5_pressed 35 = .ok (.iload_n 1, 1) := by decide +kernel
theorem dX5_pressed_36 : decode cX5_pressed 36 = .ok (.ireturn, 1) := by decide +kernel
theorem dX5_liftAll_0 : decode cX5_liftAll 0 = .ok (.aload_n 0, 1) := by decide +kernel
theorem dX5_liftAll_1 : decode cX5_liftAll 1 = .ok (.invokevirtual 179, 3) := by decide +kernel
theorem dX5_liftAll_4 : decode cX5_liftAll 4 = .ok (.istore_n 1, 1) := by decide +kernel
theorem dX5_liftAll_5 : decode cX5_liftAll 5 = .ok (.iconst 0, 1) := by decide +kernel
theorem dX5_liftAll_6 : decode cX5_liftAll 6 = .ok (.istore_n 2, 1) := by decide +kernel
theorem dX5_liftAll_7 : decode cX5_liftAll 7 = .ok (.iload_n 2, 1) := by decide +kernel
theorem dX5_liftAll_8 : decode cX5_liftAll 8 = .ok (.aload_n 0, 1) := by decide +kernel
theorem dX5_liftAll_9 : decode cX5_liftAll 9 = .ok (.invokevirtual 96, 3) := by decide +kernel
theorem dX5_liftAll_12 : decode cX5_liftAll 12 = .ok (.if_icmp .ge 16, 3) := by decide +kernel
theorem dX5_liftAll_15 : decode cX5_liftAll 15 = .ok (.aload_n 0, 1) := by decide +kernel
theorem dX5_liftAll_16 : decode cX5_liftAll 16 = .ok (.getfield 16, 3) := by decide +kernel
theorem dX5_liftAll_19 : decode cX5_liftAll 19 = .ok (.iload_n 2, 1) := by decide +kernel
theorem dX5_liftAll_20 : decode cX5_liftAll 20 = .ok (.iconst 0, 1) := by decide +kernel
theorem dX5_liftAll_21 : decode cX5_liftAll 21 = .ok (.iastore, 1) := by decide +kernel
theorem dX5_liftAll_22 : decode cX5_liftAll 22 = .ok (.iinc 2 1, 3) := by decide +kernel
theorem dX5_liftAll_25 : decode cX5_liftAll 25 = .ok (.goto (-18), 3) := by decide +kernel
theorem dX5_liftAll_28 : decode cX5_liftAll 28 = .ok (.aload_n 0, 1) := by decide +kernel
theorem dX5_liftAll_29 : decode cX5_liftAll 29 = .ok (.invokevirtual 89, 3) := by decide +kernel
theorem dX5_liftAll_32 : decode cX5_liftAll 32 = .ok (.iload_n 1, 1) := by decide +kernel
theorem dX5_liftAll_33 : decode cX5_liftAll 33 = .ok (.ireturn, 1) := by decide +kernel
theorem dX5_dropKept_0 : decode cX5_dropKept 0 = .ok (.iconst 0, 1) := by decide +kernel
theorem dX5_dropKept_1 : decode cX5_dropKept 1 = .ok (.istore_n 1, 1) := by decide +kernel
theorem dX5_dropKept_2 : decode cX5_dropKept 2 = .ok (.iconst 0, 1) := by decide +kernel
theorem dX5_dropKept_3 : decode cX5_dropKept 3 = .ok (.istore_n 2, 1) := by decide +kernel
theorem dX5_dropKept_4 : decode cX5_dropKept 4 = .ok (.iload_n 2, 1) := by decide +kernel
theorem dX5_dropKept_5 : decode cX5_dropKept 5 = .ok (.aload_n 0, 1) := by decide +kernel
theorem dX5_dropKept_6 : decode cX5_dropKept 6 = .ok (.getfield 13, 3) := by decide +kernel
theorem dX5_dropKept_9 : decode cX5_dropKept 9 = .ok (.if_icmp .ge 50, 3) := by decide +kernel
theorem dX5_dropKept_12 : decode cX5_dropKept 12 = .ok (.aload_n 0, 1) := by decide +kernel
theorem dX5_dropKept_13 : decode cX5_dropKept 13 = .ok (.getfield 33, 3) := by decide +kernel
theorem dX5_dropKept_16 : decode cX5_dropKept 16 = .ok (.iload_n 2, 1) := by decide +kernel
theorem dX5_dropKept_17 : decode cX5_dropKept 17 = .ok (.iaload, 1) := by decide +kernel
theorem dX5_dropKept_18 : decode cX5_dropKept 18 = .ok (.iconst 2, 1) := by decide +kernel
theorem dX5_dropKept_19 : decode cX5_dropKept 19 = .ok (.if_icmp .ne 34, 3) := by decide +kernel
theorem dX5_dropKept_22 : decode cX5_dropKept 22 = .ok (.aload_n 0, 1) := by decide +kernel
theorem dX5_dropKept_23 : decode cX5_dropKept 23 = .ok (.getfield 67, 3) := by decide +kernel
theorem dX5_dropKept_26 : decode cX5_dropKept 26 = .ok (.ifCond .ne 27, 3) := by decide +kernel
theorem dX5_dropKept_29 : decode cX5_dropKept 29 = .ok (.aload_n 0, 1) := by decide +kernel
theorem dX5_dropKept_30 : decode cX5_dropKept 30 = .ok (.getfield 71, 3) := by decide +kernel
theorem dX5_dropKept_33 : decode cX5_dropKept 33 = .ok (.ifCond .eq 12, 3) := by decide +kernel
theorem dX5_dropKept_36 : decode cX5_dropKept 36 = .ok (.aload_n 0, 1) := by decide +kernel
theorem dX5_dropKept_37 : decode cX5_dropKept 37 = .ok (.getfield 45, 3) := by decide +kernel
theorem dX5_dropKept_40 : decode cX5_dropKept 40 = .ok (.iload_n 2, 1) := by decide +kernel
theorem dX5_dropKept_41 : decode cX5_dropKept 41 = .ok (.baload, 1) := by decide +kernel
theorem dX5_dropKept_42 : decode cX5_dropKept 42 = .ok (.ifCond .ne 11, 3) := by decide +kernel
theorem dX5_dropKept_45 : decode cX5_dropKept 45 = .ok (.iload_n 1, 1) := by decide +kernel
theorem dX5_dropKept_46 : decode cX5_dropKept 46 = .ok (.aload_n 0, 1) := by decide +kernel
theorem dX5_dropKept_47 : decode cX5_dropKept 47 = .ok (.iload_n 2, 1) := by decide +kernel
theorem dX5_dropKept_48 : decode cX5_dropKept 48 = .ok (.invokevirtual 125, 3) := by decide +kernel
theorem dX5_dropKept_51 : decode cX5_dropKept 51 = .ok (.iadd, 1) := by decide +kernel
theorem dX5_dropKept_52 : decode cX5_dropKept 52 = .ok (.istore_n 1, 1) := by decide +kernel
theorem dX5_dropKept_53 : decode cX5_dropKept 53 = .ok (.iinc 2 1, 3) := by decide +kernel
theorem dX5_dropKept_56 : decode cX5_dropKept 56 = .ok (.goto (-52), 3) := by decide +kernel
theorem dX5_dropKept_59 : decode cX5_dropKept 59 = .ok (.iload_n 1, 1) := by decide +kernel
theorem dX5_dropKept_60 : decode cX5_dropKept 60 = .ok (.ireturn, 1) := by decide +kernel
theorem dX5_sustain_0 : decode cX5_sustain 0 = .ok (.aload_n 0, 1) := by decide +kernel
theorem dX5_sustain_1 : decode cX5_sustain 1 = .ok (.iload_n 1, 1) := by decide +kernel
theorem dX5_sustain_2 : decode cX5_sustain 2 = .ok (.putfield 67, 3) := by decide +kernel
theorem dX5_sustain_5 : decode cX5_sustain 5 = .ok (.aload_n 0, 1) := by decide +kernel
theorem dX5_sustain_6 : decode cX5_sustain 6 = .ok (.invokevirtual 182, 3) := by decide +kernel
theorem dX5_sustain_9 : decode cX5_sustain 9 = .ok (.ireturn, 1) := by decide +kernel
theorem dX5_sostenuto_0 : decode cX5_sostenuto 0 = .ok (.aload_n 0, 1) := by decide +kernel
theorem dX5_sostenuto_1 : decode cX5_sostenuto 1 = .ok (.getfield 71, 3) := by decide +kernel
theorem dX5_sostenuto_4 : decode cX5_sostenuto 4 = .ok (.iload_n 1, 1) := by decide +kernel
theorem dX5_sostenuto_5 : decode cX5_sostenuto 5 = .ok (.if_icmp .ne 5, 3) := by decide +kernel
theorem dX5_sostenuto_8 : decode cX5_sostenuto 8 = .ok (.iconst 0, 1) := by decide +kernel
theorem dX5_sostenuto_9 : decode cX5_sostenuto 9 = .ok (.ireturn, 1) := by decide +kernel
theorem dX5_sostenuto_10 : decode cX5_sostenuto 10 = .ok (.aload_n 0, 1) := by decide +kernel
theorem dX5_sostenuto_11 : decode cX5_sostenuto 11 = .ok (.iload_n 1, 1) := by decide +kernel
theorem dX5_sostenuto_12 : decode cX5_sostenuto 12 = .ok (.putfield 71, 3) := by decide +kernel
theorem dX5_sostenuto_15 : decode cX5_sostenuto 15 = .ok (.iconst 0, 1) := by decide +kernel
theorem dX5_sostenuto_16 : decode cX5_sostenuto 16 = .ok (.istore_n 2, 1) := by decide +kernel
theorem dX5_sostenuto_17 : decode cX5_sostenuto 17 = .ok (.iconst 0, 1) := by decide +kernel
theorem dX5_sostenuto_18 : decode cX5_sostenuto 18 = .ok (.istore_n 3, 1) := by decide +kernel
theorem dX5_sostenuto_19 : decode cX5_sostenuto 19 = .ok (.iload_n 3, 1) := by decide +kernel
theorem dX5_sostenuto_20 : decode cX5_sostenuto 20 = .ok (.aload_n 0, 1) := by decide +kernel
theorem dX5_sostenuto_21 : decode cX5_sostenuto 21 = .ok (.getfield 13, 3) := by decide +kernel
theorem dX5_sostenuto_24 : decode cX5_sostenuto 24 = .ok (.if_icmp .ge 51, 3) := by decide +kernel
theorem dX5_sostenuto_27 : decode cX5_sostenuto 27 = .ok (.aload_n 0, 1) := by decide +kernel
theorem dX5_sostenuto_28 : decode cX5_sostenuto 28 = .ok (.getfield 45, 3) := by decide +kernel
theorem dX5_sostenuto_31 : decode cX5_sostenuto 31 = .ok (.iload_n 3, 1) := by decide +kernel
theorem dX5_sostenuto_32 : decode cX5_sostenuto 32 = .ok (.iload_n 1, 1) := by decide +kernel
theorem dX5_sostenuto_33 : decode cX5_sostenuto 33 = .ok (.ifCond .eq 17, 3) := by decide +kernel
theorem dX5_sostenuto_36 : decode cX5_sostenuto 36 = .ok (.aload_n 0, 1) := by decide +kernel
theorem dX5_sostenuto_37 : decode cX5_sostenuto 37 = .ok (.getfield 33, 3) := by decide +kernel
theorem dX5_sostenuto_40 : decode cX5_sostenuto 40 = .ok (.iload_n 3, 1) := by decide +kernel
theorem dX5_sostenuto_41 : decode cX5_sostenuto 41 = .ok (.iaload, 1) := by decide +kernel
theorem dX5_sostenuto_42 : decode cX5_sostenuto 42 = .ok (.iconst 1, 1) := by decide +kernel
theorem dX5_sostenuto_43 : decode cX5_sostenuto 43 = .ok (.if_icmp .ne 7, 3) := by decide +kernel
theorem dX5_sostenuto_46 : decode cX5_sostenuto 46 = .ok (.iconst 1, 1) := by decide +kernel
theorem dX5_sostenuto_47 : decode cX5_sostenuto 47 = .ok (.goto 4, 3) := by decide +kernel
theorem dX5_sostenuto_50 : decode cX5_sostenuto 50 = .ok (.iconst 0, 1) := by decide +kernel
theorem dX5_sostenuto_51 : decode cX5_sostenuto 51 = .ok (.bastore, 1) := by decide +kernel
theorem dX5_sostenuto_52 : decode cX5_sostenuto 52 = .ok (.iload_n 2, 1) := by decide +kernel
theorem dX5_sostenuto_53 : decode cX5_sostenuto 53 = .ok (.aload_n 0, 1) := by decide +kernel
theorem dX5_sostenuto_54 : decode cX5_sostenuto 54 = .ok (.getfield 45, 3) := by decide +kernel
theorem dX5_sostenuto_57 : decode cX5_sostenuto 57 = .ok (.iload_n 3, 1) := by decide +kernel
theorem dX5_sostenuto_58 : decode cX5_sostenuto 58 = .ok (.baload, 1) := by decide +kernel
theorem dX5_sostenuto_59 : decode cX5_sostenuto 59 = .ok (.ifCond .eq 7, 3) := by decide +kernel
theorem dX5_sostenuto_62 : decode cX5_sostenuto 62 = .ok (.iconst 1, 1) := by decide +kernel
theorem dX5_sostenuto_63 : decode cX5_sostenuto 63 = .ok (.goto 4, 3) := by decide +kernel
theorem dX5_sostenuto_66 : decode cX5_sostenuto 66 = .ok (.iconst 0, 1) := by decide +kernel
theorem dX5_sostenuto_67 : decode cX5_sostenuto 67 = .ok (.iadd, 1) := by decide +kernel
theorem dX5_sostenuto_68 : decode cX5_sostenuto 68 = .ok (.istore_n 2, 1) := by decide +kernel
theorem dX5_sostenuto_69 : decode cX5_sostenuto 69 = .ok (.iinc 3 1, 3) := by decide +kernel
theorem dX5_sostenuto_72 : decode cX5_sostenuto 72 = .ok (.goto (-53), 3) := by decide +kernel
theorem dX5_sostenuto_75 : decode cX5_sostenuto 75 = .ok (.iload_n 1, 1) := by decide +kernel
theorem dX5_sostenuto_76 : decode cX5_sostenuto 76 = .ok (.ifCond .eq 7, 3) := by decide +kernel
theorem dX5_sostenuto_79 : decode cX5_sostenuto 79 = .ok (.iload_n 2, 1) := by decide +kernel
theorem dX5_sostenuto_80 : decode cX5_sostenuto 80 = .ok (.goto 7, 3) := by decide +kernel
theorem dX5_sostenuto_83 : decode cX5_sostenuto 83 = .ok (.aload_n 0, 1) := by decide +kernel
theorem dX5_sostenuto_84 : decode cX5_sostenuto 84 = .ok (.invokevirtual 182, 3) := by decide +kernel
theorem dX5_sostenuto_87 : decode cX5_sostenuto 87 = .ok (.ireturn, 1) := by decide +kernel
theorem dX5_key_0 : decode cX5_key 0 = .ok (.aload_n 0, 1) := by decide +kernel
theorem dX5_key_1 : decode cX5_key 1 = .ok (.iload_n 1, 1) := by decide +kernel
theorem dX5_key_2 : decode cX5_key 2 = .ok (.invokevirtual 176, 3) := by decide +kernel
theorem dX5_key_5 : decode cX5_key 5 = .ok (.ifCond .eq 5, 3) := by decide +kernel
theorem dX5_key_8 : decode cX5_key 8 = .ok (.iconst (-1), 1) := by decide +kernel
theorem dX5_key_9 : decode cX5_key 9 = .ok (.ireturn, 1) := by decide +kernel
theorem dX5_key_10 : decode cX5_key 10 = .ok (.iload_n 2, 1) := by decide +kernel
theorem dX5_key_11 : decode cX5_key 11 = .ok (.tableswitch 143 0 7 #[45, 52, 59, 79, 85, 100, 115, 129], 45) := by decide +kernel
theorem dX5_key_56 : decode cX5_key 56 = .ok (.aload_n 0, 1) := by decide +kernel
theorem dX5_key_57 : decode cX5_key 57 = .ok (.getfield 16, 3) := by decide +kernel
theorem dX5_key_60 : decode cX5_key 60 = .ok (.iload_n 1, 1) := by decide +kernel
theorem dX5_key_61 : decode cX5_key 61 = .ok (.iaload, 1) := by decide +kernel
theorem dX5_key_62 : decode cX5_key 62 = .ok (.ireturn, 1) := by decide +kernel
theorem dX5_key_63 : decode cX5_key 63 = .ok (.aload_n 0, 1) := by decide +kernel
theorem dX5_key_64 : decode cX5_key 64 = .ok (.getfield 20, 3) := by decide +kernel
theorem dX5_key_67 : decode cX5_key 67 = .ok (.iload_n 1, 1) := by decide +kernel
theorem dX5_key_68 : decode cX5_key 68 = .ok (.iaload, 1) := by decide +kernel
theorem dX5_key_69 : decode cX5_key 69 = .ok (.ireturn, 1) := by decide +kernel
theorem dX5_key_70 : decode cX5_key 70 = .ok (.aload_n 0, 1) := by decide +kernel
theorem dX5_key_71 : decode cX5_key 71 = .ok (.getfield 20, 3) := by decide +kernel
theorem dX5_key_74 : decode cX5_key 74 = .ok (.iload_n 1, 1) := by decide +kernel
theorem dX5_key_75 : decode cX5_key 75 = .ok (.iaload, 1) := by decide +kernel
theorem dX5_key_76 : decode cX5_key 76 = .ok (.ifCond .ne 7, 3) := by decide +kernel
theorem dX5_key_79 : decode cX5_key 79 = .ok (.iconst 0, 1) := by decide +kernel
theorem dX5_key_80 : decode cX5_key 80 = .ok (.goto 9, 3) := by decide +kernel
theorem dX5_key_83 : decode cX5_key 83 = .ok (.aload_n 0, 1) := by decide +kernel
theorem dX5_key_84 : decode cX5_key 84 = .ok (.getfield 23, 3) := by decide +kernel
theorem dX5_key_87 : decode cX5_key 87 = .ok (.iload_n 1, 1) := by decide +kernel
theorem dX5_key_88 : decode cX5_key 88 = .ok (.iaload, 1) := by decide +kernel
theorem dX5_key_89 : decode cX5_key 89 = .ok (.ireturn, 1) := by decide +kernel
theorem dX5_key_90 : decode cX5_key 90 = .ok (.aload_n 0, 1) := by decide +kernel
theorem dX5_key_91 : decode cX5_key 91 = .ok (.iload_n 1, 1) := by decide +kernel
theorem dX5_key_92 : decode cX5_key 92 = .ok (.invokevirtual 146, 3) := by decide +kernel
theorem dX5_key_95 : decode cX5_key 95 = .ok (.ireturn, 1) := by decide +kernel
theorem dX5_key_96 : decode cX5_key 96 = .ok (.aload_n 0, 1) := by decide +kernel
theorem dX5_key_97 : decode cX5_key 97 = .ok (.getfield 26, 3) := by decide +kernel
theorem dX5_key_100 : decode cX5_key 100 = .ok (.iload_n 1, 1) := by decide +kernel
theorem dX5_key_101 : decode cX5_key 101 = .ok (.baload, 1) := by decide +kernel
theorem dX5_key_102 : decode cX5_key 102 = .ok (.ifCond .eq 7, 3) := by decide +kernel
theorem dX5_key_105 : decode cX5_key 105 = .ok (.iconst 1, 1) := by decide +kernel
theorem dX5_key_106 : decode cX5_key 106 = .ok (.goto 4, 3) := by decide +kernel
theorem dX5_key_109 : decode cX5_key 109 = .ok (.iconst 0, 1) := by decide +kernel
theorem dX5_key_110 : decode cX5_key 110 = .ok (.ireturn, 1) := by decide +kernel
theorem dX5_key_111 : decode cX5_key 111 = .ok (.aload_n 0, 1) := by decide +kernel
theorem dX5_key_112 : decode cX5_key 112 = .ok (.getfield 30, 3) := by decide +kernel
theorem dX5_key_115 : decode cX5_key 115 = .ok (.iload_n 1, 1) := by decide +kernel
theorem dX5_key_116 : decode cX5_key 116 = .ok (.baload, 1) := by decide +kernel
theorem dX5_key_117 : decode cX5_key 117 = .ok (.ifCond .eq 7, 3) := by decide +kernel
theorem dX5_key_120 : decode cX5_key 120 = .ok (.iconst 1, 1) := by decide +kernel
theorem dX5_key_121 : decode cX5_key 121 = .ok (.goto 4, 3) := by decide +kernel
theorem dX5_key_124 : decode cX5_key 124 = .ok (.iconst 0, 1) := by decide +kernel
theorem dX5_key_125 : decode cX5_key 125 = .ok (.ireturn, 1) := by decide +kernel
theorem dX5_key_126 : decode cX5_key 126 = .ok (.aload_n 0, 1) := by decide +kernel
theorem dX5_key_127 : decode cX5_key 127 = .ok (.iload_n 1, 1) := by decide +kernel
theorem dX5_key_128 : decode cX5_key 128 = .ok (.invokevirtual 112, 3) := by decide +kernel
theorem dX5_key_131 : decode cX5_key 131 = .ok (.ifCond .eq 7, 3) := by decide +kernel
theorem dX5_key_134 : decode cX5_key 134 = .ok (.iconst 1, 1) := by decide +kernel
theorem dX5_key_135 : decode cX5_key 135 = .ok (.goto 4, 3) := by decide +kernel
theorem dX5_key_138 : decode cX5_key 138 = .ok (.iconst 0, 1) := by decide +kernel
theorem dX5_key_139 : decode cX5_key 139 = .ok (.ireturn, 1) := by decide +kernel
theorem dX5_key_140 : decode cX5_key 140 = .ok (.aload_n 0, 1) := by decide +kernel
theorem dX5_key_141 : decode cX5_key 141 = .ok (.iload_n 1, 1) := by decide +kernel
theorem dX5_key_142 : decode cX5_key 142 = .ok (.invokevirtual 143, 3) := by decide +kernel
theorem dX5_key_145 : decode cX5_key 145 = .ok (.ifCond .eq 7, 3) := by decide +kernel
theorem dX5_key_148 : decode cX5_key 148 = .ok (.iconst 1, 1) := by decide +kernel
theorem dX5_key_149 : decode cX5_key 149 = .ok (.goto 4, 3) := by decide +kernel
theorem dX5_key_152 : decode cX5_key 152 = .ok (.iconst 0, 1) := by decide +kernel
theorem dX5_key_153 : decode cX5_key 153 = .ok (.ireturn, 1) := by decide +kernel
theorem dX5_key_154 : decode cX5_key 154 = .ok (.bipush (-2), 2) := by decide +kernel
theorem dX5_key_156 : decode cX5_key 156 = .ok (.ireturn, 1) := by decide +kernel
theorem dX5_voice_0 : decode cX5_voice 0 = .ok (.iload_n 1, 1) := by decide +kernel
theorem dX5_voice_1 : decode cX5_voice 1 = .ok (.iconst 0, 1) := by decide +kernel
theorem dX5_voice_2 : decode cX5_voice 2 = .ok (.aload_n 0, 1) := by decide +kernel
theorem dX5_voice_3 : decode cX5_voice 3 = .ok (.getfield 13, 3) := by decide +kernel
theorem dX5_voice_6 : decode cX5_voice 6 = .ok (.iconst 1, 1) := by decide +kernel
theorem dX5_voice_7 : decode cX5_voice 7 = .ok (.isub, 1) := by decide +kernel
theorem dX5_voice_8 : decode cX5_voice 8 = .ok (.invokestatic 92, 3) := by decide +kernel
theorem dX5_voice_11 : decode cX5_voice 11 = .ok (.ifCond .ne 5, 3) := by decide +kernel
theorem dX5_voice_14 : decode cX5_voice 14 = .ok (.iconst (-1), 1) := by decide +kernel
theorem dX5_voice_15 : decode cX5_voice 15 = .ok (.ireturn, 1) := by decide +kernel
theorem dX5_voice_16 : decode cX5_voice 16 = .ok (.iload_n 2, 1) := by decide +kernel
theorem dX5_voice_17 : decode cX5_voice 17 = .ok (.iconst 1, 1) := by decide +kernel
theorem dX5_voice_18 : decode cX5_voice 18 = .ok (.iconst 3, 1) := by decide +kernel
theorem dX5_voice_19 : decode cX5_voice 19 = .ok (.invokestatic 92, 3) := by decide +kernel
theorem dX5_voice_22 : decode cX5_voice 22 = .ok (.ifCond .eq 15, 3) := by decide +kernel
theorem dX5_voice_25 : decode cX5_voice 25 = .ok (.aload_n 0, 1) := by decide +kernel
theorem dX5_voice_26 : decode cX5_voice 26 = .ok (.getfield 33, 3) := by decide +kernel
theorem dX5_voice_29 : decode cX5_voice 29 = .ok (.iload_n 1, 1) := by decide +kernel
theorem dX5_voice_30 : decode cX5_voice 30 = .ok (.iaload, 1) := by decide +kernel
theorem dX5_voice_31 : decode cX5_voice 31 = .ok (.ifCond .ne 6, 3) := by decide +kernel
theorem dX5_voice_34 : decode cX5_voice 34 = .ok (.bipush (-3), 2) := by decide +kernel
theorem dX5_voice_36 : decode cX5_voice 36 = .ok (.ireturn, 1) := by decide +kernel
theorem dX5_voice_37 : decode cX5_voice 37 = .ok (.iload_n 2, 1) := by decide +kernel
theorem dX5_voice_38 : decode cX5_voice 38 = .ok (.tableswitch 77 0 4 #[34, 41, 48, 55, 62], 34) := by decide +kernel
theorem dX5_voice_72 : decode cX5_voice 72 = .ok (.aload_n 0, 1) := by decide +kernel
theorem dX5_voice_73 : decode cX5_voice 73 = .ok (.getfield 33, 3) := by decide +kernel
theorem dX5_voice_76 : decode cX5_voice 76 = .ok (.iload_n 1, 1) := by decide +kernel
theorem dX5_voice_77 : decode cX5_voice 77 = .ok (.iaload, 1) := by decide +kernel
theorem dX5_voice_78 : decode cX5_voice 78 = .ok (.ireturn, 1) := by decide +kernel
theorem dX5_voice_79 : decode cX5_voice 79 = .ok (.aload_n 0, 1) := by decide +kernel
theorem dX5_voice_80 : decode cX5_voice 80 = .ok (.getfield 36, 3) := by decide +kernel
theorem dX5_voice_83 : decode cX5_voice 83 = .ok (.iload_n 1, 1) := by decide +kernel
theorem dX5_voice_84 : decode cX5_voice 84 = .ok (.iaload, 1) := by decide +kernel
theorem dX5_voice_85 : decode cX5_voice 85 = .ok (.ireturn, 1) := by decide +kernel
theorem dX5_voice_86 : decode cX5_voice 86 = .ok (.aload_n 0, 1) := by decide +kernel
theorem dX5_voice_87 : decode cX5_voice 87 = .ok (.getfield 39, 3) := by decide +kernel
theorem dX5_voice_90 : decode cX5_voice 90 = .ok (.iload_n 1, 1) := by decide +kernel
theorem dX5_voice_91 : decode cX5_voice 91 = .ok (.iaload, 1) := by decide +kernel
theorem dX5_voice_92 : decode cX5_voice 92 = .ok (.ireturn, 1) := by decide +kernel
theorem dX5_voice_93 : decode cX5_voice 93 = .ok (.aload_n 0, 1) := by decide +kernel
theorem dX5_voice_94 : decode cX5_voice 94 = .ok (.getfield 42, 3) := by decide +kernel
theorem dX5_voice_97 : decode cX5_voice 97 = .ok (.iload_n 1, 1) := by decide +kernel
theorem dX5_voice_98 : decode cX5_voice 98 = .ok (.iaload, 1) := by decide +kernel
theorem dX5_voice_99 : decode cX5_voice 99 = .ok (.ireturn, 1) := by decide +kernel
theorem dX5_voice_100 : decode cX5_voice 100 = .ok (.aload_n 0, 1) := by decide +kernel
theorem dX5_voice_101 : decode cX5_voice 101 = .ok (.getfield 45, 3) := by decide +kernel
theorem dX5_voice_104 : decode cX5_voice 104 = .ok (.iload_n 1, 1) := by decide +kernel
theorem dX5_voice_105 : decode cX5_voice 105 = .ok (.baload, 1) := by decide +kernel
theorem dX5_voice_106 : decode cX5_voice 106 = .ok (.ifCond .eq 7, 3) := by decide +kernel
theorem dX5_voice_109 : decode cX5_voice 109 = .ok (.iconst 1, 1) := by decide +kernel
theorem dX5_voice_110 : decode cX5_voice 110 = .ok (.goto 4, 3) := by decide +kernel
theorem dX5_voice_113 : decode cX5_voice 113 = .ok (.iconst 0, 1) := by decide +kernel
theorem dX5_voice_114 : decode cX5_voice 114 = .ok (.ireturn, 1) := by decide +kernel
theorem dX5_voice_115 : decode cX5_voice 115 = .ok (.bipush (-2), 2) := by decide +kernel
theorem dX5_voice_117 : decode cX5_voice 117 = .ok (.ireturn, 1) := by decide +kernel
theorem dX5_count_0 : decode cX5_count 0 = .ok (.iconst 0, 1) := by decide +kernel
theorem dX5_count_1 : decode cX5_count 1 = .ok (.istore_n 2, 1) := by decide +kernel
theorem dX5_count_2 : decode cX5_count 2 = .ok (.iconst 0, 1) := by decide +kernel
theorem dX5_count_3 : decode cX5_count 3 = .ok (.istore_n 3, 1) := by decide +kernel
theorem dX5_count_4 : decode cX5_count 4 = .ok (.iload_n 3, 1) := by decide +kernel
theorem dX5_count_5 : decode cX5_count 5 = .ok (.aload_n 0, 1) := by decide +kernel
theorem dX5_count_6 : decode cX5_count 6 = .ok (.invokevirtual 96, 3) := by decide +kernel
theorem dX5_count_9 : decode cX5_count 9 = .ok (.if_icmp .ge 25, 3) := by decide +kernel
theorem dX5_count_12 : decode cX5_count 12 = .ok (.iload_n 2, 1) := by decide +kernel
theorem dX5_count_13 : decode cX5_count 13 = .ok (.aload_n 0, 1) := by decide +kernel
theorem dX5_count_14 : decode cX5_count 14 = .ok (.iload_n 3, 1) := by decide +kernel
theorem dX5_count_15 : decode cX5_count 15 = .ok (.invokevirtual 143, 3) := by decide +kernel
theorem dX5_count_18 : decode cX5_count 18 = .ok (.ifCond .eq 7, 3) := by decide +kernel
theorem dX5_count_21 : decode cX5_count 21 = .ok (.iconst 1, 1) := by decide +kernel
theorem dX5_count_22 : decode cX5_count 22 = .ok (.goto 4, 3) := by decide +kernel
theorem dX5_count_25 : decode cX5_count 25 = .ok (.iconst 0, 1) := by decide +kernel
theorem dX5_count_26 : decode cX5_count 26 = .ok (.iadd, 1) := by decide +kernel
theorem dX5_count_27 : decode cX5_count 27 = .ok (.istore_n 2, 1) := by decide +kernel
theorem dX5_count_28 : decode cX5_count 28 = .ok (.iinc 3 1, 3) := by decide +kernel
theorem dX5_count_31 : decode cX5_count 31 = .ok (.goto (-27), 3) := by decide +kernel
theorem dX5_count_34 : decode cX5_count 34 = .ok (.iconst 0, 1) := by decide +kernel
theorem dX5_count_35 : decode cX5_count 35 = .ok (.istore_n 3, 1) := by decide +kernel
theorem dX5_count_36 : decode cX5_count 36 = .ok (.iconst 0, 1) := by decide +kernel
theorem dX5_count_37 : decode cX5_count 37 = .ok (.istore 4, 2) := by decide +kernel
theorem dX5_count_39 : decode cX5_count 39 = .ok (.iconst 0, 1) := by decide +kernel
theorem dX5_count_40 : decode cX5_count 40 = .ok (.istore 5, 2) := by decide +kernel
theorem dX5_count_42 : decode cX5_count 42 = .ok (.iload 5, 2) := by decide +kernel
theorem dX5_count_44 : decode cX5_count 44 = .ok (.aload_n 0, 1) := by decide +kernel
theorem dX5_count_45 : decode cX5_count 45 = .ok (.getfield 13, 3) := by decide +kernel
theorem dX5_count_48 : decode cX5_count 48 = .ok (.if_icmp .ge 48, 3) := by decide +kernel
theorem dX5_count_51 : decode cX5_count 51 = .ok (.iload_n 3, 1) := by decide +kernel
theorem dX5_count_52 : decode cX5_count 52 = .ok (.aload_n 0, 1) := by decide +kernel
theorem dX5_count_53 : decode cX5_count 53 = .ok (.getfield 33, 3) := by decide +kernel
theorem dX5_count_56 : decode cX5_count 56 = .ok (.iload 5, 2) := by decide +kernel
theorem dX5_count_58 : decode cX5_count 58 = .ok (.iaload, 1) := by decide +kernel
theorem dX5_count_59 : decode cX5_count 59 = .ok (.ifCond .ne 7, 3) := by decide +kernel
theorem dX5_count_62 : decode cX5_count 62 = .ok (.iconst 0, 1) := by decide +kernel
theorem dX5_count_63 : decode cX5_count 63 = .ok (.goto 4, 3) := by decide +kernel
theorem dX5_count_66 : decode cX5_count 66 = .ok (.iconst 1, 1) := by decide +kernel
theorem dX5_count_67 : decode cX5_count 67 = .ok (.iadd, 1) := by decide +kernel
theorem dX5_count_68 : decode cX5_count 68 = .ok (.istore_n 3, 1) := by decide +kernel
theorem dX5_count_69 : decode cX5_count 69 = .ok (.iload 4, 2) := by decide +kernel
theorem dX5_count_71 : decode cX5_count 71 = .ok (.aload_n 0, 1) := by decide +kernel
theorem dX5_count_72 : decode cX5_count 72 = .ok (.getfield 33, 3) := by decide +kernel
theorem dX5_count_75 : decode cX5_count 75 = .ok (.iload 5, 2) := by decide +kernel
theorem dX5_count_77 : decode cX5_count 77 = .ok (.iaload, 1) := by decide +kernel
theorem dX5_count_78 : decode cX5_count 78 = .ok (.iconst 2, 1) := by decide +kernel
theorem dX5_count_79 : decode cX5_count 79 = .ok (.if_icmp .ne 7, 3) := by decide +kernel
theorem dX5_count_82 : decode cX5_count 82 = .ok (.iconst 1, 1) := by decide +kernel
theorem dX5_count_83 : decode cX5_count 83 = .ok (.goto 4, 3) := by decide +kernel
theorem dX5_count_86 : decode cX5_count 86 = .ok (.iconst 0, 1) := by decide +kernel
theorem dX5_count_87 : decode cX5_count 87 = .ok (.iadd, 1) := by decide +kernel
theorem dX5_count_88 : decode cX5_count 88 = .ok (.istore 4, 2) := by decide +kernel
theorem dX5_count_90 : decode cX5_count 90 = .ok (.iinc 5 1, 3) := by decide +kernel
theorem dX5_count_93 : decode cX5_count 93 = .ok (.goto (-51), 3) := by decide +kernel
theorem dX5_count_96 : decode cX5_count 96 = .ok (.iload_n 1, 1) := by decide +kernel
theorem dX5_count_97 : decode cX5_count 97 = .ok (.tableswitch 115 0 11 #[63, 68, 73, 78, 83, 85, 90, 92, 95, 100, 105, 110], 63) := by decide +kernel
theorem dX5_count_160 : decode cX5_count 160 = .ok (.aload_n 0, 1) := by decide +kernel
theorem dX5_count_161 : decode cX5_count 161 = .ok (.getfield 74, 3) := by decide +kernel
theorem dX5_count_164 : decode cX5_count 164 = .ok (.ireturn, 1) := by decide +kernel
theorem dX5_count_165 : decode cX5_count 165 = .ok (.aload_n 0, 1) := by decide +kernel
theorem dX5_count_166 : decode cX5_count 166 = .ok (.invokevirtual 96, 3) := by decide +kernel
theorem dX5_count_169 : decode cX5_count 169 = .ok (.ireturn, 1) := by decide +kernel
theorem dX5_count_170 : decode cX5_count 170 = .ok (.aload_n 0, 1) := by decide +kernel
theorem dX5_count_171 : decode cX5_count 171 = .ok (.invokevirtual 179, 3) := by decide +kernel
theorem dX5_count_174 : decode cX5_count 174 = .ok (.ireturn, 1) := by decide +kernel
theorem dX5_count_175 : decode cX5_count 175 = .ok (.aload_n 0, 1) := by decide +kernel
theorem dX5_count_176 : decode cX5_count 176 = .ok (.invokevirtual 116, 3) := by decide +kernel
theorem dX5_count_179 : decode cX5_count 179 = .ok (.ireturn, 1) := by decide +kernel
theorem dX5_count_180 : decode cX5_count 180 = .ok (.iload_n 2, 1) := by decide +kernel
theorem dX5_count_181 : decode cX5_count 181 = .ok (.ireturn, 1) := by decide +kernel
theorem dX5_count_182 : decode cX5_count 182 = .ok (.aload_n 0, 1) := by decide +kernel
theorem dX5_count_183 : decode cX5_count 183 = .ok (.getfield 13, 3) := by decide +kernel
theorem dX5_count_186 : decode cX5_count 186 = .ok (.ireturn, 1) := by decide +kernel
theorem dX5_count_187 : decode cX5_count 187 = .ok (.iload_n 3, 1) := by decide +kernel
theorem dX5_count_188 : decode cX5_count 188 = .ok (.ireturn, 1) := by decide +kernel
theorem dX5_count_189 : decode cX5_count 189 = .ok (.iload 4, 2) := by decide +kernel
theorem dX5_count_191 : decode cX5_count 191 = .ok (.ireturn, 1) := by decide +kernel
theorem dX5_count_192 : decode cX5_count 192 = .ok (.aload_n 0, 1) := by decide +kernel
theorem dX5_count_193 : decode cX5_count 193 = .ok (.getfield 77, 3) := by decide +kernel
theorem dX5_count_196 : decode cX5_count 196 = .ok (.ireturn, 1) := by decide +kernel
theorem dX5_count_197 : decode cX5_count 197 = .ok (.aload_n 0, 1) := by decide +kernel
theorem dX5_count_198 : decode cX5_count 198 = .ok (.getfield 80, 3) := by decide +kernel
theorem dX5_count_201 : decode cX5_count 201 = .ok (.ireturn, 1) := by decide +kernel
theorem dX5_count_202 : decode cX5_count 202 = .ok (.aload_n 0, 1) := by decide +kernel
theorem dX5_count_203 : decode cX5_count 203 = .ok (.getfield 83, 3) := by decide +kernel
theorem dX5_count_206 : decode cX5_count 206 = .ok (.ireturn, 1) := by decide +kernel
theorem dX5_count_207 : decode cX5_count 207 = .ok (.aload_n 0, 1) := by decide +kernel
theorem dX5_count_208 : decode cX5_count 208 = .ok (.getfield 86, 3) := by decide +kernel
theorem dX5_count_211 : decode cX5_count 211 = .ok (.ireturn, 1) := by decide +kernel
theorem dX5_count_212 : decode cX5_count 212 = .ok (.bipush (-2), 2) := by decide +kernel
theorem dX5_count_214 : decode cX5_count 214 = .ok (.ireturn, 1) := by decide +kernel
theorem dX5_log_0 : decode cX5_log 0 = .ok (.iload_n 1, 1) := by decide +kernel
theorem dX5_log_1 : decode cX5_log 1 = .ok (.ifCond .lt 12, 3) := by decide +kernel
theorem dX5_log_4 : decode cX5_log 4 = .ok (.iload_n 2, 1) := by decide +kernel
theorem dX5_log_5 : decode cX5_log 5 = .ok (.iconst 0, 1) := by decide +kernel
theorem dX5_log_6 : decode cX5_log 6 = .ok (.iconst 2, 1) := by decide +kernel
theorem dX5_log_7 : decode cX5_log 7 = .ok (.invokestatic 92, 3) := by decide +kernel
theorem dX5_log_10 : decode cX5_log 10 = .ok (.ifCond .ne 6, 3) := by decide +kernel
theorem dX5_log_13 : decode cX5_log 13 = .ok (.bipush (-2), 2) := by decide +kernel
theorem dX5_log_15 : decode cX5_log 15 = .ok (.ireturn, 1) := by decide +kernel
theorem dX5_log_16 : decode cX5_log 16 = .ok (.iload_n 1, 1) := by decide +kernel
theorem dX5_log_17 : decode cX5_log 17 = .ok (.bipush 16, 2) := by decide +kernel
theorem dX5_log_19 : decode cX5_log 19 = .ok (.if_icmp .ge 24, 3) := by decide +kernel
theorem dX5_log_22 : decode cX5_log 22 = .ok (.iload_n 1, 1) := by decide +kernel
theorem dX5_log_23 : decode cX5_log 23 = .ok (.aload_n 0, 1) := by decide +kernel
theorem dX5_log_24 : decode cX5_log 24 = .ok (.getfield 77, 3) := by decide +kernel
theorem dX5_log_27 : decode cX5_log 27 = .ok (.if_icmp .ge 16, 3) := by decide +kernel
theorem dX5_log_30 : decode cX5_log 30 = .ok (.aload_n 0, 1) := by decide +kernel
theorem dX5_log_31 : decode cX5_log 31 = .ok (.getfield 48, 3) := by decide +kernel
theorem dX5_log_34 : decode cX5_log 34 = .ok (.iconst 3, 1) := by decide +kernel
theorem dX5_log_35 : decode cX5_log 35 = .ok (.iload_n 1, 1) := by decide +kernel
theorem dX5_log_36 : decode cX5_log 36 = .ok (.imul, 1) := by decide +kernel
theorem dX5_log_37 : decode cX5_log 37 = .ok (.iload_n 2, 1) := by decide +kernel
theorem dX5_log_38 : decode cX5_log 38 = .ok (.iadd, 1) := by decide +kernel
theorem dX5_log_39 : decode cX5_log 39 = .ok (.iaload, 1) := by decide +kernel
theorem dX5_log_40 : decode cX5_log 40 = .ok (.goto 5, 3) := by decide +kernel
theorem dX5_log_43 : decode cX5_log 43 = .ok (.bipush (-3), 2) := by decide +kernel
theorem dX5_log_45 : decode cX5_log 45 = .ok (.ireturn, 1) := by decide +kernel
theorem dX5_velocity_0 : decode cX5_velocity 0 = .ok (.iload_n 1, 1) := by decide +kernel
theorem dX5_velocity_1 : decode cX5_velocity 1 = .ok (.iconst 0, 1) := by decide +kernel
theorem dX5_velocity_2 : decode cX5_velocity 2 = .ok (.sipush 1000, 3) := by decide +kernel
theorem dX5_velocity_5 : decode cX5_velocity 5 = .ok (.invokestatic 92, 3) := by decide +kernel
theorem dX5_velocity_8 : decode cX5_velocity 8 = .ok (.ifCond .eq 11, 3) := by decide +kernel
theorem dX5_velocity_11 : decode cX5_velocity 11 = .ok (.aload_n 0, 1) := by decide +kernel
theorem dX5_velocity_12 : decode cX5_velocity 12 = .ok (.iload_n 1, 1) := by decide +kernel
theorem dX5_velocity_13 : decode cX5_velocity 13 = .ok (.invokevirtual 155, 3) := by decide +kernel
theorem dX5_velocity_16 : decode cX5_velocity 16 = .ok (.goto 5, 3) := by decide +kernel
theorem dX5_velocity_19 : decode cX5_velocity 19 = .ok (.bipush (-2), 2) := by decide +kernel
theorem dX5_velocity_21 : decode cX5_velocity 21 = .ok (.ireturn, 1) := by decide +kernel
theorem dX5_nextTaken_0 : decode cX5_nextTaken 0 = .ok (.aload_n 0, 1) := by decide +kernel
theorem dX5_nextTaken_1 : decode cX5_nextTaken 1 = .ok (.invokevirtual 149, 3) := by decide +kernel
theorem dX5_nextTaken_4 : decode cX5_nextTaken 4 = .ok (.ifCond .lt 8, 3) := by decide +kernel
theorem dX5_nextTaken_7 : decode cX5_nextTaken 7 = .ok (.bipush (-3), 2) := by decide +kernel
theorem dX5_nextTaken_9 : decode cX5_nextTaken 9 = .ok (.goto 7, 3) := by decide +kernel
theorem dX5_nextTaken_12 : decode cX5_nextTaken 12 = .ok (.aload_n 0, 1) := by decide +kernel
theorem dX5_nextTaken_13 : decode cX5_nextTaken 13 = .ok (.invokevirtual 152, 3) := by decide +kernel
theorem dX5_nextTaken_16 : decode cX5_nextTaken 16 = .ok (.ireturn, 1) := by decide +kernel
theorem dX5_connected_0 : decode cX5_connected 0 = .ok (.iload_n 1, 1) := by decide +kernel
theorem dX5_connected_1 : decode cX5_connected 1 = .ok (.iconst 0, 1) := by decide +kernel
theorem dX5_connected_2 : decode cX5_connected 2 = .ok (.aload_n 0, 1) := by decide +kernel
theorem dX5_connected_3 : decode cX5_connected 3 = .ok (.getfield 61, 3) := by decide +kernel
theorem dX5_connected_6 : decode cX5_connected 6 = .ok (.iconst 1, 1) := by decide +kernel
theorem dX5_connected_7 : decode cX5_connected 7 = .ok (.isub, 1) := by decide +kernel
theorem dX5_connected_8 : decode cX5_connected 8 = .ok (.invokestatic 92, 3) := by decide +kernel
theorem dX5_connected_11 : decode cX5_connected 11 = .ok (.ifCond .ne 6, 3) := by decide +kernel
theorem dX5_connected_14 : decode cX5_connected 14 = .ok (.bipush (-2), 2) := by decide +kernel
theorem dX5_connected_16 : decode cX5_connected 16 = .ok (.ireturn, 1) := by decide +kernel
theorem dX5_connected_17 : decode cX5_connected 17 = .ok (.aload_n 0, 1) := by decide +kernel
theorem dX5_connected_18 : decode cX5_connected 18 = .ok (.iload_n 1, 1) := by decide +kernel
theorem dX5_connected_19 : decode cX5_connected 19 = .ok (.iconst 1, 1) := by decide +kernel
theorem dX5_connected_20 : decode cX5_connected 20 = .ok (.invokevirtual 106, 3) := by decide +kernel
theorem dX5_connected_23 : decode cX5_connected 23 = .ok (.aload_n 0, 1) := by decide +kernel
theorem dX5_connected_24 : decode cX5_connected 24 = .ok (.getfield 100, 3) := by decide +kernel
theorem dX5_connected_27 : decode cX5_connected 27 = .ok (.sipush 256, 3) := by decide +kernel
theorem dX5_connected_30 : decode cX5_connected 30 = .ok (.aload_n 0, 1) := by decide +kernel
theorem dX5_connected_31 : decode cX5_connected 31 = .ok (.getfield 103, 3) := by decide +kernel
theorem dX5_connected_34 : decode cX5_connected 34 = .ok (.imul, 1) := by decide +kernel
theorem dX5_connected_35 : decode cX5_connected 35 = .ok (.iadd, 1) := by decide +kernel
theorem dX5_connected_36 : decode cX5_connected 36 = .ok (.ireturn, 1) := by decide +kernel
theorem dX5_worstKey_0 : decode cX5_worstKey 0 = .ok (.aload_n 0, 1) := by decide +kernel
theorem dX5_worstKey_1 : decode cX5_worstKey 1 = .ok (.invokevirtual 116, 3) := by decide +kernel
theorem dX5_worstKey_4 : decode cX5_worstKey 4 = .ok (.istore_n 1, 1) := by decide +kernel
theorem dX5_worstKey_5 : decode cX5_worstKey 5 = .ok (.bipush (-3), 2) := by decide +kernel
theorem dX5_worstKey_7 : decode cX5_worstKey 7 = .ok (.istore_n 2, 1) := by decide +kernel
theorem dX5_worstKey_8 : decode cX5_worstKey 8 = .ok (.iconst 0, 1) := by decide +kernel
theorem dX5_worstKey_9 : decode cX5_worstKey 9 = .ok (.istore_n 3, 1) := by decide +kernel
theorem dX5_worstKey_10 : decode cX5_worstKey 10 = .ok (.iload_n 3, 1) := by decide +kernel
theorem dX5_worstKey_11 : decode cX5_worstKey 11 = .ok (.aload_n 0, 1) := by decide +kernel
theorem dX5_worstKey_12 : decode cX5_worstKey 12 = .ok (.invokevirtual 96, 3) := by decide +kernel
theorem dX5_worstKey_15 : decode cX5_worstKey 15 = .ok (.if_icmp .ge 72, 3) := by decide +kernel
theorem dX5_worstKey_18 : decode cX5_worstKey 18 = .ok (.aload_n 0, 1) := by decide +kernel
theorem dX5_worstKey_19 : decode cX5_worstKey 19 = .ok (.getfield 16, 3) := by decide +kernel
theorem dX5_worstKey_22 : decode cX5_worstKey 22 = .ok (.iload_n 3, 1) := by decide +kernel
theorem dX5_worstKey_23 : decode cX5_worstKey 23 = .ok (.iaload, 1) := by decide +kernel
theorem dX5_worstKey_24 : decode cX5_worstKey 24 = .ok (.istore 4, 2) := by decide +kernel
theorem dX5_worstKey_26 : decode cX5_worstKey 26 = .ok (.iload 4, 2) := by decide +kernel
theorem dX5_worstKey_28 : decode cX5_worstKey 28 = .ok (.ifCond .le 53, 3) := by decide +kernel
theorem dX5_worstKey_31 : decode cX5_worstKey 31 = .ok (.aload_n 0, 1) := by decide +kernel
theorem dX5_worstKey_32 : decode cX5_worstKey 32 = .ok (.getfield 16, 3) := by decide +kernel
theorem dX5_worstKey_35 : decode cX5_worstKey 35 = .ok (.iload_n 3, 1) := by decide +kernel
theorem dX5_worstKey_36 : decode cX5_worstKey 36 = .ok (.iconst 0, 1) := by decide +kernel
theorem dX5_worstKey_37 : decode cX5_worstKey 37 = .ok (.iastore, 1) := by decide +kernel
theorem dX5_worstKey_38 : decode cX5_worstKey 38 = .ok (.aload_n 0, 1) := by decide +kernel
theorem dX5_worstKey_39 : decode cX5_worstKey 39 = .ok (.invokevirtual 89, 3) := by decide +kernel
theorem dX5_worstKey_42 : decode cX5_worstKey 42 = .ok (.aload_n 0, 1) := by decide +kernel
theorem dX5_worstKey_43 : decode cX5_worstKey 43 = .ok (.invokevirtual 116, 3) := by decide +kernel
theorem dX5_worstKey_46 : decode cX5_worstKey 46 = .ok (.iload_n 1, 1) := by decide +kernel
theorem dX5_worstKey_47 : decode cX5_worstKey 47 = .ok (.if_icmp .ge 7, 3) := by decide +kernel
theorem dX5_worstKey_50 : decode cX5_worstKey 50 = .ok (.iload_n 3, 1) := by decide +kernel
theorem dX5_worstKey_51 : decode cX5_worstKey 51 = .ok (.goto 4, 3) := by decide +kernel
theorem dX5_worstKey_54 : decode cX5_worstKey 54 = .ok (.iload_n 2, 1) := by decide +kernel
theorem dX5_worstKey_55 : decode cX5_worstKey 55 = .ok (.istore_n 2, 1) := by decide +kernel
theorem dX5_worstKey_56 : decode cX5_worstKey 56 = .ok (.aload_n 0, 1) := by decide +kernel
theorem dX5_worstKey_57 : decode cX5_worstKey 57 = .ok (.invokevirtual 116, 3) := by decide +kernel
theorem dX5_worstKey_60 : decode cX5_worstKey 60 = .ok (.iload_n 1, 1) := by decide +kernel
theorem dX5_worstKey_61 : decode cX5_worstKey 61 = .ok (.if_icmp .ge 10, 3) := by decide +kernel
theorem dX5_worstKey_64 : decode cX5_worstKey 64 = .ok (.aload_n 0, 1) := by decide +kernel
theorem dX5_worstKey_65 : decode cX5_worstKey 65 = .ok (.invokevirtual 116, 3) := by decide +kernel
theorem dX5_worstKey_68 : decode cX5_worstKey 68 = .ok (.goto 4, 3) := by decide +kernel
theorem dX5_worstKey_71 : decode cX5_worstKey 71 = .ok (.iload_n 1, 1) := by decide +kernel
theorem dX5_worstKey_72 : decode cX5_worstKey 72 = .ok (.istore_n 1, 1) := by decide +kernel
theorem dX5_worstKey_73 : decode cX5_worstKey 73 = .ok (.aload_n 0, 1) := by decide +kernel
theorem dX5_worstKey_74 : decode cX5_worstKey 74 = .ok (.getfield 16, 3) := by decide +kernel
theorem dX5_worstKey_77 : decode cX5_worstKey 77 = .ok (.iload_n 3, 1) := by decide +kernel
theorem dX5_worstKey_78 : decode cX5_worstKey 78 = .ok (.iload 4, 2) := by decide +kernel
theorem dX5_worstKey_80 : decode cX5_worstKey 80 = .ok (.iastore, 1) := by decide +kernel
theorem dX5_worstKey_81 : decode cX5_worstKey 81 = .ok (.iinc 3 1, 3) := by decide +kernel
theorem dX5_worstKey_84 : decode cX5_worstKey 84 = .ok (.goto (-74), 3) := by decide +kernel
theorem dX5_worstKey_87 : decode cX5_worstKey 87 = .ok (.aload_n 0, 1) := by decide +kernel
theorem dX5_worstKey_88 : decode cX5_worstKey 88 = .ok (.invokevirtual 89, 3) := by decide +kernel
theorem dX5_worstKey_91 : decode cX5_worstKey 91 = .ok (.iload_n 2, 1) := by decide +kernel
theorem dX5_worstKey_92 : decode cX5_worstKey 92 = .ok (.ireturn, 1) := by decide +kernel
theorem dX5_areAtRest_0 : decode cX5_areAtRest 0 = .ok (.iconst 1, 1) := by decide +kernel
theorem dX5_areAtRest_1 : decode cX5_areAtRest 1 = .ok (.istore_n 1, 1) := by decide +kernel
theorem dX5_areAtRest_2 : decode cX5_areAtRest 2 = .ok (.iconst 0, 1) := by decide +kernel
theorem dX5_areAtRest_3 : decode cX5_areAtRest 3 = .ok (.istore_n 2, 1) := by decide +kernel
theorem dX5_areAtRest_4 : decode cX5_areAtRest 4 = .ok (.iload_n 2, 1) := by decide +kernel
theorem dX5_areAtRest_5 : decode cX5_areAtRest 5 = .ok (.aload_n 0, 1) := by decide +kernel
theorem dX5_areAtRest_6 : decode cX5_areAtRest 6 = .ok (.invokevirtual 96, 3) := by decide +kernel
theorem dX5_areAtRest_9 : decode cX5_areAtRest 9 = .ok (.if_icmp .ge 28, 3) := by decide +kernel
theorem dX5_areAtRest_12 : decode cX5_areAtRest 12 = .ok (.iload_n 1, 1) := by decide +kernel
theorem dX5_areAtRest_13 : decode cX5_areAtRest 13 = .ok (.ifCond .eq 16, 3) := by decide +kernel
theorem dX5_areAtRest_16 : decode cX5_areAtRest 16 = .ok (.aload_n 0, 1) := by decide +kernel
theorem dX5_areAtRest_17 : decode cX5_areAtRest 17 = .ok (.getfield 20, 3) := by decide +kernel
theorem dX5_areAtRest_20 : decode cX5_areAtRest 20 = .ok (.iload_n 2, 1) := by decide +kernel
theorem dX5_areAtRest_21 : decode cX5_areAtRest 21 = .ok (.iaload, 1) := by decide +kernel
theorem dX5_areAtRest_22 : decode cX5_areAtRest 22 = .ok (.ifCond .ne 7, 3) := by decide +kernel
theorem dX5_areAtRest_25 : decode cX5_areAtRest 25 = .ok (.iconst 1, 1) := by decide +kernel
theorem dX5_areAtRest_26 : decode cX5_areAtRest 26 = .ok (.goto 4, 3) := by decide +kernel
theorem dX5_areAtRest_29 : decode cX5_areAtRest 29 = .ok (.iconst 0, 1) := by decide +kernel
theorem dX5_areAtRest_30 : decode cX5_areAtRest 30 = .ok (.istore_n 1, 1) := by decide +kernel
theorem dX5_areAtRest_31 : decode cX5_areAtRest 31 = .ok (.iinc 2 1, 3) := by decide +kernel
theorem dX5_areAtRest_34 : decode cX5_areAtRest 34 = .ok (.goto (-30), 3) := by decide +kernel
theorem dX5_areAtRest_37 : decode cX5_areAtRest 37 = .ok (.iload_n 1, 1) := by decide +kernel
theorem dX5_areAtRest_38 : decode cX5_areAtRest 38 = .ok (.ireturn, 1) := by decide +kernel
theorem dX5_restAfter_0 : decode cX5_restAfter 0 = .ok (.iload_n 1, 1) := by decide +kernel
theorem dX5_restAfter_1 : decode cX5_restAfter 1 = .ok (.iconst 1, 1) := by decide +kernel
theorem dX5_restAfter_2 : decode cX5_restAfter 2 = .ok (.sipush 1000, 3) := by decide +kernel
theorem dX5_restAfter_5 : decode cX5_restAfter 5 = .ok (.invokestatic 92, 3) := by decide +kernel
theorem dX5_restAfter_8 : decode cX5_restAfter 8 = .ok (.ifCond .ne 6, 3) := by decide +kernel
theorem dX5_restAfter_11 : decode cX5_restAfter 11 = .ok (.bipush (-2), 2) := by decide +kernel
theorem dX5_restAfter_13 : decode cX5_restAfter 13 = .ok (.ireturn, 1) := by decide +kernel
theorem dX5_restAfter_14 : decode cX5_restAfter 14 = .ok (.iconst 0, 1) := by decide +kernel
theorem dX5_restAfter_15 : decode cX5_restAfter 15 = .ok (.istore_n 2, 1) := by decide +kernel
theorem dX5_restAfter_16 : decode cX5_restAfter 16 = .ok (.iload_n 2, 1) := by decide +kernel
theorem dX5_restAfter_17 : decode cX5_restAfter 17 = .ok (.bipush 64, 2) := by decide +kernel
theorem dX5_restAfter_19 : decode cX5_restAfter 19 = .ok (.if_icmp .ge 33, 3) := by decide +kernel
theorem dX5_restAfter_22 : decode cX5_restAfter 22 = .ok (.aload_n 0, 1) := by decide +kernel
theorem dX5_restAfter_23 : decode cX5_restAfter 23 = .ok (.getfield 51, 3) := by decide +kernel
theorem dX5_restAfter_26 : decode cX5_restAfter 26 = .ok (.iload_n 2, 1) := by decide +kernel
theorem dX5_restAfter_27 : decode cX5_restAfter 27 = .ok (.aload_n 0, 1) := by decide +kernel
theorem dX5_restAfter_28 : decode cX5_restAfter 28 = .ok (.getfield 20, 3) := by decide +kernel
theorem dX5_restAfter_31 : decode cX5_restAfter 31 = .ok (.iload_n 2, 1) := by decide +kernel
theorem dX5_restAfter_32 : decode cX5_restAfter 32 = .ok (.iaload, 1) := by decide +kernel
theorem dX5_restAfter_33 : decode cX5_restAfter 33 = .ok (.iastore, 1) := by decide +kernel
theorem dX5_restAfter_34 : decode cX5_restAfter 34 = .ok (.aload_n 0, 1) := by decide +kernel
theorem dX5_restAfter_35 : decode cX5_restAfter 35 = .ok (.getfield 54, 3) := by decide +kernel
theorem dX5_restAfter_38 : decode cX5_restAfter 38 = .ok (.iload_n 2, 1) := by decide +kernel
theorem dX5_restAfter_39 : decode cX5_restAfter 39 = .ok (.aload_n 0, 1) := by decide +kernel
theorem dX5_restAfter_40 : decode cX5_restAfter 40 = .ok (.getfield 23, 3) := by decide +kernel
theorem dX5_restAfter_43 : decode cX5_restAfter 43 = .ok (.iload_n 2, 1) := by decide +kernel
theorem dX5_restAfter_44 : decode cX5_restAfter 44 = .ok (.iaload, 1) := by decide +kernel
theorem dX5_restAfter_45 : decode cX5_restAfter 45 = .ok (.iastore, 1) := by decide +kernel
theorem dX5_restAfter_46 : decode cX5_restAfter 46 = .ok (.iinc 2 1, 3) := by decide +kernel
theorem dX5_restAfter_49 : decode cX5_restAfter 49 = .ok (.goto (-33), 3) := by decide +kernel
theorem dX5_restAfter_52 : decode cX5_restAfter 52 = .ok (.aload_n 0, 1) := by decide +kernel
theorem dX5_restAfter_53 : decode cX5_restAfter 53 = .ok (.getfield 74, 3) := by decide +kernel
theorem dX5_restAfter_56 : decode cX5_restAfter 56 = .ok (.istore_n 2, 1) := by decide +kernel
theorem dX5_restAfter_57 : decode cX5_restAfter 57 = .ok (.iconst 0, 1) := by decide +kernel
theorem dX5_restAfter_58 : decode cX5_restAfter 58 = .ok (.istore_n 3, 1) := by decide +kernel
theorem dX5_restAfter_59 : decode cX5_restAfter 59 = .ok (.aload_n 0, 1) := by decide +kernel
theorem dX5_restAfter_60 : decode cX5_restAfter 60 = .ok (.invokevirtual 185, 3) := by decide +kernel
theorem dX5_restAfter_63 : decode cX5_restAfter 63 = .ok (.istore 4, 2) := by decide +kernel
theorem dX5_restAfter_65 : decode cX5_restAfter 65 = .ok (.iload 4, 2) := by decide +kernel
theorem dX5_restAfter_67 : decode cX5_restAfter 67 = .ok (.ifCond .ne 25, 3) := by decide +kernel
theorem dX5_restAfter_70 : decode cX5_restAfter 70 = .ok (.iload_n 3, 1) := by decide +kernel
theorem dX5_restAfter_71 : decode cX5_restAfter 71 = .ok (.iload_n 1, 1) := by decide +kernel
theorem dX5_restAfter_72 : decode cX5_restAfter 72 = .ok (.if_icmp .ge 20, 3) := by decide +kernel
theorem dX5_restAfter_75 : decode cX5_restAfter 75 = .ok (.aload_n 0, 1) := by decide +kernel
theorem dX5_restAfter_76 : decode cX5_restAfter 76 = .ok (.iconst 0, 1) := by decide +kernel
theorem dX5_restAfter_77 : decode cX5_restAfter 77 = .ok (.invokevirtual 172, 3) := by decide +kernel
theorem dX5_restAfter_80 : decode cX5_restAfter 80 = .ok (.iinc 3 1, 3) := by decide +kernel
theorem dX5_restAfter_83 : decode cX5_restAfter 83 = .ok (.aload_n 0, 1) := by decide +kernel
theorem dX5_restAfter_84 : decode cX5_restAfter 84 = .ok (.invokevirtual 185, 3) := by decide +kernel
theorem dX5_restAfter_87 : decode cX5_restAfter 87 = .ok (.istore 4, 2) := by decide +kernel
theorem dX5_restAfter_89 : decode cX5_restAfter 89 = .ok (.goto (-24), 3) := by decide +kernel
theorem dX5_restAfter_92 : decode cX5_restAfter 92 = .ok (.aload_n 0, 1) := by decide +kernel
theorem dX5_restAfter_93 : decode cX5_restAfter 93 = .ok (.iload_n 2, 1) := by decide +kernel
theorem dX5_restAfter_94 : decode cX5_restAfter 94 = .ok (.putfield 74, 3) := by decide +kernel
theorem dX5_restAfter_97 : decode cX5_restAfter 97 = .ok (.iconst 0, 1) := by decide +kernel
theorem dX5_restAfter_98 : decode cX5_restAfter 98 = .ok (.istore 5, 2) := by decide +kernel
theorem dX5_restAfter_100 : decode cX5_restAfter 100 = .ok (.iload 5, 2) := by decide +kernel
theorem dX5_restAfter_102 : decode cX5_restAfter 102 = .ok (.bipush 64, 2) := by decide +kernel
theorem dX5_restAfter_104 : decode cX5_restAfter 104 = .ok (.if_icmp .ge 37, 3) := by decide +kernel
theorem dX5_restAfter_107 : decode cX5_restAfter 107 = .ok (.aload_n 0, 1) := by decide +kernel
theorem dX5_restAfter_108 : decode cX5_restAfter 108 = .ok (.getfield 20, 3) := by decide +kernel
theorem dX5_restAfter_111 : decode cX5_restAfter 111 = .ok (.iload 5, 2) := by decide +kernel
theorem dX5_restAfter_113 : decode cX5_restAfter 113 = .ok (.aload_n 0, 1) := by decide +kernel
theorem dX5_restAfter_114 : decode cX5_restAfter 114 = .ok (.getfield 51, 3) := by decide +kernel
theorem dX5_restAfter_117 : decode cX5_restAfter 117 = .ok (.iload 5, 2) := by decide +kernel
theorem dX5_restAfter_119 : decode cX5_restAfter 119 = .ok (.iaload, 1) := by decide +kernel
theorem dX5_restAfter_120 : decode cX5_restAfter 120 = .ok (.iastore, 1) := by decide +kernel
theorem dX5_restAfter_121 : decode cX5_restAfter 121 = .ok (.aload_n 0, 1) := by decide +kernel
theorem dX5_restAfter_122 : decode cX5_restAfter 122 = .ok (.getfield 23, 3) := by decide +kernel
theorem dX5_restAfter_125 : decode cX5_restAfter 125 = .ok (.iload 5, 2) := by decide +kernel
theorem dX5_restAfter_127 : decode cX5_restAfter 127 = .ok (.aload_n 0, 1) := by decide +kernel
theorem dX5_restAfter_128 : decode cX5_restAfter 128 = .ok (.getfield 54, 3) := by decide +kernel
theorem dX5_restAfter_131 : decode cX5_restAfter 131 = .ok (.iload 5, 2) := by decide +kernel
theorem dX5_restAfter_133 : decode cX5_restAfter 133 = .ok (.iaload, 1) := by decide +kernel
theorem dX5_restAfter_134 : decode cX5_restAfter 134 = .ok (.iastore, 1) := by decide +kernel
theorem dX5_restAfter_135 : decode cX5_restAfter 135 = .ok (.iinc 5 1, 3) := by decide +kernel
theorem dX5_restAfter_138 : decode cX5_restAfter 138 = .ok (.goto (-38), 3) := by decide +kernel
theorem dX5_restAfter_141 : decode cX5_restAfter 141 = .ok (.iload 4, 2) := by decide +kernel
theorem dX5_restAfter_143 : decode cX5_restAfter 143 = .ok (.ifCond .eq 7, 3) := by decide +kernel
theorem dX5_restAfter_146 : decode cX5_restAfter 146 = .ok (.iload_n 3, 1) := by decide +kernel
theorem dX5_restAfter_147 : decode cX5_restAfter 147 = .ok (.goto 5, 3) := by decide +kernel
theorem dX5_restAfter_150 : decode cX5_restAfter 150 = .ok (.bipush (-3), 2) := by decide +kernel
theorem dX5_restAfter_152 : decode cX5_restAfter 152 = .ok (.ireturn, 1) := by decide +kernel
theorem dJ6_bitCount_0f7a4_0 : decode cJ6_bitCount_0f7a4 0 = .ok (.iload_n 0, 1) := by decide +kernel
theorem dJ6_bitCount_0f7a4_1 : decode cJ6_bitCount_0f7a4 1 = .ok (.iload_n 0, 1) := by decide +kernel
theorem dJ6_bitCount_0f7a4_2 : decode cJ6_bitCount_0f7a4 2 = .ok (.iconst 1, 1) := by decide +kernel
theorem dJ6_bitCount_0f7a4_3 : decode cJ6_bitCount_0f7a4 3 = .ok (.iushr, 1) := by decide +kernel
theorem dJ6_bitCount_0f7a4_4 : decode cJ6_bitCount_0f7a4 4 = .ok (.ldc_w 265, 3) := by decide +kernel
theorem dJ6_bitCount_0f7a4_7 : decode cJ6_bitCount_0f7a4 7 = .ok (.iand, 1) := by decide +kernel
theorem dJ6_bitCount_0f7a4_8 : decode cJ6_bitCount_0f7a4 8 = .ok (.isub, 1) := by decide +kernel
theorem dJ6_bitCount_0f7a4_9 : decode cJ6_bitCount_0f7a4 9 = .ok (.istore_n 0, 1) := by decide +kernel
theorem dJ6_bitCount_0f7a4_10 : decode cJ6_bitCount_0f7a4 10 = .ok (.iload_n 0, 1) := by decide +kernel
theorem dJ6_bitCount_0f7a4_11 : decode cJ6_bitCount_0f7a4 11 = .ok (.ldc_w 266, 3) := by decide +kernel
theorem dJ6_bitCount_0f7a4_14 : decode cJ6_bitCount_0f7a4 14 = .ok (.iand, 1) := by decide +kernel
theorem dJ6_bitCount_0f7a4_15 : decode cJ6_bitCount_0f7a4 15 = .ok (.iload_n 0, 1) := by decide +kernel
theorem dJ6_bitCount_0f7a4_16 : decode cJ6_bitCount_0f7a4 16 = .ok (.iconst 2, 1) := by decide +kernel
theorem dJ6_bitCount_0f7a4_17 : decode cJ6_bitCount_0f7a4 17 = .ok (.iushr, 1) := by decide +kernel
theorem dJ6_bitCount_0f7a4_18 : decode cJ6_bitCount_0f7a4 18 = .ok (.ldc_w 266, 3) := by decide +kernel
theorem dJ6_bitCount_0f7a4_21 : decode cJ6_bitCount_0f7a4 21 = .ok (.iand, 1) := by decide +kernel
theorem dJ6_bitCount_0f7a4_22 : decode cJ6_bitCount_0f7a4 22 = .ok (.iadd, 1) := by decide +kernel
theorem dJ6_bitCount_0f7a4_23 : decode cJ6_bitCount_0f7a4 23 = .ok (.istore_n 0, 1) := by decide +kernel
theorem dJ6_bitCount_0f7a4_24 : decode cJ6_bitCount_0f7a4 24 = .ok (.iload_n 0, 1) := by decide +kernel
theorem dJ6_bitCount_0f7a4_25 : decode cJ6_bitCount_0f7a4 25 = .ok (.iload_n 0, 1) := by decide +kernel
theorem dJ6_bitCount_0f7a4_26 : decode cJ6_bitCount_0f7a4 26 = .ok (.iconst 4, 1) := by decide +kernel
theorem dJ6_bitCount_0f7a4_27 : decode cJ6_bitCount_0f7a4 27 = .ok (.iushr, 1) := by decide +kernel
theorem dJ6_bitCount_0f7a4_28 : decode cJ6_bitCount_0f7a4 28 = .ok (.iadd, 1) := by decide +kernel
theorem dJ6_bitCount_0f7a4_29 : decode cJ6_bitCount_0f7a4 29 = .ok (.ldc_w 267, 3) := by decide +kernel
theorem dJ6_bitCount_0f7a4_32 : decode cJ6_bitCount_0f7a4 32 = .ok (.iand, 1) := by decide +kernel
theorem dJ6_bitCount_0f7a4_33 : decode cJ6_bitCount_0f7a4 33 = .ok (.istore_n 0, 1) := by decide +kernel
theorem dJ6_bitCount_0f7a4_34 : decode cJ6_bitCount_0f7a4 34 = .ok (.iload_n 0, 1) := by decide +kernel
theorem dJ6_bitCount_0f7a4_35 : decode cJ6_bitCount_0f7a4 35 = .ok (.iload_n 0, 1) := by decide +kernel
theorem dJ6_bitCount_0f7a4_36 : decode cJ6_bitCount_0f7a4 36 = .ok (.bipush 8, 2) := by decide +kernel
theorem dJ6_bitCount_0f7a4_38 : decode cJ6_bitCount_0f7a4 38 = .ok (.iushr, 1) := by decide +kernel
theorem dJ6_bitCount_0f7a4_39 : decode cJ6_bitCount_0f7a4 39 = .ok (.iadd, 1) := by decide +kernel
theorem dJ6_bitCount_0f7a4_40 : decode cJ6_bitCount_0f7a4 40 = .ok (.istore_n 0, 1) := by decide +kernel
theorem dJ6_bitCount_0f7a4_41 : decode cJ6_bitCount_0f7a4 41 = .ok (.iload_n 0, 1) := by decide +kernel
theorem dJ6_bitCount_0f7a4_42 : decode cJ6_bitCount_0f7a4 42 = .ok (.iload_n 0, 1) := by decide +kernel
theorem dJ6_bitCount_0f7a4_43 : decode cJ6_bitCount_0f7a4 43 = .ok (.bipush 16, 2) := by decide +kernel
theorem dJ6_bitCount_0f7a4_45 : decode cJ6_bitCount_0f7a4 45 = .ok (.iushr, 1) := by decide +kernel
theorem dJ6_bitCount_0f7a4_46 : decode cJ6_bitCount_0f7a4 46 = .ok (.iadd, 1) := by decide +kernel
theorem dJ6_bitCount_0f7a4_47 : decode cJ6_bitCount_0f7a4 47 = .ok (.istore_n 0, 1) := by decide +kernel
theorem dJ6_bitCount_0f7a4_48 : decode cJ6_bitCount_0f7a4 48 = .ok (.iload_n 0, 1) := by decide +kernel
theorem dJ6_bitCount_0f7a4_49 : decode cJ6_bitCount_0f7a4 49 = .ok (.bipush 63, 2) := by decide +kernel
theorem dJ6_bitCount_0f7a4_51 : decode cJ6_bitCount_0f7a4 51 = .ok (.iand, 1) := by decide +kernel
theorem dJ6_bitCount_0f7a4_52 : decode cJ6_bitCount_0f7a4 52 = .ok (.ireturn, 1) := by decide +kernel
theorem dJ9_floorMod_7cf53_0 : decode cJ9_floorMod_7cf53 0 = .ok (.iload_n 0, 1) := by decide +kernel
theorem dJ9_floorMod_7cf53_1 : decode cJ9_floorMod_7cf53 1 = .ok (.iload_n 1, 1) := by decide +kernel
theorem dJ9_floorMod_7cf53_2 : decode cJ9_floorMod_7cf53 2 = .ok (.irem, 1) := by decide +kernel
theorem dJ9_floorMod_7cf53_3 : decode cJ9_floorMod_7cf53 3 = .ok (.istore_n 2, 1) := by decide +kernel
theorem dJ9_floorMod_7cf53_4 : decode cJ9_floorMod_7cf53 4 = .ok (.iload_n 0, 1) := by decide +kernel
theorem dJ9_floorMod_7cf53_5 : decode cJ9_floorMod_7cf53 5 = .ok (.iload_n 1, 1) := by decide +kernel
theorem dJ9_floorMod_7cf53_6 : decode cJ9_floorMod_7cf53 6 = .ok (.ixor, 1) := by decide +kernel
theorem dJ9_floorMod_7cf53_7 : decode cJ9_floorMod_7cf53 7 = .ok (.ifCond .ge 11, 3) := by decide +kernel
theorem dJ9_floorMod_7cf53_10 : decode cJ9_floorMod_7cf53 10 = .ok (.iload_n 2, 1) := by decide +kernel
theorem dJ9_floorMod_7cf53_11 : decode cJ9_floorMod_7cf53 11 = .ok (.ifCond .eq 7, 3) := by decide +kernel
theorem dJ9_floorMod_7cf53_14 : decode cJ9_floorMod_7cf53 14 = .ok (.iload_n 2, 1) := by decide +kernel
theorem dJ9_floorMod_7cf53_15 : decode cJ9_floorMod_7cf53 15 = .ok (.iload_n 1, 1) := by decide +kernel
theorem dJ9_floorMod_7cf53_16 : decode cJ9_floorMod_7cf53 16 = .ok (.iadd, 1) := by decide +kernel
theorem dJ9_floorMod_7cf53_17 : decode cJ9_floorMod_7cf53 17 = .ok (.ireturn, 1) := by decide +kernel
theorem dJ9_floorMod_7cf53_18 : decode cJ9_floorMod_7cf53 18 = .ok (.iload_n 2, 1) := by decide +kernel
theorem dJ9_floorMod_7cf53_19 : decode cJ9_floorMod_7cf53 19 = .ok (.ireturn, 1) := by decide +kernel
theorem dJ9_max_7cf53_0 : decode cJ9_max_7cf53 0 = .ok (.iload_n 0, 1) := by decide +kernel
theorem dJ9_max_7cf53_1 : decode cJ9_max_7cf53 1 = .ok (.iload_n 1, 1) := by decide +kernel
theorem dJ9_max_7cf53_2 : decode cJ9_max_7cf53 2 = .ok (.if_icmp .lt 7, 3) := by decide +kernel
theorem dJ9_max_7cf53_5 : decode cJ9_max_7cf53 5 = .ok (.iload_n 0, 1) := by decide +kernel
theorem dJ9_max_7cf53_6 : decode cJ9_max_7cf53 6 = .ok (.goto 4, 3) := by decide +kernel
theorem dJ9_max_7cf53_9 : decode cJ9_max_7cf53 9 = .ok (.iload_n 1, 1) := by decide +kernel
theorem dJ9_max_7cf53_10 : decode cJ9_max_7cf53 10 = .ok (.ireturn, 1) := by decide +kernel
theorem dJ9_min_7cf53_0 : decode cJ9_min_7cf53 0 = .ok (.iload_n 0, 1) := by decide +kernel
theorem dJ9_min_7cf53_1 : decode cJ9_min_7cf53 1 = .ok (.iload_n 1, 1) := by decide +kernel
theorem dJ9_min_7cf53_2 : decode cJ9_min_7cf53 2 = .ok (.if_icmp .gt 7, 3) := by decide +kernel
theorem dJ9_min_7cf53_5 : decode cJ9_min_7cf53 5 = .ok (.iload_n 0, 1) := by decide +kernel
theorem dJ9_min_7cf53_6 : decode cJ9_min_7cf53 6 = .ok (.goto 4, 3) := by decide +kernel
theorem dJ9_min_7cf53_9 : decode cJ9_min_7cf53 9 = .ok (.iload_n 1, 1) := by decide +kernel
theorem dJ9_min_7cf53_10 : decode cJ9_min_7cf53 10 = .ok (.ireturn, 1) := by decide +kernel
theorem dL_law_0 : decode cL_law 0 = .ok (.new 7, 3) := by decide +kernel
theorem dL_law_3 : decode cL_law 3 = .ok (.dup, 1) := by decide +kernel
theorem dL_law_4 : decode cL_law 4 = .ok (.invokespecial 9, 3) := by decide +kernel
theorem dL_law_7 : decode cL_law 7 = .ok (.astore_n 1, 1) := by decide +kernel
theorem dL_law_8 : decode cL_law 8 = .ok (.new 10, 3) := by decide +kernel
theorem dL_law_11 : decode cL_law 11 = .ok (.dup, 1) := by decide +kernel
theorem dL_law_12 : decode cL_law 12 = .ok (.invokespecial 12, 3) := by decide +kernel
theorem dL_law_15 : decode cL_law 15 = .ok (.astore_n 2, 1) := by decide +kernel
theorem dL_law_16 : decode cL_law 16 = .ok (.iconst 0, 1) := by decide +kernel
theorem dL_law_17 : decode cL_law 17 = .ok (.istore_n 3, 1) := by decide +kernel
theorem dL_law_18 : decode cL_law 18 = .ok (.iload_n 3, 1) := by decide +kernel
theorem dL_law_19 : decode cL_law 19 = .ok (.aload_n 0, 1) := by decide +kernel
theorem dL_law_20 : decode cL_law 20 = .ok (.arraylength, 1) := by decide +kernel
theorem dL_law_21 : decode cL_law 21 = .ok (.iconst 3, 1) := by decide +kernel
theorem dL_law_22 : decode cL_law 22 = .ok (.isub, 1) := by decide +kernel
theorem dL_law_23 : decode cL_law 23 = .ok (.if_icmp .gt 681, 3) := by decide +kernel
theorem dL_law_26 : decode cL_law 26 = .ok (.aload_n 0, 1) := by decide +kernel
theorem dL_law_27 : decode cL_law 27 = .ok (.iload_n 3, 1) := by decide +kernel
theorem dL_law_28 : decode cL_law 28 = .ok (.iaload, 1) := by decide +kernel
theorem dL_law_29 : decode cL_law 29 = .ok (.bipush 31, 2) := by decide +kernel
theorem dL_law_31 : decode cL_law 31 = .ok (.iand, 1) := by decide +kernel
theorem dL_law_32 : decode cL_law 32 = .ok (.tableswitch 666 0 19 #[96, 129, 168, 207, 246, 269, 302, 335, 348, 387, 426, 449, 482, 515, 538, 571, 594, 607, 630, 643], 96) := by decide +kernel
theorem dL_law_128 : decode cL_law 128 = .ok (.aload_n 1, 1) := by decide +kernel
theorem dL_law_129 : decode cL_law 129 = .ok (.aload_n 0, 1) := by decide +kernel
theorem dL_law_130 : decode cL_law 130 = .ok (.iload_n 3, 1) := by decide +kernel
theorem dL_law_131 : decode cL_law 131 = .ok (.iconst 1, 1) := by decide +kernel
theorem dL_law_132 : decode cL_law 132 = .ok (.iadd, 1) := by decide +kernel
theorem dL_law_133 : decode cL_law 133 = .ok (.iaload, 1) := by decide +kernel
theorem dL_law_134 : decode cL_law 134 = .ok (.aload_n 0, 1) := by decide +kernel
theorem dL_law_135 : decode cL_law 135 = .ok (.iload_n 3, 1) := by decide +kernel
theorem dL_law_136 : decode cL_law 136 = .ok (.iconst 2, 1) := by decide +kernel
theorem dL_law_137 : decode cL_law 137 = .ok (.iadd, 1) := by decide +kernel
theorem dL_law_138 : decode cL_law 138 = .ok (.iaload, 1) := by decide +kernel
theorem dL_law_139 : decode cL_law 139 = .ok (.invokevirtual 13, 3) := by decide +kernel
theorem dL_law_142 : decode cL_law 142 = .ok (.aload_n 2, 1) := by decide +kernel
theorem dL_law_143 : decode cL_law 143 = .ok (.aload_n 0, 1) := by decide +kernel
theorem dL_law_144 : decode cL_law 144 = .ok (.iload_n 3, 1) := by decide +kernel
theorem dL_law_145 : decode cL_law 145 = .ok (.iconst 1, 1) := by decide +kernel
theorem dL_law_146 : decode cL_law 146 = .ok (.iadd, 1) := by decide +kernel
theorem dL_law_147 : decode cL_law 147 = .ok (.iaload, 1) := by decide +kernel
theorem dL_law_148 : decode cL_law 148 = .ok (.aload_n 0, 1) := by decide +kernel
theorem dL_law_149 : decode cL_law 149 = .ok (.iload_n 3, 1) := by decide +kernel
theorem dL_law_150 : decode cL_law 150 = .ok (.iconst 2, 1) := by decide +kernel
theorem dL_law_151 : decode cL_law 151 = .ok (.iadd, 1) := by decide +kernel
theorem dL_law_152 : decode cL_law 152 = .ok (.iaload, 1) := by decide +kernel
theorem dL_law_153 : decode cL_law 153 = .ok (.invokevirtual 17, 3) := by decide +kernel
theorem dL_law_156 : decode cL_law 156 = .ok (.if_icmp .eq 542, 3) := by decide +kernel
theorem dL_law_159 : decode cL_law 159 = .ok (.iconst 0, 1) := by decide +kernel
theorem dL_law_160 : decode cL_law 160 = .ok (.ireturn, 1) := by decide +kernel
theorem dL_law_161 : decode cL_law 161 = .ok (.aload_n 1, 1) := by decide +kernel
theorem dL_law_162 : decode cL_law 162 = .ok (.aload_n 0, 1) := by decide +kernel
theorem dL_law_163 : decode cL_law 163 = .ok (.iload_n 3, 1) := by decide +kernel
theorem dL_law_164 : decode cL_law 164 = .ok (.iconst 1, 1) := by decide +kernel
theorem dL_law_165 : decode cL_law 165 = .ok (.iadd, 1) := by decide +kernel
theorem dL_law_166 : decode cL_law 166 = .ok (.iaload, 1) := by decide +kernel
theorem dL_law_167 : decode cL_law 167 = .ok (.ifCond .eq 7, 3) := by decide +kernel
theorem dL_law_170 : decode cL_law 170 = .ok (.iconst 1, 1) := by decide +kernel
theorem dL_law_171 : decode cL_law 171 = .ok (.goto 4, 3) := by decide +kernel
theorem dL_law_174 : decode cL_law 174 = .ok (.iconst 0, 1) := by decide +kernel
theorem dL_law_175 : decode cL_law 175 = .ok (.invokevirtual 18, 3) := by decide +kernel
theorem dL_law_178 : decode cL_law 178 = .ok (.aload_n 2, 1) := by decide +kernel
theorem dL_law_179 : decode cL_law 179 = .ok (.aload_n 0, 1) := by decide +kernel
theorem dL_law_180 : decode cL_law 180 = .ok (.iload_n 3, 1) := by decide +kernel
theorem dL_law_181 : decode cL_law 181 = .ok (.iconst 1, 1) := by decide +kernel
theorem dL_law_182 : decode cL_law 182 = .ok (.iadd, 1) := by decide +kernel
theorem dL_law_183 : decode cL_law 183 = .ok (.iaload, 1) := by decide +kernel
theorem dL_law_184 : decode cL_law 184 = .ok (.ifCond .eq 7, 3) := by decide +kernel
theorem dL_law_187 : decode cL_law 187 = .ok (.iconst 1, 1) := by decide +kernel
theorem dL_law_188 : decode cL_law 188 = .ok (.goto 4, 3) := by decide +kernel
theorem dL_law_191 : decode cL_law 191 = .ok (.iconst 0, 1) := by decide +kernel
theorem dL_law_192 : decode cL_law 192 = .ok (.invokevirtual 22, 3) := by decide +kernel
theorem dL_law_195 : decode cL_law 195 = .ok (.if_icmp .eq 503, 3) := by decide +kernel
theorem dL_law_198 : decode cL_law 198 = .ok (.iconst 0, 1) := by decide +kernel
theorem dL_law_199 : decode cL_law 199 = .ok (.ireturn, 1) := by decide +kernel
theorem dL_law_200 : decode cL_law 200 = .ok (.aload_n 1, 1) := by decide +kernel
theorem dL_law_201 : decode cL_law 201 = .ok (.aload_n 0, 1) := by decide +kernel
theorem dL_law_202 : decode cL_law 202 = .ok (.iload_n 3, 1) := by decide +kernel
theorem dL_law_203 : decode cL_law 203 = .ok (.iconst 1, 1) := by decide +kernel
theorem dL_law_204 : decode cL_law 204 = .ok (.iadd, 1) := by decide +kernel
theorem dL_law_205 : decode cL_law 205 = .ok (.iaload, 1) := by decide +kernel
theorem dL_law_206 : decode cL_law 206 = .ok (.ifCond .eq 7, 3) := by decide +kernel
theorem dL_law_209 : decode cL_law 209 = .ok (.iconst 1, 1) := by decide +kernel
theorem dL_law_210 : decode cL_law 210 = .ok (.goto 4, 3) := by decide +kernel
theorem dL_law_213 : decode cL_law 213 = .ok (.iconst 0, 1) := by decide +kernel
theorem dL_law_214 : decode cL_law 214 = .ok (.invokevirtual 23, 3) := by decide +kernel
theorem dL_law_217 : decode cL_law 217 = .ok (.aload_n 2, 1) := by decide +kernel
theorem dL_law_218 : decode cL_law 218 = .ok (.aload_n 0, 1) := by decide +kernel
theorem dL_law_219 : decode cL_law 219 = .ok (.iload_n 3, 1) := by decide +kernel
theorem dL_law_220 : decode cL_law 220 = .ok (.iconst 1, 1) := by decide +kernel
theorem dL_law_221 : decode cL_law 221 = .ok (.iadd, 1) := by decide +kernel
theorem dL_law_222 : decode cL_law 222 = .ok (.iaload, 1) := by decide +kernel
theorem dL_law_223 : decode cL_law 223 = .ok (.ifCond .eq 7, 3) := by decide +kernel
theorem dL_law_226 : decode cL_law 226 = .ok (.iconst 1, 1) := by decide +kernel
theorem dL_law_227 : decode cL_law 227 = .ok (.goto 4, 3) := by decide +kernel
theorem dL_law_230 : decode cL_law 230 = .ok (.iconst 0, 1) := by decide +kernel
theorem dL_law_231 : decode cL_law 231 = .ok (.invokevirtual 26, 3) := by decide +kernel
theorem dL_law_234 : decode cL_law 234 = .ok (.if_icmp .eq 464, 3) := by decide +kernel
theorem dL_law_237 : decode cL_law 237 = .ok (.iconst 0, 1) := by decide +kernel
theorem dL_law_238 : decode cL_law 238 = .ok (.ireturn, 1) := by decide +kernel
theorem dL_law_239 : decode cL_law 239 = .ok (.aload_n 1, 1) := by decide +kernel
theorem dL_law_240 : decode cL_law 240 = .ok (.aload_n 0, 1) := by decide +kernel
theorem dL_law_241 : decode cL_law 241 = .ok (.iload_n 3, 1) := by decide +kernel
theorem dL_law_242 : decode cL_law 242 = .ok (.iconst 1, 1) := by decide +kernel
theorem dL_law_243 : decode cL_law 243 = .ok (.iadd, 1) := by decide +kernel
theorem dL_law_244 : decode cL_law 244 = .ok (.iaload, 1) := by decide +kernel
theorem dL_law_245 : decode cL_law 245 = .ok (.ifCond .eq 7, 3) := by decide +kernel
theorem dL_law_248 : decode cL_law 248 = .ok (.iconst 1, 1) := by decide +kernel
theorem dL_law_249 : decode cL_law 249 = .ok (.goto 4, 3) := by decide +kernel
theorem dL_law_252 : decode cL_law 252 = .ok (.iconst 0, 1) := by decide +kernel
theorem dL_law_253 : decode cL_law 253 = .ok (.invokevirtual 27, 3) := by decide +kernel
theorem dL_law_256 : decode cL_law 256 = .ok (.aload_n 2, 1) := by decide +kernel
theorem dL_law_257 : decode cL_law 257 = .ok (.aload_n 0, 1) := by decide +kernel
theorem dL_law_258 : decode cL_law 258 = .ok (.iload_n 3, 1) := by decide +kernel
theorem dL_law_259 : decode cL_law 259 = .ok (.iconst 1, 1) := by decide +kernel
theorem dL_law_260 : decode cL_law 260 = .ok (.iadd, 1) := by decide +kernel
theorem dL_law_261 : decode cL_law 261 = .ok (.iaload, 1) := by decide +kernel
theorem dL_law_262 : decode cL_law 262 = .ok (.ifCond .eq 7, 3) := by decide +kernel
theorem dL_law_265 : decode cL_law 265 = .ok (.iconst 1, 1) := by decide +kernel
theorem dL_law_266 : decode cL_law 266 = .ok (.goto 4, 3) := by decide +kernel
theorem dL_law_269 : decode cL_law 269 = .ok (.iconst 0, 1) := by decide +kernel
theorem dL_law_270 : decode cL_law 270 = .ok (.invokevirtual 30, 3) := by decide +kernel
theorem dL_law_273 : decode cL_law 273 = .ok (.if_icmp .eq 425, 3) := by decide +kernel
theorem dL_law_276 : decode cL_law 276 = .ok (.iconst 0, 1) := by decide +kernel
theorem dL_law_277 : decode cL_law 277 = .ok (.ireturn, 1) := by decide +kernel
theorem dL_law_278 : decode cL_law 278 = .ok (.aload_n 1, 1) := by decide +kernel
theorem dL_law_279 : decode cL_law 279 = .ok (.aload_n 0, 1) := by decide +kernel
theorem dL_law_280 : decode cL_law 280 = .ok (.iload_n 3, 1) := by decide +kernel
theorem dL_law_281 : decode cL_law 281 = .ok (.iconst 1, 1) := by decide +kernel
theorem dL_law_282 : decode cL_law 282 = .ok (.iadd, 1) := by decide +kernel
theorem dL_law_283 : decode cL_law 283 = .ok (.iaload, 1) := by decide +kernel
theorem dL_law_284 : decode cL_law 284 = .ok (.invokevirtual 31, 3) := by decide +kernel
theorem dL_law_287 : decode cL_law 287 = .ok (.aload_n 2, 1) := by decide +kernel
theorem dL_law_288 : decode cL_law 288 = .ok (.aload_n 0, 1) := by decide +kernel
theorem dL_law_289 : decode cL_law 289 = .ok (.iload_n 3, 1) := by decide +kernel
theorem dL_law_290 : decode cL_law 290 = .ok (.iconst 1, 1) := by decide +kernel
theorem dL_law_291 : decode cL_law 291 = .ok (.iadd, 1) := by decide +kernel
theorem dL_law_292 : decode cL_law 292 = .ok (.iaload, 1) := by decide +kernel
theorem dL_law_293 : decode cL_law 293 = .ok (.invokevirtual 35, 3) := by decide +kernel
theorem dL_law_296 : decode cL_law 296 = .ok (.if_icmp .eq 402, 3) := by decide +kernel
theorem dL_law_299 : decode cL_law 299 = .ok (.iconst 0, 1) := by decide +kernel
theorem dL_law_300 : decode cL_law 300 = .ok (.ireturn, 1) := by decide +kernel
theorem dL_law_301 : decode cL_law 301 = .ok (.aload_n 1, 1) := by decide +kernel
theorem dL_law_302 : decode cL_law 302 = .ok (.aload_n 0, 1) := by decide +kernel
theorem dL_law_303 : decode cL_law 303 = .ok (.iload_n 3, 1) := by decide +kernel
theorem dL_law_304 : decode cL_law 304 = .ok (.iconst 1, 1) := by decide +kernel
theorem dL_law_305 : decode cL_law 305 = .ok (.iadd, 1) := by decide +kernel
theorem dL_law_306 : decode cL_law 306 = .ok (.iaload, 1) := by decide +kernel
theorem dL_law_307 : decode cL_law 307 = .ok (.aload_n 0, 1) := by decide +kernel
theorem dL_law_308 : decode cL_law 308 = .ok (.iload_n 3, 1) := by decide +kernel
theorem dL_law_309 : decode cL_law 309 = .ok (.iconst 2, 1) := by decide +kernel
theorem dL_law_310 : decode cL_law 310 = .ok (.iadd, 1) := by decide +kernel
theorem dL_law_311 : decode cL_law 311 = .ok (.iaload, 1) := by decide +kernel
theorem dL_law_312 : decode cL_law 312 = .ok (.invokevirtual 36, 3) := by decide +kernel
theorem dL_law_315 : decode cL_law 315 = .ok (.aload_n 2, 1) := by decide +kernel
theorem dL_law_316 : decode cL_law 316 = .ok (.aload_n 0, 1) := by decide +kernel
theorem dL_law_317 : decode cL_law 317 = .ok (.iload_n 3, 1) := by decide +kernel
theorem dL_law_318 : decode cL_law 318 = .ok (.iconst 1, 1) := by decide +kernel
theorem dL_law_319 : decode cL_law 319 = .ok (.iadd, 1) := by decide +kernel
theorem dL_law_320 : decode cL_law 320 = .ok (.iaload, 1) := by decide +kernel
theorem dL_law_321 : decode cL_law 321 = .ok (.aload_n 0, 1) := by decide +kernel
theorem dL_law_322 : decode cL_law 322 = .ok (.iload_n 3, 1) := by decide +kernel
theorem dL_law_323 : decode cL_law 323 = .ok (.iconst 2, 1) := by decide +kernel
theorem dL_law_324 : decode cL_law 324 = .ok (.iadd, 1) := by decide +kernel
theorem dL_law_325 : decode cL_law 325 = .ok (.iaload, 1) := by decide +kernel
theorem dL_law_326 : decode cL_law 326 = .ok (.invokevirtual 39, 3) := by decide +kernel
theorem dL_law_329 : decode cL_law 329 = .ok (.if_icmp .eq 369, 3) := by decide +kernel
theorem dL_law_332 : decode cL_law 332 = .ok (.iconst 0, 1) := by decide +kernel
theorem dL_law_333 : decode cL_law 333 = .ok (.ireturn, 1) := by decide +kernel
theorem dL_law_334 : decode cL_law 334 = .ok (.aload_n 1, 1) := by decide +kernel
theorem dL_law_335 : decode cL_law 335 = .ok (.aload_n 0, 1) := by decide +kernel
theorem dL_law_336 : decode cL_law 336 = .ok (.iload_n 3, 1) := by decide +kernel
theorem dL_law_337 : decode cL_law 337 = .ok (.iconst 1, 1) := by decide +kernel
theorem dL_law_338 : decode cL_law 338 = .ok (.iadd, 1) := by decide +kernel
theorem dL_law_339 : decode cL_law 339 = .ok (.iaload, 1) := by decide +kernel
theorem dL_law_340 : decode cL_law 340 = .ok (.aload_n 0, 1) := by decide +kernel
theorem dL_law_341 : decode cL_law 341 = .ok (.iload_n 3, 1) := by decide +kernel
theorem dL_law_342 : decode cL_law 342 = .ok (.iconst 2, 1) := by decide +kernel
theorem dL_law_343 : decode cL_law 343 = .ok (.iadd, 1) := by decide +kernel
theorem dL_law_344 : decode cL_law 344 = .ok (.iaload, 1) := by decide +kernel
theorem dL_law_345 : decode cL_law 345 = .ok (.invokevirtual 40, 3) := by decide +kernel
theorem dL_law_348 : decode cL_law 348 = .ok (.aload_n 2, 1) := by decide +kernel
theorem dL_law_349 : decode cL_law 349 = .ok (.aload_n 0, 1) := by decide +kernel
theorem dL_law_350 : decode cL_law 350 = .ok (.iload_n 3, 1) := by decide +kernel
theorem dL_law_351 : decode cL_law 351 = .ok (.iconst 1, 1) := by decide +kernel
theorem dL_law_352 : decode cL_law 352 = .ok (.iadd, 1) := by decide +kernel
theorem dL_law_353 : decode cL_law 353 = .ok (.iaload, 1) := by decide +kernel
theorem dL_law_354 : decode cL_law 354 = .ok (.aload_n 0, 1) := by decide +kernel
theorem dL_law_355 : decode cL_law 355 = .ok (.iload_n 3, 1) := by decide +kernel
theorem dL_law_356 : decode cL_law 356 = .ok (.iconst 2, 1) := by decide +kernel
theorem dL_law_357 : decode cL_law 357 = .ok (.iadd, 1) := by decide +kernel
theorem dL_law_358 : decode cL_law 358 = .ok (.iaload, 1) := by decide +kernel
theorem dL_law_359 : decode cL_law 359 = .ok (.invokevirtual 43, 3) := by decide +kernel
theorem dL_law_362 : decode cL_law 362 = .ok (.if_icmp .eq 336, 3) := by decide +kernel
theorem dL_law_365 : decode cL_law 365 = .ok (.iconst 0, 1) := by decide +kernel
theorem dL_law_366 : decode cL_law 366 = .ok (.ireturn, 1) := by decide +kernel
theorem dL_law_367 : decode cL_law 367 = .ok (.aload_n 1, 1) := by decide +kernel
theorem dL_law_368 : decode cL_law 368 = .ok (.invokevirtual 44, 3) := by decide +kernel
theorem dL_law_371 : decode cL_law 371 = .ok (.aload_n 2, 1) := by decide +kernel
theorem dL_law_372 : decode cL_law 372 = .ok (.invokevirtual 48, 3) := by decide +kernel
theorem dL_law_375 : decode cL_law 375 = .ok (.if_icmp .eq 323, 3) := by decide +kernel
theorem dL_law_378 : decode cL_law 378 = .ok (.iconst 0, 1) := by decide +kernel
theorem dL_law_379 : decode cL_law 379 = .ok (.ireturn, 1) := by decide +kernel
theorem dL_law_380 : decode cL_law 380 = .ok (.aload_n 1, 1) := by decide +kernel
theorem dL_law_381 : decode cL_law 381 = .ok (.aload_n 0, 1) := by decide +kernel
theorem dL_law_382 : decode cL_law 382 = .ok (.iload_n 3, 1) := by decide +kernel
theorem dL_law_383 : decode cL_law 383 = .ok (.iconst 1, 1) := by decide +kernel
theorem dL_law_384 : decode cL_law 384 = .ok (.iadd, 1) := by decide +kernel
theorem dL_law_385 : decode cL_law 385 = .ok (.iaload, 1) := by decide +kernel
theorem dL_law_386 : decode cL_law 386 = .ok (.ifCond .eq 7, 3) := by decide +kernel
theorem dL_law_389 : decode cL_law 389 = .ok (.iconst 1, 1) := by decide +kernel
theorem dL_law_390 : decode cL_law 390 = .ok (.goto 4, 3) := by decide +kernel
theorem dL_law_393 : decode cL_law 393 = .ok (.iconst 0, 1) := by decide +kernel
theorem dL_law_394 : decode cL_law 394 = .ok (.invokevirtual 49, 3) := by decide +kernel
theorem dL_law_397 : decode cL_law 397 = .ok (.aload_n 2, 1) := by decide +kernel
theorem dL_law_398 : decode cL_law 398 = .ok (.aload_n 0, 1) := by decide +kernel
theorem dL_law_399 : decode cL_law 399 = .ok (.iload_n 3, 1) := by decide +kernel
theorem dL_law_400 : decode cL_law 400 = .ok (.iconst 1, 1) := by decide +kernel
theorem dL_law_401 : decode cL_law 401 = .ok (.iadd, 1) := by decide +kernel
theorem dL_law_402 : decode cL_law 402 = .ok (.iaload, 1) := by decide +kernel
theorem dL_law_403 : decode cL_law 403 = .ok (.ifCond .eq 7, 3) := by decide +kernel
theorem dL_law_406 : decode cL_law 406 = .ok (.iconst 1, 1) := by decide +kernel
theorem dL_law_407 : decode cL_law 407 = .ok (.goto 4, 3) := by decide +kernel
theorem dL_law_410 : decode cL_law 410 = .ok (.iconst 0, 1) := by decide +kernel
theorem dL_law_411 : decode cL_law 411 = .ok (.invokevirtual 52, 3) := by decide +kernel
theorem dL_law_414 : decode cL_law 414 = .ok (.if_icmp .eq 284, 3) := by decide +kernel
theorem dL_law_417 : decode cL_law 417 = .ok (.iconst 0, 1) := by decide +kernel
theorem dL_law_418 : decode cL_law 418 = .ok (.ireturn, 1) := by decide +kernel
theorem dL_law_419 : decode cL_law 419 = .ok (.aload_n 1, 1) := by decide +kernel
theorem dL_law_420 : decode cL_law 420 = .ok (.aload_n 0, 1) := by decide +kernel
theorem dL_law_421 : decode cL_law 421 = .ok (.iload_n 3, 1) := by decide +kernel
theorem dL_law_422 : decode cL_law 422 = .ok (.iconst 1, 1) := by decide +kernel
theorem dL_law_423 : decode cL_law 423 = .ok (.iadd, 1) := by decide +kernel
theorem dL_law_424 : decode cL_law 424 = .ok (.iaload, 1) := by decide +kernel
theorem dL_law_425 : decode cL_law 425 = .ok (.ifCond .eq 7, 3) := by decide +kernel
theorem dL_law_428 : decode cL_law 428 = .ok (.iconst 1, 1) := by decide +kernel
theorem dL_law_429 : decode cL_law 429 = .ok (.goto 4, 3) := by decide +kernel
theorem dL_law_432 : decode cL_law 432 = .ok (.iconst 0, 1) := by decide +kernel
theorem dL_law_433 : decode cL_law 433 = .ok (.invokevirtual 53, 3) := by decide +kernel
theorem dL_law_436 : decode cL_law 436 = .ok (.aload_n 2, 1) := by decide +kernel
theorem dL_law_437 : decode cL_law 437 = .ok (.aload_n 0, 1) := by decide +kernel
theorem dL_law_438 : decode cL_law 438 = .ok (.iload_n 3, 1) := by decide +kernel
theorem dL_law_439 : decode cL_law 439 = .ok (.iconst 1, 1) := by decide +kernel
theorem dL_law_440 : decode cL_law 440 = .ok (.iadd, 1) := by decide +kernel
theorem dL_law_441 : decode cL_law 441 = .ok (.iaload, 1) := by decide +kernel
theorem dL_law_442 : decode cL_law 442 = .ok (.ifCond .eq 7, 3) := by decide +kernel
theorem dL_law_445 : decode cL_law 445 = .ok (.iconst 1, 1) := by decide +kernel
theorem dL_law_446 : decode cL_law 446 = .ok (.goto 4, 3) := by decide +kernel
theorem dL_law_449 : decode cL_law 449 = .ok (.iconst 0, 1) := by decide +kernel
theorem dL_law_450 : decode cL_law 450 = .ok (.invokevirtual 56, 3) := by decide +kernel
theorem dL_law_453 : decode cL_law 453 = .ok (.if_icmp .eq 245, 3) := by decide +kernel
theorem dL_law_456 : decode cL_law 456 = .ok (.iconst 0, 1) := by decide +kernel
theorem dL_law_457 : decode cL_law 457 = .ok (.ireturn, 1) := by decide +kernel
theorem dL_law_458 : decode cL_law 458 = .ok (.aload_n 1, 1) := by decide +kernel
theorem dL_law_459 : decode cL_law 459 = .ok (.aload_n 0, 1) := by decide +kernel
theorem dL_law_460 : decode cL_law 460 = .ok (.iload_n 3, 1) := by decide +kernel
theorem dL_law_461 : decode cL_law 461 = .ok (.iconst 1, 1) := by decide +kernel
theorem dL_law_462 : decode cL_law 462 = .ok (.iadd, 1) := by decide +kernel
theorem dL_law_463 : decode cL_law 463 = .ok (.iaload, 1) := by decide +kernel
theorem dL_law_464 : decode cL_law 464 = .ok (.invokevirtual 57, 3) := by decide +kernel
theorem dL_law_467 : decode cL_law 467 = .ok (.aload_n 2, 1) := by decide +kernel
theorem dL_law_468 : decode cL_law 468 = .ok (.aload_n 0, 1) := by decide +kernel
theorem dL_law_469 : decode cL_law 469 = .ok (.iload_n 3, 1) := by decide +kernel
theorem dL_law_470 : decode cL_law 470 = .ok (.iconst 1, 1) := by decide +kernel
theorem dL_law_471 : decode cL_law 471 = .ok (.iadd, 1) := by decide +kernel
theorem dL_law_472 : decode cL_law 472 = .ok (.iaload, 1) := by decide +kernel
theorem dL_law_473 : decode cL_law 473 = .ok (.invokevirtual 60, 3) := by decide +kernel
theorem dL_law_476 : decode cL_law 476 = .ok (.if_icmp .eq 222, 3) := by decide +kernel
theorem dL_law_479 : decode cL_law 479 = .ok (.iconst 0, 1) := by decide +kernel
theorem dL_law_480 : decode cL_law 480 = .ok (.ireturn, 1) := by decide +kernel
theorem dL_law_481 : decode cL_law 481 = .ok (.aload_n 1, 1) := by decide +kernel
theorem dL_law_482 : decode cL_law 482 = .ok (.aload_n 0, 1) := by decide +kernel
theorem dL_law_483 : decode cL_law 483 = .ok (.iload_n 3, 1) := by decide +kernel
theorem dL_law_484 : decode cL_law 484 = .ok (.iconst 1, 1) := by decide +kernel
theorem dL_law_485 : decode cL_law 485 = .ok (.iadd, 1) := by decide +kernel
theorem dL_law_486 : decode cL_law 486 = .ok (.iaload, 1) := by decide +kernel
theorem dL_law_487 : decode cL_law 487 = .ok (.aload_n 0, 1) := by decide +kernel
theorem dL_law_488 : decode cL_law 488 = .ok (.iload_n 3, 1) := by decide +kernel
theorem dL_law_489 : decode cL_law 489 = .ok (.iconst 2, 1) := by decide +kernel
theorem dL_law_490 : decode cL_law 490 = .ok (.iadd, 1) := by decide +kernel
theorem dL_law_491 : decode cL_law 491 = .ok (.iaload, 1) := by decide +kernel
theorem dL_law_492 : decode cL_law 492 = .ok (.invokevirtual 61, 3) := by decide +kernel
theorem dL_law_495 : decode cL_law 495 = .ok (.aload_n 2, 1) := by decide +kernel
theorem dL_law_496 : decode cL_law 496 = .ok (.aload_n 0, 1) := by decide +kernel
theorem dL_law_497 : decode cL_law 497 = .ok (.iload_n 3, 1) := by decide +kernel
theorem dL_law_498 : decode cL_law 498 = .ok (.iconst 1, 1) := by decide +kernel
theorem dL_law_499 : decode cL_law 499 = .ok (.iadd, 1) := by decide +kernel
theorem dL_law_500 : decode cL_law 500 = .ok (.iaload, 1) := by decide +kernel
theorem dL_law_501 : decode cL_law 501 = .ok (.aload_n 0, 1) := by decide +kernel
theorem dL_law_502 : decode cL_law 502 = .ok (.iload_n 3, 1) := by decide +kernel
theorem dL_law_503 : decode cL_law 503 = .ok (.iconst 2, 1) := by decide +kernel
theorem dL_law_504 : decode cL_law 504 = .ok (.iadd, 1) := by decide +kernel
theorem dL_law_505 : decode cL_law 505 = .ok (.iaload, 1) := by decide +kernel
theorem dL_law_506 : decode cL_law 506 = .ok (.invokevirtual 64, 3) := by decide +kernel
theorem dL_law_509 : decode cL_law 509 = .ok (.if_icmp .eq 189, 3) := by decide +kernel
theorem dL_law_512 : decode cL_law 512 = .ok (.iconst 0, 1) := by decide +kernel
theorem dL_law_513 : decode cL_law 513 = .ok (.ireturn, 1) := by decide +kernel
theorem dL_law_514 : decode cL_law 514 = .ok (.aload_n 1, 1) := by decide +kernel
theorem dL_law_515 : decode cL_law 515 = .ok (.aload_n 0, 1) := by decide +kernel
theorem dL_law_516 : decode cL_law 516 = .ok (.iload_n 3, 1) := by decide +kernel
theorem dL_law_517 : decode cL_law 517 = .ok (.iconst 1, 1) := by decide +kernel
theorem dL_law_518 : decode cL_law 518 = .ok (.iadd, 1) := by decide +kernel
theorem dL_law_519 : decode cL_law 519 = .ok (.iaload, 1) := by decide +kernel
theorem dL_law_520 : decode cL_law 520 = .ok (.aload_n 0, 1) := by decide +kernel
theorem dL_law_521 : decode cL_law 521 = .ok (.iload_n 3, 1) := by decide +kernel
theorem dL_law_522 : decode cL_law 522 = .ok (.iconst 2, 1) := by decide +kernel
theorem dL_law_523 : decode cL_law 523 = .ok (.iadd, 1) := by decide +kernel
theorem dL_law_524 : decode cL_law 524 = .ok (.iaload, 1) := by decide +kernel
theorem dL_law_525 : decode cL_law 525 = .ok (.invokevirtual 65, 3) := by decide +kernel
theorem dL_law_528 : decode cL_law 528 = .ok (.aload_n 2, 1) := by decide +kernel
theorem dL_law_529 : decode cL_law 529 = .ok (.aload_n 0, 1) := by decide +kernel
theorem dL_law_530 : decode cL_law 530 = .ok (.iload_n 3, 1) := by decide +kernel
theorem dL_law_531 : decode cL_law 531 = .ok (.iconst 1, 1) := by decide +kernel
theorem dL_law_532 : decode cL_law 532 = .ok (.iadd, 1) := by decide +kernel
theorem dL_law_533 : decode cL_law 533 = .ok (.iaload, 1) := by decide +kernel
theorem dL_law_534 : decode cL_law 534 = .ok (.aload_n 0, 1) := by decide +kernel
theorem dL_law_535 : decode cL_law 535 = .ok (.iload_n 3, 1) := by decide +kernel
theorem dL_law_536 : decode cL_law 536 = .ok (.iconst 2, 1) := by decide +kernel
theorem dL_law_537 : decode cL_law 537 = .ok (.iadd, 1) := by decide +kernel
theorem dL_law_538 : decode cL_law 538 = .ok (.iaload, 1) := by decide +kernel
theorem dL_law_539 : decode cL_law 539 = .ok (.invokevirtual 68, 3) := by decide +kernel
theorem dL_law_542 : decode cL_law 542 = .ok (.if_icmp .eq 156, 3) := by decide +kernel
theorem dL_law_545 : decode cL_law 545 = .ok (.iconst 0, 1) := by decide +kernel
theorem dL_law_546 : decode cL_law 546 = .ok (.ireturn, 1) := by decide +kernel
theorem dL_law_547 : decode cL_law 547 = .ok (.aload_n 1, 1) := by decide +kernel
theorem dL_law_548 : decode cL_law 548 = .ok (.aload_n 0, 1) := by decide +kernel
theorem dL_law_549 : decode cL_law 549 = .ok (.iload_n 3, 1) := by decide +kernel
theorem dL_law_550 : decode cL_law 550 = .ok (.iconst 1, 1) := by decide +kernel
theorem dL_law_551 : decode cL_law 551 = .ok (.iadd, 1) := by decide +kernel
theorem dL_law_552 : decode cL_law 552 = .ok (.iaload, 1) := by decide +kernel
theorem dL_law_553 : decode cL_law 553 = .ok (.invokevirtual 69, 3) := by decide +kernel
theorem dL_law_556 : decode cL_law 556 = .ok (.aload_n 2, 1) := by decide +kernel
theorem dL_law_557 : decode cL_law 557 = .ok (.aload_n 0, 1) := by decide +kernel
theorem dL_law_558 : decode cL_law 558 = .ok (.iload_n 3, 1) := by decide +kernel
theorem dL_law_559 : decode cL_law 559 = .ok (.iconst 1, 1) := by decide +kernel
theorem dL_law_560 : decode cL_law 560 = .ok (.iadd, 1) := by decide +kernel
theorem dL_law_561 : decode cL_law 561 = .ok (.iaload, 1) := by decide +kernel
theorem dL_law_562 : decode cL_law 562 = .ok (.invokevirtual 72, 3) := by decide +kernel
theorem dL_law_565 : decode cL_law 565 = .ok (.if_icmp .eq 133, 3) := by decide +kernel
theorem dL_law_568 : decode cL_law 568 = .ok (.iconst 0, 1) := by decide +kernel
theorem dL_law_569 : decode cL_law 569 = .ok (.ireturn, 1) := by decide +kernel
theorem dL_law_570 : decode cL_law 570 = .ok (.aload_n 1, 1) := by decide +kernel
theorem dL_law_571 : decode cL_law 571 = .ok (.aload_n 0, 1) := by decide +kernel
theorem dL_law_572 : decode cL_law 572 = .ok (.iload_n 3, 1) := by decide +kernel
theorem dL_law_573 : decode cL_law 573 = .ok (.iconst 1, 1) := by decide +kernel
theorem dL_law_574 : decode cL_law 574 = .ok (.iadd, 1) := by decide +kernel
theorem dL_law_575 : decode cL_law 575 = .ok (.iaload, 1) := by decide +kernel
theorem dL_law_576 : decode cL_law 576 = .ok (.aload_n 0, 1) := by decide +kernel
theorem dL_law_577 : decode cL_law 577 = .ok (.iload_n 3, 1) := by decide +kernel
theorem dL_law_578 : decode cL_law 578 = .ok (.iconst 2, 1) := by decide +kernel
theorem dL_law_579 : decode cL_law 579 = .ok (.iadd, 1) := by decide +kernel
theorem dL_law_580 : decode cL_law 580 = .ok (.iaload, 1) := by decide +kernel
theorem dL_law_581 : decode cL_law 581 = .ok (.invokevirtual 73, 3) := by decide +kernel
theorem dL_law_584 : decode cL_law 584 = .ok (.aload_n 2, 1) := by decide +kernel
theorem dL_law_585 : decode cL_law 585 = .ok (.aload_n 0, 1) := by decide +kernel
theorem dL_law_586 : decode cL_law 586 = .ok (.iload_n 3, 1) := by decide +kernel
theorem dL_law_587 : decode cL_law 587 = .ok (.iconst 1, 1) := by decide +kernel
theorem dL_law_588 : decode cL_law 588 = .ok (.iadd, 1) := by decide +kernel
theorem dL_law_589 : decode cL_law 589 = .ok (.iaload, 1) := by decide +kernel
theorem dL_law_590 : decode cL_law 590 = .ok (.aload_n 0, 1) := by decide +kernel
theorem dL_law_591 : decode cL_law 591 = .ok (.iload_n 3, 1) := by decide +kernel
theorem dL_law_592 : decode cL_law 592 = .ok (.iconst 2, 1) := by decide +kernel
theorem dL_law_593 : decode cL_law 593 = .ok (.iadd, 1) := by decide +kernel
theorem dL_law_594 : decode cL_law 594 = .ok (.iaload, 1) := by decide +kernel
theorem dL_law_595 : decode cL_law 595 = .ok (.invokevirtual 76, 3) := by decide +kernel
theorem dL_law_598 : decode cL_law 598 = .ok (.if_icmp .eq 100, 3) := by decide +kernel
theorem dL_law_601 : decode cL_law 601 = .ok (.iconst 0, 1) := by decide +kernel
