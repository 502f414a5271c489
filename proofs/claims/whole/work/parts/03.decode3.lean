theorem dX5_begin_85 : decode cX5_begin 85 = .ok (.goto (-23), 3) := by decide +kernel
theorem dX5_begin_88 : decode cX5_begin 88 = .ok (.aload_n 0, 1) := by decide +kernel
theorem dX5_begin_89 : decode cX5_begin 89 = .ok (.iconst 0, 1) := by decide +kernel
theorem dX5_begin_90 : decode cX5_begin 90 = .ok (.putfield 77, 3) := by decide +kernel
theorem dX5_begin_93 : decode cX5_begin 93 = .ok (.aload_n 0, 1) := by decide +kernel
theorem dX5_begin_94 : decode cX5_begin 94 = .ok (.iconst 0, 1) := by decide +kernel
theorem dX5_begin_95 : decode cX5_begin 95 = .ok (.putfield 80, 3) := by decide +kernel
theorem dX5_begin_98 : decode cX5_begin 98 = .ok (.aload_n 0, 1) := by decide +kernel
theorem dX5_begin_99 : decode cX5_begin 99 = .ok (.iconst 0, 1) := by decide +kernel
theorem dX5_begin_100 : decode cX5_begin 100 = .ok (.putfield 83, 3) := by decide +kernel
theorem dX5_begin_103 : decode cX5_begin 103 = .ok (.aload_n 0, 1) := by decide +kernel
theorem dX5_begin_104 : decode cX5_begin 104 = .ok (.iconst 0, 1) := by decide +kernel
theorem dX5_begin_105 : decode cX5_begin 105 = .ok (.putfield 86, 3) := by decide +kernel
theorem dX5_begin_108 : decode cX5_begin 108 = .ok (.aload_n 0, 1) := by decide +kernel
theorem dX5_begin_109 : decode cX5_begin 109 = .ok (.invokevirtual 89, 3) := by decide +kernel
theorem dX5_begin_112 : decode cX5_begin 112 = .ok (.return_, 1) := by decide +kernel
theorem dX5_reset_0 : decode cX5_reset 0 = .ok (.iload_n 1, 1) := by decide +kernel
theorem dX5_reset_1 : decode cX5_reset 1 = .ok (.iconst 1, 1) := by decide +kernel
theorem dX5_reset_2 : decode cX5_reset 2 = .ok (.bipush 8, 2) := by decide +kernel
theorem dX5_reset_4 : decode cX5_reset 4 = .ok (.invokestatic 92, 3) := by decide +kernel
theorem dX5_reset_7 : decode cX5_reset 7 = .ok (.ifCond .eq 13, 3) := by decide +kernel
theorem dX5_reset_10 : decode cX5_reset 10 = .ok (.iload_n 2, 1) := by decide +kernel
theorem dX5_reset_11 : decode cX5_reset 11 = .ok (.iconst 1, 1) := by decide +kernel
theorem dX5_reset_12 : decode cX5_reset 12 = .ok (.bipush 8, 2) := by decide +kernel
theorem dX5_reset_14 : decode cX5_reset 14 = .ok (.invokestatic 92, 3) := by decide +kernel
theorem dX5_reset_17 : decode cX5_reset 17 = .ok (.ifCond .ne 6, 3) := by decide +kernel
theorem dX5_reset_20 : decode cX5_reset 20 = .ok (.bipush (-2), 2) := by decide +kernel
theorem dX5_reset_22 : decode cX5_reset 22 = .ok (.ireturn, 1) := by decide +kernel
theorem dX5_reset_23 : decode cX5_reset 23 = .ok (.aload_n 0, 1) := by decide +kernel
theorem dX5_reset_24 : decode cX5_reset 24 = .ok (.iload_n 1, 1) := by decide +kernel
theorem dX5_reset_25 : decode cX5_reset 25 = .ok (.iload_n 2, 1) := by decide +kernel
theorem dX5_reset_26 : decode cX5_reset 26 = .ok (.invokevirtual 57, 3) := by decide +kernel
theorem dX5_reset_29 : decode cX5_reset 29 = .ok (.aload_n 0, 1) := by decide +kernel
theorem dX5_reset_30 : decode cX5_reset 30 = .ok (.invokevirtual 96, 3) := by decide +kernel
theorem dX5_reset_33 : decode cX5_reset 33 = .ok (.ireturn, 1) := by decide +kernel
theorem dX5_keys_0 : decode cX5_keys 0 = .ok (.aload_n 0, 1) := by decide +kernel
theorem dX5_keys_1 : decode cX5_keys 1 = .ok (.getfield 61, 3) := by decide +kernel
theorem dX5_keys_4 : decode cX5_keys 4 = .ok (.aload_n 0, 1) := by decide +kernel
theorem dX5_keys_5 : decode cX5_keys 5 = .ok (.getfield 64, 3) := by decide +kernel
theorem dX5_keys_8 : decode cX5_keys 8 = .ok (.imul, 1) := by decide +kernel
theorem dX5_keys_9 : decode cX5_keys 9 = .ok (.ireturn, 1) := by decide +kernel
theorem dX5_connect_0 : decode cX5_connect 0 = .ok (.aload_n 0, 1) := by decide +kernel
theorem dX5_connect_1 : decode cX5_connect 1 = .ok (.iconst 1, 1) := by decide +kernel
theorem dX5_connect_2 : decode cX5_connect 2 = .ok (.iload_n 1, 1) := by decide +kernel
theorem dX5_connect_3 : decode cX5_connect 3 = .ok (.ishl, 1) := by decide +kernel
theorem dX5_connect_4 : decode cX5_connect 4 = .ok (.putfield 100, 3) := by decide +kernel
theorem dX5_connect_7 : decode cX5_connect 7 = .ok (.aload_n 0, 1) := by decide +kernel
theorem dX5_connect_8 : decode cX5_connect 8 = .ok (.iconst 0, 1) := by decide +kernel
theorem dX5_connect_9 : decode cX5_connect 9 = .ok (.putfield 103, 3) := by decide +kernel
theorem dX5_connect_12 : decode cX5_connect 12 = .ok (.iconst 1, 1) := by decide +kernel
theorem dX5_connect_13 : decode cX5_connect 13 = .ok (.istore_n 3, 1) := by decide +kernel
theorem dX5_connect_14 : decode cX5_connect 14 = .ok (.iload_n 3, 1) := by decide +kernel
theorem dX5_connect_15 : decode cX5_connect 15 = .ok (.ifCond .eq 132, 3) := by decide +kernel
theorem dX5_connect_18 : decode cX5_connect 18 = .ok (.iconst 0, 1) := by decide +kernel
theorem dX5_connect_19 : decode cX5_connect 19 = .ok (.istore_n 3, 1) := by decide +kernel
theorem dX5_connect_20 : decode cX5_connect 20 = .ok (.iconst 0, 1) := by decide +kernel
theorem dX5_connect_21 : decode cX5_connect 21 = .ok (.istore 4, 2) := by decide +kernel
theorem dX5_connect_23 : decode cX5_connect 23 = .ok (.iload 4, 2) := by decide +kernel
theorem dX5_connect_25 : decode cX5_connect 25 = .ok (.aload_n 0, 1) := by decide +kernel
theorem dX5_connect_26 : decode cX5_connect 26 = .ok (.invokevirtual 96, 3) := by decide +kernel
theorem dX5_connect_29 : decode cX5_connect 29 = .ok (.if_icmp .ge 115, 3) := by decide +kernel
theorem dX5_connect_32 : decode cX5_connect 32 = .ok (.aload_n 0, 1) := by decide +kernel
theorem dX5_connect_33 : decode cX5_connect 33 = .ok (.getfield 100, 3) := by decide +kernel
theorem dX5_connect_36 : decode cX5_connect 36 = .ok (.iload 4, 2) := by decide +kernel
theorem dX5_connect_38 : decode cX5_connect 38 = .ok (.aload_n 0, 1) := by decide +kernel
theorem dX5_connect_39 : decode cX5_connect 39 = .ok (.getfield 64, 3) := by decide +kernel
theorem dX5_connect_42 : decode cX5_connect 42 = .ok (.idiv, 1) := by decide +kernel
theorem dX5_connect_43 : decode cX5_connect 43 = .ok (.ishr, 1) := by decide +kernel
theorem dX5_connect_44 : decode cX5_connect 44 = .ok (.iconst 1, 1) := by decide +kernel
theorem dX5_connect_45 : decode cX5_connect 45 = .ok (.iand, 1) := by decide +kernel
theorem dX5_connect_46 : decode cX5_connect 46 = .ok (.iconst 1, 1) := by decide +kernel
theorem dX5_connect_47 : decode cX5_connect 47 = .ok (.if_icmp .ne 7, 3) := by decide +kernel
theorem dX5_connect_50 : decode cX5_connect 50 = .ok (.iconst 1, 1) := by decide +kernel
theorem dX5_connect_51 : decode cX5_connect 51 = .ok (.goto 4, 3) := by decide +kernel
theorem dX5_connect_54 : decode cX5_connect 54 = .ok (.iconst 0, 1) := by decide +kernel
theorem dX5_connect_55 : decode cX5_connect 55 = .ok (.istore 5, 2) := by decide +kernel
theorem dX5_connect_57 : decode cX5_connect 57 = .ok (.aload_n 0, 1) := by decide +kernel
theorem dX5_connect_58 : decode cX5_connect 58 = .ok (.getfield 103, 3) := by decide +kernel
theorem dX5_connect_61 : decode cX5_connect 61 = .ok (.iload 4, 2) := by decide +kernel
theorem dX5_connect_63 : decode cX5_connect 63 = .ok (.aload_n 0, 1) := by decide +kernel
theorem dX5_connect_64 : decode cX5_connect 64 = .ok (.getfield 64, 3) := by decide +kernel
theorem dX5_connect_67 : decode cX5_connect 67 = .ok (.irem, 1) := by decide +kernel
theorem dX5_connect_68 : decode cX5_connect 68 = .ok (.ishr, 1) := by decide +kernel
theorem dX5_connect_69 : decode cX5_connect 69 = .ok (.iconst 1, 1) := by decide +kernel
theorem dX5_connect_70 : decode cX5_connect 70 = .ok (.iand, 1) := by decide +kernel
theorem dX5_connect_71 : decode cX5_connect 71 = .ok (.iconst 1, 1) := by decide +kernel
theorem dX5_connect_72 : decode cX5_connect 72 = .ok (.if_icmp .ne 7, 3) := by decide +kernel
theorem dX5_connect_75 : decode cX5_connect 75 = .ok (.iconst 1, 1) := by decide +kernel
theorem dX5_connect_76 : decode cX5_connect 76 = .ok (.goto 4, 3) := by decide +kernel
theorem dX5_connect_79 : decode cX5_connect 79 = .ok (.iconst 0, 1) := by decide +kernel
theorem dX5_connect_80 : decode cX5_connect 80 = .ok (.istore 6, 2) := by decide +kernel
theorem dX5_connect_82 : decode cX5_connect 82 = .ok (.aload_n 0, 1) := by decide +kernel
theorem dX5_connect_83 : decode cX5_connect 83 = .ok (.getfield 16, 3) := by decide +kernel
theorem dX5_connect_86 : decode cX5_connect 86 = .ok (.iload 4, 2) := by decide +kernel
theorem dX5_connect_88 : decode cX5_connect 88 = .ok (.iaload, 1) := by decide +kernel
theorem dX5_connect_89 : decode cX5_connect 89 = .ok (.iload_n 2, 1) := by decide +kernel
theorem dX5_connect_90 : decode cX5_connect 90 = .ok (.if_icmp .lt 48, 3) := by decide +kernel
theorem dX5_connect_93 : decode cX5_connect 93 = .ok (.iload 5, 2) := by decide +kernel
theorem dX5_connect_95 : decode cX5_connect 95 = .ok (.iload 6, 2) := by decide +kernel
theorem dX5_connect_97 : decode cX5_connect 97 = .ok (.if_icmp .eq 41, 3) := by decide +kernel
theorem dX5_connect_100 : decode cX5_connect 100 = .ok (.aload_n 0, 1) := by decide +kernel
theorem dX5_connect_101 : decode cX5_connect 101 = .ok (.dup, 1) := by decide +kernel
theorem dX5_connect_102 : decode cX5_connect 102 = .ok (.getfield 100, 3) := by decide +kernel
theorem dX5_connect_105 : decode cX5_connect 105 = .ok (.iconst 1, 1) := by decide +kernel
theorem dX5_connect_106 : decode cX5_connect 106 = .ok (.iload 4, 2) := by decide +kernel
theorem dX5_connect_108 : decode cX5_connect 108 = .ok (.aload_n 0, 1) := by decide +kernel
theorem dX5_connect_109 : decode cX5_connect 109 = .ok (.getfield 64, 3) := by decide +kernel
theorem dX5_connect_112 : decode cX5_connect 112 = .ok (.idiv, 1) := by decide +kernel
theorem dX5_connect_113 : decode cX5_connect 113 = .ok (.ishl, 1) := by decide +kernel
theorem dX5_connect_114 : decode cX5_connect 114 = .ok (.ior, 1) := by decide +kernel
theorem dX5_connect_115 : decode cX5_connect 115 = .ok (.putfield 100, 3) := by decide +kernel
theorem dX5_connect_118 : decode cX5_connect 118 = .ok (.aload_n 0, 1) := by decide +kernel
theorem dX5_connect_119 : decode cX5_connect 119 = .ok (.dup, 1) := by decide +kernel
theorem dX5_connect_120 : decode cX5_connect 120 = .ok (.getfield 103, 3) := by decide +kernel
theorem dX5_connect_123 : decode cX5_connect 123 = .ok (.iconst 1, 1) := by decide +kernel
theorem dX5_connect_124 : decode cX5_connect 124 = .ok (.iload 4, 2) := by decide +kernel
theorem dX5_connect_126 : decode cX5_connect 126 = .ok (.aload_n 0, 1) := by decide +kernel
theorem dX5_connect_127 : decode cX5_connect 127 = .ok (.getfield 64, 3) := by decide +kernel
theorem dX5_connect_130 : decode cX5_connect 130 = .ok (.irem, 1) := by decide +kernel
theorem dX5_connect_131 : decode cX5_connect 131 = .ok (.ishl, 1) := by decide +kernel
theorem dX5_connect_132 : decode cX5_connect 132 = .ok (.ior, 1) := by decide +kernel
theorem dX5_connect_133 : decode cX5_connect 133 = .ok (.putfield 103, 3) := by decide +kernel
theorem dX5_connect_136 : decode cX5_connect 136 = .ok (.iconst 1, 1) := by decide +kernel
theorem dX5_connect_137 : decode cX5_connect 137 = .ok (.istore_n 3, 1) := by decide +kernel
theorem dX5_connect_138 : decode cX5_connect 138 = .ok (.iinc 4 1, 3) := by decide +kernel
theorem dX5_connect_141 : decode cX5_connect 141 = .ok (.goto (-118), 3) := by decide +kernel
theorem dX5_connect_144 : decode cX5_connect 144 = .ok (.goto (-130), 3) := by decide +kernel
theorem dX5_connect_147 : decode cX5_connect 147 = .ok (.return_, 1) := by decide +kernel
theorem dX5_appear_0 : decode cX5_appear 0 = .ok (.iconst 0, 1) := by decide +kernel
theorem dX5_appear_1 : decode cX5_appear 1 = .ok (.istore_n 1, 1) := by decide +kernel
theorem dX5_appear_2 : decode cX5_appear 2 = .ok (.iload_n 1, 1) := by decide +kernel
theorem dX5_appear_3 : decode cX5_appear 3 = .ok (.aload_n 0, 1) := by decide +kernel
theorem dX5_appear_4 : decode cX5_appear 4 = .ok (.getfield 61, 3) := by decide +kernel
theorem dX5_appear_7 : decode cX5_appear 7 = .ok (.if_icmp .ge 153, 3) := by decide +kernel
theorem dX5_appear_10 : decode cX5_appear 10 = .ok (.aload_n 0, 1) := by decide +kernel
theorem dX5_appear_11 : decode cX5_appear 11 = .ok (.iload_n 1, 1) := by decide +kernel
theorem dX5_appear_12 : decode cX5_appear 12 = .ok (.iconst 1, 1) := by decide +kernel
theorem dX5_appear_13 : decode cX5_appear 13 = .ok (.invokevirtual 106, 3) := by decide +kernel
theorem dX5_appear_16 : decode cX5_appear 16 = .ok (.aload_n 0, 1) := by decide +kernel
theorem dX5_appear_17 : decode cX5_appear 17 = .ok (.getfield 103, 3) := by decide +kernel
theorem dX5_appear_20 : decode cX5_appear 20 = .ok (.istore_n 2, 1) := by decide +kernel
theorem dX5_appear_21 : decode cX5_appear 21 = .ok (.aload_n 0, 1) := by decide +kernel
theorem dX5_appear_22 : decode cX5_appear 22 = .ok (.iload_n 1, 1) := by decide +kernel
theorem dX5_appear_23 : decode cX5_appear 23 = .ok (.iconst 2, 1) := by decide +kernel
theorem dX5_appear_24 : decode cX5_appear 24 = .ok (.invokevirtual 106, 3) := by decide +kernel
theorem dX5_appear_27 : decode cX5_appear 27 = .ok (.iconst 0, 1) := by decide +kernel
theorem dX5_appear_28 : decode cX5_appear 28 = .ok (.istore_n 3, 1) := by decide +kernel
theorem dX5_appear_29 : decode cX5_appear 29 = .ok (.iload_n 3, 1) := by decide +kernel
theorem dX5_appear_30 : decode cX5_appear 30 = .ok (.aload_n 0, 1) := by decide +kernel
theorem dX5_appear_31 : decode cX5_appear 31 = .ok (.getfield 64, 3) := by decide +kernel
theorem dX5_appear_34 : decode cX5_appear 34 = .ok (.if_icmp .ge 120, 3) := by decide +kernel
theorem dX5_appear_37 : decode cX5_appear 37 = .ok (.iload_n 1, 1) := by decide +kernel
theorem dX5_appear_38 : decode cX5_appear 38 = .ok (.aload_n 0, 1) := by decide +kernel
theorem dX5_appear_39 : decode cX5_appear 39 = .ok (.getfield 64, 3) := by decide +kernel
theorem dX5_appear_42 : decode cX5_appear 42 = .ok (.imul, 1) := by decide +kernel
theorem dX5_appear_43 : decode cX5_appear 43 = .ok (.iload_n 3, 1) := by decide +kernel
theorem dX5_appear_44 : decode cX5_appear 44 = .ok (.iadd, 1) := by decide +kernel
theorem dX5_appear_45 : decode cX5_appear 45 = .ok (.istore 4, 2) := by decide +kernel
theorem dX5_appear_47 : decode cX5_appear 47 = .ok (.aload_n 0, 1) := by decide +kernel
theorem dX5_appear_48 : decode cX5_appear 48 = .ok (.getfield 30, 3) := by decide +kernel
theorem dX5_appear_51 : decode cX5_appear 51 = .ok (.iload 4, 2) := by decide +kernel
theorem dX5_appear_53 : decode cX5_appear 53 = .ok (.aload_n 0, 1) := by decide +kernel
theorem dX5_appear_54 : decode cX5_appear 54 = .ok (.getfield 109, 3) := by decide +kernel
theorem dX5_appear_57 : decode cX5_appear 57 = .ok (.ifCond .eq 22, 3) := by decide +kernel
theorem dX5_appear_60 : decode cX5_appear 60 = .ok (.aload_n 0, 1) := by decide +kernel
theorem dX5_appear_61 : decode cX5_appear 61 = .ok (.getfield 16, 3) := by decide +kernel
theorem dX5_appear_64 : decode cX5_appear 64 = .ok (.iload 4, 2) := by decide +kernel
theorem dX5_appear_66 : decode cX5_appear 66 = .ok (.iaload, 1) := by decide +kernel
theorem dX5_appear_67 : decode cX5_appear 67 = .ok (.iconst 2, 1) := by decide +kernel
theorem dX5_appear_68 : decode cX5_appear 68 = .ok (.if_icmp .ne 7, 3) := by decide +kernel
theorem dX5_appear_71 : decode cX5_appear 71 = .ok (.iconst 1, 1) := by decide +kernel
theorem dX5_appear_72 : decode cX5_appear 72 = .ok (.goto 24, 3) := by decide +kernel
theorem dX5_appear_75 : decode cX5_appear 75 = .ok (.iconst 0, 1) := by decide +kernel
theorem dX5_appear_76 : decode cX5_appear 76 = .ok (.goto 20, 3) := by decide +kernel
theorem dX5_appear_79 : decode cX5_appear 79 = .ok (.aload_n 0, 1) := by decide +kernel
theorem dX5_appear_80 : decode cX5_appear 80 = .ok (.getfield 103, 3) := by decide +kernel
theorem dX5_appear_83 : decode cX5_appear 83 = .ok (.iload_n 3, 1) := by decide +kernel
theorem dX5_appear_84 : decode cX5_appear 84 = .ok (.ishr, 1) := by decide +kernel
theorem dX5_appear_85 : decode cX5_appear 85 = .ok (.iconst 1, 1) := by decide +kernel
theorem dX5_appear_86 : decode cX5_appear 86 = .ok (.iand, 1) := by decide +kernel
theorem dX5_appear_87 : decode cX5_appear 87 = .ok (.iconst 1, 1) := by decide +kernel
theorem dX5_appear_88 : decode cX5_appear 88 = .ok (.if_icmp .ne 7, 3) := by decide +kernel
theorem dX5_appear_91 : decode cX5_appear 91 = .ok (.iconst 1, 1) := by decide +kernel
theorem dX5_appear_92 : decode cX5_appear 92 = .ok (.goto 4, 3) := by decide +kernel
theorem dX5_appear_95 : decode cX5_appear 95 = .ok (.iconst 0, 1) := by decide +kernel
theorem dX5_appear_96 : decode cX5_appear 96 = .ok (.bastore, 1) := by decide +kernel
theorem dX5_appear_97 : decode cX5_appear 97 = .ok (.aload_n 0, 1) := by decide +kernel
theorem dX5_appear_98 : decode cX5_appear 98 = .ok (.getfield 26, 3) := by decide +kernel
theorem dX5_appear_101 : decode cX5_appear 101 = .ok (.iload 4, 2) := by decide +kernel
theorem dX5_appear_103 : decode cX5_appear 103 = .ok (.aload_n 0, 1) := by decide +kernel
theorem dX5_appear_104 : decode cX5_appear 104 = .ok (.getfield 30, 3) := by decide +kernel
theorem dX5_appear_107 : decode cX5_appear 107 = .ok (.iload 4, 2) := by decide +kernel
theorem dX5_appear_109 : decode cX5_appear 109 = .ok (.baload, 1) := by decide +kernel
theorem dX5_appear_110 : decode cX5_appear 110 = .ok (.ifCond .ne 32, 3) := by decide +kernel
theorem dX5_appear_113 : decode cX5_appear 113 = .ok (.aload_n 0, 1) := by decide +kernel
theorem dX5_appear_114 : decode cX5_appear 114 = .ok (.getfield 109, 3) := by decide +kernel
theorem dX5_appear_117 : decode cX5_appear 117 = .ok (.ifCond .eq 16, 3) := by decide +kernel
theorem dX5_appear_120 : decode cX5_appear 120 = .ok (.aload_n 0, 1) := by decide +kernel
theorem dX5_appear_121 : decode cX5_appear 121 = .ok (.getfield 16, 3) := by decide +kernel
theorem dX5_appear_124 : decode cX5_appear 124 = .ok (.iload 4, 2) := by decide +kernel
theorem dX5_appear_126 : decode cX5_appear 126 = .ok (.iaload, 1) := by decide +kernel
theorem dX5_appear_127 : decode cX5_appear 127 = .ok (.ifCond .le 19, 3) := by decide +kernel
theorem dX5_appear_130 : decode cX5_appear 130 = .ok (.goto 12, 3) := by decide +kernel
theorem dX5_appear_133 : decode cX5_appear 133 = .ok (.iload_n 2, 1) := by decide +kernel
theorem dX5_appear_134 : decode cX5_appear 134 = .ok (.iload_n 3, 1) := by decide +kernel
theorem dX5_appear_135 : decode cX5_appear 135 = .ok (.ishr, 1) := by decide +kernel
theorem dX5_appear_136 : decode cX5_appear 136 = .ok (.iconst 1, 1) := by decide +kernel
theorem dX5_appear_137 : decode cX5_appear 137 = .ok (.iand, 1) := by decide +kernel
theorem dX5_appear_138 : decode cX5_appear 138 = .ok (.iconst 1, 1) := by decide +kernel
theorem dX5_appear_139 : decode cX5_appear 139 = .ok (.if_icmp .ne 7, 3) := by decide +kernel
theorem dX5_appear_142 : decode cX5_appear 142 = .ok (.iconst 1, 1) := by decide +kernel
theorem dX5_appear_143 : decode cX5_appear 143 = .ok (.goto 4, 3) := by decide +kernel
theorem dX5_appear_146 : decode cX5_appear 146 = .ok (.iconst 0, 1) := by decide +kernel
theorem dX5_appear_147 : decode cX5_appear 147 = .ok (.bastore, 1) := by decide +kernel
theorem dX5_appear_148 : decode cX5_appear 148 = .ok (.iinc 3 1, 3) := by decide +kernel
theorem dX5_appear_151 : decode cX5_appear 151 = .ok (.goto (-122), 3) := by decide +kernel
theorem dX5_appear_154 : decode cX5_appear 154 = .ok (.iinc 1 1, 3) := by decide +kernel
theorem dX5_appear_157 : decode cX5_appear 157 = .ok (.goto (-155), 3) := by decide +kernel
theorem dX5_appear_160 : decode cX5_appear 160 = .ok (.return_, 1) := by decide +kernel
theorem dX5_isGhost_0 : decode cX5_isGhost 0 = .ok (.aload_n 0, 1) := by decide +kernel
theorem dX5_isGhost_1 : decode cX5_isGhost 1 = .ok (.getfield 26, 3) := by decide +kernel
theorem dX5_isGhost_4 : decode cX5_isGhost 4 = .ok (.iload_n 1, 1) := by decide +kernel
theorem dX5_isGhost_5 : decode cX5_isGhost 5 = .ok (.baload, 1) := by decide +kernel
theorem dX5_isGhost_6 : decode cX5_isGhost 6 = .ok (.ifCond .eq 12, 3) := by decide +kernel
theorem dX5_isGhost_9 : decode cX5_isGhost 9 = .ok (.aload_n 0, 1) := by decide +kernel
theorem dX5_isGhost_10 : decode cX5_isGhost 10 = .ok (.getfield 16, 3) := by decide +kernel
theorem dX5_isGhost_13 : decode cX5_isGhost 13 = .ok (.iload_n 1, 1) := by decide +kernel
theorem dX5_isGhost_14 : decode cX5_isGhost 14 = .ok (.iaload, 1) := by decide +kernel
theorem dX5_isGhost_15 : decode cX5_isGhost 15 = .ok (.ifCond .eq 22, 3) := by decide +kernel
theorem dX5_isGhost_18 : decode cX5_isGhost 18 = .ok (.aload_n 0, 1) := by decide +kernel
theorem dX5_isGhost_19 : decode cX5_isGhost 19 = .ok (.getfield 30, 3) := by decide +kernel
theorem dX5_isGhost_22 : decode cX5_isGhost 22 = .ok (.iload_n 1, 1) := by decide +kernel
theorem dX5_isGhost_23 : decode cX5_isGhost 23 = .ok (.baload, 1) := by decide +kernel
theorem dX5_isGhost_24 : decode cX5_isGhost 24 = .ok (.ifCond .eq 17, 3) := by decide +kernel
theorem dX5_isGhost_27 : decode cX5_isGhost 27 = .ok (.aload_n 0, 1) := by decide +kernel
theorem dX5_isGhost_28 : decode cX5_isGhost 28 = .ok (.getfield 16, 3) := by decide +kernel
theorem dX5_isGhost_31 : decode cX5_isGhost 31 = .ok (.iload_n 1, 1) := by decide +kernel
theorem dX5_isGhost_32 : decode cX5_isGhost 32 = .ok (.iaload, 1) := by decide +kernel
theorem dX5_isGhost_33 : decode cX5_isGhost 33 = .ok (.iconst 2, 1) := by decide +kernel
theorem dX5_isGhost_34 : decode cX5_isGhost 34 = .ok (.if_icmp .ge 7, 3) := by decide +kernel
theorem dX5_isGhost_37 : decode cX5_isGhost 37 = .ok (.iconst 1, 1) := by decide +kernel
theorem dX5_isGhost_38 : decode cX5_isGhost 38 = .ok (.goto 4, 3) := by decide +kernel
theorem dX5_isGhost_41 : decode cX5_isGhost 41 = .ok (.iconst 0, 1) := by decide +kernel
theorem dX5_isGhost_42 : decode cX5_isGhost 42 = .ok (.ireturn, 1) := by decide +kernel
theorem dX5_isDoubtful_0 : decode cX5_isDoubtful 0 = .ok (.aload_n 0, 1) := by decide +kernel
theorem dX5_isDoubtful_1 : decode cX5_isDoubtful 1 = .ok (.getfield 26, 3) := by decide +kernel
theorem dX5_isDoubtful_4 : decode cX5_isDoubtful 4 = .ok (.iload_n 1, 1) := by decide +kernel
theorem dX5_isDoubtful_5 : decode cX5_isDoubtful 5 = .ok (.baload, 1) := by decide +kernel
theorem dX5_isDoubtful_6 : decode cX5_isDoubtful 6 = .ok (.ifCond .ne 5, 3) := by decide +kernel
theorem dX5_isDoubtful_9 : decode cX5_isDoubtful 9 = .ok (.iconst 0, 1) := by decide +kernel
theorem dX5_isDoubtful_10 : decode cX5_isDoubtful 10 = .ok (.ireturn, 1) := by decide +kernel
theorem dX5_isDoubtful_11 : decode cX5_isDoubtful 11 = .ok (.iconst 0, 1) := by decide +kernel
theorem dX5_isDoubtful_12 : decode cX5_isDoubtful 12 = .ok (.istore_n 2, 1) := by decide +kernel
theorem dX5_isDoubtful_13 : decode cX5_isDoubtful 13 = .ok (.iload_n 2, 1) := by decide +kernel
theorem dX5_isDoubtful_14 : decode cX5_isDoubtful 14 = .ok (.aload_n 0, 1) := by decide +kernel
theorem dX5_isDoubtful_15 : decode cX5_isDoubtful 15 = .ok (.invokevirtual 96, 3) := by decide +kernel
theorem dX5_isDoubtful_18 : decode cX5_isDoubtful 18 = .ok (.if_icmp .ge 111, 3) := by decide +kernel
theorem dX5_isDoubtful_21 : decode cX5_isDoubtful 21 = .ok (.iload_n 2, 1) := by decide +kernel
theorem dX5_isDoubtful_22 : decode cX5_isDoubtful 22 = .ok (.aload_n 0, 1) := by decide +kernel
theorem dX5_isDoubtful_23 : decode cX5_isDoubtful 23 = .ok (.getfield 64, 3) := by decide +kernel
theorem dX5_isDoubtful_26 : decode cX5_isDoubtful 26 = .ok (.idiv, 1) := by decide +kernel
theorem dX5_isDoubtful_27 : decode cX5_isDoubtful 27 = .ok (.istore_n 3, 1) := by decide +kernel
theorem dX5_isDoubtful_28 : decode cX5_isDoubtful 28 = .ok (.iload_n 2, 1) := by decide +kernel
theorem dX5_isDoubtful_29 : decode cX5_isDoubtful 29 = .ok (.aload_n 0, 1) := by decide +kernel
theorem dX5_isDoubtful_30 : decode cX5_isDoubtful 30 = .ok (.getfield 64, 3) := by decide +kernel
theorem dX5_isDoubtful_33 : decode cX5_isDoubtful 33 = .ok (.irem, 1) := by decide +kernel
theorem dX5_isDoubtful_34 : decode cX5_isDoubtful 34 = .ok (.istore 4, 2) := by decide +kernel
theorem dX5_isDoubtful_36 : decode cX5_isDoubtful 36 = .ok (.iload_n 3, 1) := by decide +kernel
theorem dX5_isDoubtful_37 : decode cX5_isDoubtful 37 = .ok (.iload_n 1, 1) := by decide +kernel
theorem dX5_isDoubtful_38 : decode cX5_isDoubtful 38 = .ok (.aload_n 0, 1) := by decide +kernel
theorem dX5_isDoubtful_39 : decode cX5_isDoubtful 39 = .ok (.getfield 64, 3) := by decide +kernel
theorem dX5_isDoubtful_42 : decode cX5_isDoubtful 42 = .ok (.idiv, 1) := by decide +kernel
theorem dX5_isDoubtful_43 : decode cX5_isDoubtful 43 = .ok (.if_icmp .eq 18, 3) := by decide +kernel
theorem dX5_isDoubtful_46 : decode cX5_isDoubtful 46 = .ok (.iload 4, 2) := by decide +kernel
theorem dX5_isDoubtful_48 : decode cX5_isDoubtful 48 = .ok (.iload_n 1, 1) := by decide +kernel
theorem dX5_isDoubtful_49 : decode cX5_isDoubtful 49 = .ok (.aload_n 0, 1) := by decide +kernel
theorem dX5_isDoubtful_50 : decode cX5_isDoubtful 50 = .ok (.getfield 64, 3) := by decide +kernel
theorem dX5_isDoubtful_53 : decode cX5_isDoubtful 53 = .ok (.irem, 1) := by decide +kernel
theorem dX5_isDoubtful_54 : decode cX5_isDoubtful 54 = .ok (.if_icmp .eq 7, 3) := by decide +kernel
theorem dX5_isDoubtful_57 : decode cX5_isDoubtful 57 = .ok (.iconst 1, 1) := by decide +kernel
theorem dX5_isDoubtful_58 : decode cX5_isDoubtful 58 = .ok (.goto 4, 3) := by decide +kernel
theorem dX5_isDoubtful_61 : decode cX5_isDoubtful 61 = .ok (.iconst 0, 1) := by decide +kernel
theorem dX5_isDoubtful_62 : decode cX5_isDoubtful 62 = .ok (.istore 5, 2) := by decide +kernel
theorem dX5_isDoubtful_64 : decode cX5_isDoubtful 64 = .ok (.iload 5, 2) := by decide +kernel
theorem dX5_isDoubtful_66 : decode cX5_isDoubtful 66 = .ok (.ifCond .eq 57, 3) := by decide +kernel
theorem dX5_isDoubtful_69 : decode cX5_isDoubtful 69 = .ok (.aload_n 0, 1) := by decide +kernel
theorem dX5_isDoubtful_70 : decode cX5_isDoubtful 70 = .ok (.getfield 26, 3) := by decide +kernel
theorem dX5_isDoubtful_73 : decode cX5_isDoubtful 73 = .ok (.iload_n 2, 1) := by decide +kernel
theorem dX5_isDoubtful_74 : decode cX5_isDoubtful 74 = .ok (.baload, 1) := by decide +kernel
theorem dX5_isDoubtful_75 : decode cX5_isDoubtful 75 = .ok (.ifCond .eq 48, 3) := by decide +kernel
theorem dX5_isDoubtful_78 : decode cX5_isDoubtful 78 = .ok (.aload_n 0, 1) := by decide +kernel
theorem dX5_isDoubtful_79 : decode cX5_isDoubtful 79 = .ok (.getfield 26, 3) := by decide +kernel
theorem dX5_isDoubtful_82 : decode cX5_isDoubtful 82 = .ok (.iload_n 3, 1) := by decide +kernel
theorem dX5_isDoubtful_83 : decode cX5_isDoubtful 83 = .ok (.aload_n 0, 1) := by decide +kernel
theorem dX5_isDoubtful_84 : decode cX5_isDoubtful 84 = .ok (.getfield 64, 3) := by decide +kernel
theorem dX5_isDoubtful_87 : decode cX5_isDoubtful 87 = .ok (.imul, 1) := by decide +kernel
theorem dX5_isDoubtful_88 : decode cX5_isDoubtful 88 = .ok (.iload_n 1, 1) := by decide +kernel
theorem dX5_isDoubtful_89 : decode cX5_isDoubtful 89 = .ok (.aload_n 0, 1) := by decide +kernel
theorem dX5_isDoubtful_90 : decode cX5_isDoubtful 90 = .ok (.getfield 64, 3) := by decide +kernel
theorem dX5_isDoubtful_93 : decode cX5_isDoubtful 93 = .ok (.irem, 1) := by decide +kernel
theorem dX5_isDoubtful_94 : decode cX5_isDoubtful 94 = .ok (.iadd, 1) := by decide +kernel
theorem dX5_isDoubtful_95 : decode cX5_isDoubtful 95 = .ok (.baload, 1) := by decide +kernel
theorem dX5_isDoubtful_96 : decode cX5_isDoubtful 96 = .ok (.ifCond .eq 27, 3) := by decide +kernel
theorem dX5_isDoubtful_99 : decode cX5_isDoubtful 99 = .ok (.aload_n 0, 1) := by decide +kernel
theorem dX5_isDoubtful_100 : decode cX5_isDoubtful 100 = .ok (.getfield 26, 3) := by decide +kernel
theorem dX5_isDoubtful_103 : decode cX5_isDoubtful 103 = .ok (.iload_n 1, 1) := by decide +kernel
theorem dX5_isDoubtful_104 : decode cX5_isDoubtful 104 = .ok (.aload_n 0, 1) := by decide +kernel
theorem dX5_isDoubtful_105 : decode cX5_isDoubtful 105 = .ok (.getfield 64, 3) := by decide +kernel
theorem dX5_isDoubtful_108 : decode cX5_isDoubtful 108 = .ok (.idiv, 1) := by decide +kernel
theorem dX5_isDoubtful_109 : decode cX5_isDoubtful 109 = .ok (.aload_n 0, 1) := by decide +kernel
theorem dX5_isDoubtful_110 : decode cX5_isDoubtful 110 = .ok (.getfield 64, 3) := by decide +kernel
theorem dX5_isDoubtful_113 : decode cX5_isDoubtful 113 = .ok (.imul, 1) := by decide +kernel
theorem dX5_isDoubtful_114 : decode cX5_isDoubtful 114 = .ok (.iload 4, 2) := by decide +kernel
theorem dX5_isDoubtful_116 : decode cX5_isDoubtful 116 = .ok (.iadd, 1) := by decide +kernel
theorem dX5_isDoubtful_117 : decode cX5_isDoubtful 117 = .ok (.baload, 1) := by decide +kernel
theorem dX5_isDoubtful_118 : decode cX5_isDoubtful 118 = .ok (.ifCond .eq 5, 3) := by decide +kernel
theorem dX5_isDoubtful_121 : decode cX5_isDoubtful 121 = .ok (.iconst 1, 1) := by decide +kernel
theorem dX5_isDoubtful_122 : decode cX5_isDoubtful 122 = .ok (.ireturn, 1) := by decide +kernel
theorem dX5_isDoubtful_123 : decode cX5_isDoubtful 123 = .ok (.iinc 2 1, 3) := by decide +kernel
theorem dX5_isDoubtful_126 : decode cX5_isDoubtful 126 = .ok (.goto (-113), 3) := by decide +kernel
theorem dX5_isDoubtful_129 : decode cX5_isDoubtful 129 = .ok (.iconst 0, 1) := by decide +kernel
theorem dX5_isDoubtful_130 : decode cX5_isDoubtful 130 = .ok (.ireturn, 1) := by decide +kernel
theorem dX5_ghosts_0 : decode cX5_ghosts 0 = .ok (.iconst 0, 1) := by decide +kernel
theorem dX5_ghosts_1 : decode cX5_ghosts 1 = .ok (.istore_n 1, 1) := by decide +kernel
theorem dX5_ghosts_2 : decode cX5_ghosts 2 = .ok (.iconst 0, 1) := by decide +kernel
theorem dX5_ghosts_3 : decode cX5_ghosts 3 = .ok (.istore_n 2, 1) := by decide +kernel
theorem dX5_ghosts_4 : decode cX5_ghosts 4 = .ok (.iload_n 2, 1) := by decide +kernel
theorem dX5_ghosts_5 : decode cX5_ghosts 5 = .ok (.aload_n 0, 1) := by decide +kernel
theorem dX5_ghosts_6 : decode cX5_ghosts 6 = .ok (.invokevirtual 96, 3) := by decide +kernel
theorem dX5_ghosts_9 : decode cX5_ghosts 9 = .ok (.if_icmp .ge 25, 3) := by decide +kernel
theorem dX5_ghosts_12 : decode cX5_ghosts 12 = .ok (.iload_n 1, 1) := by decide +kernel
theorem dX5_ghosts_13 : decode cX5_ghosts 13 = .ok (.aload_n 0, 1) := by decide +kernel
theorem dX5_ghosts_14 : decode cX5_ghosts 14 = .ok (.iload_n 2, 1) := by decide +kernel
theorem dX5_ghosts_15 : decode cX5_ghosts 15 = .ok (.invokevirtual 112, 3) := by decide +kernel
theorem dX5_ghosts_18 : decode cX5_ghosts 18 = .ok (.ifCond .eq 7, 3) := by decide +kernel
theorem dX5_ghosts_21 : decode cX5_ghosts 21 = .ok (.iconst 1, 1) := by decide +kernel
theorem dX5_ghosts_22 : decode cX5_ghosts 22 = .ok (.goto 4, 3) := by decide +kernel
theorem dX5_ghosts_25 : decode cX5_ghosts 25 = .ok (.iconst 0, 1) := by decide +kernel
theorem dX5_ghosts_26 : decode cX5_ghosts 26 = .ok (.iadd, 1) := by decide +kernel
theorem dX5_ghosts_27 : decode cX5_ghosts 27 = .ok (.istore_n 1, 1) := by decide +kernel
theorem dX5_ghosts_28 : decode cX5_ghosts 28 = .ok (.iinc 2 1, 3) := by decide +kernel
theorem dX5_ghosts_31 : decode cX5_ghosts 31 = .ok (.goto (-27), 3) := by decide +kernel
theorem dX5_ghosts_34 : decode cX5_ghosts 34 = .ok (.iload_n 1, 1) := by decide +kernel
theorem dX5_ghosts_35 : decode cX5_ghosts 35 = .ok (.ireturn, 1) := by decide +kernel
theorem dX5_setDiodes_0 : decode cX5_setDiodes 0 = .ok (.aload_n 0, 1) := by decide +kernel
theorem dX5_setDiodes_1 : decode cX5_setDiodes 1 = .ok (.iload_n 1, 1) := by decide +kernel
theorem dX5_setDiodes_2 : decode cX5_setDiodes 2 = .ok (.putfield 109, 3) := by decide +kernel
theorem dX5_setDiodes_5 : decode cX5_setDiodes 5 = .ok (.aload_n 0, 1) := by decide +kernel
theorem dX5_setDiodes_6 : decode cX5_setDiodes 6 = .ok (.invokevirtual 89, 3) := by decide +kernel
theorem dX5_setDiodes_9 : decode cX5_setDiodes 9 = .ok (.aload_n 0, 1) := by decide +kernel
theorem dX5_setDiodes_10 : decode cX5_setDiodes 10 = .ok (.invokevirtual 116, 3) := by decide +kernel
theorem dX5_setDiodes_13 : decode cX5_setDiodes 13 = .ok (.ireturn, 1) := by decide +kernel
theorem dX5_setBlocking_0 : decode cX5_setBlocking 0 = .ok (.aload_n 0, 1) := by decide +kernel
theorem dX5_setBlocking_1 : decode cX5_setBlocking 1 = .ok (.getfield 119, 3) := by decide +kernel
theorem dX5_setBlocking_4 : decode cX5_setBlocking 4 = .ok (.iload_n 1, 1) := by decide +kernel
theorem dX5_setBlocking_5 : decode cX5_setBlocking 5 = .ok (.if_icmp .eq 7, 3) := by decide +kernel
theorem dX5_setBlocking_8 : decode cX5_setBlocking 8 = .ok (.iconst 1, 1) := by decide +kernel
theorem dX5_setBlocking_9 : decode cX5_setBlocking 9 = .ok (.goto 4, 3) := by decide +kernel
theorem dX5_setBlocking_12 : decode cX5_setBlocking 12 = .ok (.iconst 0, 1) := by decide +kernel
theorem dX5_setBlocking_13 : decode cX5_setBlocking 13 = .ok (.istore_n 2, 1) := by decide +kernel
theorem dX5_setBlocking_14 : decode cX5_setBlocking 14 = .ok (.aload_n 0, 1) := by decide +kernel
theorem dX5_setBlocking_15 : decode cX5_setBlocking 15 = .ok (.iload_n 1, 1) := by decide +kernel
theorem dX5_setBlocking_16 : decode cX5_setBlocking 16 = .ok (.putfield 119, 3) := by decide +kernel
theorem dX5_setBlocking_19 : decode cX5_setBlocking 19 = .ok (.iload_n 2, 1) := by decide +kernel
theorem dX5_setBlocking_20 : decode cX5_setBlocking 20 = .ok (.ireturn, 1) := by decide +kernel
theorem dX5_setLateRelease_0 : decode cX5_setLateRelease 0 = .ok (.aload_n 0, 1) := by decide +kernel
theorem dX5_setLateRelease_1 : decode cX5_setLateRelease 1 = .ok (.getfield 122, 3) := by decide +kernel
theorem dX5_setLateRelease_4 : decode cX5_setLateRelease 4 = .ok (.iload_n 1, 1) := by decide +kernel
theorem dX5_setLateRelease_5 : decode cX5_setLateRelease 5 = .ok (.if_icmp .eq 7, 3) := by decide +kernel
theorem dX5_setLateRelease_8 : decode cX5_setLateRelease 8 = .ok (.iconst 1, 1) := by decide +kernel
theorem dX5_setLateRelease_9 : decode cX5_setLateRelease 9 = .ok (.goto 4, 3) := by decide +kernel
theorem dX5_setLateRelease_12 : decode cX5_setLateRelease 12 = .ok (.iconst 0, 1) := by decide +kernel
theorem dX5_setLateRelease_13 : decode cX5_setLateRelease 13 = .ok (.istore_n 2, 1) := by decide +kernel
theorem dX5_setLateRelease_14 : decode cX5_setLateRelease 14 = .ok (.aload_n 0, 1) := by decide +kernel
theorem dX5_setLateRelease_15 : decode cX5_setLateRelease 15 = .ok (.iload_n 1, 1) := by decide +kernel
theorem dX5_setLateRelease_16 : decode cX5_setLateRelease 16 = .ok (.putfield 122, 3) := by decide +kernel
theorem dX5_setLateRelease_19 : decode cX5_setLateRelease 19 = .ok (.iload_n 2, 1) := by decide +kernel
theorem dX5_setLateRelease_20 : decode cX5_setLateRelease 20 = .ok (.ireturn, 1) := by decide +kernel
theorem dX5_setSlope_0 : decode cX5_setSlope 0 = .ok (.iload_n 1, 1) := by decide +kernel
theorem dX5_setSlope_1 : decode cX5_setSlope 1 = .ok (.iconst 1, 1) := by decide +kernel
theorem dX5_setSlope_2 : decode cX5_setSlope 2 = .ok (.bipush 64, 2) := by decide +kernel
theorem dX5_setSlope_4 : decode cX5_setSlope 4 = .ok (.invokestatic 92, 3) := by decide +kernel
theorem dX5_setSlope_7 : decode cX5_setSlope 7 = .ok (.ifCond .ne 6, 3) := by decide +kernel
theorem dX5_setSlope_10 : decode cX5_setSlope 10 = .ok (.bipush (-2), 2) := by decide +kernel
theorem dX5_setSlope_12 : decode cX5_setSlope 12 = .ok (.ireturn, 1) := by decide +kernel
theorem dX5_setSlope_13 : decode cX5_setSlope 13 = .ok (.aload_n 0, 1) := by decide +kernel
theorem dX5_setSlope_14 : decode cX5_setSlope 14 = .ok (.getfield 7, 3) := by decide +kernel
theorem dX5_setSlope_17 : decode cX5_setSlope 17 = .ok (.istore_n 2, 1) := by decide +kernel
theorem dX5_setSlope_18 : decode cX5_setSlope 18 = .ok (.aload_n 0, 1) := by decide +kernel
theorem dX5_setSlope_19 : decode cX5_setSlope 19 = .ok (.iload_n 1, 1) := by decide +kernel
theorem dX5_setSlope_20 : decode cX5_setSlope 20 = .ok (.putfield 7, 3) := by decide +kernel
theorem dX5_setSlope_23 : decode cX5_setSlope 23 = .ok (.iload_n 2, 1) := by decide +kernel
theorem dX5_setSlope_24 : decode cX5_setSlope 24 = .ok (.ireturn, 1) := by decide +kernel
theorem dX5_setVoices_0 : decode cX5_setVoices 0 = .ok (.iload_n 1, 1) := by decide +kernel
theorem dX5_setVoices_1 : decode cX5_setVoices 1 = .ok (.iconst 1, 1) := by decide +kernel
theorem dX5_setVoices_2 : decode cX5_setVoices 2 = .ok (.bipush 8, 2) := by decide +kernel
theorem dX5_setVoices_4 : decode cX5_setVoices 4 = .ok (.invokestatic 92, 3) := by decide +kernel
theorem dX5_setVoices_7 : decode cX5_setVoices 7 = .ok (.ifCond .eq 12, 3) := by decide +kernel
theorem dX5_setVoices_10 : decode cX5_setVoices 10 = .ok (.iload_n 2, 1) := by decide +kernel
theorem dX5_setVoices_11 : decode cX5_setVoices 11 = .ok (.iconst 0, 1) := by decide +kernel
theorem dX5_setVoices_12 : decode cX5_setVoices 12 = .ok (.iconst 2, 1) := by decide +kernel
theorem dX5_setVoices_13 : decode cX5_setVoices 13 = .ok (.invokestatic 92, 3) := by decide +kernel
theorem dX5_setVoices_16 : decode cX5_setVoices 16 = .ok (.ifCond .ne 6, 3) := by decide +kernel
theorem dX5_setVoices_19 : decode cX5_setVoices 19 = .ok (.bipush (-2), 2) := by decide +kernel
theorem dX5_setVoices_21 : decode cX5_setVoices 21 = .ok (.ireturn, 1) := by decide +kernel
theorem dX5_setVoices_22 : decode cX5_setVoices 22 = .ok (.aload_n 0, 1) := by decide +kernel
theorem dX5_setVoices_23 : decode cX5_setVoices 23 = .ok (.getfield 13, 3) := by decide +kernel
theorem dX5_setVoices_26 : decode cX5_setVoices 26 = .ok (.istore_n 3, 1) := by decide +kernel
theorem dX5_setVoices_27 : decode cX5_setVoices 27 = .ok (.iload_n 1, 1) := by decide +kernel
theorem dX5_setVoices_28 : decode cX5_setVoices 28 = .ok (.istore 4, 2) := by decide +kernel
theorem dX5_setVoices_30 : decode cX5_setVoices 30 = .ok (.iload 4, 2) := by decide +kernel
theorem dX5_setVoices_32 : decode cX5_setVoices 32 = .ok (.aload_n 0, 1) := by decide +kernel
theorem dX5_setVoices_33 : decode cX5_setVoices 33 = .ok (.getfield 13, 3) := by decide +kernel
theorem dX5_setVoices_36 : decode cX5_setVoices 36 = .ok (.if_icmp .ge 16, 3) := by decide +kernel
theorem dX5_setVoices_39 : decode cX5_setVoices 39 = .ok (.aload_n 0, 1) := by decide +kernel
theorem dX5_setVoices_40 : decode cX5_setVoices 40 = .ok (.iload 4, 2) := by decide +kernel
theorem dX5_setVoices_42 : decode cX5_setVoices 42 = .ok (.invokevirtual 125, 3) := by decide +kernel
theorem dX5_setVoices_45 : decode cX5_setVoices 45 = .ok (.pop, 1) := by decide +kernel
theorem dX5_setVoices_46 : decode cX5_setVoices 46 = .ok (.iinc 4 1, 3) := by decide +kernel
theorem dX5_setVoices_49 : decode cX5_setVoices 49 = .ok (.goto (-19), 3) := by decide +kernel
theorem dX5_setVoices_52 : decode cX5_setVoices 52 = .ok (.aload_n 0, 1) := by decide +kernel
theorem dX5_setVoices_53 : decode cX5_setVoices 53 = .ok (.iload_n 1, 1) := by decide +kernel
theorem dX5_setVoices_54 : decode cX5_setVoices 54 = .ok (.putfield 13, 3) := by decide +kernel
theorem dX5_setVoices_57 : decode cX5_setVoices 57 = .ok (.aload_n 0, 1) := by decide +kernel
theorem dX5_setVoices_58 : decode cX5_setVoices 58 = .ok (.iload_n 2, 1) := by decide +kernel
theorem dX5_setVoices_59 : decode cX5_setVoices 59 = .ok (.putfield 129, 3) := by decide +kernel
theorem dX5_setVoices_62 : decode cX5_setVoices 62 = .ok (.iload_n 3, 1) := by decide +kernel
theorem dX5_setVoices_63 : decode cX5_setVoices 63 = .ok (.ireturn, 1) := by decide +kernel
theorem dX5_enter_0 : decode cX5_enter 0 = .ok (.bipush 47, 2) := by decide +kernel
theorem dX5_enter_2 : decode cX5_enter 2 = .ok (.istore_n 3, 1) := by decide +kernel
theorem dX5_enter_3 : decode cX5_enter 3 = .ok (.iload_n 3, 1) := by decide +kernel
theorem dX5_enter_4 : decode cX5_enter 4 = .ok (.iconst 3, 1) := by decide +kernel
theorem dX5_enter_5 : decode cX5_enter 5 = .ok (.if_icmp .lt 23, 3) := by decide +kernel
theorem dX5_enter_8 : decode cX5_enter 8 = .ok (.aload_n 0, 1) := by decide +kernel
theorem dX5_enter_9 : decode cX5_enter 9 = .ok (.getfield 48, 3) := by decide +kernel
theorem dX5_enter_12 : decode cX5_enter 12 = .ok (.iload_n 3, 1) := by decide +kernel
theorem dX5_enter_13 : decode cX5_enter 13 = .ok (.aload_n 0, 1) := by decide +kernel
theorem dX5_enter_14 : decode cX5_enter 14 = .ok (.getfield 48, 3) := by decide +kernel
theorem dX5_enter_17 : decode cX5_enter 17 = .ok (.iload_n 3, 1) := by decide +kernel
theorem dX5_enter_18 : decode cX5_enter 18 = .ok (.iconst 3, 1) := by decide +kernel
theorem dX5_enter_19 : decode cX5_enter 19 = .ok (.isub, 1) := by decide +kernel
theorem dX5_enter_20 : decode cX5_enter 20 = .ok (.iaload, 1) := by decide +kernel
theorem dX5_enter_21 : decode cX5_enter 21 = .ok (.iastore, 1) := by decide +kernel
theorem dX5_enter_22 : decode cX5_enter 22 = .ok (.iinc 3 (-1), 3) := by decide +kernel
theorem dX5_enter_25 : decode cX5_enter 25 = .ok (.goto (-22), 3) := by decide +kernel
theorem dX5_enter_28 : decode cX5_enter 28 = .ok (.aload_n 0, 1) := by decide +kernel
theorem dX5_enter_29 : decode cX5_enter 29 = .ok (.getfield 48, 3) := by decide +kernel
theorem dX5_enter_32 : decode cX5_enter 32 = .ok (.iconst 0, 1) := by decide +kernel
theorem dX5_enter_33 : decode cX5_enter 33 = .ok (.aload_n 0, 1) := by decide +kernel
theorem dX5_enter_34 : decode cX5_enter 34 = .ok (.getfield 74, 3) := by decide +kernel
theorem dX5_enter_37 : decode cX5_enter 37 = .ok (.iastore, 1) := by decide +kernel
theorem dX5_enter_38 : decode cX5_enter 38 = .ok (.aload_n 0, 1) := by decide +kernel
theorem dX5_enter_39 : decode cX5_enter 39 = .ok (.getfield 48, 3) := by decide +kernel
theorem dX5_enter_42 : decode cX5_enter 42 = .ok (.iconst 1, 1) := by decide +kernel
theorem dX5_enter_43 : decode cX5_enter 43 = .ok (.iload_n 1, 1) := by decide +kernel
theorem dX5_enter_44 : decode cX5_enter 44 = .ok (.iastore, 1) := by decide +kernel
theorem dX5_enter_45 : decode cX5_enter 45 = .ok (.aload_n 0, 1) := by decide +kernel
theorem dX5_enter_46 : decode cX5_enter 46 = .ok (.getfield 48, 3) := by decide +kernel
theorem dX5_enter_49 : decode cX5_enter 49 = .ok (.iconst 2, 1) := by decide +kernel
theorem dX5_enter_50 : decode cX5_enter 50 = .ok (.iload_n 2, 1) := by decide +kernel
theorem dX5_enter_51 : decode cX5_enter 51 = .ok (.iastore, 1) := by decide +kernel
theorem dX5_enter_52 : decode cX5_enter 52 = .ok (.aload_n 0, 1) := by decide +kernel
theorem dX5_enter_53 : decode cX5_enter 53 = .ok (.dup, 1) := by decide +kernel
theorem dX5_enter_54 : decode cX5_enter 54 = .ok (.getfield 77, 3) := by decide +kernel
theorem dX5_enter_57 : decode cX5_enter 57 = .ok (.iconst 1, 1) := by decide +kernel
theorem dX5_enter_58 : decode cX5_enter 58 = .ok (.iadd, 1) := by decide +kernel
theorem dX5_enter_59 : decode cX5_enter 59 = .ok (.putfield 77, 3) := by decide +kernel
theorem dX5_enter_62 : decode cX5_enter 62 = .ok (.return_, 1) := by decide +kernel
theorem dX5_frees_0 : decode cX5_frees 0 = .ok (.aload_n 0, 1) := by decide +kernel
theorem dX5_frees_1 : decode cX5_frees 1 = .ok (.getfield 33, 3) := by decide +kernel
theorem dX5_frees_4 : decode cX5_frees 4 = .ok (.iload_n 1, 1) := by decide +kernel
theorem dX5_frees_5 : decode cX5_frees 5 = .ok (.iaload, 1) := by decide +kernel
theorem dX5_frees_6 : decode cX5_frees 6 = .ok (.ifCond .ne 5, 3) := by decide +kernel
theorem dX5_frees_9 : decode cX5_frees 9 = .ok (.iconst 0, 1) := by decide +kernel
theorem dX5_frees_10 : decode cX5_frees 10 = .ok (.ireturn, 1) := by decide +kernel
theorem dX5_frees_11 : decode cX5_frees 11 = .ok (.aload_n 0, 1) := by decide +kernel
theorem dX5_frees_12 : decode cX5_frees 12 = .ok (.getfield 33, 3) := by decide +kernel
theorem dX5_frees_15 : decode cX5_frees 15 = .ok (.iload_n 1, 1) := by decide +kernel
theorem dX5_frees_16 : decode cX5_frees 16 = .ok (.iconst 0, 1) := by decide +kernel
theorem dX5_frees_17 : decode cX5_frees 17 = .ok (.iastore, 1) := by decide +kernel
theorem dX5_frees_18 : decode cX5_frees 18 = .ok (.aload_n 0, 1) := by decide +kernel
theorem dX5_frees_19 : decode cX5_frees 19 = .ok (.getfield 45, 3) := by decide +kernel
theorem dX5_frees_22 : decode cX5_frees 22 = .ok (.iload_n 1, 1) := by decide +kernel
theorem dX5_frees_23 : decode cX5_frees 23 = .ok (.iconst 0, 1) := by decide +kernel
theorem dX5_frees_24 : decode cX5_frees 24 = .ok (.bastore, 1) := by decide +kernel
theorem dX5_frees_25 : decode cX5_frees 25 = .ok (.aload_n 0, 1) := by decide +kernel
theorem dX5_frees_26 : decode cX5_frees 26 = .ok (.iconst 2, 1) := by decide +kernel
theorem dX5_frees_27 : decode cX5_frees 27 = .ok (.aload_n 0, 1) := by decide +kernel
theorem dX5_frees_28 : decode cX5_frees 28 = .ok (.getfield 36, 3) := by decide +kernel
theorem dX5_frees_31 : decode cX5_frees 31 = .ok (.iload_n 1, 1) := by decide +kernel
theorem dX5_frees_32 : decode cX5_frees 32 = .ok (.iaload, 1) := by decide +kernel
theorem dX5_frees_33 : decode cX5_frees 33 = .ok (.invokevirtual 132, 3) := by decide +kernel
theorem dX5_frees_36 : decode cX5_frees 36 = .ok (.iconst 1, 1) := by decide +kernel
theorem dX5_frees_37 : decode cX5_frees 37 = .ok (.ireturn, 1) := by decide +kernel
theorem dX5_voiceOf_0 : decode cX5_voiceOf 0 = .ok (.iconst 0, 1) := by decide +kernel
theorem dX5_voiceOf_1 : decode cX5_voiceOf 1 = .ok (.istore_n 2, 1) := by decide +kernel
theorem dX5_voiceOf_2 : decode cX5_voiceOf 2 = .ok (.iload_n 2, 1) := by decide +kernel
theorem dX5_voiceOf_3 : decode cX5_voiceOf 3 = .ok (.aload_n 0, 1) := by decide +kernel
theorem dX5_voiceOf_4 : decode cX5_voiceOf 4 = .ok (.getfield 13, 3) := by decide +kernel
theorem dX5_voiceOf_7 : decode cX5_voiceOf 7 = .ok (.if_icmp .ge 30, 3) := by decide +kernel
theorem dX5_voiceOf_10 : decode cX5_voiceOf 10 = .ok (.aload_n 0, 1) := by decide +kernel
theorem dX5_voiceOf_11 : decode cX5_voiceOf 11 = .ok (.getfield 33, 3) := by decide +kernel
theorem dX5_voiceOf_14 : decode cX5_voiceOf 14 = .ok (.iload_n 2, 1) := by decide +kernel
theorem dX5_voiceOf_15 : decode cX5_voiceOf 15 = .ok (.iaload, 1) := by decide +kernel
theorem dX5_voiceOf_16 : decode cX5_voiceOf 16 = .ok (.ifCond .eq 15, 3) := by decide +kernel
theorem dX5_voiceOf_19 : decode cX5_voiceOf 19 = .ok (.aload_n 0, 1) := by decide +kernel
theorem dX5_voiceOf_20 : decode cX5_voiceOf 20 = .ok (.getfield 36, 3) := by decide +kernel
theorem dX5_voiceOf_23 : decode cX5_voiceOf 23 = .ok (.iload_n 2, 1) := by decide +kernel
theorem dX5_voiceOf_24 : decode cX5_voiceOf 24 = .ok (.iaload, 1) := by decide +kernel
theorem dX5_voiceOf_25 : decode cX5_voiceOf 25 = .ok (.iload_n 1, 1) := by decide +kernel
theorem dX5_voiceOf_26 : decode cX5_voiceOf 26 = .ok (.if_icmp .ne 5, 3) := by decide +kernel
theorem dX5_voiceOf_29 : decode cX5_voiceOf 29 = .ok (.iload_n 2, 1) := by decide +kernel
theorem dX5_voiceOf_30 : decode cX5_voiceOf 30 = .ok (.ireturn, 1) := by decide +kernel
theorem dX5_voiceOf_31 : decode cX5_voiceOf 31 = .ok (.iinc 2 1, 3) := by decide +kernel
theorem dX5_voiceOf_34 : decode cX5_voiceOf 34 = .ok (.goto (-32), 3) := by decide +kernel
theorem dX5_voiceOf_37 : decode cX5_voiceOf 37 = .ok (.bipush (-3), 2) := by decide +kernel
theorem dX5_voiceOf_39 : decode cX5_voiceOf 39 = .ok (.ireturn, 1) := by decide +kernel
theorem dX5_freeVoice_0 : decode cX5_freeVoice 0 = .ok (.iconst 0, 1) := by decide +kernel
theorem dX5_freeVoice_1 : decode cX5_freeVoice 1 = .ok (.istore_n 1, 1) := by decide +kernel
theorem dX5_freeVoice_2 : decode cX5_freeVoice 2 = .ok (.iload_n 1, 1) := by decide +kernel
theorem dX5_freeVoice_3 : decode cX5_freeVoice 3 = .ok (.aload_n 0, 1) := by decide +kernel
theorem dX5_freeVoice_4 : decode cX5_freeVoice 4 = .ok (.getfield 13, 3) := by decide +kernel
theorem dX5_freeVoice_7 : decode cX5_freeVoice 7 = .ok (.if_icmp .ge 20, 3) := by decide +kernel
theorem dX5_freeVoice_10 : decode cX5_freeVoice 10 = .ok (.aload_n 0, 1) := by decide +kernel
theorem dX5_freeVoice_11 : decode cX5_freeVoice 11 = .ok (.getfield 33, 3) := by decide +kernel
theorem dX5_freeVoice_14 : decode cX5_freeVoice 14 = .ok (.iload_n 1, 1) := by decide +kernel
theorem dX5_freeVoice_15 : decode cX5_freeVoice 15 = .ok (.iaload, 1) := by decide +kernel
theorem dX5_freeVoice_16 : decode cX5_freeVoice 16 = .ok (.ifCond .ne 5, 3) := by decide +kernel
theorem dX5_freeVoice_19 : decode cX5_freeVoice 19 = .ok (.iload_n 1, 1) := by decide +kernel
theorem dX5_freeVoice_20 : decode cX5_freeVoice 20 = .ok (.ireturn, 1) := by decide +kernel
theorem dX5_freeVoice_21 : decode cX5_freeVoice 21 = .ok (.iinc 1 1, 3) := by decide +kernel
theorem dX5_freeVoice_24 : decode cX5_freeVoice 24 = .ok (.goto (-22), 3) := by decide +kernel
theorem dX5_freeVoice_27 : decode cX5_freeVoice 27 = .ok (.bipush (-3), 2) := by decide +kernel
theorem dX5_freeVoice_29 : decode cX5_freeVoice 29 = .ok (.ireturn, 1) := by decide +kernel
theorem dX5_isWeaker_0 : decode cX5_isWeaker 0 = .ok (.aload_n 0, 1) := by decide +kernel
theorem dX5_isWeaker_1 : decode cX5_isWeaker 1 = .ok (.getfield 129, 3) := by decide +kernel
theorem dX5_isWeaker_4 : decode cX5_isWeaker 4 = .ok (.iconst 1, 1) := by decide +kernel
theorem dX5_isWeaker_5 : decode cX5_isWeaker 5 = .ok (.if_icmp .ne 39, 3) := by decide +kernel
theorem dX5_isWeaker_8 : decode cX5_isWeaker 8 = .ok (.aload_n 0, 1) := by decide +kernel
theorem dX5_isWeaker_9 : decode cX5_isWeaker 9 = .ok (.getfield 39, 3) := by decide +kernel
theorem dX5_isWeaker_12 : decode cX5_isWeaker 12 = .ok (.iload_n 1, 1) := by decide +kernel
theorem dX5_isWeaker_13 : decode cX5_isWeaker 13 = .ok (.iaload, 1) := by decide +kernel
theorem dX5_isWeaker_14 : decode cX5_isWeaker 14 = .ok (.aload_n 0, 1) := by decide +kernel
theorem dX5_isWeaker_15 : decode cX5_isWeaker 15 = .ok (.getfield 39, 3) := by decide +kernel
theorem dX5_isWeaker_18 : decode cX5_isWeaker 18 = .ok (.iload_n 2, 1) := by decide +kernel
theorem dX5_isWeaker_19 : decode cX5_isWeaker 19 = .ok (.iaload, 1) := by decide +kernel
theorem dX5_isWeaker_20 : decode cX5_isWeaker 20 = .ok (.if_icmp .eq 24, 3) := by decide +kernel
theorem dX5_isWeaker_23 : decode cX5_isWeaker 23 = .ok (.aload_n 0, 1) := by decide +kernel
theorem dX5_isWeaker_24 : decode cX5_isWeaker 24 = .ok (.getfield 39, 3) := by decide +kernel
theorem dX5_isWeaker_27 : decode cX5_isWeaker 27 = .ok (.iload_n 1, 1) := by decide +kernel
theorem dX5_isWeaker_28 : decode cX5_isWeaker 28 = .ok (.iaload, 1) := by decide +kernel
theorem dX5_isWeaker_29 : decode cX5_isWeaker 29 = .ok (.aload_n 0, 1) := by decide +kernel
theorem dX5_isWeaker_30 : decode cX5_isWeaker 30 = .ok (.getfield 39, 3) := by decide +kernel
theorem dX5_isWeaker_33 : decode cX5_isWeaker 33 = .ok (.iload_n 2, 1) := by decide +kernel
theorem dX5_isWeaker_34 : decode cX5_isWeaker 34 = .ok (.iaload, 1) := by decide +kernel
theorem dX5_isWeaker_35 : decode cX5_isWeaker 35 = .ok (.if_icmp .ge 7, 3) := by decide +kernel
theorem dX5_isWeaker_38 : decode cX5_isWeaker 38 = .ok (.iconst 1, 1) := by decide +kernel
theorem dX5_isWeaker_39 : decode cX5_isWeaker 39 = .ok (.goto 4, 3) := by decide +kernel
theorem dX5_isWeaker_42 : decode cX5_isWeaker 42 = .ok (.iconst 0, 1) := by decide +kernel
theorem dX5_isWeaker_43 : decode cX5_isWeaker 43 = .ok (.ireturn, 1) := by decide +kernel
theorem dX5_isWeaker_44 : decode cX5_isWeaker 44 = .ok (.aload_n 0, 1) := by decide +kernel
theorem dX5_isWeaker_45 : decode cX5_isWeaker 45 = .ok (.getfield 42, 3) := by decide +kernel
theorem dX5_isWeaker_48 : decode cX5_isWeaker 48 = .ok (.iload_n 1, 1) := by decide +kernel
theorem dX5_isWeaker_49 : decode cX5_isWeaker 49 = .ok (.iaload, 1) := by decide +kernel
theorem dX5_isWeaker_50 : decode cX5_isWeaker 50 = .ok (.aload_n 0, 1) := by decide +kernel
theorem dX5_isWeaker_51 : decode cX5_isWeaker 51 = .ok (.getfield 42, 3) := by decide +kernel
theorem dX5_isWeaker_54 : decode cX5_isWeaker 54 = .ok (.iload_n 2, 1) := by decide +kernel
theorem dX5_isWeaker_55 : decode cX5_isWeaker 55 = .ok (.iaload, 1) := by decide +kernel
theorem dX5_isWeaker_56 : decode cX5_isWeaker 56 = .ok (.if_icmp .ge 7, 3) := by decide +kernel
theorem dX5_isWeaker_59 : decode cX5_isWeaker 59 = .ok (.iconst 1, 1) := by decide +kernel
theorem dX5_isWeaker_60 : decode cX5_isWeaker 60 = .ok (.goto 4, 3) := by decide +kernel
theorem dX5_isWeaker_63 : decode cX5_isWeaker 63 = .ok (.iconst 0, 1) := by decide +kernel
theorem dX5_isWeaker_64 : decode cX5_isWeaker 64 = .ok (.ireturn, 1) := by decide +kernel
theorem dX5_weakest_0 : decode cX5_weakest 0 = .ok (.bipush (-3), 2) := by decide +kernel
theorem dX5_weakest_2 : decode cX5_weakest 2 = .ok (.istore_n 2, 1) := by decide +kernel
theorem dX5_weakest_3 : decode cX5_weakest 3 = .ok (.iconst 0, 1) := by decide +kernel
theorem dX5_weakest_4 : decode cX5_weakest 4 = .ok (.istore_n 3, 1) := by decide +kernel
theorem dX5_weakest_5 : decode cX5_weakest 5 = .ok (.iload_n 3, 1) := by decide +kernel
theorem dX5_weakest_6 : decode cX5_weakest 6 = .ok (.aload_n 0, 1) := by decide +kernel
theorem dX5_weakest_7 : decode cX5_weakest 7 = .ok (.getfield 13, 3) := by decide +kernel
theorem dX5_weakest_10 : decode cX5_weakest 10 = .ok (.if_icmp .ge 42, 3) := by decide +kernel
theorem dX5_weakest_13 : decode cX5_weakest 13 = .ok (.iload_n 1, 1) := by decide +kernel
theorem dX5_weakest_14 : decode cX5_weakest 14 = .ok (.ifCond .eq 13, 3) := by decide +kernel
theorem dX5_weakest_17 : decode cX5_weakest 17 = .ok (.aload_n 0, 1) := by decide +kernel
theorem dX5_weakest_18 : decode cX5_weakest 18 = .ok (.getfield 33, 3) := by decide +kernel
theorem dX5_weakest_21 : decode cX5_weakest 21 = .ok (.iload_n 3, 1) := by decide +kernel
theorem dX5_weakest_22 : decode cX5_weakest 22 = .ok (.iaload, 1) := by decide +kernel
theorem dX5_weakest_23 : decode cX5_weakest 23 = .ok (.iconst 2, 1) := by decide +kernel
theorem dX5_weakest_24 : decode cX5_weakest 24 = .ok (.if_icmp .ne 22, 3) := by decide +kernel
theorem dX5_weakest_27 : decode cX5_weakest 27 = .ok (.iload_n 2, 1) := by decide +kernel
theorem dX5_weakest_28 : decode cX5_weakest 28 = .ok (.ifCond .lt 12, 3) := by decide +kernel
theorem dX5_weakest_31 : decode cX5_weakest 31 = .ok (.aload_n 0, 1) := by decide +kernel
theorem dX5_weakest_32 : decode cX5_weakest 32 = .ok (.iload_n 3, 1) := by decide +kernel
theorem dX5_weakest_33 : decode cX5_weakest 33 = .ok (.iload_n 2, 1) := by decide +kernel
theorem dX5_weakest_34 : decode cX5_weakest 34 = .ok (.invokevirtual 135, 3) := by decide +kernel
theorem dX5_weakest_37 : decode cX5_weakest 37 = .ok (.ifCond .eq 7, 3) := by decide +kernel
theorem dX5_weakest_40 : decode cX5_weakest 40 = .ok (.iload_n 3, 1) := by decide +kernel
theorem dX5_weakest_41 : decode cX5_weakest 41 = .ok (.goto 4, 3) := by decide +kernel
theorem dX5_weakest_44 : decode cX5_weakest 44 = .ok (.iload_n 2, 1) := by decide +kernel
theorem dX5_weakest_45 : decode cX5_weakest 45 = .ok (.istore_n 2, 1) := by decide +kernel
theorem dX5_weakest_46 : decode cX5_weakest 46 = .ok (.iinc 3 1, 3) := by decide +kernel
theorem dX5_weakest_49 : decode cX5_weakest 49 = .ok (.goto (-44), 3) := by decide +kernel
theorem dX5_weakest_52 : decode cX5_weakest 52 = .ok (.iload_n 2, 1) := by decide +kernel
theorem dX5_weakest_53 : decode cX5_weakest 53 = .ok (.ireturn, 1) := by decide +kernel
theorem dX5_taken_0 : decode cX5_taken 0 = .ok (.aload_n 0, 1) := by decide +kernel
theorem dX5_taken_1 : decode cX5_taken 1 = .ok (.getfield 129, 3) := by decide +kernel
theorem dX5_taken_4 : decode cX5_taken 4 = .ok (.iconst 2, 1) := by decide +kernel
theorem dX5_taken_5 : decode cX5_taken 5 = .ok (.if_icmp .ne 11, 3) := by decide +kernel
theorem dX5_taken_8 : decode cX5_taken 8 = .ok (.aload_n 0, 1) := by decide +kernel
theorem dX5_taken_9 : decode cX5_taken 9 = .ok (.iconst 1, 1) := by decide +kernel
theorem dX5_taken_10 : decode cX5_taken 10 = .ok (.invokevirtual 139, 3) := by decide +kernel
theorem dX5_taken_13 : decode cX5_taken 13 = .ok (.goto 5, 3) := by decide +kernel
theorem dX5_taken_16 : decode cX5_taken 16 = .ok (.bipush (-3), 2) := by decide +kernel
theorem dX5_taken_18 : decode cX5_taken 18 = .ok (.istore_n 1, 1) := by decide +kernel
theorem dX5_taken_19 : decode cX5_taken 19 = .ok (.iload_n 1, 1) := by decide +kernel
theorem dX5_taken_20 : decode cX5_taken 20 = .ok (.ifCond .lt 7, 3) := by decide +kernel
theorem dX5_taken_23 : decode cX5_taken 23 = .ok (.iload_n 1, 1) := by decide +kernel
theorem dX5_taken_24 : decode cX5_taken 24 = .ok (.goto 8, 3) := by decide +kernel
theorem dX5_taken_27 : decode cX5_taken 27 = .ok (.aload_n 0, 1) := by decide +kernel
theorem dX5_taken_28 : decode cX5_taken 28 = .ok (.iconst 0, 1) := by decide +kernel
theorem dX5_taken_29 : decode cX5_taken 29 = .ok (.invokevirtual 139, 3) := by decide +kernel
theorem dX5_taken_32 : decode cX5_taken 32 = .ok (.ireturn, 1) := by decide +kernel
theorem dX5_velocityAfter_0 : decode cX5_velocityAfter 0 = .ok (.sipush 128, 3) := by decide +kernel
theorem dX5_velocityAfter_3 : decode cX5_velocityAfter 3 = .ok (.aload_n 0, 1) := by decide +kernel
theorem dX5_velocityAfter_4 : decode cX5_velocityAfter 4 = .ok (.getfield 7, 3) := by decide +kernel
theorem dX5_velocityAfter_7 : decode cX5_velocityAfter 7 = .ok (.iload_n 1, 1) := by decide +kernel
theorem dX5_velocityAfter_8 : decode cX5_velocityAfter 8 = .ok (.imul, 1) := by decide +kernel
theorem dX5_velocityAfter_9 : decode cX5_velocityAfter 9 = .ok (.isub, 1) := by decide +kernel
theorem dX5_velocityAfter_10 : decode cX5_velocityAfter 10 = .ok (.istore_n 2, 1) := by decide +kernel
theorem dX5_velocityAfter_11 : decode cX5_velocityAfter 11 = .ok (.iload_n 2, 1) := by decide +kernel
theorem dX5_velocityAfter_12 : decode cX5_velocityAfter 12 = .ok (.bipush 127, 2) := by decide +kernel
theorem dX5_velocityAfter_14 : decode cX5_velocityAfter 14 = .ok (.if_icmp .le 8, 3) := by decide +kernel
theorem dX5_velocityAfter_17 : decode cX5_velocityAfter 17 = .ok (.bipush 127, 2) := by decide +kernel
theorem dX5_velocityAfter_19 : decode cX5_velocityAfter 19 = .ok (.goto 13, 3) := by decide +kernel
theorem dX5_velocityAfter_22 : decode cX5_velocityAfter 22 = .ok (.iload_n 2, 1) := by decide +kernel
theorem dX5_velocityAfter_23 : decode cX5_velocityAfter 23 = .ok (.iconst 1, 1) := by decide +kernel
theorem dX5_velocityAfter_24 : decode cX5_velocityAfter 24 = .ok (.if_icmp .ge 7, 3) := by decide +kernel
theorem dX5_velocityAfter_27 : decode cX5_velocityAfter 27 = .ok (.iconst 1, 1) := by decide +kernel
theorem dX5_velocityAfter_28 : decode cX5_velocityAfter 28 = .ok (.goto 4, 3) := by decide +kernel
theorem dX5_velocityAfter_31 : decode cX5_velocityAfter 31 = .ok (.iload_n 2, 1) := by decide +kernel
theorem dX5_velocityAfter_32 : decode cX5_velocityAfter 32 = .ok (.ireturn, 1) := by decide +kernel
theorem dX5_strike_0 : decode cX5_strike 0 = .ok (.aload_n 0, 1) := by decide +kernel
theorem dX5_strike_1 : decode cX5_strike 1 = .ok (.getfield 119, 3) := by decide +kernel
theorem dX5_strike_4 : decode cX5_strike 4 = .ok (.ifCond .eq 28, 3) := by decide +kernel
theorem dX5_strike_7 : decode cX5_strike 7 = .ok (.aload_n 0, 1) := by decide +kernel
theorem dX5_strike_8 : decode cX5_strike 8 = .ok (.iload_n 1, 1) := by decide +kernel
theorem dX5_strike_9 : decode cX5_strike 9 = .ok (.invokevirtual 143, 3) := by decide +kernel
theorem dX5_strike_12 : decode cX5_strike 12 = .ok (.ifCond .eq 20, 3) := by decide +kernel
theorem dX5_strike_15 : decode cX5_strike 15 = .ok (.aload_n 0, 1) := by decide +kernel
theorem dX5_strike_16 : decode cX5_strike 16 = .ok (.dup, 1) := by decide +kernel
theorem dX5_strike_17 : decode cX5_strike 17 = .ok (.getfield 83, 3) := by decide +kernel
theorem dX5_strike_20 : decode cX5_strike 20 = .ok (.iconst 1, 1) := by decide +kernel
theorem dX5_strike_21 : decode cX5_strike 21 = .ok (.iadd, 1) := by decide +kernel
theorem dX5_strike_22 : decode cX5_strike 22 = .ok (.putfield 83, 3) := by decide +kernel
theorem dX5_strike_25 : decode cX5_strike 25 = .ok (.aload_n 0, 1) := by decide +kernel
theorem dX5_strike_26 : decode cX5_strike 26 = .ok (.iconst 4, 1) := by decide +kernel
theorem dX5_strike_27 : decode cX5_strike 27 = .ok (.iload_n 1, 1) := by decide +kernel
theorem dX5_strike_28 : decode cX5_strike 28 = .ok (.invokevirtual 132, 3) := by decide +kernel
theorem dX5_strike_31 : decode cX5_strike 31 = .ok (.return_, 1) := by decide +kernel
theorem dX5_strike_32 : decode cX5_strike 32 = .ok (.aload_n 0, 1) := by decide +kernel
theorem dX5_strike_33 : decode cX5_strike 33 = .ok (.iload_n 1, 1) := by decide +kernel
theorem dX5_strike_34 : decode cX5_strike 34 = .ok (.invokevirtual 146, 3) := by decide +kernel
theorem dX5_strike_37 : decode cX5_strike 37 = .ok (.istore_n 2, 1) := by decide +kernel
theorem dX5_strike_38 : decode cX5_strike 38 = .ok (.iload_n 2, 1) := by decide +kernel
theorem dX5_strike_39 : decode cX5_strike 39 = .ok (.ifCond .ge 10, 3) := by decide +kernel
theorem dX5_strike_42 : decode cX5_strike 42 = .ok (.aload_n 0, 1) := by decide +kernel
theorem dX5_strike_43 : decode cX5_strike 43 = .ok (.invokevirtual 149, 3) := by decide +kernel
theorem dX5_strike_46 : decode cX5_strike 46 = .ok (.goto 4, 3) := by decide +kernel
theorem dX5_strike_49 : decode cX5_strike 49 = .ok (.iload_n 2, 1) := by decide +kernel
theorem dX5_strike_50 : decode cX5_strike 50 = .ok (.istore_n 2, 1) := by decide +kernel
theorem dX5_strike_51 : decode cX5_strike 51 = .ok (.iload_n 2, 1) := by decide +kernel
theorem dX5_strike_52 : decode cX5_strike 52 = .ok (.ifCond .ge 29, 3) := by decide +kernel
theorem dX5_strike_55 : decode cX5_strike 55 = .ok (.aload_n 0, 1) := by decide +kernel
theorem dX5_strike_56 : decode cX5_strike 56 = .ok (.invokevirtual 152, 3) := by decide +kernel
theorem dX5_strike_59 : decode cX5_strike 59 = .ok (.istore_n 2, 1) := by decide +kernel
theorem dX5_strike_60 : decode cX5_strike 60 = .ok (.aload_n 0, 1) := by decide +kernel
theorem dX5_strike_61 : decode cX5_strike 61 = .ok (.dup, 1) := by decide +kernel
theorem dX5_strike_62 : decode cX5_strike 62 = .ok (.getfield 86, 3) := by decide +kernel
theorem dX5_strike_65 : decode cX5_strike 65 = .ok (.iconst 1, 1) := by decide +kernel
theorem dX5_strike_66 : decode cX5_strike 66 = .ok (.iadd, 1) := by decide +kernel
theorem dX5_strike_67 : decode cX5_strike 67 = .ok (.putfield 86, 3) := by decide +kernel
theorem dX5_strike_70 : decode cX5_strike 70 = .ok (.aload_n 0, 1) := by decide +kernel
theorem dX5_strike_71 : decode cX5_strike 71 = .ok (.iconst 3, 1) := by decide +kernel
theorem dX5_strike_72 : decode cX5_strike 72 = .ok (.aload_n 0, 1) := by decide +kernel
theorem dX5_strike_73 : decode cX5_strike 73 = .ok (.getfield 36, 3) := by decide +kernel
theorem dX5_strike_76 : decode cX5_strike 76 = .ok (.iload_n 2, 1) := by decide +kernel
theorem dX5_strike_77 : decode cX5_strike 77 = .ok (.iaload, 1) := by decide +kernel
theorem dX5_strike_78 : decode cX5_strike 78 = .ok (.invokevirtual 132, 3) := by decide +kernel
theorem dX5_strike_81 : decode cX5_strike 81 = .ok (.aload_n 0, 1) := by decide +kernel
theorem dX5_strike_82 : decode cX5_strike 82 = .ok (.getfield 33, 3) := by decide +kernel
theorem dX5_strike_85 : decode cX5_strike 85 = .ok (.iload_n 2, 1) := by decide +kernel
theorem dX5_strike_86 : decode cX5_strike 86 = .ok (.iconst 1, 1) := by decide +kernel
theorem dX5_strike_87 : decode cX5_strike 87 = .ok (.iastore, 1) := by decide +kernel
theorem dX5_strike_88 : decode cX5_strike 88 = .ok (.aload_n 0, 1) := by decide +kernel
theorem dX5_strike_89 : decode cX5_strike 89 = .ok (.getfield 36, 3) := by decide +kernel
theorem dX5_strike_92 : decode cX5_strike 92 = .ok (.iload_n 2, 1) := by decide +kernel
theorem dX5_strike_93 : decode cX5_strike 93 = .ok (.iload_n 1, 1) := by decide +kernel
theorem dX5_strike_94 : decode cX5_strike 94 = .ok (.iastore, 1) := by decide +kernel
theorem dX5_strike_95 : decode cX5_strike 95 = .ok (.aload_n 0, 1) := by decide +kernel
theorem dX5_strike_96 : decode cX5_strike 96 = .ok (.getfield 39, 3) := by decide +kernel
theorem dX5_strike_99 : decode cX5_strike 99 = .ok (.iload_n 2, 1) := by decide +kernel
theorem dX5_strike_100 : decode cX5_strike 100 = .ok (.aload_n 0, 1) := by decide +kernel
theorem dX5_strike_101 : decode cX5_strike 101 = .ok (.aload_n 0, 1) := by decide +kernel
theorem dX5_strike_102 : decode cX5_strike 102 = .ok (.getfield 74, 3) := by decide +kernel
theorem dX5_strike_105 : decode cX5_strike 105 = .ok (.aload_n 0, 1) := by decide +kernel
theorem dX5_strike_106 : decode cX5_strike 106 = .ok (.getfield 23, 3) := by decide +kernel
theorem dX5_strike_109 : decode cX5_strike 109 = .ok (.iload_n 1, 1) := by decide +kernel
theorem dX5_strike_110 : decode cX5_strike 110 = .ok (.iaload, 1) := by decide +kernel
theorem dX5_strike_111 : decode cX5_strike 111 = .ok (.isub, 1) := by decide +kernel
theorem dX5_strike_112 : decode cX5_strike 112 = .ok (.aload_n 0, 1) := by decide +kernel
theorem dX5_strike_113 : decode cX5_strike 113 = .ok (.getfield 61, 3) := by decide +kernel
theorem dX5_strike_116 : decode cX5_strike 116 = .ok (.idiv, 1) := by decide +kernel
theorem dX5_strike_117 : decode cX5_strike 117 = .ok (.invokevirtual 155, 3) := by decide +kernel
theorem dX5_strike_120 : decode cX5_strike 120 = .ok (.iastore, 1) := by decide +kernel
theorem dX5_strike_121 : decode cX5_strike 121 = .ok (.aload_n 0, 1) := by decide +kernel
theorem dX5_strike_122 : decode cX5_strike 122 = .ok (.getfield 42, 3) := by decide +kernel
theorem dX5_strike_125 : decode cX5_strike 125 = .ok (.iload_n 2, 1) := by decide +kernel
theorem dX5_strike_126 : decode cX5_strike 126 = .ok (.aload_n 0, 1) := by decide +kernel
theorem dX5_strike_127 : decode cX5_strike 127 = .ok (.getfield 74, 3) := by decide +kernel
theorem dX5_strike_130 : decode cX5_strike 130 = .ok (.iastore, 1) := by decide +kernel
theorem dX5_strike_131 : decode cX5_strike 131 = .ok (.aload_n 0, 1) := by decide +kernel
theorem dX5_strike_132 : decode cX5_strike 132 = .ok (.getfield 45, 3) := by decide +kernel
theorem dX5_strike_135 : decode cX5_strike 135 = .ok (.iload_n 2, 1) := by decide +kernel
theorem dX5_strike_136 : decode cX5_strike 136 = .ok (.iconst 0, 1) := by decide +kernel
theorem dX5_strike_137 : decode cX5_strike 137 = .ok (.bastore, 1) := by decide +kernel
theorem dX5_strike_138 : decode cX5_strike 138 = .ok (.aload_n 0, 1) := by decide +kernel
theorem dX5_strike_139 : decode cX5_strike 139 = .ok (.dup, 1) := by decide +kernel
theorem dX5_strike_140 : decode cX5_strike 140 = .ok (.getfield 80, 3) := by decide +kernel
theorem dX5_strike_143 : decode cX5_strike 143 = .ok (.iconst 1, 1) := by decide +kernel
theorem dX5_strike_144 : decode cX5_strike 144 = .ok (.iadd, 1) := by decide +kernel
theorem dX5_strike_145 : decode cX5_strike 145 = .ok (.putfield 80, 3) := by decide +kernel
theorem dX5_strike_148 : decode cX5_strike 148 = .ok (.aload_n 0, 1) := by decide +kernel
theorem dX5_strike_149 : decode cX5_strike 149 = .ok (.iconst 1, 1) := by decide +kernel
theorem dX5_strike_150 : decode cX5_strike 150 = .ok (.iload_n 1, 1) := by decide +kernel
theorem dX5_strike_151 : decode cX5_strike 151 = .ok (.invokevirtual 132, 3) := by decide +kernel
theorem dX5_strike_154 : decode cX5_strike 154 = .ok (.return_, 1) := by decide +kernel
theorem dX5_release_0 : decode cX5_release 0 = .ok (.aload_n 0, 1) := by decide +kernel
theorem dX5_release_1 : decode cX5_release 1 = .ok (.iload_n 1, 1) := by decide +kernel
theorem dX5_release_2 : decode cX5_release 2 = .ok (.invokevirtual 146, 3) := by decide +kernel
theorem dX5_release_5 : decode cX5_release 5 = .ok (.istore_n 2, 1) := by decide +kernel
theorem dX5_release_6 : decode cX5_release 6 = .ok (.iload_n 2, 1) := by decide +kernel
theorem dX5_release_7 : decode cX5_release 7 = .ok (.ifCond .lt 13, 3) := by decide +kernel
theorem dX5_release_10 : decode cX5_release 10 = .ok (.aload_n 0, 1) := by decide +kernel
theorem dX5_release_11 : decode cX5_release 11 = .ok (.getfield 33, 3) := by decide +kernel
theorem dX5_release_14 : decode cX5_release 14 = .ok (.iload_n 2, 1) := by decide +kernel
theorem dX5_release_15 : decode cX5_release 15 = .ok (.iaload, 1) := by decide +kernel
theorem dX5_release_16 : decode cX5_release 16 = .ok (.iconst 1, 1) := by decide +kernel
theorem dX5_release_17 : decode cX5_release 17 = .ok (.if_icmp .eq 4, 3) := by decide +kernel
theorem dX5_release_20 : decode cX5_release 20 = .ok (.return_, 1) := by decide +kernel
theorem dX5_release_21 : decode cX5_release 21 = .ok (.aload_n 0, 1) := by decide +kernel
theorem dX5_release_22 : decode cX5_release 22 = .ok (.getfield 67, 3) := by decide +kernel
theorem dX5_release_25 : decode cX5_release 25 = .ok (.ifCond .ne 19, 3) := by decide +kernel
theorem dX5_release_28 : decode cX5_release 28 = .ok (.aload_n 0, 1) := by decide +kernel
theorem dX5_release_29 : decode cX5_release 29 = .ok (.getfield 71, 3) := by decide +kernel
theorem dX5_release_32 : decode cX5_release 32 = .ok (.ifCond .eq 22, 3) := by decide +kernel
theorem dX5_release_35 : decode cX5_release 35 = .ok (.aload_n 0, 1) := by decide +kernel
theorem dX5_release_36 : decode cX5_release 36 = .ok (.getfield 45, 3) := by decide +kernel
theorem dX5_release_39 : decode cX5_release 39 = .ok (.iload_n 2, 1) := by decide +kernel
theorem dX5_release_40 : decode cX5_release 40 = .ok (.baload, 1) := by decide +kernel
theorem dX5_release_41 : decode cX5_release 41 = .ok (.ifCond .eq 13, 3) := by decide +kernel
theorem dX5_release_44 : decode cX5_release 44 = .ok (.aload_n 0, 1) := by decide +kernel
theorem dX5_release_45 : decode cX5_release 45 = .ok (.getfield 33, 3) := by decide +kernel
theorem dX5_release_48 : decode cX5_release 48 = .ok (.iload_n 2, 1) := by decide +kernel
theorem dX5_release_49 : decode cX5_release 49 = .ok (.iconst 2, 1) := by decide +kernel
theorem dX5_release_50 : decode cX5_release 50 = .ok (.iastore, 1) := by decide +kernel
theorem dX5_release_51 : decode cX5_release 51 = .ok (.goto 9, 3) := by decide +kernel
theorem dX5_release_54 : decode cX5_release 54 = .ok (.aload_n 0, 1) := by decide +kernel
theorem dX5_release_55 : decode cX5_release 55 = .ok (.iload_n 2, 1) := by decide +kernel
theorem dX5_release_56 : decode cX5_release 56 = .ok (.invokevirtual 125, 3) := by decide +kernel
theorem dX5_release_59 : decode cX5_release 59 = .ok (.pop, 1) := by decide +kernel
theorem dX5_release_60 : decode cX5_release 60 = .ok (.return_, 1) := by decide +kernel
theorem dX5_scan_0 : decode cX5_scan 0 = .ok (.aload_n 0, 1) := by decide +kernel
theorem dX5_scan_1 : decode cX5_scan 1 = .ok (.getfield 20, 3) := by decide +kernel
theorem dX5_scan_4 : decode cX5_scan 4 = .ok (.iload_n 1, 1) := by decide +kernel
theorem dX5_scan_5 : decode cX5_scan 5 = .ok (.iaload, 1) := by decide +kernel
theorem dX5_scan_6 : decode cX5_scan 6 = .ok (.istore_n 3, 1) := by decide +kernel
theorem dX5_scan_7 : decode cX5_scan 7 = .ok (.aload_n 0, 1) := by decide +kernel
theorem dX5_scan_8 : decode cX5_scan 8 = .ok (.getfield 20, 3) := by decide +kernel
theorem dX5_scan_11 : decode cX5_scan 11 = .ok (.iload_n 1, 1) := by decide +kernel
theorem dX5_scan_12 : decode cX5_scan 12 = .ok (.iaload, 1) := by decide +kernel
theorem dX5_scan_13 : decode cX5_scan 13 = .ok (.ifCond .ne 29, 3) := by decide +kernel
theorem dX5_scan_16 : decode cX5_scan 16 = .ok (.aload_n 0, 1) := by decide +kernel
theorem dX5_scan_17 : decode cX5_scan 17 = .ok (.getfield 26, 3) := by decide +kernel
theorem dX5_scan_20 : decode cX5_scan 20 = .ok (.iload_n 1, 1) := by decide +kernel
theorem dX5_scan_21 : decode cX5_scan 21 = .ok (.baload, 1) := by decide +kernel
theorem dX5_scan_22 : decode cX5_scan 22 = .ok (.ifCond .eq 20, 3) := by decide +kernel
theorem dX5_scan_25 : decode cX5_scan 25 = .ok (.aload_n 0, 1) := by decide +kernel
theorem dX5_scan_26 : decode cX5_scan 26 = .ok (.getfield 20, 3) := by decide +kernel
theorem dX5_scan_29 : decode cX5_scan 29 = .ok (.iload_n 1, 1) := by decide +kernel
theorem dX5_scan_30 : decode cX5_scan 30 = .ok (.iconst 1, 1) := by decide +kernel
theorem dX5_scan_31 : decode cX5_scan 31 = .ok (.iastore, 1) := by decide +kernel
theorem dX5_scan_32 : decode cX5_scan 32 = .ok (.aload_n 0, 1) := by decide +kernel
theorem dX5_scan_33 : decode cX5_scan 33 = .ok (.getfield 23, 3) := by decide +kernel
theorem dX5_scan_36 : decode cX5_scan 36 = .ok (.iload_n 1, 1) := by decide +kernel
theorem dX5_scan_37 : decode cX5_scan 37 = .ok (.aload_n 0, 1) := by decide +kernel
theorem dX5_scan_38 : decode cX5_scan 38 = .ok (.getfield 74, 3) := by decide +kernel
theorem dX5_scan_41 : decode cX5_scan 41 = .ok (.iastore, 1) := by decide +kernel
theorem dX5_scan_42 : decode cX5_scan 42 = .ok (.aload_n 0, 1) := by decide +kernel
theorem dX5_scan_43 : decode cX5_scan 43 = .ok (.getfield 20, 3) := by decide +kernel
theorem dX5_scan_46 : decode cX5_scan 46 = .ok (.iload_n 1, 1) := by decide +kernel
theorem dX5_scan_47 : decode cX5_scan 47 = .ok (.iaload, 1) := by decide +kernel
theorem dX5_scan_48 : decode cX5_scan 48 = .ok (.iconst 1, 1) := by decide +kernel
theorem dX5_scan_49 : decode cX5_scan 49 = .ok (.if_icmp .ne 37, 3) := by decide +kernel
theorem dX5_scan_52 : decode cX5_scan 52 = .ok (.aload_n 0, 1) := by decide +kernel
theorem dX5_scan_53 : decode cX5_scan 53 = .ok (.getfield 30, 3) := by decide +kernel
theorem dX5_scan_56 : decode cX5_scan 56 = .ok (.iload_n 1, 1) := by decide +kernel
theorem dX5_scan_57 : decode cX5_scan 57 = .ok (.baload, 1) := by decide +kernel
theorem dX5_scan_58 : decode cX5_scan 58 = .ok (.ifCond .eq 12, 3) := by decide +kernel
theorem dX5_scan_61 : decode cX5_scan 61 = .ok (.aload_n 0, 1) := by decide +kernel
theorem dX5_scan_62 : decode cX5_scan 62 = .ok (.iload_n 1, 1) := by decide +kernel
theorem dX5_scan_63 : decode cX5_scan 63 = .ok (.iload_n 2, 1) := by decide +kernel
theorem dX5_scan_64 : decode cX5_scan 64 = .ok (.invokevirtual 158, 3) := by decide +kernel
theorem dX5_scan_67 : decode cX5_scan 67 = .ok (.goto 19, 3) := by decide +kernel
theorem dX5_scan_70 : decode cX5_scan 70 = .ok (.aload_n 0, 1) := by decide +kernel
theorem dX5_scan_71 : decode cX5_scan 71 = .ok (.getfield 26, 3) := by decide +kernel
theorem dX5_scan_74 : decode cX5_scan 74 = .ok (.iload_n 1, 1) := by decide +kernel
theorem dX5_scan_75 : decode cX5_scan 75 = .ok (.baload, 1) := by decide +kernel
theorem dX5_scan_76 : decode cX5_scan 76 = .ok (.ifCond .ne 10, 3) := by decide +kernel
theorem dX5_scan_79 : decode cX5_scan 79 = .ok (.aload_n 0, 1) := by decide +kernel
theorem dX5_scan_80 : decode cX5_scan 80 = .ok (.getfield 20, 3) := by decide +kernel
theorem dX5_scan_83 : decode cX5_scan 83 = .ok (.iload_n 1, 1) := by decide +kernel
theorem dX5_scan_84 : decode cX5_scan 84 = .ok (.iconst 0, 1) := by decide +kernel
theorem dX5_scan_85 : decode cX5_scan 85 = .ok (.iastore, 1) := by decide +kernel
theorem dX5_scan_86 : decode cX5_scan 86 = .ok (.iload_n 3, 1) := by decide +kernel
theorem dX5_scan_87 : decode cX5_scan 87 = .ok (.iconst 2, 1) := by decide +kernel
theorem dX5_scan_88 : decode cX5_scan 88 = .ok (.if_icmp .ne 45, 3) := by decide +kernel
theorem dX5_scan_91 : decode cX5_scan 91 = .ok (.aload_n 0, 1) := by decide +kernel
theorem dX5_scan_92 : decode cX5_scan 92 = .ok (.getfield 30, 3) := by decide +kernel
theorem dX5_scan_95 : decode cX5_scan 95 = .ok (.iload_n 1, 1) := by decide +kernel
theorem dX5_scan_96 : decode cX5_scan 96 = .ok (.baload, 1) := by decide +kernel
theorem dX5_scan_97 : decode cX5_scan 97 = .ok (.ifCond .ne 36, 3) := by decide +kernel
theorem dX5_scan_100 : decode cX5_scan 100 = .ok (.aload_n 0, 1) := by decide +kernel
theorem dX5_scan_101 : decode cX5_scan 101 = .ok (.getfield 122, 3) := by decide +kernel
theorem dX5_scan_104 : decode cX5_scan 104 = .ok (.ifCond .ne 12, 3) := by decide +kernel
theorem dX5_scan_107 : decode cX5_scan 107 = .ok (.iload_n 2, 1) := by decide +kernel
theorem dX5_scan_108 : decode cX5_scan 108 = .ok (.ifCond .eq 8, 3) := by decide +kernel
theorem dX5_scan_111 : decode cX5_scan 111 = .ok (.aload_n 0, 1) := by decide +kernel
theorem dX5_scan_112 : decode cX5_scan 112 = .ok (.iload_n 1, 1) := by decide +kernel
theorem dX5_scan_113 : decode cX5_scan 113 = .ok (.invokevirtual 162, 3) := by decide +kernel
theorem dX5_scan_116 : decode cX5_scan 116 = .ok (.aload_n 0, 1) := by decide +kernel
theorem dX5_scan_117 : decode cX5_scan 117 = .ok (.getfield 20, 3) := by decide +kernel
theorem dX5_scan_120 : decode cX5_scan 120 = .ok (.iload_n 1, 1) := by decide +kernel
theorem dX5_scan_121 : decode cX5_scan 121 = .ok (.iconst 3, 1) := by decide +kernel
theorem dX5_scan_122 : decode cX5_scan 122 = .ok (.iastore, 1) := by decide +kernel
theorem dX5_scan_123 : decode cX5_scan 123 = .ok (.aload_n 0, 1) := by decide +kernel
theorem dX5_scan_124 : decode cX5_scan 124 = .ok (.getfield 23, 3) := by decide +kernel
theorem dX5_scan_127 : decode cX5_scan 127 = .ok (.iload_n 1, 1) := by decide +kernel
theorem dX5_scan_128 : decode cX5_scan 128 = .ok (.aload_n 0, 1) := by decide +kernel
theorem dX5_scan_129 : decode cX5_scan 129 = .ok (.getfield 74, 3) := by decide +kernel
theorem dX5_scan_132 : decode cX5_scan 132 = .ok (.iastore, 1) := by decide +kernel
theorem dX5_scan_133 : decode cX5_scan 133 = .ok (.aload_n 0, 1) := by decide +kernel
theorem dX5_scan_134 : decode cX5_scan 134 = .ok (.getfield 20, 3) := by decide +kernel
theorem dX5_scan_137 : decode cX5_scan 137 = .ok (.iload_n 1, 1) := by decide +kernel
theorem dX5_scan_138 : decode cX5_scan 138 = .ok (.iaload, 1) := by decide +kernel
theorem dX5_scan_139 : decode cX5_scan 139 = .ok (.iconst 3, 1) := by decide +kernel
theorem dX5_scan_140 : decode cX5_scan 140 = .ok (.if_icmp .ne 46, 3) := by decide +kernel
theorem dX5_scan_143 : decode cX5_scan 143 = .ok (.aload_n 0, 1) := by decide +kernel
theorem dX5_scan_144 : decode cX5_scan 144 = .ok (.getfield 30, 3) := by decide +kernel
theorem dX5_scan_147 : decode cX5_scan 147 = .ok (.iload_n 1, 1) := by decide +kernel
theorem dX5_scan_148 : decode cX5_scan 148 = .ok (.baload, 1) := by decide +kernel
theorem dX5_scan_149 : decode cX5_scan 149 = .ok (.ifCond .eq 12, 3) := by decide +kernel
theorem dX5_scan_152 : decode cX5_scan 152 = .ok (.aload_n 0, 1) := by decide +kernel
theorem dX5_scan_153 : decode cX5_scan 153 = .ok (.iload_n 1, 1) := by decide +kernel
theorem dX5_scan_154 : decode cX5_scan 154 = .ok (.iload_n 2, 1) := by decide +kernel
theorem dX5_scan_155 : decode cX5_scan 155 = .ok (.invokevirtual 158, 3) := by decide +kernel
theorem dX5_scan_158 : decode cX5_scan 158 = .ok (.goto 28, 3) := by decide +kernel
theorem dX5_scan_161 : decode cX5_scan 161 = .ok (.aload_n 0, 1) := by decide +kernel
theorem dX5_scan_162 : decode cX5_scan 162 = .ok (.getfield 26, 3) := by decide +kernel
theorem dX5_scan_165 : decode cX5_scan 165 = .ok (.iload_n 1, 1) := by decide +kernel
theorem dX5_scan_166 : decode cX5_scan 166 = .ok (.baload, 1) := by decide +kernel
theorem dX5_scan_167 : decode cX5_scan 167 = .ok (.ifCond .ne 19, 3) := by decide +kernel
theorem dX5_scan_170 : decode cX5_scan 170 = .ok (.iload_n 2, 1) := by decide +kernel
theorem dX5_scan_171 : decode cX5_scan 171 = .ok (.ifCond .eq 8, 3) := by decide +kernel
theorem dX5_scan_174 : decode cX5_scan 174 = .ok (.aload_n 0, 1) := by decide +kernel
theorem dX5_scan_175 : decode cX5_scan 175 = .ok (.iload_n 1, 1) := by decide +kernel
theorem dX5_scan_176 : decode cX5_scan 176 = .ok (.invokevirtual 162, 3) := by decide +kernel
theorem dX5_scan_179 : decode cX5_scan 179 = .ok (.aload_n 0, 1) := by decide +kernel
theorem dX5_scan_180 : decode cX5_scan 180 = .ok (.getfield 20, 3) := by decide +kernel
theorem dX5_scan_183 : decode cX5_scan 183 = .ok (.iload_n 1, 1) := by decide +kernel
theorem dX5_scan_184 : decode cX5_scan 184 = .ok (.iconst 0, 1) := by decide +kernel
theorem dX5_scan_185 : decode cX5_scan 185 = .ok (.iastore, 1) := by decide +kernel
theorem dX5_scan_186 : decode cX5_scan 186 = .ok (.return_, 1) := by decide +kernel
theorem dX5_hits_0 : decode cX5_hits 0 = .ok (.iload_n 2, 1) := by decide +kernel
theorem dX5_hits_1 : decode cX5_hits 1 = .ok (.ifCond .eq 8, 3) := by decide +kernel
theorem dX5_hits_4 : decode cX5_hits 4 = .ok (.aload_n 0, 1) := by decide +kernel
theorem dX5_hits_5 : decode cX5_hits 5 = .ok (.iload_n 1, 1) := by decide +kernel
theorem dX5_hits_6 : decode cX5_hits 6 = .ok (.invokevirtual 166, 3) := by decide +kernel
theorem dX5_hits_9 : decode cX5_hits 9 = .ok (.aload_n 0, 1) := by decide +kernel
theorem dX5_hits_10 : decode cX5_hits 10 = .ok (.getfield 20, 3) := by decide +kernel
theorem dX5_hits_13 : decode cX5_hits 13 = .ok (.iload_n 1, 1) := by decide +kernel
theorem dX5_hits_14 : decode cX5_hits 14 = .ok (.iconst 2, 1) := by decide +kernel
theorem dX5_hits_15 : decode cX5_hits 15 = .ok (.iastore, 1) := by decide +kernel
theorem dX5_hits_16 : decode cX5_hits 16 = .ok (.return_, 1) := by decide +kernel
theorem dX5_pass_0 : decode cX5_pass 0 = .ok (.aload_n 0, 1) := by decide +kernel
theorem dX5_pass_1 : decode cX5_pass 1 = .ok (.getfield 74, 3) := by decide +kernel
theorem dX5_pass_4 : decode cX5_pass 4 = .ok (.aload_n 0, 1) := by decide +kernel
theorem dX5_pass_5 : decode cX5_pass 5 = .ok (.getfield 61, 3) := by decide +kernel
theorem dX5_pass_8 : decode cX5_pass 8 = .ok (.irem, 1) := by decide +kernel
theorem dX5_pass_9 : decode cX5_pass 9 = .ok (.istore_n 2, 1) := by decide +kernel
theorem dX5_pass_10 : decode cX5_pass 10 = .ok (.iconst 0, 1) := by decide +kernel
theorem dX5_pass_11 : decode cX5_pass 11 = .ok (.istore_n 3, 1) := by decide +kernel
theorem dX5_pass_12 : decode cX5_pass 12 = .ok (.iload_n 3, 1) := by decide +kernel
theorem dX5_pass_13 : decode cX5_pass 13 = .ok (.aload_n 0, 1) := by decide +kernel
theorem dX5_pass_14 : decode cX5_pass 14 = .ok (.getfield 64, 3) := by decide +kernel
theorem dX5_pass_17 : decode cX5_pass 17 = .ok (.if_icmp .ge 22, 3) := by decide +kernel
theorem dX5_pass_20 : decode cX5_pass 20 = .ok (.aload_n 0, 1) := by decide +kernel
theorem dX5_pass_21 : decode cX5_pass 21 = .ok (.iload_n 2, 1) := by decide +kernel
theorem dX5_pass_22 : decode cX5_pass 22 = .ok (.aload_n 0, 1) := by decide +kernel
theorem dX5_pass_23 : decode cX5_pass 23 = .ok (.getfield 64, 3) := by decide +kernel
theorem dX5_pass_26 : decode cX5_pass 26 = .ok (.imul, 1) := by decide +kernel
theorem dX5_pass_27 : decode cX5_pass 27 = .ok (.iload_n 3, 1) := by decide +kernel
theorem dX5_pass_28 : decode cX5_pass 28 = .ok (.iadd, 1) := by decide +kernel
theorem dX5_pass_29 : decode cX5_pass 29 = .ok (.iload_n 1, 1) := by decide +kernel
theorem dX5_pass_30 : decode cX5_pass 30 = .ok (.invokevirtual 169, 3) := by decide +kernel
theorem dX5_pass_33 : decode cX5_pass 33 = .ok (.iinc 3 1, 3) := by decide +kernel
theorem dX5_pass_36 : decode cX5_pass 36 = .ok (.goto (-24), 3) := by decide +kernel
theorem dX5_pass_39 : decode cX5_pass 39 = .ok (.aload_n 0, 1) := by decide +kernel
theorem dX5_pass_40 : decode cX5_pass 40 = .ok (.dup, 1) := by decide +kernel
theorem dX5_pass_41 : decode cX5_pass 41 = .ok (.getfield 74, 3) := by decide +kernel
theorem dX5_pass_44 : decode cX5_pass 44 = .ok (.iconst 1, 1) := by decide +kernel
theorem dX5_pass_45 : decode cX5_pass 45 = .ok (.iadd, 1) := by decide +kernel
theorem dX5_pass_46 : decode cX5_pass 46 = .ok (.putfield 74, 3) := by decide +kernel
theorem dX5_pass_49 : decode cX5_pass 49 = .ok (.return_, 1) := by decide +kernel
theorem dX5_tick_0 : decode cX5_tick 0 = .ok (.iload_n 1, 1) := by decide +kernel
theorem dX5_tick_1 : decode cX5_tick 1 = .ok (.iconst 1, 1) := by decide +kernel
theorem dX5_tick_2 : decode cX5_tick 2 = .ok (.sipush 1000, 3) := by decide +kernel
theorem dX5_tick_5 : decode cX5_tick 5 = .ok (.invokestatic 92, 3) := by decide +kernel
theorem dX5_tick_8 : decode cX5_tick 8 = .ok (.ifCond .ne 6, 3) := by decide +kernel
theorem dX5_tick_11 : decode cX5_tick 11 = .ok (.bipush (-2), 2) := by decide +kernel
theorem dX5_tick_13 : decode cX5_tick 13 = .ok (.ireturn, 1) := by decide +kernel
theorem dX5_tick_14 : decode cX5_tick 14 = .ok (.iconst 0, 1) := by decide +kernel
theorem dX5_tick_15 : decode cX5_tick 15 = .ok (.istore_n 2, 1) := by decide +kernel
theorem dX5_tick_16 : decode cX5_tick 16 = .ok (.iload_n 2, 1) := by decide +kernel
theorem dX5_tick_17 : decode cX5_tick 17 = .ok (.iload_n 1, 1) := by decide +kernel
theorem dX5_tick_18 : decode cX5_tick 18 = .ok (.if_icmp .ge 14, 3) := by decide +kernel
theorem dX5_tick_21 : decode cX5_tick 21 = .ok (.aload_n 0, 1) := by decide +kernel
theorem dX5_tick_22 : decode cX5_tick 22 = .ok (.iconst 1, 1) := by decide +kernel
theorem dX5_tick_23 : decode cX5_tick 23 = .ok (.invokevirtual 172, 3) := by decide +kernel
theorem dX5_tick_26 : decode cX5_tick 26 = .ok (.iinc 2 1, 3) := by decide +kernel
theorem dX5_tick_29 : decode cX5_tick 29 = .ok (.goto (-13), 3) := by decide +kernel
theorem dX5_tick_32 : decode cX5_tick 32 = .ok (.aload_n 0, 1) := by decide +kernel
theorem dX5_tick_33 : decode cX5_tick 33 = .ok (.getfield 74, 3) := by decide +kernel
theorem dX5_tick_36 : decode cX5_tick 36 = .ok (.ireturn, 1) := by decide +kernel
theorem dX5_noKey_0 : decode cX5_noKey 0 = .ok (.iload_n 1, 1) := by decide +kernel
theorem dX5_noKey_1 : decode cX5_noKey 1 = .ok (.iconst 0, 1) := by decide +kernel
theorem dX5_noKey_2 : decode cX5_noKey 2 = .ok (.aload_n 0, 1) := by decide +kernel
theorem dX5_noKey_3 : decode cX5_noKey 3 = .ok (.invokevirtual 96, 3) := by decide +kernel
theorem dX5_noKey_6 : decode cX5_noKey 6 = .ok (.iconst 1, 1) := by decide +kernel
theorem dX5_noKey_7 : decode cX5_noKey 7 = .ok (.isub, 1) := by decide +kernel
theorem dX5_noKey_8 : decode cX5_noKey 8 = .ok (.invokestatic 92, 3) := by decide +kernel
theorem dX5_noKey_11 : decode cX5_noKey 11 = .ok (.ifCond .ne 7, 3) := by decide +kernel
theorem dX5_noKey_14 : decode cX5_noKey 14 = .ok (.iconst 1, 1) := by decide +kernel
theorem dX5_noKey_15 : decode cX5_noKey 15 = .ok (.goto 4, 3) := by decide +kernel
theorem dX5_noKey_18 : decode cX5_noKey 18 = .ok (.iconst 0, 1) := by decide +kernel
theorem dX5_noKey_19 : decode cX5_noKey 19 = .ok (.ireturn, 1) := by decide +kernel
theorem dX5_setKey_0 : decode cX5_setKey 0 = .ok (.aload_n 0, 1) := by decide +kernel
theorem dX5_setKey_1 : decode cX5_setKey 1 = .ok (.iload_n 1, 1) := by decide +kernel
theorem dX5_setKey_2 : decode cX5_setKey 2 = .ok (.invokevirtual 176, 3) := by decide +kernel
theorem dX5_setKey_5 : decode cX5_setKey 5 = .ok (.ifCond .eq 5, 3) := by decide +kernel
theorem dX5_setKey_8 : decode cX5_setKey 8 = .ok (.iconst (-1), 1) := by decide +kernel
theorem dX5_setKey_9 : decode cX5_setKey 9 = .ok (.ireturn, 1) := by decide +kernel
theorem dX5_setKey_10 : decode cX5_setKey 10 = .ok (.iload_n 2, 1) := by decide +kernel
theorem dX5_setKey_11 : decode cX5_setKey 11 = .ok (.iconst 0, 1) := by decide +kernel
theorem dX5_setKey_12 : decode cX5_setKey 12 = .ok (.iconst 2, 1) := by decide +kernel
theorem dX5_setKey_13 : decode cX5_setKey 13 = .ok (.invokestatic 92, 3) := by decide +kernel
theorem dX5_setKey_16 : decode cX5_setKey 16 = .ok (.ifCond .ne 6, 3) := by decide +kernel
theorem dX5_setKey_19 : decode cX5_setKey 19 = .ok (.bipush (-2), 2) := by decide +kernel
theorem dX5_setKey_21 : decode cX5_setKey 21 = .ok (.ireturn, 1) := by decide +kernel
theorem dX5_setKey_22 : decode cX5_setKey 22 = .ok (.aload_n 0, 1) := by decide +kernel
theorem dX5_setKey_23 : decode cX5_setKey 23 = .ok (.getfield 16, 3) := by decide +kernel
theorem dX5_setKey_26 : decode cX5_setKey 26 = .ok (.iload_n 1, 1) := by decide +kernel
theorem dX5_setKey_27 : decode cX5_setKey 27 = .ok (.iaload, 1) := by decide +kernel
theorem dX5_setKey_28 : decode cX5_setKey 28 = .ok (.istore_n 3, 1) := by decide +kernel
theorem dX5_setKey_29 : decode cX5_setKey 29 = .ok (.aload_n 0, 1) := by decide +kernel
theorem dX5_setKey_30 : decode cX5_setKey 30 = .ok (.getfield 16, 3) := by decide +kernel
theorem dX5_setKey_33 : decode cX5_setKey 33 = .ok (.iload_n 1, 1) := by decide +kernel
theorem dX5_setKey_34 : decode cX5_setKey 34 = .ok (.iload_n 2, 1) := by decide +kernel
theorem dX5_setKey_35 : decode cX5_setKey 35 = .ok (.iastore, 1) := by decide +kernel
theorem dX5_setKey_36 : decode cX5_setKey 36 = .ok (.aload_n 0, 1) := by decide +kernel
theorem dX5_setKey_37 : decode cX5_setKey 37 = .ok (.invokevirtual 89, 3) := by decide +kernel
theorem dX5_setKey_40 : decode cX5_setKey 40 = .ok (.iload_n 3, 1) := by decide +kernel
theorem dX5_setKey_41 : decode cX5_setKey 41 = .ok (.ireturn, 1) := by decide +kernel
theorem dX5_pressed_0 : decode cX5_pressed 0 = .ok (.iconst 0, 1) := by decide +kernel
theorem dX5_pressed_1 : decode cX5_pressed 1 = .ok (.istore_n 1, 1) := by decide +kernel
theorem dX5_pressed_2 : decode cX5_pressed 2 = .ok (.iconst 0, 1) := by decide +kernel
theorem dX5_pressed_3 : decode cX5_pressed 3 = .ok (.istore_n 2, 1) := by decide +kernel
theorem dX5_pressed_4 : decode cX5_pressed 4 = .ok (.iload_n 2, 1) := by decide +kernel
theorem dX5_pressed_5 : decode cX5_pressed 5 = .ok (.aload_n 0, 1) := by decide +kernel
theorem dX5_pressed_6 : decode cX5_pressed 6 = .ok (.invokevirtual 96, 3) := by decide +kernel
theorem dX5_pressed_9 : decode cX5_pressed 9 = .ok (.if_icmp .ge 26, 3) := by decide +kernel
theorem dX5_pressed_12 : decode cX5_pressed 12 = .ok (.iload_n 1, 1) := by decide +kernel
theorem dX5_pressed_13 : decode cX5_pressed 13 = .ok (.aload_n 0, 1) := by decide +kernel
theorem dX5_pressed_14 : decode cX5_pressed 14 = .ok (.getfield 16, 3) := by decide +kernel
theorem dX5_pressed_17 : decode cX5_pressed 17 = .ok (.iload_n 2, 1) := by decide +kernel
theorem dX5_pressed_18 : decode cX5_pressed 18 = .ok (.iaload, 1) := by decide +kernel
theorem dX5_pressed_19 : decode cX5_pressed 19 = .ok (.ifCond .le 7, 3) := by decide +kernel
theorem dX5_pressed_22 : decode cX5_pressed 22 = .ok (.iconst 1, 1) := by decide +kernel
theorem dX5_pressed_23 : decode cX5_pressed 23 = .ok (.goto 4, 3) := by decide +kernel
theorem dX5_pressed_26 : decode cX5_pressed 26 = .ok (.iconst 0, 1) := by decide +kernel
theorem dX5_pressed_27 : decode cX5_pressed 27 = .ok (.iadd, 1) := by decide +kernel
