theorem dX0_init_0 : decode cX0_init 0 = .ok (.aload_n 0, 1) := by decide +kernel
theorem dX0_init_1 : decode cX0_init 1 = .ok (.invokespecial 3, 3) := by decide +kernel
theorem dX0_init_4 : decode cX0_init 4 = .ok (.aload_n 0, 1) := by decide +kernel
theorem dX0_init_5 : decode cX0_init 5 = .ok (.bipush 16, 2) := by decide +kernel
theorem dX0_init_7 : decode cX0_init 7 = .ok (.newarray .int, 2) := by decide +kernel
theorem dX0_init_9 : decode cX0_init 9 = .ok (.putfield 9, 3) := by decide +kernel
theorem dX0_init_12 : decode cX0_init 12 = .ok (.aload_n 0, 1) := by decide +kernel
theorem dX0_init_13 : decode cX0_init 13 = .ok (.bipush 16, 2) := by decide +kernel
theorem dX0_init_15 : decode cX0_init 15 = .ok (.newarray .int, 2) := by decide +kernel
theorem dX0_init_17 : decode cX0_init 17 = .ok (.putfield 15, 3) := by decide +kernel
theorem dX0_init_20 : decode cX0_init 20 = .ok (.aload_n 0, 1) := by decide +kernel
theorem dX0_init_21 : decode cX0_init 21 = .ok (.bipush 16, 2) := by decide +kernel
theorem dX0_init_23 : decode cX0_init 23 = .ok (.newarray .int, 2) := by decide +kernel
theorem dX0_init_25 : decode cX0_init 25 = .ok (.putfield 18, 3) := by decide +kernel
theorem dX0_init_28 : decode cX0_init 28 = .ok (.aload_n 0, 1) := by decide +kernel
theorem dX0_init_29 : decode cX0_init 29 = .ok (.iconst 0, 1) := by decide +kernel
theorem dX0_init_30 : decode cX0_init 30 = .ok (.putfield 21, 3) := by decide +kernel
theorem dX0_init_33 : decode cX0_init 33 = .ok (.return_, 1) := by decide +kernel
theorem dX0_empty_0 : decode cX0_empty 0 = .ok (.aload_n 0, 1) := by decide +kernel
theorem dX0_empty_1 : decode cX0_empty 1 = .ok (.iconst 0, 1) := by decide +kernel
theorem dX0_empty_2 : decode cX0_empty 2 = .ok (.putfield 21, 3) := by decide +kernel
theorem dX0_empty_5 : decode cX0_empty 5 = .ok (.return_, 1) := by decide +kernel
theorem dX0_write_0 : decode cX0_write 0 = .ok (.aload_n 0, 1) := by decide +kernel
theorem dX0_write_1 : decode cX0_write 1 = .ok (.getfield 21, 3) := by decide +kernel
theorem dX0_write_4 : decode cX0_write 4 = .ok (.bipush 16, 2) := by decide +kernel
theorem dX0_write_6 : decode cX0_write 6 = .ok (.invokestatic 25, 3) := by decide +kernel
theorem dX0_write_9 : decode cX0_write 9 = .ok (.istore 4, 2) := by decide +kernel
theorem dX0_write_11 : decode cX0_write 11 = .ok (.aload_n 0, 1) := by decide +kernel
theorem dX0_write_12 : decode cX0_write 12 = .ok (.getfield 9, 3) := by decide +kernel
theorem dX0_write_15 : decode cX0_write 15 = .ok (.iload 4, 2) := by decide +kernel
theorem dX0_write_17 : decode cX0_write 17 = .ok (.iload_n 1, 1) := by decide +kernel
theorem dX0_write_18 : decode cX0_write 18 = .ok (.iastore, 1) := by decide +kernel
theorem dX0_write_19 : decode cX0_write 19 = .ok (.aload_n 0, 1) := by decide +kernel
theorem dX0_write_20 : decode cX0_write 20 = .ok (.getfield 15, 3) := by decide +kernel
theorem dX0_write_23 : decode cX0_write 23 = .ok (.iload 4, 2) := by decide +kernel
theorem dX0_write_25 : decode cX0_write 25 = .ok (.iload_n 2, 1) := by decide +kernel
theorem dX0_write_26 : decode cX0_write 26 = .ok (.iastore, 1) := by decide +kernel
theorem dX0_write_27 : decode cX0_write 27 = .ok (.aload_n 0, 1) := by decide +kernel
theorem dX0_write_28 : decode cX0_write 28 = .ok (.getfield 18, 3) := by decide +kernel
theorem dX0_write_31 : decode cX0_write 31 = .ok (.iload 4, 2) := by decide +kernel
theorem dX0_write_33 : decode cX0_write 33 = .ok (.iload_n 3, 1) := by decide +kernel
theorem dX0_write_34 : decode cX0_write 34 = .ok (.iastore, 1) := by decide +kernel
theorem dX0_write_35 : decode cX0_write 35 = .ok (.aload_n 0, 1) := by decide +kernel
theorem dX0_write_36 : decode cX0_write 36 = .ok (.dup, 1) := by decide +kernel
theorem dX0_write_37 : decode cX0_write 37 = .ok (.getfield 21, 3) := by decide +kernel
theorem dX0_write_40 : decode cX0_write 40 = .ok (.iconst 1, 1) := by decide +kernel
theorem dX0_write_41 : decode cX0_write 41 = .ok (.iadd, 1) := by decide +kernel
theorem dX0_write_42 : decode cX0_write 42 = .ok (.putfield 21, 3) := by decide +kernel
theorem dX0_write_45 : decode cX0_write 45 = .ok (.return_, 1) := by decide +kernel
theorem dX0_size_0 : decode cX0_size 0 = .ok (.aload_n 0, 1) := by decide +kernel
theorem dX0_size_1 : decode cX0_size 1 = .ok (.getfield 21, 3) := by decide +kernel
theorem dX0_size_4 : decode cX0_size 4 = .ok (.bipush 16, 2) := by decide +kernel
theorem dX0_size_6 : decode cX0_size 6 = .ok (.invokestatic 31, 3) := by decide +kernel
theorem dX0_size_9 : decode cX0_size 9 = .ok (.ireturn, 1) := by decide +kernel
theorem dX0_place_0 : decode cX0_place 0 = .ok (.aload_n 0, 1) := by decide +kernel
theorem dX0_place_1 : decode cX0_place 1 = .ok (.getfield 21, 3) := by decide +kernel
theorem dX0_place_4 : decode cX0_place 4 = .ok (.iconst 1, 1) := by decide +kernel
theorem dX0_place_5 : decode cX0_place 5 = .ok (.isub, 1) := by decide +kernel
theorem dX0_place_6 : decode cX0_place 6 = .ok (.iload_n 1, 1) := by decide +kernel
theorem dX0_place_7 : decode cX0_place 7 = .ok (.isub, 1) := by decide +kernel
theorem dX0_place_8 : decode cX0_place 8 = .ok (.bipush 16, 2) := by decide +kernel
theorem dX0_place_10 : decode cX0_place 10 = .ok (.invokestatic 25, 3) := by decide +kernel
theorem dX0_place_13 : decode cX0_place 13 = .ok (.ireturn, 1) := by decide +kernel
theorem dX1_init_0 : decode cX1_init 0 = .ok (.aload_n 0, 1) := by decide +kernel
theorem dX1_init_1 : decode cX1_init 1 = .ok (.invokespecial 3, 3) := by decide +kernel
theorem dX1_init_4 : decode cX1_init 4 = .ok (.aload_n 0, 1) := by decide +kernel
theorem dX1_init_5 : decode cX1_init 5 = .ok (.bipush 64, 2) := by decide +kernel
theorem dX1_init_7 : decode cX1_init 7 = .ok (.newarray .int, 2) := by decide +kernel
theorem dX1_init_9 : decode cX1_init 9 = .ok (.putfield 9, 3) := by decide +kernel
theorem dX1_init_12 : decode cX1_init 12 = .ok (.aload_n 0, 1) := by decide +kernel
theorem dX1_init_13 : decode cX1_init 13 = .ok (.new 15, 3) := by decide +kernel
theorem dX1_init_16 : decode cX1_init 16 = .ok (.dup, 1) := by decide +kernel
theorem dX1_init_17 : decode cX1_init 17 = .ok (.invokespecial 17, 3) := by decide +kernel
theorem dX1_init_20 : decode cX1_init 20 = .ok (.putfield 18, 3) := by decide +kernel
theorem dX1_init_23 : decode cX1_init 23 = .ok (.aload_n 0, 1) := by decide +kernel
theorem dX1_init_24 : decode cX1_init 24 = .ok (.new 15, 3) := by decide +kernel
theorem dX1_init_27 : decode cX1_init 27 = .ok (.dup, 1) := by decide +kernel
theorem dX1_init_28 : decode cX1_init 28 = .ok (.invokespecial 17, 3) := by decide +kernel
theorem dX1_init_31 : decode cX1_init 31 = .ok (.putfield 22, 3) := by decide +kernel
theorem dX1_init_34 : decode cX1_init 34 = .ok (.aload_n 0, 1) := by decide +kernel
theorem dX1_init_35 : decode cX1_init 35 = .ok (.iconst 4, 1) := by decide +kernel
theorem dX1_init_36 : decode cX1_init 36 = .ok (.putfield 25, 3) := by decide +kernel
theorem dX1_init_39 : decode cX1_init 39 = .ok (.aload_n 0, 1) := by decide +kernel
theorem dX1_init_40 : decode cX1_init 40 = .ok (.iconst 4, 1) := by decide +kernel
theorem dX1_init_41 : decode cX1_init 41 = .ok (.putfield 29, 3) := by decide +kernel
theorem dX1_init_44 : decode cX1_init 44 = .ok (.aload_n 0, 1) := by decide +kernel
theorem dX1_init_45 : decode cX1_init 45 = .ok (.iconst 0, 1) := by decide +kernel
theorem dX1_init_46 : decode cX1_init 46 = .ok (.putfield 32, 3) := by decide +kernel
theorem dX1_init_49 : decode cX1_init 49 = .ok (.return_, 1) := by decide +kernel
theorem dX1_size_0 : decode cX1_size 0 = .ok (.aload_n 0, 1) := by decide +kernel
theorem dX1_size_1 : decode cX1_size 1 = .ok (.getfield 25, 3) := by decide +kernel
theorem dX1_size_4 : decode cX1_size 4 = .ok (.aload_n 0, 1) := by decide +kernel
theorem dX1_size_5 : decode cX1_size 5 = .ok (.getfield 29, 3) := by decide +kernel
theorem dX1_size_8 : decode cX1_size 8 = .ok (.imul, 1) := by decide +kernel
theorem dX1_size_9 : decode cX1_size 9 = .ok (.ireturn, 1) := by decide +kernel
theorem dX1_has_0 : decode cX1_has 0 = .ok (.iload_n 1, 1) := by decide +kernel
theorem dX1_has_1 : decode cX1_has 1 = .ok (.ifCond .lt 15, 3) := by decide +kernel
theorem dX1_has_4 : decode cX1_has 4 = .ok (.iload_n 1, 1) := by decide +kernel
theorem dX1_has_5 : decode cX1_has 5 = .ok (.aload_n 0, 1) := by decide +kernel
theorem dX1_has_6 : decode cX1_has 6 = .ok (.invokevirtual 36, 3) := by decide +kernel
theorem dX1_has_9 : decode cX1_has 9 = .ok (.if_icmp .ge 7, 3) := by decide +kernel
theorem dX1_has_12 : decode cX1_has 12 = .ok (.iconst 1, 1) := by decide +kernel
theorem dX1_has_13 : decode cX1_has 13 = .ok (.goto 4, 3) := by decide +kernel
theorem dX1_has_16 : decode cX1_has 16 = .ok (.iconst 0, 1) := by decide +kernel
theorem dX1_has_17 : decode cX1_has 17 = .ok (.ireturn, 1) := by decide +kernel
theorem dX1_layOut_0 : decode cX1_layOut 0 = .ok (.aload_n 0, 1) := by decide +kernel
theorem dX1_layOut_1 : decode cX1_layOut 1 = .ok (.iload_n 1, 1) := by decide +kernel
theorem dX1_layOut_2 : decode cX1_layOut 2 = .ok (.putfield 25, 3) := by decide +kernel
theorem dX1_layOut_5 : decode cX1_layOut 5 = .ok (.aload_n 0, 1) := by decide +kernel
theorem dX1_layOut_6 : decode cX1_layOut 6 = .ok (.iload_n 2, 1) := by decide +kernel
theorem dX1_layOut_7 : decode cX1_layOut 7 = .ok (.putfield 29, 3) := by decide +kernel
theorem dX1_layOut_10 : decode cX1_layOut 10 = .ok (.aload_n 0, 1) := by decide +kernel
theorem dX1_layOut_11 : decode cX1_layOut 11 = .ok (.invokevirtual 40, 3) := by decide +kernel
theorem dX1_layOut_14 : decode cX1_layOut 14 = .ok (.return_, 1) := by decide +kernel
theorem dX1_lift_0 : decode cX1_lift 0 = .ok (.iconst 0, 1) := by decide +kernel
theorem dX1_lift_1 : decode cX1_lift 1 = .ok (.istore_n 1, 1) := by decide +kernel
theorem dX1_lift_2 : decode cX1_lift 2 = .ok (.iload_n 1, 1) := by decide +kernel
theorem dX1_lift_3 : decode cX1_lift 3 = .ok (.bipush 64, 2) := by decide +kernel
theorem dX1_lift_5 : decode cX1_lift 5 = .ok (.if_icmp .ge 16, 3) := by decide +kernel
theorem dX1_lift_8 : decode cX1_lift 8 = .ok (.aload_n 0, 1) := by decide +kernel
theorem dX1_lift_9 : decode cX1_lift 9 = .ok (.getfield 9, 3) := by decide +kernel
theorem dX1_lift_12 : decode cX1_lift 12 = .ok (.iload_n 1, 1) := by decide +kernel
theorem dX1_lift_13 : decode cX1_lift 13 = .ok (.iconst 0, 1) := by decide +kernel
theorem dX1_lift_14 : decode cX1_lift 14 = .ok (.iastore, 1) := by decide +kernel
theorem dX1_lift_15 : decode cX1_lift 15 = .ok (.iinc 1 1, 3) := by decide +kernel
theorem dX1_lift_18 : decode cX1_lift 18 = .ok (.goto (-16), 3) := by decide +kernel
theorem dX1_lift_21 : decode cX1_lift 21 = .ok (.aload_n 0, 1) := by decide +kernel
theorem dX1_lift_22 : decode cX1_lift 22 = .ok (.getfield 18, 3) := by decide +kernel
theorem dX1_lift_25 : decode cX1_lift 25 = .ok (.invokevirtual 43, 3) := by decide +kernel
theorem dX1_lift_28 : decode cX1_lift 28 = .ok (.aload_n 0, 1) := by decide +kernel
theorem dX1_lift_29 : decode cX1_lift 29 = .ok (.getfield 22, 3) := by decide +kernel
theorem dX1_lift_32 : decode cX1_lift 32 = .ok (.invokevirtual 43, 3) := by decide +kernel
theorem dX1_lift_35 : decode cX1_lift 35 = .ok (.return_, 1) := by decide +kernel
theorem dX1_move_0 : decode cX1_move 0 = .ok (.aload_n 0, 1) := by decide +kernel
theorem dX1_move_1 : decode cX1_move 1 = .ok (.getfield 9, 3) := by decide +kernel
theorem dX1_move_4 : decode cX1_move 4 = .ok (.iload_n 1, 1) := by decide +kernel
theorem dX1_move_5 : decode cX1_move 5 = .ok (.iload_n 2, 1) := by decide +kernel
theorem dX1_move_6 : decode cX1_move 6 = .ok (.iastore, 1) := by decide +kernel
theorem dX1_move_7 : decode cX1_move 7 = .ok (.aload_n 0, 1) := by decide +kernel
theorem dX1_move_8 : decode cX1_move 8 = .ok (.getfield 18, 3) := by decide +kernel
theorem dX1_move_11 : decode cX1_move 11 = .ok (.iload_n 1, 1) := by decide +kernel
theorem dX1_move_12 : decode cX1_move 12 = .ok (.aload_n 0, 1) := by decide +kernel
theorem dX1_move_13 : decode cX1_move 13 = .ok (.getfield 29, 3) := by decide +kernel
theorem dX1_move_16 : decode cX1_move 16 = .ok (.idiv, 1) := by decide +kernel
theorem dX1_move_17 : decode cX1_move 17 = .ok (.iload_n 1, 1) := by decide +kernel
theorem dX1_move_18 : decode cX1_move 18 = .ok (.aload_n 0, 1) := by decide +kernel
theorem dX1_move_19 : decode cX1_move 19 = .ok (.getfield 29, 3) := by decide +kernel
theorem dX1_move_22 : decode cX1_move 22 = .ok (.irem, 1) := by decide +kernel
theorem dX1_move_23 : decode cX1_move 23 = .ok (.iload_n 2, 1) := by decide +kernel
theorem dX1_move_24 : decode cX1_move 24 = .ok (.iconst 1, 1) := by decide +kernel
theorem dX1_move_25 : decode cX1_move 25 = .ok (.if_icmp .lt 7, 3) := by decide +kernel
theorem dX1_move_28 : decode cX1_move 28 = .ok (.iconst 1, 1) := by decide +kernel
theorem dX1_move_29 : decode cX1_move 29 = .ok (.goto 4, 3) := by decide +kernel
theorem dX1_move_32 : decode cX1_move 32 = .ok (.iconst 0, 1) := by decide +kernel
theorem dX1_move_33 : decode cX1_move 33 = .ok (.invokevirtual 46, 3) := by decide +kernel
theorem dX1_move_36 : decode cX1_move 36 = .ok (.aload_n 0, 1) := by decide +kernel
theorem dX1_move_37 : decode cX1_move 37 = .ok (.getfield 22, 3) := by decide +kernel
theorem dX1_move_40 : decode cX1_move 40 = .ok (.iload_n 1, 1) := by decide +kernel
theorem dX1_move_41 : decode cX1_move 41 = .ok (.aload_n 0, 1) := by decide +kernel
theorem dX1_move_42 : decode cX1_move 42 = .ok (.getfield 29, 3) := by decide +kernel
theorem dX1_move_45 : decode cX1_move 45 = .ok (.idiv, 1) := by decide +kernel
theorem dX1_move_46 : decode cX1_move 46 = .ok (.iload_n 1, 1) := by decide +kernel
theorem dX1_move_47 : decode cX1_move 47 = .ok (.aload_n 0, 1) := by decide +kernel
theorem dX1_move_48 : decode cX1_move 48 = .ok (.getfield 29, 3) := by decide +kernel
theorem dX1_move_51 : decode cX1_move 51 = .ok (.irem, 1) := by decide +kernel
theorem dX1_move_52 : decode cX1_move 52 = .ok (.iload_n 2, 1) := by decide +kernel
theorem dX1_move_53 : decode cX1_move 53 = .ok (.iconst 2, 1) := by decide +kernel
theorem dX1_move_54 : decode cX1_move 54 = .ok (.if_icmp .ne 7, 3) := by decide +kernel
theorem dX1_move_57 : decode cX1_move 57 = .ok (.iconst 1, 1) := by decide +kernel
theorem dX1_move_58 : decode cX1_move 58 = .ok (.goto 4, 3) := by decide +kernel
theorem dX1_move_61 : decode cX1_move 61 = .ok (.iconst 0, 1) := by decide +kernel
theorem dX1_move_62 : decode cX1_move 62 = .ok (.invokevirtual 46, 3) := by decide +kernel
theorem dX1_move_65 : decode cX1_move 65 = .ok (.return_, 1) := by decide +kernel
theorem dX1_pressed_0 : decode cX1_pressed 0 = .ok (.iconst 0, 1) := by decide +kernel
theorem dX1_pressed_1 : decode cX1_pressed 1 = .ok (.istore_n 1, 1) := by decide +kernel
theorem dX1_pressed_2 : decode cX1_pressed 2 = .ok (.iconst 0, 1) := by decide +kernel
theorem dX1_pressed_3 : decode cX1_pressed 3 = .ok (.istore_n 2, 1) := by decide +kernel
theorem dX1_pressed_4 : decode cX1_pressed 4 = .ok (.iload_n 2, 1) := by decide +kernel
theorem dX1_pressed_5 : decode cX1_pressed 5 = .ok (.aload_n 0, 1) := by decide +kernel
theorem dX1_pressed_6 : decode cX1_pressed 6 = .ok (.invokevirtual 36, 3) := by decide +kernel
theorem dX1_pressed_9 : decode cX1_pressed 9 = .ok (.if_icmp .ge 29, 3) := by decide +kernel
theorem dX1_pressed_12 : decode cX1_pressed 12 = .ok (.iload_n 1, 1) := by decide +kernel
theorem dX1_pressed_13 : decode cX1_pressed 13 = .ok (.aload_n 0, 1) := by decide +kernel
theorem dX1_pressed_14 : decode cX1_pressed 14 = .ok (.getfield 9, 3) := by decide +kernel
theorem dX1_pressed_17 : decode cX1_pressed 17 = .ok (.iload_n 2, 1) := by decide +kernel
theorem dX1_pressed_18 : decode cX1_pressed 18 = .ok (.iaload, 1) := by decide +kernel
theorem dX1_pressed_19 : decode cX1_pressed 19 = .ok (.ifCond .eq 7, 3) := by decide +kernel
theorem dX1_pressed_22 : decode cX1_pressed 22 = .ok (.iconst 1, 1) := by decide +kernel
theorem dX1_pressed_23 : decode cX1_pressed 23 = .ok (.goto 4, 3) := by decide +kernel
theorem dX1_pressed_26 : decode cX1_pressed 26 = .ok (.iconst 0, 1) := by decide +kernel
theorem dX1_pressed_27 : decode cX1_pressed 27 = .ok (.invokestatic 50, 3) := by decide +kernel
theorem dX1_pressed_30 : decode cX1_pressed 30 = .ok (.iadd, 1) := by decide +kernel
theorem dX1_pressed_31 : decode cX1_pressed 31 = .ok (.istore_n 1, 1) := by decide +kernel
theorem dX1_pressed_32 : decode cX1_pressed 32 = .ok (.iinc 2 1, 3) := by decide +kernel
theorem dX1_pressed_35 : decode cX1_pressed 35 = .ok (.goto (-31), 3) := by decide +kernel
theorem dX1_pressed_38 : decode cX1_pressed 38 = .ok (.iload_n 1, 1) := by decide +kernel
theorem dX1_pressed_39 : decode cX1_pressed 39 = .ok (.ireturn, 1) := by decide +kernel
theorem dX1_seen_0 : decode cX1_seen 0 = .ok (.aload_n 0, 1) := by decide +kernel
theorem dX1_seen_1 : decode cX1_seen 1 = .ok (.getfield 32, 3) := by decide +kernel
theorem dX1_seen_4 : decode cX1_seen 4 = .ok (.ifCond .eq 12, 3) := by decide +kernel
theorem dX1_seen_7 : decode cX1_seen 7 = .ok (.aload_n 1, 1) := by decide +kernel
theorem dX1_seen_8 : decode cX1_seen 8 = .ok (.getfield 54, 3) := by decide +kernel
theorem dX1_seen_11 : decode cX1_seen 11 = .ok (.iload_n 2, 1) := by decide +kernel
theorem dX1_seen_12 : decode cX1_seen 12 = .ok (.iaload, 1) := by decide +kernel
theorem dX1_seen_13 : decode cX1_seen 13 = .ok (.goto 9, 3) := by decide +kernel
theorem dX1_seen_16 : decode cX1_seen 16 = .ok (.aload_n 1, 1) := by decide +kernel
theorem dX1_seen_17 : decode cX1_seen 17 = .ok (.getfield 57, 3) := by decide +kernel
theorem dX1_seen_20 : decode cX1_seen 20 = .ok (.iload_n 2, 1) := by decide +kernel
theorem dX1_seen_21 : decode cX1_seen 21 = .ok (.iaload, 1) := by decide +kernel
theorem dX1_seen_22 : decode cX1_seen 22 = .ok (.ireturn, 1) := by decide +kernel
theorem dX1_firstSeen_0 : decode cX1_firstSeen 0 = .ok (.aload_n 0, 1) := by decide +kernel
theorem dX1_firstSeen_1 : decode cX1_firstSeen 1 = .ok (.aload_n 0, 1) := by decide +kernel
theorem dX1_firstSeen_2 : decode cX1_firstSeen 2 = .ok (.getfield 18, 3) := by decide +kernel
theorem dX1_firstSeen_5 : decode cX1_firstSeen 5 = .ok (.iload_n 1, 1) := by decide +kernel
theorem dX1_firstSeen_6 : decode cX1_firstSeen 6 = .ok (.aload_n 0, 1) := by decide +kernel
theorem dX1_firstSeen_7 : decode cX1_firstSeen 7 = .ok (.getfield 29, 3) := by decide +kernel
theorem dX1_firstSeen_10 : decode cX1_firstSeen 10 = .ok (.idiv, 1) := by decide +kernel
theorem dX1_firstSeen_11 : decode cX1_firstSeen 11 = .ok (.invokevirtual 60, 3) := by decide +kernel
theorem dX1_firstSeen_14 : decode cX1_firstSeen 14 = .ok (.iload_n 1, 1) := by decide +kernel
theorem dX1_firstSeen_15 : decode cX1_firstSeen 15 = .ok (.aload_n 0, 1) := by decide +kernel
theorem dX1_firstSeen_16 : decode cX1_firstSeen 16 = .ok (.getfield 29, 3) := by decide +kernel
theorem dX1_firstSeen_19 : decode cX1_firstSeen 19 = .ok (.irem, 1) := by decide +kernel
theorem dX1_firstSeen_20 : decode cX1_firstSeen 20 = .ok (.invokestatic 64, 3) := by decide +kernel
theorem dX1_firstSeen_23 : decode cX1_firstSeen 23 = .ok (.ireturn, 1) := by decide +kernel
theorem dX1_secondSeen_0 : decode cX1_secondSeen 0 = .ok (.aload_n 0, 1) := by decide +kernel
theorem dX1_secondSeen_1 : decode cX1_secondSeen 1 = .ok (.aload_n 0, 1) := by decide +kernel
theorem dX1_secondSeen_2 : decode cX1_secondSeen 2 = .ok (.getfield 22, 3) := by decide +kernel
theorem dX1_secondSeen_5 : decode cX1_secondSeen 5 = .ok (.iload_n 1, 1) := by decide +kernel
theorem dX1_secondSeen_6 : decode cX1_secondSeen 6 = .ok (.aload_n 0, 1) := by decide +kernel
theorem dX1_secondSeen_7 : decode cX1_secondSeen 7 = .ok (.getfield 29, 3) := by decide +kernel
theorem dX1_secondSeen_10 : decode cX1_secondSeen 10 = .ok (.idiv, 1) := by decide +kernel
theorem dX1_secondSeen_11 : decode cX1_secondSeen 11 = .ok (.invokevirtual 60, 3) := by decide +kernel
theorem dX1_secondSeen_14 : decode cX1_secondSeen 14 = .ok (.iload_n 1, 1) := by decide +kernel
theorem dX1_secondSeen_15 : decode cX1_secondSeen 15 = .ok (.aload_n 0, 1) := by decide +kernel
theorem dX1_secondSeen_16 : decode cX1_secondSeen 16 = .ok (.getfield 29, 3) := by decide +kernel
theorem dX1_secondSeen_19 : decode cX1_secondSeen 19 = .ok (.irem, 1) := by decide +kernel
theorem dX1_secondSeen_20 : decode cX1_secondSeen 20 = .ok (.invokestatic 64, 3) := by decide +kernel
theorem dX1_secondSeen_23 : decode cX1_secondSeen 23 = .ok (.ireturn, 1) := by decide +kernel
theorem dX1_isGhost_0 : decode cX1_isGhost 0 = .ok (.aload_n 0, 1) := by decide +kernel
theorem dX1_isGhost_1 : decode cX1_isGhost 1 = .ok (.iload_n 1, 1) := by decide +kernel
theorem dX1_isGhost_2 : decode cX1_isGhost 2 = .ok (.aload_n 0, 1) := by decide +kernel
theorem dX1_isGhost_3 : decode cX1_isGhost 3 = .ok (.getfield 29, 3) := by decide +kernel
theorem dX1_isGhost_6 : decode cX1_isGhost 6 = .ok (.idiv, 1) := by decide +kernel
theorem dX1_isGhost_7 : decode cX1_isGhost 7 = .ok (.invokevirtual 68, 3) := by decide +kernel
theorem dX1_isGhost_10 : decode cX1_isGhost 10 = .ok (.iload_n 1, 1) := by decide +kernel
theorem dX1_isGhost_11 : decode cX1_isGhost 11 = .ok (.aload_n 0, 1) := by decide +kernel
theorem dX1_isGhost_12 : decode cX1_isGhost 12 = .ok (.getfield 29, 3) := by decide +kernel
theorem dX1_isGhost_15 : decode cX1_isGhost 15 = .ok (.irem, 1) := by decide +kernel
theorem dX1_isGhost_16 : decode cX1_isGhost 16 = .ok (.invokestatic 64, 3) := by decide +kernel
theorem dX1_isGhost_19 : decode cX1_isGhost 19 = .ok (.ireturn, 1) := by decide +kernel
theorem dX1_isDoubtful_0 : decode cX1_isDoubtful 0 = .ok (.iload_n 1, 1) := by decide +kernel
theorem dX1_isDoubtful_1 : decode cX1_isDoubtful 1 = .ok (.aload_n 0, 1) := by decide +kernel
theorem dX1_isDoubtful_2 : decode cX1_isDoubtful 2 = .ok (.getfield 29, 3) := by decide +kernel
theorem dX1_isDoubtful_5 : decode cX1_isDoubtful 5 = .ok (.idiv, 1) := by decide +kernel
theorem dX1_isDoubtful_6 : decode cX1_isDoubtful 6 = .ok (.istore_n 2, 1) := by decide +kernel
theorem dX1_isDoubtful_7 : decode cX1_isDoubtful 7 = .ok (.iconst 1, 1) := by decide +kernel
theorem dX1_isDoubtful_8 : decode cX1_isDoubtful 8 = .ok (.iload_n 1, 1) := by decide +kernel
theorem dX1_isDoubtful_9 : decode cX1_isDoubtful 9 = .ok (.aload_n 0, 1) := by decide +kernel
theorem dX1_isDoubtful_10 : decode cX1_isDoubtful 10 = .ok (.getfield 29, 3) := by decide +kernel
theorem dX1_isDoubtful_13 : decode cX1_isDoubtful 13 = .ok (.irem, 1) := by decide +kernel
theorem dX1_isDoubtful_14 : decode cX1_isDoubtful 14 = .ok (.ishl, 1) := by decide +kernel
theorem dX1_isDoubtful_15 : decode cX1_isDoubtful 15 = .ok (.istore_n 3, 1) := by decide +kernel
theorem dX1_isDoubtful_16 : decode cX1_isDoubtful 16 = .ok (.iconst 0, 1) := by decide +kernel
theorem dX1_isDoubtful_17 : decode cX1_isDoubtful 17 = .ok (.istore 4, 2) := by decide +kernel
theorem dX1_isDoubtful_19 : decode cX1_isDoubtful 19 = .ok (.iload 4, 2) := by decide +kernel
theorem dX1_isDoubtful_21 : decode cX1_isDoubtful 21 = .ok (.aload_n 0, 1) := by decide +kernel
theorem dX1_isDoubtful_22 : decode cX1_isDoubtful 22 = .ok (.getfield 25, 3) := by decide +kernel
theorem dX1_isDoubtful_25 : decode cX1_isDoubtful 25 = .ok (.if_icmp .ge 52, 3) := by decide +kernel
theorem dX1_isDoubtful_28 : decode cX1_isDoubtful 28 = .ok (.aload_n 0, 1) := by decide +kernel
theorem dX1_isDoubtful_29 : decode cX1_isDoubtful 29 = .ok (.aload_n 0, 1) := by decide +kernel
theorem dX1_isDoubtful_30 : decode cX1_isDoubtful 30 = .ok (.getfield 18, 3) := by decide +kernel
theorem dX1_isDoubtful_33 : decode cX1_isDoubtful 33 = .ok (.iload_n 2, 1) := by decide +kernel
theorem dX1_isDoubtful_34 : decode cX1_isDoubtful 34 = .ok (.invokevirtual 60, 3) := by decide +kernel
theorem dX1_isDoubtful_37 : decode cX1_isDoubtful 37 = .ok (.aload_n 0, 1) := by decide +kernel
theorem dX1_isDoubtful_38 : decode cX1_isDoubtful 38 = .ok (.aload_n 0, 1) := by decide +kernel
theorem dX1_isDoubtful_39 : decode cX1_isDoubtful 39 = .ok (.getfield 18, 3) := by decide +kernel
theorem dX1_isDoubtful_42 : decode cX1_isDoubtful 42 = .ok (.iload 4, 2) := by decide +kernel
theorem dX1_isDoubtful_44 : decode cX1_isDoubtful 44 = .ok (.invokevirtual 60, 3) := by decide +kernel
theorem dX1_isDoubtful_47 : decode cX1_isDoubtful 47 = .ok (.iand, 1) := by decide +kernel
theorem dX1_isDoubtful_48 : decode cX1_isDoubtful 48 = .ok (.istore 5, 2) := by decide +kernel
theorem dX1_isDoubtful_50 : decode cX1_isDoubtful 50 = .ok (.iload 4, 2) := by decide +kernel
theorem dX1_isDoubtful_52 : decode cX1_isDoubtful 52 = .ok (.iload_n 2, 1) := by decide +kernel
theorem dX1_isDoubtful_53 : decode cX1_isDoubtful 53 = .ok (.if_icmp .eq 18, 3) := by decide +kernel
theorem dX1_isDoubtful_56 : decode cX1_isDoubtful 56 = .ok (.iload 5, 2) := by decide +kernel
theorem dX1_isDoubtful_58 : decode cX1_isDoubtful 58 = .ok (.iload_n 3, 1) := by decide +kernel
theorem dX1_isDoubtful_59 : decode cX1_isDoubtful 59 = .ok (.iand, 1) := by decide +kernel
theorem dX1_isDoubtful_60 : decode cX1_isDoubtful 60 = .ok (.ifCond .eq 11, 3) := by decide +kernel
theorem dX1_isDoubtful_63 : decode cX1_isDoubtful 63 = .ok (.iload 5, 2) := by decide +kernel
theorem dX1_isDoubtful_65 : decode cX1_isDoubtful 65 = .ok (.iload_n 3, 1) := by decide +kernel
theorem dX1_isDoubtful_66 : decode cX1_isDoubtful 66 = .ok (.if_icmp .eq 5, 3) := by decide +kernel
theorem dX1_isDoubtful_69 : decode cX1_isDoubtful 69 = .ok (.iconst 1, 1) := by decide +kernel
theorem dX1_isDoubtful_70 : decode cX1_isDoubtful 70 = .ok (.ireturn, 1) := by decide +kernel
theorem dX1_isDoubtful_71 : decode cX1_isDoubtful 71 = .ok (.iinc 4 1, 3) := by decide +kernel
theorem dX1_isDoubtful_74 : decode cX1_isDoubtful 74 = .ok (.goto (-55), 3) := by decide +kernel
theorem dX1_isDoubtful_77 : decode cX1_isDoubtful 77 = .ok (.iconst 0, 1) := by decide +kernel
theorem dX1_isDoubtful_78 : decode cX1_isDoubtful 78 = .ok (.ireturn, 1) := by decide +kernel
theorem dX1_doubtful_0 : decode cX1_doubtful 0 = .ok (.iconst 0, 1) := by decide +kernel
theorem dX1_doubtful_1 : decode cX1_doubtful 1 = .ok (.istore_n 1, 1) := by decide +kernel
theorem dX1_doubtful_2 : decode cX1_doubtful 2 = .ok (.iconst 0, 1) := by decide +kernel
theorem dX1_doubtful_3 : decode cX1_doubtful 3 = .ok (.istore_n 2, 1) := by decide +kernel
theorem dX1_doubtful_4 : decode cX1_doubtful 4 = .ok (.iload_n 2, 1) := by decide +kernel
theorem dX1_doubtful_5 : decode cX1_doubtful 5 = .ok (.aload_n 0, 1) := by decide +kernel
theorem dX1_doubtful_6 : decode cX1_doubtful 6 = .ok (.invokevirtual 36, 3) := by decide +kernel
theorem dX1_doubtful_9 : decode cX1_doubtful 9 = .ok (.if_icmp .ge 20, 3) := by decide +kernel
theorem dX1_doubtful_12 : decode cX1_doubtful 12 = .ok (.iload_n 1, 1) := by decide +kernel
theorem dX1_doubtful_13 : decode cX1_doubtful 13 = .ok (.aload_n 0, 1) := by decide +kernel
theorem dX1_doubtful_14 : decode cX1_doubtful 14 = .ok (.iload_n 2, 1) := by decide +kernel
theorem dX1_doubtful_15 : decode cX1_doubtful 15 = .ok (.invokevirtual 72, 3) := by decide +kernel
theorem dX1_doubtful_18 : decode cX1_doubtful 18 = .ok (.invokestatic 50, 3) := by decide +kernel
theorem dX1_doubtful_21 : decode cX1_doubtful 21 = .ok (.iadd, 1) := by decide +kernel
theorem dX1_doubtful_22 : decode cX1_doubtful 22 = .ok (.istore_n 1, 1) := by decide +kernel
theorem dX1_doubtful_23 : decode cX1_doubtful 23 = .ok (.iinc 2 1, 3) := by decide +kernel
theorem dX1_doubtful_26 : decode cX1_doubtful 26 = .ok (.goto (-22), 3) := by decide +kernel
theorem dX1_doubtful_29 : decode cX1_doubtful 29 = .ok (.iload_n 1, 1) := by decide +kernel
theorem dX1_doubtful_30 : decode cX1_doubtful 30 = .ok (.ireturn, 1) := by decide +kernel
theorem dX1_ghosts_0 : decode cX1_ghosts 0 = .ok (.iconst 0, 1) := by decide +kernel
theorem dX1_ghosts_1 : decode cX1_ghosts 1 = .ok (.istore_n 1, 1) := by decide +kernel
theorem dX1_ghosts_2 : decode cX1_ghosts 2 = .ok (.iconst 0, 1) := by decide +kernel
theorem dX1_ghosts_3 : decode cX1_ghosts 3 = .ok (.istore_n 2, 1) := by decide +kernel
theorem dX1_ghosts_4 : decode cX1_ghosts 4 = .ok (.iload_n 2, 1) := by decide +kernel
theorem dX1_ghosts_5 : decode cX1_ghosts 5 = .ok (.aload_n 0, 1) := by decide +kernel
theorem dX1_ghosts_6 : decode cX1_ghosts 6 = .ok (.getfield 25, 3) := by decide +kernel
theorem dX1_ghosts_9 : decode cX1_ghosts 9 = .ok (.if_icmp .ge 20, 3) := by decide +kernel
theorem dX1_ghosts_12 : decode cX1_ghosts 12 = .ok (.iload_n 1, 1) := by decide +kernel
theorem dX1_ghosts_13 : decode cX1_ghosts 13 = .ok (.aload_n 0, 1) := by decide +kernel
theorem dX1_ghosts_14 : decode cX1_ghosts 14 = .ok (.iload_n 2, 1) := by decide +kernel
theorem dX1_ghosts_15 : decode cX1_ghosts 15 = .ok (.invokevirtual 68, 3) := by decide +kernel
theorem dX1_ghosts_18 : decode cX1_ghosts 18 = .ok (.invokestatic 76, 3) := by decide +kernel
theorem dX1_ghosts_21 : decode cX1_ghosts 21 = .ok (.iadd, 1) := by decide +kernel
theorem dX1_ghosts_22 : decode cX1_ghosts 22 = .ok (.istore_n 1, 1) := by decide +kernel
theorem dX1_ghosts_23 : decode cX1_ghosts 23 = .ok (.iinc 2 1, 3) := by decide +kernel
theorem dX1_ghosts_26 : decode cX1_ghosts 26 = .ok (.goto (-22), 3) := by decide +kernel
theorem dX1_ghosts_29 : decode cX1_ghosts 29 = .ok (.iload_n 1, 1) := by decide +kernel
theorem dX1_ghosts_30 : decode cX1_ghosts 30 = .ok (.ireturn, 1) := by decide +kernel
theorem dX1_ghostsWithout_0 : decode cX1_ghostsWithout 0 = .ok (.aload_n 0, 1) := by decide +kernel
theorem dX1_ghostsWithout_1 : decode cX1_ghostsWithout 1 = .ok (.getfield 9, 3) := by decide +kernel
theorem dX1_ghostsWithout_4 : decode cX1_ghostsWithout 4 = .ok (.iload_n 1, 1) := by decide +kernel
theorem dX1_ghostsWithout_5 : decode cX1_ghostsWithout 5 = .ok (.iaload, 1) := by decide +kernel
theorem dX1_ghostsWithout_6 : decode cX1_ghostsWithout 6 = .ok (.istore_n 2, 1) := by decide +kernel
theorem dX1_ghostsWithout_7 : decode cX1_ghostsWithout 7 = .ok (.aload_n 0, 1) := by decide +kernel
theorem dX1_ghostsWithout_8 : decode cX1_ghostsWithout 8 = .ok (.iload_n 1, 1) := by decide +kernel
theorem dX1_ghostsWithout_9 : decode cX1_ghostsWithout 9 = .ok (.iconst 0, 1) := by decide +kernel
theorem dX1_ghostsWithout_10 : decode cX1_ghostsWithout 10 = .ok (.invokevirtual 81, 3) := by decide +kernel
theorem dX1_ghostsWithout_13 : decode cX1_ghostsWithout 13 = .ok (.aload_n 0, 1) := by decide +kernel
theorem dX1_ghostsWithout_14 : decode cX1_ghostsWithout 14 = .ok (.invokevirtual 85, 3) := by decide +kernel
theorem dX1_ghostsWithout_17 : decode cX1_ghostsWithout 17 = .ok (.istore_n 3, 1) := by decide +kernel
theorem dX1_ghostsWithout_18 : decode cX1_ghostsWithout 18 = .ok (.aload_n 0, 1) := by decide +kernel
theorem dX1_ghostsWithout_19 : decode cX1_ghostsWithout 19 = .ok (.iload_n 1, 1) := by decide +kernel
theorem dX1_ghostsWithout_20 : decode cX1_ghostsWithout 20 = .ok (.iload_n 2, 1) := by decide +kernel
theorem dX1_ghostsWithout_21 : decode cX1_ghostsWithout 21 = .ok (.invokevirtual 81, 3) := by decide +kernel
theorem dX1_ghostsWithout_24 : decode cX1_ghostsWithout 24 = .ok (.iload_n 3, 1) := by decide +kernel
theorem dX1_ghostsWithout_25 : decode cX1_ghostsWithout 25 = .ok (.ireturn, 1) := by decide +kernel
theorem dX1_ghostsIn_0 : decode cX1_ghostsIn 0 = .ok (.aload_n 0, 1) := by decide +kernel
theorem dX1_ghostsIn_1 : decode cX1_ghostsIn 1 = .ok (.aload_n 0, 1) := by decide +kernel
theorem dX1_ghostsIn_2 : decode cX1_ghostsIn 2 = .ok (.getfield 18, 3) := by decide +kernel
theorem dX1_ghostsIn_5 : decode cX1_ghostsIn 5 = .ok (.iload_n 1, 1) := by decide +kernel
theorem dX1_ghostsIn_6 : decode cX1_ghostsIn 6 = .ok (.invokevirtual 60, 3) := by decide +kernel
theorem dX1_ghostsIn_9 : decode cX1_ghostsIn 9 = .ok (.aload_n 0, 1) := by decide +kernel
theorem dX1_ghostsIn_10 : decode cX1_ghostsIn 10 = .ok (.getfield 18, 3) := by decide +kernel
theorem dX1_ghostsIn_13 : decode cX1_ghostsIn 13 = .ok (.getfield 54, 3) := by decide +kernel
theorem dX1_ghostsIn_16 : decode cX1_ghostsIn 16 = .ok (.iload_n 1, 1) := by decide +kernel
theorem dX1_ghostsIn_17 : decode cX1_ghostsIn 17 = .ok (.iaload, 1) := by decide +kernel
theorem dX1_ghostsIn_18 : decode cX1_ghostsIn 18 = .ok (.iconst (-1), 1) := by decide +kernel
theorem dX1_ghostsIn_19 : decode cX1_ghostsIn 19 = .ok (.ixor, 1) := by decide +kernel
theorem dX1_ghostsIn_20 : decode cX1_ghostsIn 20 = .ok (.iand, 1) := by decide +kernel
theorem dX1_ghostsIn_21 : decode cX1_ghostsIn 21 = .ok (.aload_n 0, 1) := by decide +kernel
theorem dX1_ghostsIn_22 : decode cX1_ghostsIn 22 = .ok (.aload_n 0, 1) := by decide +kernel
theorem dX1_ghostsIn_23 : decode cX1_ghostsIn 23 = .ok (.getfield 22, 3) := by decide +kernel
theorem dX1_ghostsIn_26 : decode cX1_ghostsIn 26 = .ok (.iload_n 1, 1) := by decide +kernel
theorem dX1_ghostsIn_27 : decode cX1_ghostsIn 27 = .ok (.invokevirtual 60, 3) := by decide +kernel
theorem dX1_ghostsIn_30 : decode cX1_ghostsIn 30 = .ok (.aload_n 0, 1) := by decide +kernel
theorem dX1_ghostsIn_31 : decode cX1_ghostsIn 31 = .ok (.getfield 22, 3) := by decide +kernel
theorem dX1_ghostsIn_34 : decode cX1_ghostsIn 34 = .ok (.getfield 54, 3) := by decide +kernel
theorem dX1_ghostsIn_37 : decode cX1_ghostsIn 37 = .ok (.iload_n 1, 1) := by decide +kernel
theorem dX1_ghostsIn_38 : decode cX1_ghostsIn 38 = .ok (.iaload, 1) := by decide +kernel
theorem dX1_ghostsIn_39 : decode cX1_ghostsIn 39 = .ok (.iconst (-1), 1) := by decide +kernel
theorem dX1_ghostsIn_40 : decode cX1_ghostsIn 40 = .ok (.ixor, 1) := by decide +kernel
theorem dX1_ghostsIn_41 : decode cX1_ghostsIn 41 = .ok (.iand, 1) := by decide +kernel
theorem dX1_ghostsIn_42 : decode cX1_ghostsIn 42 = .ok (.ior, 1) := by decide +kernel
theorem dX1_ghostsIn_43 : decode cX1_ghostsIn 43 = .ok (.ireturn, 1) := by decide +kernel
theorem dX1_contains_0 : decode cX1_contains 0 = .ok (.iload_n 0, 1) := by decide +kernel
theorem dX1_contains_1 : decode cX1_contains 1 = .ok (.iload_n 1, 1) := by decide +kernel
theorem dX1_contains_2 : decode cX1_contains 2 = .ok (.ishr, 1) := by decide +kernel
theorem dX1_contains_3 : decode cX1_contains 3 = .ok (.iconst 1, 1) := by decide +kernel
theorem dX1_contains_4 : decode cX1_contains 4 = .ok (.iand, 1) := by decide +kernel
theorem dX1_contains_5 : decode cX1_contains 5 = .ok (.ifCond .eq 7, 3) := by decide +kernel
theorem dX1_contains_8 : decode cX1_contains 8 = .ok (.iconst 1, 1) := by decide +kernel
theorem dX1_contains_9 : decode cX1_contains 9 = .ok (.goto 4, 3) := by decide +kernel
theorem dX1_contains_12 : decode cX1_contains 12 = .ok (.iconst 0, 1) := by decide +kernel
theorem dX1_contains_13 : decode cX1_contains 13 = .ok (.ireturn, 1) := by decide +kernel
theorem dX2_init_0 : decode cX2_init 0 = .ok (.aload_n 0, 1) := by decide +kernel
theorem dX2_init_1 : decode cX2_init 1 = .ok (.invokespecial 3, 3) := by decide +kernel
theorem dX2_init_4 : decode cX2_init 4 = .ok (.aload_n 0, 1) := by decide +kernel
theorem dX2_init_5 : decode cX2_init 5 = .ok (.bipush 8, 2) := by decide +kernel
theorem dX2_init_7 : decode cX2_init 7 = .ok (.newarray .int, 2) := by decide +kernel
theorem dX2_init_9 : decode cX2_init 9 = .ok (.putfield 9, 3) := by decide +kernel
theorem dX2_init_12 : decode cX2_init 12 = .ok (.aload_n 0, 1) := by decide +kernel
theorem dX2_init_13 : decode cX2_init 13 = .ok (.bipush 8, 2) := by decide +kernel
theorem dX2_init_15 : decode cX2_init 15 = .ok (.newarray .int, 2) := by decide +kernel
theorem dX2_init_17 : decode cX2_init 17 = .ok (.putfield 15, 3) := by decide +kernel
theorem dX2_init_20 : decode cX2_init 20 = .ok (.return_, 1) := by decide +kernel
theorem dX2_open_0 : decode cX2_open 0 = .ok (.iconst 0, 1) := by decide +kernel
theorem dX2_open_1 : decode cX2_open 1 = .ok (.istore_n 1, 1) := by decide +kernel
theorem dX2_open_2 : decode cX2_open 2 = .ok (.iload_n 1, 1) := by decide +kernel
theorem dX2_open_3 : decode cX2_open 3 = .ok (.bipush 8, 2) := by decide +kernel
theorem dX2_open_5 : decode cX2_open 5 = .ok (.if_icmp .ge 23, 3) := by decide +kernel
theorem dX2_open_8 : decode cX2_open 8 = .ok (.aload_n 0, 1) := by decide +kernel
theorem dX2_open_9 : decode cX2_open 9 = .ok (.getfield 9, 3) := by decide +kernel
theorem dX2_open_12 : decode cX2_open 12 = .ok (.iload_n 1, 1) := by decide +kernel
theorem dX2_open_13 : decode cX2_open 13 = .ok (.iconst 0, 1) := by decide +kernel
theorem dX2_open_14 : decode cX2_open 14 = .ok (.iastore, 1) := by decide +kernel
theorem dX2_open_15 : decode cX2_open 15 = .ok (.aload_n 0, 1) := by decide +kernel
theorem dX2_open_16 : decode cX2_open 16 = .ok (.getfield 15, 3) := by decide +kernel
theorem dX2_open_19 : decode cX2_open 19 = .ok (.iload_n 1, 1) := by decide +kernel
theorem dX2_open_20 : decode cX2_open 20 = .ok (.iconst 0, 1) := by decide +kernel
theorem dX2_open_21 : decode cX2_open 21 = .ok (.iastore, 1) := by decide +kernel
theorem dX2_open_22 : decode cX2_open 22 = .ok (.iinc 1 1, 3) := by decide +kernel
theorem dX2_open_25 : decode cX2_open 25 = .ok (.goto (-23), 3) := by decide +kernel
theorem dX2_open_28 : decode cX2_open 28 = .ok (.return_, 1) := by decide +kernel
theorem dX2_put_0 : decode cX2_put 0 = .ok (.iconst 1, 1) := by decide +kernel
theorem dX2_put_1 : decode cX2_put 1 = .ok (.iload_n 2, 1) := by decide +kernel
theorem dX2_put_2 : decode cX2_put 2 = .ok (.ishl, 1) := by decide +kernel
theorem dX2_put_3 : decode cX2_put 3 = .ok (.istore 4, 2) := by decide +kernel
theorem dX2_put_5 : decode cX2_put 5 = .ok (.aload_n 0, 1) := by decide +kernel
theorem dX2_put_6 : decode cX2_put 6 = .ok (.getfield 9, 3) := by decide +kernel
theorem dX2_put_9 : decode cX2_put 9 = .ok (.iload_n 1, 1) := by decide +kernel
theorem dX2_put_10 : decode cX2_put 10 = .ok (.iload_n 3, 1) := by decide +kernel
theorem dX2_put_11 : decode cX2_put 11 = .ok (.ifCond .eq 15, 3) := by decide +kernel
theorem dX2_put_14 : decode cX2_put 14 = .ok (.aload_n 0, 1) := by decide +kernel
theorem dX2_put_15 : decode cX2_put 15 = .ok (.getfield 9, 3) := by decide +kernel
theorem dX2_put_18 : decode cX2_put 18 = .ok (.iload_n 1, 1) := by decide +kernel
theorem dX2_put_19 : decode cX2_put 19 = .ok (.iaload, 1) := by decide +kernel
theorem dX2_put_20 : decode cX2_put 20 = .ok (.iload 4, 2) := by decide +kernel
theorem dX2_put_22 : decode cX2_put 22 = .ok (.ior, 1) := by decide +kernel
theorem dX2_put_23 : decode cX2_put 23 = .ok (.goto 14, 3) := by decide +kernel
theorem dX2_put_26 : decode cX2_put 26 = .ok (.aload_n 0, 1) := by decide +kernel
theorem dX2_put_27 : decode cX2_put 27 = .ok (.getfield 9, 3) := by decide +kernel
theorem dX2_put_30 : decode cX2_put 30 = .ok (.iload_n 1, 1) := by decide +kernel
theorem dX2_put_31 : decode cX2_put 31 = .ok (.iaload, 1) := by decide +kernel
theorem dX2_put_32 : decode cX2_put 32 = .ok (.iload 4, 2) := by decide +kernel
theorem dX2_put_34 : decode cX2_put 34 = .ok (.iconst (-1), 1) := by decide +kernel
theorem dX2_put_35 : decode cX2_put 35 = .ok (.ixor, 1) := by decide +kernel
theorem dX2_put_36 : decode cX2_put 36 = .ok (.iand, 1) := by decide +kernel
theorem dX2_put_37 : decode cX2_put 37 = .ok (.iastore, 1) := by decide +kernel
theorem dX2_put_38 : decode cX2_put 38 = .ok (.aload_n 0, 1) := by decide +kernel
theorem dX2_put_39 : decode cX2_put 39 = .ok (.invokevirtual 18, 3) := by decide +kernel
theorem dX2_put_42 : decode cX2_put 42 = .ok (.return_, 1) := by decide +kernel
theorem dX2_join_0 : decode cX2_join 0 = .ok (.iconst 0, 1) := by decide +kernel
theorem dX2_join_1 : decode cX2_join 1 = .ok (.istore_n 1, 1) := by decide +kernel
theorem dX2_join_2 : decode cX2_join 2 = .ok (.iload_n 1, 1) := by decide +kernel
theorem dX2_join_3 : decode cX2_join 3 = .ok (.bipush 8, 2) := by decide +kernel
theorem dX2_join_5 : decode cX2_join 5 = .ok (.if_icmp .ge 21, 3) := by decide +kernel
theorem dX2_join_8 : decode cX2_join 8 = .ok (.aload_n 0, 1) := by decide +kernel
theorem dX2_join_9 : decode cX2_join 9 = .ok (.getfield 15, 3) := by decide +kernel
theorem dX2_join_12 : decode cX2_join 12 = .ok (.iload_n 1, 1) := by decide +kernel
theorem dX2_join_13 : decode cX2_join 13 = .ok (.aload_n 0, 1) := by decide +kernel
theorem dX2_join_14 : decode cX2_join 14 = .ok (.getfield 9, 3) := by decide +kernel
theorem dX2_join_17 : decode cX2_join 17 = .ok (.iload_n 1, 1) := by decide +kernel
theorem dX2_join_18 : decode cX2_join 18 = .ok (.iaload, 1) := by decide +kernel
theorem dX2_join_19 : decode cX2_join 19 = .ok (.iastore, 1) := by decide +kernel
theorem dX2_join_20 : decode cX2_join 20 = .ok (.iinc 1 1, 3) := by decide +kernel
theorem dX2_join_23 : decode cX2_join 23 = .ok (.goto (-21), 3) := by decide +kernel
theorem dX2_join_26 : decode cX2_join 26 = .ok (.iconst 0, 1) := by decide +kernel
theorem dX2_join_27 : decode cX2_join 27 = .ok (.istore_n 1, 1) := by decide +kernel
theorem dX2_join_28 : decode cX2_join 28 = .ok (.iload_n 1, 1) := by decide +kernel
theorem dX2_join_29 : decode cX2_join 29 = .ok (.bipush 8, 2) := by decide +kernel
theorem dX2_join_31 : decode cX2_join 31 = .ok (.if_icmp .ge 16, 3) := by decide +kernel
theorem dX2_join_34 : decode cX2_join 34 = .ok (.aload_n 0, 1) := by decide +kernel
theorem dX2_join_35 : decode cX2_join 35 = .ok (.iconst 1, 1) := by decide +kernel
theorem dX2_join_36 : decode cX2_join 36 = .ok (.iload_n 1, 1) := by decide +kernel
theorem dX2_join_37 : decode cX2_join 37 = .ok (.ishl, 1) := by decide +kernel
theorem dX2_join_38 : decode cX2_join 38 = .ok (.invokevirtual 21, 3) := by decide +kernel
theorem dX2_join_41 : decode cX2_join 41 = .ok (.iinc 1 1, 3) := by decide +kernel
theorem dX2_join_44 : decode cX2_join 44 = .ok (.goto (-16), 3) := by decide +kernel
theorem dX2_join_47 : decode cX2_join 47 = .ok (.return_, 1) := by decide +kernel
theorem dX2_joinThrough_0 : decode cX2_joinThrough 0 = .ok (.iconst 0, 1) := by decide +kernel
theorem dX2_joinThrough_1 : decode cX2_joinThrough 1 = .ok (.istore_n 2, 1) := by decide +kernel
theorem dX2_joinThrough_2 : decode cX2_joinThrough 2 = .ok (.iconst 0, 1) := by decide +kernel
theorem dX2_joinThrough_3 : decode cX2_joinThrough 3 = .ok (.istore_n 3, 1) := by decide +kernel
theorem dX2_joinThrough_4 : decode cX2_joinThrough 4 = .ok (.iload_n 3, 1) := by decide +kernel
theorem dX2_joinThrough_5 : decode cX2_joinThrough 5 = .ok (.bipush 8, 2) := by decide +kernel
theorem dX2_joinThrough_7 : decode cX2_joinThrough 7 = .ok (.if_icmp .ge 29, 3) := by decide +kernel
theorem dX2_joinThrough_10 : decode cX2_joinThrough 10 = .ok (.aload_n 0, 1) := by decide +kernel
theorem dX2_joinThrough_11 : decode cX2_joinThrough 11 = .ok (.getfield 15, 3) := by decide +kernel
theorem dX2_joinThrough_14 : decode cX2_joinThrough 14 = .ok (.iload_n 3, 1) := by decide +kernel
theorem dX2_joinThrough_15 : decode cX2_joinThrough 15 = .ok (.iaload, 1) := by decide +kernel
theorem dX2_joinThrough_16 : decode cX2_joinThrough 16 = .ok (.iload_n 1, 1) := by decide +kernel
theorem dX2_joinThrough_17 : decode cX2_joinThrough 17 = .ok (.iand, 1) := by decide +kernel
theorem dX2_joinThrough_18 : decode cX2_joinThrough 18 = .ok (.ifCond .eq 12, 3) := by decide +kernel
theorem dX2_joinThrough_21 : decode cX2_joinThrough 21 = .ok (.iload_n 2, 1) := by decide +kernel
theorem dX2_joinThrough_22 : decode cX2_joinThrough 22 = .ok (.aload_n 0, 1) := by decide +kernel
theorem dX2_joinThrough_23 : decode cX2_joinThrough 23 = .ok (.getfield 15, 3) := by decide +kernel
theorem dX2_joinThrough_26 : decode cX2_joinThrough 26 = .ok (.iload_n 3, 1) := by decide +kernel
theorem dX2_joinThrough_27 : decode cX2_joinThrough 27 = .ok (.iaload, 1) := by decide +kernel
theorem dX2_joinThrough_28 : decode cX2_joinThrough 28 = .ok (.ior, 1) := by decide +kernel
theorem dX2_joinThrough_29 : decode cX2_joinThrough 29 = .ok (.istore_n 2, 1) := by decide +kernel
theorem dX2_joinThrough_30 : decode cX2_joinThrough 30 = .ok (.iinc 3 1, 3) := by decide +kernel
theorem dX2_joinThrough_33 : decode cX2_joinThrough 33 = .ok (.goto (-29), 3) := by decide +kernel
theorem dX2_joinThrough_36 : decode cX2_joinThrough 36 = .ok (.iconst 0, 1) := by decide +kernel
theorem dX2_joinThrough_37 : decode cX2_joinThrough 37 = .ok (.istore_n 3, 1) := by decide +kernel
theorem dX2_joinThrough_38 : decode cX2_joinThrough 38 = .ok (.iload_n 3, 1) := by decide +kernel
theorem dX2_joinThrough_39 : decode cX2_joinThrough 39 = .ok (.bipush 8, 2) := by decide +kernel
theorem dX2_joinThrough_41 : decode cX2_joinThrough 41 = .ok (.if_icmp .ge 27, 3) := by decide +kernel
theorem dX2_joinThrough_44 : decode cX2_joinThrough 44 = .ok (.aload_n 0, 1) := by decide +kernel
theorem dX2_joinThrough_45 : decode cX2_joinThrough 45 = .ok (.getfield 15, 3) := by decide +kernel
theorem dX2_joinThrough_48 : decode cX2_joinThrough 48 = .ok (.iload_n 3, 1) := by decide +kernel
theorem dX2_joinThrough_49 : decode cX2_joinThrough 49 = .ok (.iaload, 1) := by decide +kernel
theorem dX2_joinThrough_50 : decode cX2_joinThrough 50 = .ok (.iload_n 1, 1) := by decide +kernel
theorem dX2_joinThrough_51 : decode cX2_joinThrough 51 = .ok (.iand, 1) := by decide +kernel
theorem dX2_joinThrough_52 : decode cX2_joinThrough 52 = .ok (.ifCond .eq 10, 3) := by decide +kernel
theorem dX2_joinThrough_55 : decode cX2_joinThrough 55 = .ok (.aload_n 0, 1) := by decide +kernel
theorem dX2_joinThrough_56 : decode cX2_joinThrough 56 = .ok (.getfield 15, 3) := by decide +kernel
theorem dX2_joinThrough_59 : decode cX2_joinThrough 59 = .ok (.iload_n 3, 1) := by decide +kernel
theorem dX2_joinThrough_60 : decode cX2_joinThrough 60 = .ok (.iload_n 2, 1) := by decide +kernel
theorem dX2_joinThrough_61 : decode cX2_joinThrough 61 = .ok (.iastore, 1) := by decide +kernel
theorem dX2_joinThrough_62 : decode cX2_joinThrough 62 = .ok (.iinc 3 1, 3) := by decide +kernel
theorem dX2_joinThrough_65 : decode cX2_joinThrough 65 = .ok (.goto (-27), 3) := by decide +kernel
theorem dX2_joinThrough_68 : decode cX2_joinThrough 68 = .ok (.return_, 1) := by decide +kernel
theorem dX2_rowsJoinedWith_0 : decode cX2_rowsJoinedWith 0 = .ok (.iconst 1, 1) := by decide +kernel
theorem dX2_rowsJoinedWith_1 : decode cX2_rowsJoinedWith 1 = .ok (.iload_n 1, 1) := by decide +kernel
theorem dX2_rowsJoinedWith_2 : decode cX2_rowsJoinedWith 2 = .ok (.ishl, 1) := by decide +kernel
theorem dX2_rowsJoinedWith_3 : decode cX2_rowsJoinedWith 3 = .ok (.istore_n 2, 1) := by decide +kernel
theorem dX2_rowsJoinedWith_4 : decode cX2_rowsJoinedWith 4 = .ok (.iconst 0, 1) := by decide +kernel
theorem dX2_rowsJoinedWith_5 : decode cX2_rowsJoinedWith 5 = .ok (.istore_n 3, 1) := by decide +kernel
theorem dX2_rowsJoinedWith_6 : decode cX2_rowsJoinedWith 6 = .ok (.iload_n 3, 1) := by decide +kernel
theorem dX2_rowsJoinedWith_7 : decode cX2_rowsJoinedWith 7 = .ok (.bipush 8, 2) := by decide +kernel
theorem dX2_rowsJoinedWith_9 : decode cX2_rowsJoinedWith 9 = .ok (.if_icmp .ge 31, 3) := by decide +kernel
theorem dX2_rowsJoinedWith_12 : decode cX2_rowsJoinedWith 12 = .ok (.aload_n 0, 1) := by decide +kernel
theorem dX2_rowsJoinedWith_13 : decode cX2_rowsJoinedWith 13 = .ok (.getfield 15, 3) := by decide +kernel
theorem dX2_rowsJoinedWith_16 : decode cX2_rowsJoinedWith 16 = .ok (.iload_n 3, 1) := by decide +kernel
theorem dX2_rowsJoinedWith_17 : decode cX2_rowsJoinedWith 17 = .ok (.iaload, 1) := by decide +kernel
theorem dX2_rowsJoinedWith_18 : decode cX2_rowsJoinedWith 18 = .ok (.aload_n 0, 1) := by decide +kernel
theorem dX2_rowsJoinedWith_19 : decode cX2_rowsJoinedWith 19 = .ok (.getfield 15, 3) := by decide +kernel
theorem dX2_rowsJoinedWith_22 : decode cX2_rowsJoinedWith 22 = .ok (.iload_n 1, 1) := by decide +kernel
theorem dX2_rowsJoinedWith_23 : decode cX2_rowsJoinedWith 23 = .ok (.iaload, 1) := by decide +kernel
theorem dX2_rowsJoinedWith_24 : decode cX2_rowsJoinedWith 24 = .ok (.iand, 1) := by decide +kernel
theorem dX2_rowsJoinedWith_25 : decode cX2_rowsJoinedWith 25 = .ok (.ifCond .eq 9, 3) := by decide +kernel
theorem dX2_rowsJoinedWith_28 : decode cX2_rowsJoinedWith 28 = .ok (.iload_n 2, 1) := by decide +kernel
theorem dX2_rowsJoinedWith_29 : decode cX2_rowsJoinedWith 29 = .ok (.iconst 1, 1) := by decide +kernel
theorem dX2_rowsJoinedWith_30 : decode cX2_rowsJoinedWith 30 = .ok (.iload_n 3, 1) := by decide +kernel
theorem dX2_rowsJoinedWith_31 : decode cX2_rowsJoinedWith 31 = .ok (.ishl, 1) := by decide +kernel
theorem dX2_rowsJoinedWith_32 : decode cX2_rowsJoinedWith 32 = .ok (.ior, 1) := by decide +kernel
theorem dX2_rowsJoinedWith_33 : decode cX2_rowsJoinedWith 33 = .ok (.istore_n 2, 1) := by decide +kernel
theorem dX2_rowsJoinedWith_34 : decode cX2_rowsJoinedWith 34 = .ok (.iinc 3 1, 3) := by decide +kernel
theorem dX2_rowsJoinedWith_37 : decode cX2_rowsJoinedWith 37 = .ok (.goto (-31), 3) := by decide +kernel
theorem dX2_rowsJoinedWith_40 : decode cX2_rowsJoinedWith 40 = .ok (.iload_n 2, 1) := by decide +kernel
theorem dX2_rowsJoinedWith_41 : decode cX2_rowsJoinedWith 41 = .ok (.ireturn, 1) := by decide +kernel
theorem dX3_init_0 : decode cX3_init 0 = .ok (.aload_n 0, 1) := by decide +kernel
theorem dX3_init_1 : decode cX3_init 1 = .ok (.invokespecial 3, 3) := by decide +kernel
theorem dX3_init_4 : decode cX3_init 4 = .ok (.aload_n 0, 1) := by decide +kernel
theorem dX3_init_5 : decode cX3_init 5 = .ok (.bipush 8, 2) := by decide +kernel
theorem dX3_init_7 : decode cX3_init 7 = .ok (.newarray .int, 2) := by decide +kernel
theorem dX3_init_9 : decode cX3_init 9 = .ok (.putfield 9, 3) := by decide +kernel
theorem dX3_init_12 : decode cX3_init 12 = .ok (.aload_n 0, 1) := by decide +kernel
theorem dX3_init_13 : decode cX3_init 13 = .ok (.bipush 8, 2) := by decide +kernel
theorem dX3_init_15 : decode cX3_init 15 = .ok (.newarray .int, 2) := by decide +kernel
theorem dX3_init_17 : decode cX3_init 17 = .ok (.putfield 15, 3) := by decide +kernel
theorem dX3_init_20 : decode cX3_init 20 = .ok (.aload_n 0, 1) := by decide +kernel
theorem dX3_init_21 : decode cX3_init 21 = .ok (.bipush 8, 2) := by decide +kernel
theorem dX3_init_23 : decode cX3_init 23 = .ok (.newarray .int, 2) := by decide +kernel
theorem dX3_init_25 : decode cX3_init 25 = .ok (.putfield 18, 3) := by decide +kernel
theorem dX3_init_28 : decode cX3_init 28 = .ok (.aload_n 0, 1) := by decide +kernel
theorem dX3_init_29 : decode cX3_init 29 = .ok (.bipush 8, 2) := by decide +kernel
theorem dX3_init_31 : decode cX3_init 31 = .ok (.newarray .int, 2) := by decide +kernel
theorem dX3_init_33 : decode cX3_init 33 = .ok (.putfield 21, 3) := by decide +kernel
theorem dX3_init_36 : decode cX3_init 36 = .ok (.aload_n 0, 1) := by decide +kernel
theorem dX3_init_37 : decode cX3_init 37 = .ok (.bipush 8, 2) := by decide +kernel
theorem dX3_init_39 : decode cX3_init 39 = .ok (.newarray .boolean, 2) := by decide +kernel
theorem dX3_init_41 : decode cX3_init 41 = .ok (.putfield 24, 3) := by decide +kernel
theorem dX3_init_44 : decode cX3_init 44 = .ok (.aload_n 0, 1) := by decide +kernel
theorem dX3_init_45 : decode cX3_init 45 = .ok (.iconst 4, 1) := by decide +kernel
theorem dX3_init_46 : decode cX3_init 46 = .ok (.putfield 28, 3) := by decide +kernel
theorem dX3_init_49 : decode cX3_init 49 = .ok (.aload_n 0, 1) := by decide +kernel
theorem dX3_init_50 : decode cX3_init 50 = .ok (.iconst 0, 1) := by decide +kernel
theorem dX3_init_51 : decode cX3_init 51 = .ok (.putfield 32, 3) := by decide +kernel
theorem dX3_init_54 : decode cX3_init 54 = .ok (.aload_n 0, 1) := by decide +kernel
theorem dX3_init_55 : decode cX3_init 55 = .ok (.iconst 0, 1) := by decide +kernel
theorem dX3_init_56 : decode cX3_init 56 = .ok (.putfield 35, 3) := by decide +kernel
theorem dX3_init_59 : decode cX3_init 59 = .ok (.aload_n 0, 1) := by decide +kernel
theorem dX3_init_60 : decode cX3_init 60 = .ok (.iconst 0, 1) := by decide +kernel
theorem dX3_init_61 : decode cX3_init 61 = .ok (.putfield 38, 3) := by decide +kernel
theorem dX3_init_64 : decode cX3_init 64 = .ok (.aload_n 0, 1) := by decide +kernel
theorem dX3_init_65 : decode cX3_init 65 = .ok (.iconst 0, 1) := by decide +kernel
theorem dX3_init_66 : decode cX3_init 66 = .ok (.putfield 42, 3) := by decide +kernel
theorem dX3_init_69 : decode cX3_init 69 = .ok (.aload_n 0, 1) := by decide +kernel
theorem dX3_init_70 : decode cX3_init 70 = .ok (.aload_n 1, 1) := by decide +kernel
theorem dX3_init_71 : decode cX3_init 71 = .ok (.putfield 45, 3) := by decide +kernel
theorem dX3_init_74 : decode cX3_init 74 = .ok (.return_, 1) := by decide +kernel
theorem dX3_silence_0 : decode cX3_silence 0 = .ok (.iconst 0, 1) := by decide +kernel
theorem dX3_silence_1 : decode cX3_silence 1 = .ok (.istore_n 1, 1) := by decide +kernel
theorem dX3_silence_2 : decode cX3_silence 2 = .ok (.iload_n 1, 1) := by decide +kernel
theorem dX3_silence_3 : decode cX3_silence 3 = .ok (.bipush 8, 2) := by decide +kernel
theorem dX3_silence_5 : decode cX3_silence 5 = .ok (.if_icmp .ge 23, 3) := by decide +kernel
theorem dX3_silence_8 : decode cX3_silence 8 = .ok (.aload_n 0, 1) := by decide +kernel
theorem dX3_silence_9 : decode cX3_silence 9 = .ok (.getfield 9, 3) := by decide +kernel
theorem dX3_silence_12 : decode cX3_silence 12 = .ok (.iload_n 1, 1) := by decide +kernel
theorem dX3_silence_13 : decode cX3_silence 13 = .ok (.iconst 0, 1) := by decide +kernel
theorem dX3_silence_14 : decode cX3_silence 14 = .ok (.iastore, 1) := by decide +kernel
theorem dX3_silence_15 : decode cX3_silence 15 = .ok (.aload_n 0, 1) := by decide +kernel
theorem dX3_silence_16 : decode cX3_silence 16 = .ok (.getfield 24, 3) := by decide +kernel
theorem dX3_silence_19 : decode cX3_silence 19 = .ok (.iload_n 1, 1) := by decide +kernel
theorem dX3_silence_20 : decode cX3_silence 20 = .ok (.iconst 0, 1) := by decide +kernel
theorem dX3_silence_21 : decode cX3_silence 21 = .ok (.bastore, 1) := by decide +kernel
theorem dX3_silence_22 : decode cX3_silence 22 = .ok (.iinc 1 1, 3) := by decide +kernel
theorem dX3_silence_25 : decode cX3_silence 25 = .ok (.goto (-23), 3) := by decide +kernel
theorem dX3_silence_28 : decode cX3_silence 28 = .ok (.aload_n 0, 1) := by decide +kernel
theorem dX3_silence_29 : decode cX3_silence 29 = .ok (.iconst 0, 1) := by decide +kernel
theorem dX3_silence_30 : decode cX3_silence 30 = .ok (.putfield 35, 3) := by decide +kernel
theorem dX3_silence_33 : decode cX3_silence 33 = .ok (.aload_n 0, 1) := by decide +kernel
theorem dX3_silence_34 : decode cX3_silence 34 = .ok (.iconst 0, 1) := by decide +kernel
theorem dX3_silence_35 : decode cX3_silence 35 = .ok (.putfield 38, 3) := by decide +kernel
theorem dX3_silence_38 : decode cX3_silence 38 = .ok (.aload_n 0, 1) := by decide +kernel
theorem dX3_silence_39 : decode cX3_silence 39 = .ok (.iconst 0, 1) := by decide +kernel
theorem dX3_silence_40 : decode cX3_silence 40 = .ok (.putfield 42, 3) := by decide +kernel
theorem dX3_silence_43 : decode cX3_silence 43 = .ok (.return_, 1) := by decide +kernel
theorem dX3_limit_0 : decode cX3_limit 0 = .ok (.iload_n 1, 1) := by decide +kernel
theorem dX3_limit_1 : decode cX3_limit 1 = .ok (.istore_n 3, 1) := by decide +kernel
theorem dX3_limit_2 : decode cX3_limit 2 = .ok (.iload_n 3, 1) := by decide +kernel
theorem dX3_limit_3 : decode cX3_limit 3 = .ok (.aload_n 0, 1) := by decide +kernel
theorem dX3_limit_4 : decode cX3_limit 4 = .ok (.getfield 28, 3) := by decide +kernel
theorem dX3_limit_7 : decode cX3_limit 7 = .ok (.if_icmp .ge 24, 3) := by decide +kernel
theorem dX3_limit_10 : decode cX3_limit 10 = .ok (.aload_n 0, 1) := by decide +kernel
theorem dX3_limit_11 : decode cX3_limit 11 = .ok (.getfield 9, 3) := by decide +kernel
theorem dX3_limit_14 : decode cX3_limit 14 = .ok (.iload_n 3, 1) := by decide +kernel
theorem dX3_limit_15 : decode cX3_limit 15 = .ok (.iaload, 1) := by decide +kernel
theorem dX3_limit_16 : decode cX3_limit 16 = .ok (.ifCond .eq 9, 3) := by decide +kernel
theorem dX3_limit_19 : decode cX3_limit 19 = .ok (.aload_n 0, 1) := by decide +kernel
theorem dX3_limit_20 : decode cX3_limit 20 = .ok (.iload_n 3, 1) := by decide +kernel
theorem dX3_limit_21 : decode cX3_limit 21 = .ok (.iload_n 2, 1) := by decide +kernel
theorem dX3_limit_22 : decode cX3_limit 22 = .ok (.invokevirtual 49, 3) := by decide +kernel
theorem dX3_limit_25 : decode cX3_limit 25 = .ok (.iinc 3 1, 3) := by decide +kernel
theorem dX3_limit_28 : decode cX3_limit 28 = .ok (.goto (-26), 3) := by decide +kernel
theorem dX3_limit_31 : decode cX3_limit 31 = .ok (.aload_n 0, 1) := by decide +kernel
theorem dX3_limit_32 : decode cX3_limit 32 = .ok (.iload_n 1, 1) := by decide +kernel
theorem dX3_limit_33 : decode cX3_limit 33 = .ok (.putfield 28, 3) := by decide +kernel
theorem dX3_limit_36 : decode cX3_limit 36 = .ok (.return_, 1) := by decide +kernel
theorem dX3_sound_0 : decode cX3_sound 0 = .ok (.aload_n 0, 1) := by decide +kernel
theorem dX3_sound_1 : decode cX3_sound 1 = .ok (.iload_n 1, 1) := by decide +kernel
theorem dX3_sound_2 : decode cX3_sound 2 = .ok (.invokevirtual 53, 3) := by decide +kernel
theorem dX3_sound_5 : decode cX3_sound 5 = .ok (.istore 4, 2) := by decide +kernel
theorem dX3_sound_7 : decode cX3_sound 7 = .ok (.iload 4, 2) := by decide +kernel
theorem dX3_sound_9 : decode cX3_sound 9 = .ok (.bipush (-3), 2) := by decide +kernel
theorem dX3_sound_11 : decode cX3_sound 11 = .ok (.if_icmp .ne 9, 3) := by decide +kernel
theorem dX3_sound_14 : decode cX3_sound 14 = .ok (.aload_n 0, 1) := by decide +kernel
theorem dX3_sound_15 : decode cX3_sound 15 = .ok (.invokevirtual 57, 3) := by decide +kernel
theorem dX3_sound_18 : decode cX3_sound 18 = .ok (.istore 4, 2) := by decide +kernel
theorem dX3_sound_20 : decode cX3_sound 20 = .ok (.iload 4, 2) := by decide +kernel
theorem dX3_sound_22 : decode cX3_sound 22 = .ok (.bipush (-3), 2) := by decide +kernel
theorem dX3_sound_24 : decode cX3_sound 24 = .ok (.if_icmp .ne 35, 3) := by decide +kernel
theorem dX3_sound_27 : decode cX3_sound 27 = .ok (.aload_n 0, 1) := by decide +kernel
theorem dX3_sound_28 : decode cX3_sound 28 = .ok (.invokevirtual 61, 3) := by decide +kernel
theorem dX3_sound_31 : decode cX3_sound 31 = .ok (.istore 4, 2) := by decide +kernel
theorem dX3_sound_33 : decode cX3_sound 33 = .ok (.aload_n 0, 1) := by decide +kernel
theorem dX3_sound_34 : decode cX3_sound 34 = .ok (.dup, 1) := by decide +kernel
theorem dX3_sound_35 : decode cX3_sound 35 = .ok (.getfield 35, 3) := by decide +kernel
theorem dX3_sound_38 : decode cX3_sound 38 = .ok (.iconst 1, 1) := by decide +kernel
theorem dX3_sound_39 : decode cX3_sound 39 = .ok (.iadd, 1) := by decide +kernel
theorem dX3_sound_40 : decode cX3_sound 40 = .ok (.putfield 35, 3) := by decide +kernel
theorem dX3_sound_43 : decode cX3_sound 43 = .ok (.aload_n 0, 1) := by decide +kernel
theorem dX3_sound_44 : decode cX3_sound 44 = .ok (.getfield 45, 3) := by decide +kernel
theorem dX3_sound_47 : decode cX3_sound 47 = .ok (.iload_n 3, 1) := by decide +kernel
theorem dX3_sound_48 : decode cX3_sound 48 = .ok (.iconst 3, 1) := by decide +kernel
theorem dX3_sound_49 : decode cX3_sound 49 = .ok (.aload_n 0, 1) := by decide +kernel
theorem dX3_sound_50 : decode cX3_sound 50 = .ok (.getfield 15, 3) := by decide +kernel
theorem dX3_sound_53 : decode cX3_sound 53 = .ok (.iload 4, 2) := by decide +kernel
theorem dX3_sound_55 : decode cX3_sound 55 = .ok (.iaload, 1) := by decide +kernel
theorem dX3_sound_56 : decode cX3_sound 56 = .ok (.invokevirtual 64, 3) := by decide +kernel
theorem dX3_sound_59 : decode cX3_sound 59 = .ok (.aload_n 0, 1) := by decide +kernel
theorem dX3_sound_60 : decode cX3_sound 60 = .ok (.getfield 9, 3) := by decide +kernel
theorem dX3_sound_63 : decode cX3_sound 63 = .ok (.iload 4, 2) := by decide +kernel
theorem dX3_sound_65 : decode cX3_sound 65 = .ok (.iconst 1, 1) := by decide +kernel
theorem dX3_sound_66 : decode cX3_sound 66 = .ok (.iastore, 1) := by decide +kernel
theorem dX3_sound_67 : decode cX3_sound 67 = .ok (.aload_n 0, 1) := by decide +kernel
theorem dX3_sound_68 : decode cX3_sound 68 = .ok (.getfield 15, 3) := by decide +kernel
theorem dX3_sound_71 : decode cX3_sound 71 = .ok (.iload 4, 2) := by decide +kernel
theorem dX3_sound_73 : decode cX3_sound 73 = .ok (.iload_n 1, 1) := by decide +kernel
theorem dX3_sound_74 : decode cX3_sound 74 = .ok (.iastore, 1) := by decide +kernel
theorem dX3_sound_75 : decode cX3_sound 75 = .ok (.aload_n 0, 1) := by decide +kernel
theorem dX3_sound_76 : decode cX3_sound 76 = .ok (.getfield 18, 3) := by decide +kernel
theorem dX3_sound_79 : decode cX3_sound 79 = .ok (.iload 4, 2) := by decide +kernel
theorem dX3_sound_81 : decode cX3_sound 81 = .ok (.iload_n 2, 1) := by decide +kernel
theorem dX3_sound_82 : decode cX3_sound 82 = .ok (.iastore, 1) := by decide +kernel
theorem dX3_sound_83 : decode cX3_sound 83 = .ok (.aload_n 0, 1) := by decide +kernel
theorem dX3_sound_84 : decode cX3_sound 84 = .ok (.getfield 21, 3) := by decide +kernel
theorem dX3_sound_87 : decode cX3_sound 87 = .ok (.iload 4, 2) := by decide +kernel
theorem dX3_sound_89 : decode cX3_sound 89 = .ok (.iload_n 3, 1) := by decide +kernel
theorem dX3_sound_90 : decode cX3_sound 90 = .ok (.iastore, 1) := by decide +kernel
theorem dX3_sound_91 : decode cX3_sound 91 = .ok (.aload_n 0, 1) := by decide +kernel
theorem dX3_sound_92 : decode cX3_sound 92 = .ok (.getfield 24, 3) := by decide +kernel
theorem dX3_sound_95 : decode cX3_sound 95 = .ok (.iload 4, 2) := by decide +kernel
theorem dX3_sound_97 : decode cX3_sound 97 = .ok (.iconst 0, 1) := by decide +kernel
theorem dX3_sound_98 : decode cX3_sound 98 = .ok (.bastore, 1) := by decide +kernel
theorem dX3_sound_99 : decode cX3_sound 99 = .ok (.aload_n 0, 1) := by decide +kernel
theorem dX3_sound_100 : decode cX3_sound 100 = .ok (.getfield 45, 3) := by decide +kernel
theorem dX3_sound_103 : decode cX3_sound 103 = .ok (.iload_n 3, 1) := by decide +kernel
theorem dX3_sound_104 : decode cX3_sound 104 = .ok (.iconst 1, 1) := by decide +kernel
theorem dX3_sound_105 : decode cX3_sound 105 = .ok (.iload_n 1, 1) := by decide +kernel
theorem dX3_sound_106 : decode cX3_sound 106 = .ok (.invokevirtual 64, 3) := by decide +kernel
theorem dX3_sound_109 : decode cX3_sound 109 = .ok (.return_, 1) := by decide +kernel
theorem dX3_release_0 : decode cX3_release 0 = .ok (.aload_n 0, 1) := by decide +kernel
theorem dX3_release_1 : decode cX3_release 1 = .ok (.iload_n 1, 1) := by decide +kernel
theorem dX3_release_2 : decode cX3_release 2 = .ok (.invokevirtual 53, 3) := by decide +kernel
theorem dX3_release_5 : decode cX3_release 5 = .ok (.istore_n 3, 1) := by decide +kernel
theorem dX3_release_6 : decode cX3_release 6 = .ok (.iload_n 3, 1) := by decide +kernel
theorem dX3_release_7 : decode cX3_release 7 = .ok (.bipush (-3), 2) := by decide +kernel
theorem dX3_release_9 : decode cX3_release 9 = .ok (.if_icmp .eq 13, 3) := by decide +kernel
theorem dX3_release_12 : decode cX3_release 12 = .ok (.aload_n 0, 1) := by decide +kernel
theorem dX3_release_13 : decode cX3_release 13 = .ok (.getfield 9, 3) := by decide +kernel
theorem dX3_release_16 : decode cX3_release 16 = .ok (.iload_n 3, 1) := by decide +kernel
theorem dX3_release_17 : decode cX3_release 17 = .ok (.iaload, 1) := by decide +kernel
theorem dX3_release_18 : decode cX3_release 18 = .ok (.iconst 1, 1) := by decide +kernel
theorem dX3_release_19 : decode cX3_release 19 = .ok (.if_icmp .eq 4, 3) := by decide +kernel
theorem dX3_release_22 : decode cX3_release 22 = .ok (.return_, 1) := by decide +kernel
theorem dX3_release_23 : decode cX3_release 23 = .ok (.aload_n 0, 1) := by decide +kernel
theorem dX3_release_24 : decode cX3_release 24 = .ok (.iload_n 3, 1) := by decide +kernel
theorem dX3_release_25 : decode cX3_release 25 = .ok (.invokevirtual 70, 3) := by decide +kernel
theorem dX3_release_28 : decode cX3_release 28 = .ok (.ifCond .eq 13, 3) := by decide +kernel
theorem dX3_release_31 : decode cX3_release 31 = .ok (.aload_n 0, 1) := by decide +kernel
theorem dX3_release_32 : decode cX3_release 32 = .ok (.getfield 9, 3) := by decide +kernel
theorem dX3_release_35 : decode cX3_release 35 = .ok (.iload_n 3, 1) := by decide +kernel
theorem dX3_release_36 : decode cX3_release 36 = .ok (.iconst 2, 1) := by decide +kernel
theorem dX3_release_37 : decode cX3_release 37 = .ok (.iastore, 1) := by decide +kernel
theorem dX3_release_38 : decode cX3_release 38 = .ok (.goto 9, 3) := by decide +kernel
theorem dX3_release_41 : decode cX3_release 41 = .ok (.aload_n 0, 1) := by decide +kernel
theorem dX3_release_42 : decode cX3_release 42 = .ok (.iload_n 3, 1) := by decide +kernel
theorem dX3_release_43 : decode cX3_release 43 = .ok (.iload_n 2, 1) := by decide +kernel
theorem dX3_release_44 : decode cX3_release 44 = .ok (.invokevirtual 49, 3) := by decide +kernel
theorem dX3_release_47 : decode cX3_release 47 = .ok (.return_, 1) := by decide +kernel
theorem dX3_moveSustain_0 : decode cX3_moveSustain 0 = .ok (.iload_n 1, 1) := by decide +kernel
theorem dX3_moveSustain_1 : decode cX3_moveSustain 1 = .ok (.aload_n 0, 1) := by decide +kernel
theorem dX3_moveSustain_2 : decode cX3_moveSustain 2 = .ok (.getfield 38, 3) := by decide +kernel
theorem dX3_moveSustain_5 : decode cX3_moveSustain 5 = .ok (.if_icmp .ne 5, 3) := by decide +kernel
theorem dX3_moveSustain_8 : decode cX3_moveSustain 8 = .ok (.iconst 0, 1) := by decide +kernel
theorem dX3_moveSustain_9 : decode cX3_moveSustain 9 = .ok (.ireturn, 1) := by decide +kernel
theorem dX3_moveSustain_10 : decode cX3_moveSustain 10 = .ok (.aload_n 0, 1) := by decide +kernel
theorem dX3_moveSustain_11 : decode cX3_moveSustain 11 = .ok (.iload_n 1, 1) := by decide +kernel
theorem dX3_moveSustain_12 : decode cX3_moveSustain 12 = .ok (.putfield 38, 3) := by decide +kernel
theorem dX3_moveSustain_15 : decode cX3_moveSustain 15 = .ok (.iload_n 1, 1) := by decide +kernel
theorem dX3_moveSustain_16 : decode cX3_moveSustain 16 = .ok (.ifCond .eq 7, 3) := by decide +kernel
theorem dX3_moveSustain_19 : decode cX3_moveSustain 19 = .ok (.iconst 0, 1) := by decide +kernel
theorem dX3_moveSustain_20 : decode cX3_moveSustain 20 = .ok (.goto 8, 3) := by decide +kernel
theorem dX3_moveSustain_23 : decode cX3_moveSustain 23 = .ok (.aload_n 0, 1) := by decide +kernel
theorem dX3_moveSustain_24 : decode cX3_moveSustain 24 = .ok (.iload_n 2, 1) := by decide +kernel
theorem dX3_moveSustain_25 : decode cX3_moveSustain 25 = .ok (.invokevirtual 74, 3) := by decide +kernel
theorem dX3_moveSustain_28 : decode cX3_moveSustain 28 = .ok (.ireturn, 1) := by decide +kernel
theorem dX3_moveSostenuto_0 : decode cX3_moveSostenuto 0 = .ok (.iload_n 1, 1) := by decide +kernel
theorem dX3_moveSostenuto_1 : decode cX3_moveSostenuto 1 = .ok (.aload_n 0, 1) := by decide +kernel
theorem dX3_moveSostenuto_2 : decode cX3_moveSostenuto 2 = .ok (.getfield 42, 3) := by decide +kernel
theorem dX3_moveSostenuto_5 : decode cX3_moveSostenuto 5 = .ok (.if_icmp .ne 5, 3) := by decide +kernel
theorem dX3_moveSostenuto_8 : decode cX3_moveSostenuto 8 = .ok (.iconst 0, 1) := by decide +kernel
theorem dX3_moveSostenuto_9 : decode cX3_moveSostenuto 9 = .ok (.ireturn, 1) := by decide +kernel
theorem dX3_moveSostenuto_10 : decode cX3_moveSostenuto 10 = .ok (.aload_n 0, 1) := by decide +kernel
theorem dX3_moveSostenuto_11 : decode cX3_moveSostenuto 11 = .ok (.iload_n 1, 1) := by decide +kernel
theorem dX3_moveSostenuto_12 : decode cX3_moveSostenuto 12 = .ok (.putfield 42, 3) := by decide +kernel
theorem dX3_moveSostenuto_15 : decode cX3_moveSostenuto 15 = .ok (.iconst 0, 1) := by decide +kernel
theorem dX3_moveSostenuto_16 : decode cX3_moveSostenuto 16 = .ok (.istore_n 3, 1) := by decide +kernel
theorem dX3_moveSostenuto_17 : decode cX3_moveSostenuto 17 = .ok (.iload_n 3, 1) := by decide +kernel
theorem dX3_moveSostenuto_18 : decode cX3_moveSostenuto 18 = .ok (.aload_n 0, 1) := by decide +kernel
theorem dX3_moveSostenuto_19 : decode cX3_moveSostenuto 19 = .ok (.getfield 28, 3) := by decide +kernel
theorem dX3_moveSostenuto_22 : decode cX3_moveSostenuto 22 = .ok (.if_icmp .ge 34, 3) := by decide +kernel
theorem dX3_moveSostenuto_25 : decode cX3_moveSostenuto 25 = .ok (.aload_n 0, 1) := by decide +kernel
theorem dX3_moveSostenuto_26 : decode cX3_moveSostenuto 26 = .ok (.getfield 24, 3) := by decide +kernel
theorem dX3_moveSostenuto_29 : decode cX3_moveSostenuto 29 = .ok (.iload_n 3, 1) := by decide +kernel
theorem dX3_moveSostenuto_30 : decode cX3_moveSostenuto 30 = .ok (.iload_n 1, 1) := by decide +kernel
theorem dX3_moveSostenuto_31 : decode cX3_moveSostenuto 31 = .ok (.ifCond .eq 17, 3) := by decide +kernel
theorem dX3_moveSostenuto_34 : decode cX3_moveSostenuto 34 = .ok (.aload_n 0, 1) := by decide +kernel
theorem dX3_moveSostenuto_35 : decode cX3_moveSostenuto 35 = .ok (.getfield 9, 3) := by decide +kernel
theorem dX3_moveSostenuto_38 : decode cX3_moveSostenuto 38 = .ok (.iload_n 3, 1) := by decide +kernel
theorem dX3_moveSostenuto_39 : decode cX3_moveSostenuto 39 = .ok (.iaload, 1) := by decide +kernel
theorem dX3_moveSostenuto_40 : decode cX3_moveSostenuto 40 = .ok (.iconst 1, 1) := by decide +kernel
theorem dX3_moveSostenuto_41 : decode cX3_moveSostenuto 41 = .ok (.if_icmp .ne 7, 3) := by decide +kernel
theorem dX3_moveSostenuto_44 : decode cX3_moveSostenuto 44 = .ok (.iconst 1, 1) := by decide +kernel
theorem dX3_moveSostenuto_45 : decode cX3_moveSostenuto 45 = .ok (.goto 4, 3) := by decide +kernel
theorem dX3_moveSostenuto_48 : decode cX3_moveSostenuto 48 = .ok (.iconst 0, 1) := by decide +kernel
theorem dX3_moveSostenuto_49 : decode cX3_moveSostenuto 49 = .ok (.bastore, 1) := by decide +kernel
theorem dX3_moveSostenuto_50 : decode cX3_moveSostenuto 50 = .ok (.iinc 3 1, 3) := by decide +kernel
theorem dX3_moveSostenuto_53 : decode cX3_moveSostenuto 53 = .ok (.goto (-36), 3) := by decide +kernel
theorem dX3_moveSostenuto_56 : decode cX3_moveSostenuto 56 = .ok (.iload_n 1, 1) := by decide +kernel
theorem dX3_moveSostenuto_57 : decode cX3_moveSostenuto 57 = .ok (.ifCond .eq 11, 3) := by decide +kernel
theorem dX3_moveSostenuto_60 : decode cX3_moveSostenuto 60 = .ok (.aload_n 0, 1) := by decide +kernel
theorem dX3_moveSostenuto_61 : decode cX3_moveSostenuto 61 = .ok (.iconst 1, 1) := by decide +kernel
theorem dX3_moveSostenuto_62 : decode cX3_moveSostenuto 62 = .ok (.invokevirtual 77, 3) := by decide +kernel
theorem dX3_moveSostenuto_65 : decode cX3_moveSostenuto 65 = .ok (.goto 8, 3) := by decide +kernel
theorem dX3_moveSostenuto_68 : decode cX3_moveSostenuto 68 = .ok (.aload_n 0, 1) := by decide +kernel
theorem dX3_moveSostenuto_69 : decode cX3_moveSostenuto 69 = .ok (.iload_n 2, 1) := by decide +kernel
theorem dX3_moveSostenuto_70 : decode cX3_moveSostenuto 70 = .ok (.invokevirtual 74, 3) := by decide +kernel
theorem dX3_moveSostenuto_73 : decode cX3_moveSostenuto 73 = .ok (.ireturn, 1) := by decide +kernel
theorem dX3_withKey_0 : decode cX3_withKey 0 = .ok (.iconst 0, 1) := by decide +kernel
theorem dX3_withKey_1 : decode cX3_withKey 1 = .ok (.istore_n 2, 1) := by decide +kernel
theorem dX3_withKey_2 : decode cX3_withKey 2 = .ok (.iload_n 2, 1) := by decide +kernel
theorem dX3_withKey_3 : decode cX3_withKey 3 = .ok (.aload_n 0, 1) := by decide +kernel
theorem dX3_withKey_4 : decode cX3_withKey 4 = .ok (.getfield 28, 3) := by decide +kernel
theorem dX3_withKey_7 : decode cX3_withKey 7 = .ok (.if_icmp .ge 30, 3) := by decide +kernel
theorem dX3_withKey_10 : decode cX3_withKey 10 = .ok (.aload_n 0, 1) := by decide +kernel
theorem dX3_withKey_11 : decode cX3_withKey 11 = .ok (.getfield 9, 3) := by decide +kernel
theorem dX3_withKey_14 : decode cX3_withKey 14 = .ok (.iload_n 2, 1) := by decide +kernel
theorem dX3_withKey_15 : decode cX3_withKey 15 = .ok (.iaload, 1) := by decide +kernel
theorem dX3_withKey_16 : decode cX3_withKey 16 = .ok (.ifCond .eq 15, 3) := by decide +kernel
theorem dX3_withKey_19 : decode cX3_withKey 19 = .ok (.aload_n 0, 1) := by decide +kernel
theorem dX3_withKey_20 : decode cX3_withKey 20 = .ok (.getfield 15, 3) := by decide +kernel
theorem dX3_withKey_23 : decode cX3_withKey 23 = .ok (.iload_n 2, 1) := by decide +kernel
theorem dX3_withKey_24 : decode cX3_withKey 24 = .ok (.iaload, 1) := by decide +kernel
theorem dX3_withKey_25 : decode cX3_withKey 25 = .ok (.iload_n 1, 1) := by decide +kernel
theorem dX3_withKey_26 : decode cX3_withKey 26 = .ok (.if_icmp .ne 5, 3) := by decide +kernel
theorem dX3_withKey_29 : decode cX3_withKey 29 = .ok (.iload_n 2, 1) := by decide +kernel
theorem dX3_withKey_30 : decode cX3_withKey 30 = .ok (.ireturn, 1) := by decide +kernel
theorem dX3_withKey_31 : decode cX3_withKey 31 = .ok (.iinc 2 1, 3) := by decide +kernel
theorem dX3_withKey_34 : decode cX3_withKey 34 = .ok (.goto (-32), 3) := by decide +kernel
theorem dX3_withKey_37 : decode cX3_withKey 37 = .ok (.bipush (-3), 2) := by decide +kernel
theorem dX3_withKey_39 : decode cX3_withKey 39 = .ok (.ireturn, 1) := by decide +kernel
theorem dX3_firstFree_0 : decode cX3_firstFree 0 = .ok (.iconst 0, 1) := by decide +kernel
theorem dX3_firstFree_1 : decode cX3_firstFree 1 = .ok (.istore_n 1, 1) := by decide +kernel
theorem dX3_firstFree_2 : decode cX3_firstFree 2 = .ok (.iload_n 1, 1) := by decide +kernel
theorem dX3_firstFree_3 : decode cX3_firstFree 3 = .ok (.aload_n 0, 1) := by decide +kernel
theorem dX3_firstFree_4 : decode cX3_firstFree 4 = .ok (.getfield 28, 3) := by decide +kernel
theorem dX3_firstFree_7 : decode cX3_firstFree 7 = .ok (.if_icmp .ge 20, 3) := by decide +kernel
theorem dX3_firstFree_10 : decode cX3_firstFree 10 = .ok (.aload_n 0, 1) := by decide +kernel
theorem dX3_firstFree_11 : decode cX3_firstFree 11 = .ok (.getfield 9, 3) := by decide +kernel
theorem dX3_firstFree_14 : decode cX3_firstFree 14 = .ok (.iload_n 1, 1) := by decide +kernel
theorem dX3_firstFree_15 : decode cX3_firstFree 15 = .ok (.iaload, 1) := by decide +kernel
theorem dX3_firstFree_16 : decode cX3_firstFree 16 = .ok (.ifCond .ne 5, 3) := by decide +kernel
theorem dX3_firstFree_19 : decode cX3_firstFree 19 = .ok (.iload_n 1, 1) := by decide +kernel
theorem dX3_firstFree_20 : decode cX3_firstFree 20 = .ok (.ireturn, 1) := by decide +kernel
theorem dX3_firstFree_21 : decode cX3_firstFree 21 = .ok (.iinc 1 1, 3) := by decide +kernel
theorem dX3_firstFree_24 : decode cX3_firstFree 24 = .ok (.goto (-22), 3) := by decide +kernel
theorem dX3_firstFree_27 : decode cX3_firstFree 27 = .ok (.bipush (-3), 2) := by decide +kernel
theorem dX3_firstFree_29 : decode cX3_firstFree 29 = .ok (.ireturn, 1) := by decide +kernel
theorem dX3_victim_0 : decode cX3_victim 0 = .ok (.iconst 0, 1) := by decide +kernel
theorem dX3_victim_1 : decode cX3_victim 1 = .ok (.istore_n 1, 1) := by decide +kernel
theorem dX3_victim_2 : decode cX3_victim 2 = .ok (.iconst 1, 1) := by decide +kernel
theorem dX3_victim_3 : decode cX3_victim 3 = .ok (.istore_n 2, 1) := by decide +kernel
theorem dX3_victim_4 : decode cX3_victim 4 = .ok (.iload_n 2, 1) := by decide +kernel
theorem dX3_victim_5 : decode cX3_victim 5 = .ok (.aload_n 0, 1) := by decide +kernel
theorem dX3_victim_6 : decode cX3_victim 6 = .ok (.getfield 28, 3) := by decide +kernel
theorem dX3_victim_9 : decode cX3_victim 9 = .ok (.if_icmp .ge 20, 3) := by decide +kernel
theorem dX3_victim_12 : decode cX3_victim 12 = .ok (.aload_n 0, 1) := by decide +kernel
theorem dX3_victim_13 : decode cX3_victim 13 = .ok (.iload_n 2, 1) := by decide +kernel
theorem dX3_victim_14 : decode cX3_victim 14 = .ok (.iload_n 1, 1) := by decide +kernel
theorem dX3_victim_15 : decode cX3_victim 15 = .ok (.invokevirtual 80, 3) := by decide +kernel
theorem dX3_victim_18 : decode cX3_victim 18 = .ok (.ifCond .eq 5, 3) := by decide +kernel
theorem dX3_victim_21 : decode cX3_victim 21 = .ok (.iload_n 2, 1) := by decide +kernel
theorem dX3_victim_22 : decode cX3_victim 22 = .ok (.istore_n 1, 1) := by decide +kernel
theorem dX3_victim_23 : decode cX3_victim 23 = .ok (.iinc 2 1, 3) := by decide +kernel
theorem dX3_victim_26 : decode cX3_victim 26 = .ok (.goto (-22), 3) := by decide +kernel
theorem dX3_victim_29 : decode cX3_victim 29 = .ok (.iload_n 1, 1) := by decide +kernel
theorem dX3_victim_30 : decode cX3_victim 30 = .ok (.ireturn, 1) := by decide +kernel
theorem dX3_inState_0 : decode cX3_inState 0 = .ok (.iconst 0, 1) := by decide +kernel
theorem dX3_inState_1 : decode cX3_inState 1 = .ok (.istore_n 2, 1) := by decide +kernel
theorem dX3_inState_2 : decode cX3_inState 2 = .ok (.iconst 0, 1) := by decide +kernel
theorem dX3_inState_3 : decode cX3_inState 3 = .ok (.istore_n 3, 1) := by decide +kernel
theorem dX3_inState_4 : decode cX3_inState 4 = .ok (.iload_n 3, 1) := by decide +kernel
theorem dX3_inState_5 : decode cX3_inState 5 = .ok (.aload_n 0, 1) := by decide +kernel
theorem dX3_inState_6 : decode cX3_inState 6 = .ok (.getfield 28, 3) := by decide +kernel
theorem dX3_inState_9 : decode cX3_inState 9 = .ok (.if_icmp .ge 22, 3) := by decide +kernel
theorem dX3_inState_12 : decode cX3_inState 12 = .ok (.aload_n 0, 1) := by decide +kernel
theorem dX3_inState_13 : decode cX3_inState 13 = .ok (.getfield 9, 3) := by decide +kernel
theorem dX3_inState_16 : decode cX3_inState 16 = .ok (.iload_n 3, 1) := by decide +kernel
theorem dX3_inState_17 : decode cX3_inState 17 = .ok (.iaload, 1) := by decide +kernel
theorem dX3_inState_18 : decode cX3_inState 18 = .ok (.iload_n 1, 1) := by decide +kernel
theorem dX3_inState_19 : decode cX3_inState 19 = .ok (.if_icmp .ne 6, 3) := by decide +kernel
theorem dX3_inState_22 : decode cX3_inState 22 = .ok (.iinc 2 1, 3) := by decide +kernel
theorem dX3_inState_25 : decode cX3_inState 25 = .ok (.iinc 3 1, 3) := by decide +kernel
theorem dX3_inState_28 : decode cX3_inState 28 = .ok (.goto (-24), 3) := by decide +kernel
theorem dX3_inState_31 : decode cX3_inState 31 = .ok (.iload_n 2, 1) := by decide +kernel
theorem dX3_inState_32 : decode cX3_inState 32 = .ok (.ireturn, 1) := by decide +kernel
theorem dX3_goesBefore_0 : decode cX3_goesBefore 0 = .ok (.aload_n 0, 1) := by decide +kernel
theorem dX3_goesBefore_1 : decode cX3_goesBefore 1 = .ok (.getfield 32, 3) := by decide +kernel
theorem dX3_goesBefore_4 : decode cX3_goesBefore 4 = .ok (.iconst 2, 1) := by decide +kernel
theorem dX3_goesBefore_5 : decode cX3_goesBefore 5 = .ok (.if_icmp .ne 34, 3) := by decide +kernel
theorem dX3_goesBefore_8 : decode cX3_goesBefore 8 = .ok (.aload_n 0, 1) := by decide +kernel
theorem dX3_goesBefore_9 : decode cX3_goesBefore 9 = .ok (.getfield 9, 3) := by decide +kernel
theorem dX3_goesBefore_12 : decode cX3_goesBefore 12 = .ok (.iload_n 1, 1) := by decide +kernel
theorem dX3_goesBefore_13 : decode cX3_goesBefore 13 = .ok (.iaload, 1) := by decide +kernel
theorem dX3_goesBefore_14 : decode cX3_goesBefore 14 = .ok (.aload_n 0, 1) := by decide +kernel
theorem dX3_goesBefore_15 : decode cX3_goesBefore 15 = .ok (.getfield 9, 3) := by decide +kernel
theorem dX3_goesBefore_18 : decode cX3_goesBefore 18 = .ok (.iload_n 2, 1) := by decide +kernel
theorem dX3_goesBefore_19 : decode cX3_goesBefore 19 = .ok (.iaload, 1) := by decide +kernel
theorem dX3_goesBefore_20 : decode cX3_goesBefore 20 = .ok (.if_icmp .eq 19, 3) := by decide +kernel
theorem dX3_goesBefore_23 : decode cX3_goesBefore 23 = .ok (.aload_n 0, 1) := by decide +kernel
theorem dX3_goesBefore_24 : decode cX3_goesBefore 24 = .ok (.getfield 9, 3) := by decide +kernel
theorem dX3_goesBefore_27 : decode cX3_goesBefore 27 = .ok (.iload_n 1, 1) := by decide +kernel
theorem dX3_goesBefore_28 : decode cX3_goesBefore 28 = .ok (.iaload, 1) := by decide +kernel
theorem dX3_goesBefore_29 : decode cX3_goesBefore 29 = .ok (.iconst 2, 1) := by decide +kernel
theorem dX3_goesBefore_30 : decode cX3_goesBefore 30 = .ok (.if_icmp .ne 7, 3) := by decide +kernel
theorem dX3_goesBefore_33 : decode cX3_goesBefore 33 = .ok (.iconst 1, 1) := by decide +kernel
theorem dX3_goesBefore_34 : decode cX3_goesBefore 34 = .ok (.goto 4, 3) := by decide +kernel
theorem dX3_goesBefore_37 : decode cX3_goesBefore 37 = .ok (.iconst 0, 1) := by decide +kernel
theorem dX3_goesBefore_38 : decode cX3_goesBefore 38 = .ok (.ireturn, 1) := by decide +kernel
theorem dX3_goesBefore_39 : decode cX3_goesBefore 39 = .ok (.aload_n 0, 1) := by decide +kernel
theorem dX3_goesBefore_40 : decode cX3_goesBefore 40 = .ok (.getfield 32, 3) := by decide +kernel
theorem dX3_goesBefore_43 : decode cX3_goesBefore 43 = .ok (.iconst 1, 1) := by decide +kernel
theorem dX3_goesBefore_44 : decode cX3_goesBefore 44 = .ok (.if_icmp .ne 39, 3) := by decide +kernel
theorem dX3_goesBefore_47 : decode cX3_goesBefore 47 = .ok (.aload_n 0, 1) := by decide +kernel
theorem dX3_goesBefore_48 : decode cX3_goesBefore 48 = .ok (.getfield 18, 3) := by decide +kernel
theorem dX3_goesBefore_51 : decode cX3_goesBefore 51 = .ok (.iload_n 1, 1) := by decide +kernel
theorem dX3_goesBefore_52 : decode cX3_goesBefore 52 = .ok (.iaload, 1) := by decide +kernel
theorem dX3_goesBefore_53 : decode cX3_goesBefore 53 = .ok (.aload_n 0, 1) := by decide +kernel
theorem dX3_goesBefore_54 : decode cX3_goesBefore 54 = .ok (.getfield 18, 3) := by decide +kernel
theorem dX3_goesBefore_57 : decode cX3_goesBefore 57 = .ok (.iload_n 2, 1) := by decide +kernel
theorem dX3_goesBefore_58 : decode cX3_goesBefore 58 = .ok (.iaload, 1) := by decide +kernel
theorem dX3_goesBefore_59 : decode cX3_goesBefore 59 = .ok (.if_icmp .eq 24, 3) := by decide +kernel
theorem dX3_goesBefore_62 : decode cX3_goesBefore 62 = .ok (.aload_n 0, 1) := by decide +kernel
theorem dX3_goesBefore_63 : decode cX3_goesBefore 63 = .ok (.getfield 18, 3) := by decide +kernel
theorem dX3_goesBefore_66 : decode cX3_goesBefore 66 = .ok (.iload_n 1, 1) := by decide +kernel
theorem dX3_goesBefore_67 : decode cX3_goesBefore 67 = .ok (.iaload, 1) := by decide +kernel
theorem dX3_goesBefore_68 : decode cX3_goesBefore 68 = .ok (.aload_n 0, 1) := by decide +kernel
theorem dX3_goesBefore_69 : decode cX3_goesBefore 69 = .ok (.getfield 18, 3) := by decide +kernel
theorem dX3_goesBefore_72 : decode cX3_goesBefore 72 = .ok (.iload_n 2, 1) := by decide +kernel
theorem dX3_goesBefore_73 : decode cX3_goesBefore 73 = .ok (.iaload, 1) := by decide +kernel
theorem dX3_goesBefore_74 : decode cX3_goesBefore 74 = .ok (.if_icmp .ge 7, 3) := by decide +kernel
theorem dX3_goesBefore_77 : decode cX3_goesBefore 77 = .ok (.iconst 1, 1) := by decide +kernel
theorem dX3_goesBefore_78 : decode cX3_goesBefore 78 = .ok (.goto 4, 3) := by decide +kernel
theorem dX3_goesBefore_81 : decode cX3_goesBefore 81 = .ok (.iconst 0, 1) := by decide +kernel
theorem dX3_goesBefore_82 : decode cX3_goesBefore 82 = .ok (.ireturn, 1) := by decide +kernel
theorem dX3_goesBefore_83 : decode cX3_goesBefore 83 = .ok (.aload_n 0, 1) := by decide +kernel
theorem dX3_goesBefore_84 : decode cX3_goesBefore 84 = .ok (.getfield 21, 3) := by decide +kernel
theorem dX3_goesBefore_87 : decode cX3_goesBefore 87 = .ok (.iload_n 1, 1) := by decide +kernel
theorem dX3_goesBefore_88 : decode cX3_goesBefore 88 = .ok (.iaload, 1) := by decide +kernel
theorem dX3_goesBefore_89 : decode cX3_goesBefore 89 = .ok (.aload_n 0, 1) := by decide +kernel
theorem dX3_goesBefore_90 : decode cX3_goesBefore 90 = .ok (.getfield 21, 3) := by decide +kernel
theorem dX3_goesBefore_93 : decode cX3_goesBefore 93 = .ok (.iload_n 2, 1) := by decide +kernel
theorem dX3_goesBefore_94 : decode cX3_goesBefore 94 = .ok (.iaload, 1) := by decide +kernel
theorem dX3_goesBefore_95 : decode cX3_goesBefore 95 = .ok (.if_icmp .ge 7, 3) := by decide +kernel
theorem dX3_goesBefore_98 : decode cX3_goesBefore 98 = .ok (.iconst 1, 1) := by decide +kernel
theorem dX3_goesBefore_99 : decode cX3_goesBefore 99 = .ok (.goto 4, 3) := by decide +kernel
theorem dX3_goesBefore_102 : decode cX3_goesBefore 102 = .ok (.iconst 0, 1) := by decide +kernel
theorem dX3_goesBefore_103 : decode cX3_goesBefore 103 = .ok (.ireturn, 1) := by decide +kernel
theorem dX3_isKeptByPedal_0 : decode cX3_isKeptByPedal 0 = .ok (.aload_n 0, 1) := by decide +kernel
theorem dX3_isKeptByPedal_1 : decode cX3_isKeptByPedal 1 = .ok (.getfield 38, 3) := by decide +kernel
theorem dX3_isKeptByPedal_4 : decode cX3_isKeptByPedal 4 = .ok (.ifCond .ne 19, 3) := by decide +kernel
theorem dX3_isKeptByPedal_7 : decode cX3_isKeptByPedal 7 = .ok (.aload_n 0, 1) := by decide +kernel
theorem dX3_isKeptByPedal_8 : decode cX3_isKeptByPedal 8 = .ok (.getfield 42, 3) := by decide +kernel
theorem dX3_isKeptByPedal_11 : decode cX3_isKeptByPedal 11 = .ok (.ifCond .eq 16, 3) := by decide +kernel
theorem dX3_isKeptByPedal_14 : decode cX3_isKeptByPedal 14 = .ok (.aload_n 0, 1) := by decide +kernel
theorem dX3_isKeptByPedal_15 : decode cX3_isKeptByPedal 15 = .ok (.getfield 24, 3) := by decide +kernel
theorem dX3_isKeptByPedal_18 : decode cX3_isKeptByPedal 18 = .ok (.iload_n 1, 1) := by decide +kernel
theorem dX3_isKeptByPedal_19 : decode cX3_isKeptByPedal 19 = .ok (.baload, 1) := by decide +kernel
theorem dX3_isKeptByPedal_20 : decode cX3_isKeptByPedal 20 = .ok (.ifCond .eq 7, 3) := by decide +kernel
theorem dX3_isKeptByPedal_23 : decode cX3_isKeptByPedal 23 = .ok (.iconst 1, 1) := by decide +kernel
theorem dX3_isKeptByPedal_24 : decode cX3_isKeptByPedal 24 = .ok (.goto 4, 3) := by decide +kernel
theorem dX3_isKeptByPedal_27 : decode cX3_isKeptByPedal 27 = .ok (.iconst 0, 1) := by decide +kernel
theorem dX3_isKeptByPedal_28 : decode cX3_isKeptByPedal 28 = .ok (.ireturn, 1) := by decide +kernel
theorem dX3_freeKept_0 : decode cX3_freeKept 0 = .ok (.iconst 0, 1) := by decide +kernel
theorem dX3_freeKept_1 : decode cX3_freeKept 1 = .ok (.istore_n 2, 1) := by decide +kernel
theorem dX3_freeKept_2 : decode cX3_freeKept 2 = .ok (.iconst 0, 1) := by decide +kernel
theorem dX3_freeKept_3 : decode cX3_freeKept 3 = .ok (.istore_n 3, 1) := by decide +kernel
theorem dX3_freeKept_4 : decode cX3_freeKept 4 = .ok (.iload_n 3, 1) := by decide +kernel
theorem dX3_freeKept_5 : decode cX3_freeKept 5 = .ok (.aload_n 0, 1) := by decide +kernel
theorem dX3_freeKept_6 : decode cX3_freeKept 6 = .ok (.getfield 28, 3) := by decide +kernel
theorem dX3_freeKept_9 : decode cX3_freeKept 9 = .ok (.if_icmp .ge 36, 3) := by decide +kernel
theorem dX3_freeKept_12 : decode cX3_freeKept 12 = .ok (.aload_n 0, 1) := by decide +kernel
theorem dX3_freeKept_13 : decode cX3_freeKept 13 = .ok (.getfield 9, 3) := by decide +kernel
theorem dX3_freeKept_16 : decode cX3_freeKept 16 = .ok (.iload_n 3, 1) := by decide +kernel
theorem dX3_freeKept_17 : decode cX3_freeKept 17 = .ok (.iaload, 1) := by decide +kernel
theorem dX3_freeKept_18 : decode cX3_freeKept 18 = .ok (.iconst 2, 1) := by decide +kernel
theorem dX3_freeKept_19 : decode cX3_freeKept 19 = .ok (.if_icmp .ne 20, 3) := by decide +kernel
theorem dX3_freeKept_22 : decode cX3_freeKept 22 = .ok (.aload_n 0, 1) := by decide +kernel
theorem dX3_freeKept_23 : decode cX3_freeKept 23 = .ok (.iload_n 3, 1) := by decide +kernel
theorem dX3_freeKept_24 : decode cX3_freeKept 24 = .ok (.invokevirtual 70, 3) := by decide +kernel
theorem dX3_freeKept_27 : decode cX3_freeKept 27 = .ok (.ifCond .ne 12, 3) := by decide +kernel
theorem dX3_freeKept_30 : decode cX3_freeKept 30 = .ok (.aload_n 0, 1) := by decide +kernel
theorem dX3_freeKept_31 : decode cX3_freeKept 31 = .ok (.iload_n 3, 1) := by decide +kernel
theorem dX3_freeKept_32 : decode cX3_freeKept 32 = .ok (.iload_n 1, 1) := by decide +kernel
theorem dX3_freeKept_33 : decode cX3_freeKept 33 = .ok (.invokevirtual 49, 3) := by decide +kernel
theorem dX3_freeKept_36 : decode cX3_freeKept 36 = .ok (.iinc 2 1, 3) := by decide +kernel
theorem dX3_freeKept_39 : decode cX3_freeKept 39 = .ok (.iinc 3 1, 3) := by decide +kernel
theorem dX3_freeKept_42 : decode cX3_freeKept 42 = .ok (.goto (-38), 3) := by decide +kernel
theorem dX3_freeKept_45 : decode cX3_freeKept 45 = .ok (.iload_n 2, 1) := by decide +kernel
theorem dX3_freeKept_46 : decode cX3_freeKept 46 = .ok (.ireturn, 1) := by decide +kernel
theorem dX3_free_0 : decode cX3_free 0 = .ok (.aload_n 0, 1) := by decide +kernel
theorem dX3_free_1 : decode cX3_free 1 = .ok (.getfield 9, 3) := by decide +kernel
theorem dX3_free_4 : decode cX3_free 4 = .ok (.iload_n 1, 1) := by decide +kernel
theorem dX3_free_5 : decode cX3_free 5 = .ok (.iconst 0, 1) := by decide +kernel
theorem dX3_free_6 : decode cX3_free 6 = .ok (.iastore, 1) := by decide +kernel
theorem dX3_free_7 : decode cX3_free 7 = .ok (.aload_n 0, 1) := by decide +kernel
theorem dX3_free_8 : decode cX3_free 8 = .ok (.getfield 24, 3) := by decide +kernel
theorem dX3_free_11 : decode cX3_free 11 = .ok (.iload_n 1, 1) := by decide +kernel
theorem dX3_free_12 : decode cX3_free 12 = .ok (.iconst 0, 1) := by decide +kernel
theorem dX3_free_13 : decode cX3_free 13 = .ok (.bastore, 1) := by decide +kernel
theorem dX3_free_14 : decode cX3_free 14 = .ok (.aload_n 0, 1) := by decide +kernel
theorem dX3_free_15 : decode cX3_free 15 = .ok (.getfield 45, 3) := by decide +kernel
theorem dX3_free_18 : decode cX3_free 18 = .ok (.iload_n 2, 1) := by decide +kernel
theorem dX3_free_19 : decode cX3_free 19 = .ok (.iconst 2, 1) := by decide +kernel
theorem dX3_free_20 : decode cX3_free 20 = .ok (.aload_n 0, 1) := by decide +kernel
theorem dX3_free_21 : decode cX3_free 21 = .ok (.getfield 15, 3) := by decide +kernel
theorem dX3_free_24 : decode cX3_free 24 = .ok (.iload_n 1, 1) := by decide +kernel
theorem dX3_free_25 : decode cX3_free 25 = .ok (.iaload, 1) := by decide +kernel
theorem dX3_free_26 : decode cX3_free 26 = .ok (.invokevirtual 64, 3) := by decide +kernel
theorem dX3_free_29 : decode cX3_free 29 = .ok (.return_, 1) := by decide +kernel
theorem dX4_init_0 : decode cX4_init 0 = .ok (.aload_n 0, 1) := by decide +kernel
theorem dX4_init_1 : decode cX4_init 1 = .ok (.invokespecial 3, 3) := by decide +kernel
theorem dX4_init_4 : decode cX4_init 4 = .ok (.aload_n 0, 1) := by decide +kernel
theorem dX4_init_5 : decode cX4_init 5 = .ok (.new 9, 3) := by decide +kernel
theorem dX4_init_8 : decode cX4_init 8 = .ok (.dup, 1) := by decide +kernel
theorem dX4_init_9 : decode cX4_init 9 = .ok (.invokespecial 11, 3) := by decide +kernel
theorem dX4_init_12 : decode cX4_init 12 = .ok (.putfield 12, 3) := by decide +kernel
theorem dX4_init_15 : decode cX4_init 15 = .ok (.aload_n 0, 1) := by decide +kernel
theorem dX4_init_16 : decode cX4_init 16 = .ok (.new 16, 3) := by decide +kernel
theorem dX4_init_19 : decode cX4_init 19 = .ok (.dup, 1) := by decide +kernel
theorem dX4_init_20 : decode cX4_init 20 = .ok (.invokespecial 18, 3) := by decide +kernel
