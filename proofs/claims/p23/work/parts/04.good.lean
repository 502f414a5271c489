set_option maxRecDepth 20000 in
theorem ggX0_write_J9_floorMod_7cf53 : GoodIn wsX0_write wsJ9_floorMod_7cf53 := goodIn_r _ [8] (by decide +kernel) (by decide +kernel)
set_option maxRecDepth 20000 in
theorem gX0_write_J9_floorMod_7cf53 : GoodIn wsX0_write (va_wsS RX0 25 yJ9_floorMod_7cf53 wsJ9_floorMod_7cf53) := goodIn_app (goodIn_of _ (by decide +kernel)) ggX0_write_J9_floorMod_7cf53
set_option maxRecDepth 20000 in
theorem ggX0_place_J9_floorMod_7cf53 : GoodIn wsX0_place wsJ9_floorMod_7cf53 := goodIn_r _ [5] (by decide +kernel) (by decide +kernel)
set_option maxRecDepth 20000 in
theorem gX0_place_J9_floorMod_7cf53 : GoodIn wsX0_place (va_wsS RX0 25 yJ9_floorMod_7cf53 wsJ9_floorMod_7cf53) := goodIn_app (goodIn_of _ (by decide +kernel)) ggX0_place_J9_floorMod_7cf53
set_option maxRecDepth 20000 in
theorem ggX1_init_X2_init : GoodIn wsX1_init wsX2_init := goodIn_r _ [15, 16, 2, 3, 4, 17, 18, 25, 26] (by decide +kernel) (by decide +kernel)
set_option maxRecDepth 20000 in
theorem gX1_init_X2_init_n17 : GoodIn wsX1_init (wsX2_init) := ggX1_init_X2_init
set_option maxRecDepth 20000 in
theorem ggX1_has_X1_size : GoodIn wsX1_has wsX1_size := goodIn_r _ [5, 6, 7, 8, 9, 10, 11, 12, 13] (by decide +kernel) (by decide +kernel)
set_option maxRecDepth 20000 in
theorem gX1_has_X1_size : GoodIn wsX1_has (wsV RX1 36 RX1 yX1_size wsX1_size) := goodIn_app (goodIn_of _ (by decide +kernel)) ggX1_has_X1_size
set_option maxRecDepth 20000 in
theorem ggX1_layOut_X1_lift : GoodIn wsX1_layOut wsX1_lift := goodIn_r _ [7, 8, 9, 10, 11, 12, 13, 14, 15, 16, 17, 18, 19, 20, 21, 22, 23, 24, 25] (by decide +kernel) (by decide +kernel)
set_option maxRecDepth 20000 in
theorem gX1_layOut_X1_lift : GoodIn wsX1_layOut (wsV RX1 40 RX1 yX1_lift wsX1_lift) := goodIn_app (goodIn_of _ (by decide +kernel)) ggX1_layOut_X1_lift
set_option maxRecDepth 20000 in
theorem ggX1_lift_X2_open : GoodIn wsX1_lift wsX2_open := goodIn_r _ [8, 9, 10, 17, 18] (by decide +kernel) (by decide +kernel)
set_option maxRecDepth 20000 in
theorem gX1_lift_X2_open : GoodIn wsX1_lift (wsV RX1 43 RX2 yX2_open wsX2_open) := goodIn_app (goodIn_of _ (by decide +kernel)) ggX1_lift_X2_open
set_option maxRecDepth 20000 in
theorem ggX1_move_X2_put : GoodIn wsX1_move wsX2_put := goodIn_r _ [9, 10, 11, 12, 13, 8, 14, 15, 16, 17, 18, 19, 26, 27] (by decide +kernel) (by decide +kernel)
set_option maxRecDepth 20000 in
theorem gX1_move_X2_put : GoodIn wsX1_move (wsV RX1 46 RX2 yX2_put wsX2_put) := goodIn_app (goodIn_of _ (by decide +kernel)) ggX1_move_X2_put
set_option maxRecDepth 20000 in
theorem ggX1_pressed_X1_size : GoodIn wsX1_pressed wsX1_size := goodIn_r _ [6, 7, 8, 12, 13, 14, 15, 16, 17] (by decide +kernel) (by decide +kernel)
set_option maxRecDepth 20000 in
theorem gX1_pressed_X1_size : GoodIn wsX1_pressed (wsV RX1 36 RX1 yX1_size wsX1_size) := goodIn_app (goodIn_of _ (by decide +kernel)) ggX1_pressed_X1_size
set_option maxRecDepth 20000 in
theorem ggX1_pressed_X4_one : GoodIn wsX1_pressed wsX4_one := goodIn_r _ [11] (by decide +kernel) (by decide +kernel)
set_option maxRecDepth 20000 in
theorem gX1_pressed_X4_one_n50 : GoodIn wsX1_pressed (wsX4_one) := ggX1_pressed_X4_one
set_option maxRecDepth 20000 in
theorem ggX1_firstSeen_X1_seen : GoodIn wsX1_firstSeen wsX1_seen := goodIn_r _ [7, 8, 9, 10, 14, 15, 16, 17, 18, 19, 20, 21] (by decide +kernel) (by decide +kernel)
set_option maxRecDepth 20000 in
theorem gX1_firstSeen_X1_seen : GoodIn wsX1_firstSeen (wsV RX1 60 RX1 yX1_seen wsX1_seen) := goodIn_app (goodIn_of _ (by decide +kernel)) ggX1_firstSeen_X1_seen
set_option maxRecDepth 20000 in
theorem ggX1_firstSeen_X1_contains : GoodIn wsX1_firstSeen wsX1_contains := goodIn_r _ [13] (by decide +kernel) (by decide +kernel)
set_option maxRecDepth 20000 in
theorem gX1_firstSeen_X1_contains : GoodIn wsX1_firstSeen (va_wsS RX1 64 yX1_contains wsX1_contains) := goodIn_app (goodIn_of _ (by decide +kernel)) ggX1_firstSeen_X1_contains
set_option maxRecDepth 20000 in
theorem ggX1_secondSeen_X1_seen : GoodIn wsX1_secondSeen wsX1_seen := goodIn_r _ [7, 8, 9, 10, 14, 15, 16, 17, 18, 19, 20, 21] (by decide +kernel) (by decide +kernel)
set_option maxRecDepth 20000 in
theorem gX1_secondSeen_X1_seen : GoodIn wsX1_secondSeen (wsV RX1 60 RX1 yX1_seen wsX1_seen) := goodIn_app (goodIn_of _ (by decide +kernel)) ggX1_secondSeen_X1_seen
set_option maxRecDepth 20000 in
theorem ggX1_secondSeen_X1_contains : GoodIn wsX1_secondSeen wsX1_contains := goodIn_r _ [13] (by decide +kernel) (by decide +kernel)
set_option maxRecDepth 20000 in
theorem gX1_secondSeen_X1_contains : GoodIn wsX1_secondSeen (va_wsS RX1 64 yX1_contains wsX1_contains) := goodIn_app (goodIn_of _ (by decide +kernel)) ggX1_secondSeen_X1_contains
set_option maxRecDepth 20000 in
theorem ggX1_isGhost_X1_ghostsIn : GoodIn wsX1_isGhost wsX1_ghostsIn := goodIn_r _ [6, 7, 8, 9, 10, 11, 12, 5, 13, 14, 15, 19, 20, 21, 22, 23, 24, 25, 26] (by decide +kernel) (by decide +kernel)
set_option maxRecDepth 20000 in
theorem gX1_isGhost_X1_ghostsIn : GoodIn wsX1_isGhost (wsV RX1 68 RX1 yX1_ghostsIn wsX1_ghostsIn) := goodIn_app (goodIn_of _ (by decide +kernel)) ggX1_isGhost_X1_ghostsIn
set_option maxRecDepth 20000 in
theorem ggX1_isGhost_X1_contains : GoodIn wsX1_isGhost wsX1_contains := goodIn_r _ [18] (by decide +kernel) (by decide +kernel)
set_option maxRecDepth 20000 in
theorem gX1_isGhost_X1_contains : GoodIn wsX1_isGhost (va_wsS RX1 64 yX1_contains wsX1_contains) := goodIn_app (goodIn_of _ (by decide +kernel)) ggX1_isGhost_X1_contains
set_option maxRecDepth 20000 in
theorem ggX1_isDoubtful_X1_seen : GoodIn wsX1_isDoubtful wsX1_seen := goodIn_r _ [8, 9, 10, 11, 12, 13, 14, 15, 16, 17, 18, 19] (by decide +kernel) (by decide +kernel)
set_option maxRecDepth 20000 in
theorem gX1_isDoubtful_X1_seen : GoodIn wsX1_isDoubtful (wsV RX1 60 RX1 yX1_seen wsX1_seen) := goodIn_app (goodIn_of _ (by decide +kernel)) ggX1_isDoubtful_X1_seen
set_option maxRecDepth 20000 in
theorem ggX1_doubtful_X1_size : GoodIn wsX1_doubtful wsX1_size := goodIn_r _ [5, 6, 7, 23, 24, 25, 26, 27, 28] (by decide +kernel) (by decide +kernel)
set_option maxRecDepth 20000 in
theorem gX1_doubtful_X1_size : GoodIn wsX1_doubtful (wsV RX1 36 RX1 yX1_size wsX1_size) := goodIn_app (goodIn_of _ (by decide +kernel)) ggX1_doubtful_X1_size
set_option maxRecDepth 20000 in
theorem ggX1_doubtful_X1_isDoubtful : GoodIn wsX1_doubtful wsX1_isDoubtful := goodIn_r _ [11, 7, 6, 12, 13, 14, 15, 4, 16, 17, 18, 19, 23, 24, 25, 26, 27, 28, 29, 30] (by decide +kernel) (by decide +kernel)
set_option maxRecDepth 20000 in
theorem gX1_doubtful_X1_isDoubtful : GoodIn wsX1_doubtful (wsV RX1 72 RX1 yX1_isDoubtful wsX1_isDoubtful) := goodIn_app (goodIn_of _ (by decide +kernel)) ggX1_doubtful_X1_isDoubtful
set_option maxRecDepth 20000 in
theorem ggX1_doubtful_X4_one : GoodIn wsX1_doubtful wsX4_one := goodIn_r _ [22] (by decide +kernel) (by decide +kernel)
set_option maxRecDepth 20000 in
theorem gX1_doubtful_X4_one_n50 : GoodIn wsX1_doubtful (wsX4_one) := ggX1_doubtful_X4_one
set_option maxRecDepth 20000 in
theorem ggX1_ghosts_X1_ghostsIn : GoodIn wsX1_ghosts wsX1_ghostsIn := goodIn_r _ [6, 7, 8, 9, 10, 11, 12, 5, 13, 14, 15, 23, 24, 25, 26, 27, 28, 29, 30] (by decide +kernel) (by decide +kernel)
set_option maxRecDepth 20000 in
theorem gX1_ghosts_X1_ghostsIn : GoodIn wsX1_ghosts (wsV RX1 68 RX1 yX1_ghostsIn wsX1_ghostsIn) := goodIn_app (goodIn_of _ (by decide +kernel)) ggX1_ghosts_X1_ghostsIn
set_option maxRecDepth 20000 in
theorem ggX1_ghosts_J6_bitCount_0f7a4 : GoodIn wsX1_ghosts wsJ6_bitCount_0f7a4 := goodIn_r _ [19, 20, 21, 22] (by decide +kernel) (by decide +kernel)
set_option maxRecDepth 20000 in
theorem gX1_ghosts_J6_bitCount_0f7a4 : GoodIn wsX1_ghosts (va_wsS RX1 76 yJ6_bitCount_0f7a4 wsJ6_bitCount_0f7a4) := goodIn_app (goodIn_of _ (by decide +kernel)) ggX1_ghosts_J6_bitCount_0f7a4
set_option maxRecDepth 20000 in
theorem ggX1_ghostsWithout_X1_move : GoodIn wsX1_ghostsWithout wsX1_move := goodIn_r _ [6, 1, 7, 8, 9, 10, 11, 12, 13, 14, 15, 16, 17, 18, 19, 20, 21, 22, 23, 24, 48, 49, 50, 51, 52, 53, 54, 55] (by decide +kernel) (by decide +kernel)
set_option maxRecDepth 20000 in
theorem gX1_ghostsWithout_X1_move : GoodIn wsX1_ghostsWithout (wsV RX1 81 RX1 yX1_move wsX1_move) := goodIn_app (goodIn_of _ (by decide +kernel)) ggX1_ghostsWithout_X1_move
set_option maxRecDepth 20000 in
theorem ggX1_ghostsWithout_X1_ghosts : GoodIn wsX1_ghostsWithout wsX1_ghosts := goodIn_r _ [28, 29, 30, 31, 32, 5, 33, 7, 34, 9, 35, 36, 37, 38, 39, 40, 41, 42, 43, 44, 45, 46, 47, 48, 49, 50, 51, 52, 53, 54, 55] (by decide +kernel) (by decide +kernel)
set_option maxRecDepth 20000 in
theorem gX1_ghostsWithout_X1_ghosts : GoodIn wsX1_ghostsWithout (wsV RX1 85 RX1 yX1_ghosts wsX1_ghosts) := goodIn_app (goodIn_of _ (by decide +kernel)) ggX1_ghostsWithout_X1_ghosts
set_option maxRecDepth 20000 in
theorem ggX1_ghostsIn_X1_seen : GoodIn wsX1_ghostsIn wsX1_seen := goodIn_r _ [8, 9, 2, 10, 11, 12, 13, 14, 15, 16, 17, 18] (by decide +kernel) (by decide +kernel)
set_option maxRecDepth 20000 in
theorem gX1_ghostsIn_X1_seen : GoodIn wsX1_ghostsIn (wsV RX1 60 RX1 yX1_seen wsX1_seen) := goodIn_app (goodIn_of _ (by decide +kernel)) ggX1_ghostsIn_X1_seen
set_option maxRecDepth 20000 in
theorem ggX2_put_X2_join : GoodIn wsX2_put wsX2_join := goodIn_r _ [6, 7, 1, 8, 9, 10, 5, 11, 12, 13] (by decide +kernel) (by decide +kernel)
set_option maxRecDepth 20000 in
theorem gX2_put_X2_join : GoodIn wsX2_put (wsV RX2 18 RX2 yX2_join wsX2_join) := goodIn_app (goodIn_of _ (by decide +kernel)) ggX2_put_X2_join
set_option maxRecDepth 20000 in
theorem ggX2_join_X2_joinThrough : GoodIn wsX2_join wsX2_joinThrough := goodIn_r _ [7, 1, 8, 9] (by decide +kernel) (by decide +kernel)
set_option maxRecDepth 20000 in
theorem gX2_join_X2_joinThrough : GoodIn wsX2_join (wsV RX2 21 RX2 yX2_joinThrough wsX2_joinThrough) := goodIn_app (goodIn_of _ (by decide +kernel)) ggX2_join_X2_joinThrough
set_option maxRecDepth 20000 in
theorem ggX3_limit_X3_free : GoodIn wsX3_limit wsX3_free := goodIn_r _ [7, 2, 8, 9, 10, 11, 12, 13, 14, 15, 16, 17, 18, 19, 20, 21, 22, 23, 24, 25, 26, 27, 28, 29, 30, 31, 32, 33, 34, 35, 36, 37, 38] (by decide +kernel) (by decide +kernel)
set_option maxRecDepth 20000 in
theorem gX3_limit_X3_free : GoodIn wsX3_limit (wsV RX3 49 RX3 yX3_free wsX3_free) := goodIn_app (goodIn_of _ (by decide +kernel)) ggX3_limit_X3_free
set_option maxRecDepth 20000 in
theorem ggX3_sound_X3_withKey : GoodIn wsX3_sound wsX3_withKey := goodIn_r _ [12, 13, 4, 3, 40, 41, 42, 43, 44, 45, 46, 47, 48, 49, 50] (by decide +kernel) (by decide +kernel)
set_option maxRecDepth 20000 in
theorem gX3_sound_X3_withKey : GoodIn wsX3_sound (wsV RX3 53 RX3 yX3_withKey wsX3_withKey) := goodIn_app (goodIn_of _ (by decide +kernel)) ggX3_sound_X3_withKey
set_option maxRecDepth 20000 in
theorem ggX3_sound_X3_firstFree : GoodIn wsX3_sound wsX3_firstFree := goodIn_r _ [17, 13, 4, 40, 41, 42, 43, 44, 45, 46, 47, 48, 49, 50] (by decide +kernel) (by decide +kernel)
set_option maxRecDepth 20000 in
theorem gX3_sound_X3_firstFree : GoodIn wsX3_sound (wsV RX3 57 RX3 yX3_firstFree wsX3_firstFree) := goodIn_app (goodIn_of _ (by decide +kernel)) ggX3_sound_X3_firstFree
set_option maxRecDepth 20000 in
theorem ggX3_sound_X3_victim : GoodIn wsX3_sound wsX3_victim := goodIn_r _ [21, 13, 22, 23, 24, 11, 25, 26, 4, 5, 6, 40, 41, 42, 43, 44, 45, 46, 47, 48, 49, 50] (by decide +kernel) (by decide +kernel)
set_option maxRecDepth 20000 in
theorem gX3_sound_X3_victim : GoodIn wsX3_sound (wsV RX3 61 RX3 yX3_victim wsX3_victim) := goodIn_app (goodIn_of _ (by decide +kernel)) ggX3_sound_X3_victim
set_option maxRecDepth 20000 in
theorem ggX3_sound_X0_write : GoodIn wsX3_sound wsX0_write := goodIn_r _ [31, 32, 33, 34, 35, 36, 37, 38, 39, 51, 52, 53, 54] (by decide +kernel) (by decide +kernel)
set_option maxRecDepth 20000 in
theorem gX3_sound_X0_write : GoodIn wsX3_sound (wsV RX3 64 RX0 yX0_write wsX0_write) := goodIn_app (goodIn_of _ (by decide +kernel)) ggX3_sound_X0_write
set_option maxRecDepth 20000 in
theorem ggX3_release_X3_withKey : GoodIn wsX3_release wsX3_withKey := goodIn_r _ [6, 7, 1, 8, 34, 35, 36, 37, 38, 39, 40, 41, 42, 43, 44] (by decide +kernel) (by decide +kernel)
set_option maxRecDepth 20000 in
theorem gX3_release_X3_withKey : GoodIn wsX3_release (wsV RX3 53 RX3 yX3_withKey wsX3_withKey) := goodIn_app (goodIn_of _ (by decide +kernel)) ggX3_release_X3_withKey
set_option maxRecDepth 20000 in
theorem ggX3_release_X3_isKeptByPedal : GoodIn wsX3_release wsX3_isKeptByPedal := goodIn_r _ [12, 13, 14, 15, 34, 35, 36, 37, 38, 39, 40, 41, 42, 43, 44] (by decide +kernel) (by decide +kernel)
set_option maxRecDepth 20000 in
theorem gX3_release_X3_isKeptByPedal : GoodIn wsX3_release (wsV RX3 70 RX3 yX3_isKeptByPedal wsX3_isKeptByPedal) := goodIn_app (goodIn_of _ (by decide +kernel)) ggX3_release_X3_isKeptByPedal
set_option maxRecDepth 20000 in
theorem ggX3_release_X3_free : GoodIn wsX3_release wsX3_free := goodIn_r _ [19, 1, 15, 20, 8, 21, 22, 23, 24, 25, 26, 27, 28, 29, 30, 31, 32, 33, 34, 35, 36, 37, 38, 39, 40, 41, 42, 43, 44, 45, 46, 47, 48] (by decide +kernel) (by decide +kernel)
set_option maxRecDepth 20000 in
theorem gX3_release_X3_free : GoodIn wsX3_release (wsV RX3 49 RX3 yX3_free wsX3_free) := goodIn_app (goodIn_of _ (by decide +kernel)) ggX3_release_X3_free
set_option maxRecDepth 20000 in
theorem ggX3_moveSustain_X3_freeKept : GoodIn wsX3_moveSustain wsX3_freeKept := goodIn_r _ [6, 7, 8, 9, 10, 11, 5, 12, 1, 13, 14, 15, 16, 17, 18, 19, 20, 21, 22, 23, 24, 25, 26, 27, 28, 29, 30, 31, 32, 33, 34, 35, 36, 37, 38, 39, 40, 41, 42, 43, 44, 45, 46, 47, 48] (by decide +kernel) (by decide +kernel)
set_option maxRecDepth 20000 in
theorem gX3_moveSustain_X3_freeKept : GoodIn wsX3_moveSustain (wsV RX3 74 RX3 yX3_freeKept wsX3_freeKept) := goodIn_app (goodIn_of _ (by decide +kernel)) ggX3_moveSustain_X3_freeKept
set_option maxRecDepth 20000 in
theorem ggX3_moveSostenuto_X3_inState : GoodIn wsX3_moveSostenuto wsX3_inState := goodIn_r _ [9, 2, 4, 38, 39, 40, 41, 42, 43, 44, 45, 46, 47, 48] (by decide +kernel) (by decide +kernel)
set_option maxRecDepth 20000 in
theorem gX3_moveSostenuto_X3_inState : GoodIn wsX3_moveSostenuto (wsV RX3 77 RX3 yX3_inState wsX3_inState) := goodIn_app (goodIn_of _ (by decide +kernel)) ggX3_moveSostenuto_X3_inState
set_option maxRecDepth 20000 in
theorem ggX3_moveSostenuto_X3_freeKept : GoodIn wsX3_moveSostenuto wsX3_freeKept := goodIn_r _ [13, 2, 4, 14, 15, 16, 8, 17, 18, 1, 3, 19, 20, 21, 22, 23, 24, 25, 26, 27, 28, 29, 30, 31, 32, 33, 34, 35, 36, 37, 38, 39, 40, 41, 42, 43, 44, 45, 46, 47, 48, 49, 50, 51, 52] (by decide +kernel) (by decide +kernel)
set_option maxRecDepth 20000 in
theorem gX3_moveSostenuto_X3_freeKept : GoodIn wsX3_moveSostenuto (wsV RX3 74 RX3 yX3_freeKept wsX3_freeKept) := goodIn_app (goodIn_of _ (by decide +kernel)) ggX3_moveSostenuto_X3_freeKept
set_option maxRecDepth 20000 in
theorem ggX3_victim_X3_goesBefore : GoodIn wsX3_victim wsX3_goesBefore := goodIn_r _ [6, 7, 8, 9, 10, 11, 12, 13, 14, 15, 16, 17, 18, 19, 20, 21] (by decide +kernel) (by decide +kernel)
set_option maxRecDepth 20000 in
theorem gX3_victim_X3_goesBefore : GoodIn wsX3_victim (wsV RX3 80 RX3 yX3_goesBefore wsX3_goesBefore) := goodIn_app (goodIn_of _ (by decide +kernel)) ggX3_victim_X3_goesBefore
set_option maxRecDepth 20000 in
theorem ggX3_freeKept_X3_isKeptByPedal : GoodIn wsX3_freeKept wsX3_isKeptByPedal := goodIn_r _ [7, 8, 9, 10, 30, 31, 32, 33, 34, 35, 36, 37, 38, 39, 40] (by decide +kernel) (by decide +kernel)
set_option maxRecDepth 20000 in
theorem gX3_freeKept_X3_isKeptByPedal : GoodIn wsX3_freeKept (wsV RX3 70 RX3 yX3_isKeptByPedal wsX3_isKeptByPedal) := goodIn_app (goodIn_of _ (by decide +kernel)) ggX3_freeKept_X3_isKeptByPedal
set_option maxRecDepth 20000 in
theorem ggX3_freeKept_X3_free : GoodIn wsX3_freeKept wsX3_free := goodIn_r _ [14, 2, 10, 15, 16, 17, 18, 19, 20, 21, 22, 23, 24, 25, 26, 27, 28, 29, 30, 31, 32, 33, 34, 35, 36, 37, 38, 39, 40, 41, 42, 43, 44] (by decide +kernel) (by decide +kernel)
set_option maxRecDepth 20000 in
theorem gX3_freeKept_X3_free : GoodIn wsX3_freeKept (wsV RX3 49 RX3 yX3_free wsX3_free) := goodIn_app (goodIn_of _ (by decide +kernel)) ggX3_freeKept_X3_free
set_option maxRecDepth 20000 in
theorem ggX3_free_X0_write : GoodIn wsX3_free wsX0_write := goodIn_r _ [9, 10, 11, 12, 13, 14, 15, 16, 17, 29, 30, 31, 32] (by decide +kernel) (by decide +kernel)
set_option maxRecDepth 20000 in
theorem gX3_free_X0_write : GoodIn wsX3_free (wsV RX3 64 RX0 yX0_write wsX0_write) := goodIn_app (goodIn_of _ (by decide +kernel)) ggX3_free_X0_write
set_option maxRecDepth 20000 in
theorem ggX4_init_X1_init : GoodIn wsX4_init wsX1_init := goodIn_r _ [26, 27, 2, 3, 16, 28, 29, 30, 31, 32, 33, 34, 35, 36, 37, 38, 39, 40, 41, 65, 66, 67, 68, 69, 70, 97, 98] (by decide +kernel) (by decide +kernel)
set_option maxRecDepth 20000 in
theorem gX4_init_X1_init_n11 : GoodIn wsX4_init (wsX1_init) := ggX4_init_X1_init
set_option maxRecDepth 20000 in
theorem ggX4_init_X0_init : GoodIn wsX4_init wsX0_init := goodIn_r _ [43, 44, 2, 3, 16, 45, 46, 47, 48, 82, 83, 84, 85] (by decide +kernel) (by decide +kernel)
set_option maxRecDepth 20000 in
theorem gX4_init_X0_init_n18 : GoodIn wsX4_init (wsX0_init) := ggX4_init_X0_init
set_option maxRecDepth 20000 in
theorem ggX4_init_X3_init : GoodIn wsX4_init wsX3_init := goodIn_r _ [51, 52, 2, 3, 16, 53, 54, 55, 56, 57, 58, 59, 60, 61, 62, 63, 64, 86, 87, 88, 89, 90, 91, 92, 93, 94, 95, 96] (by decide +kernel) (by decide +kernel)
set_option maxRecDepth 20000 in
theorem gX4_init_X3_init : GoodIn wsX4_init (wsX3_init) := ggX4_init_X3_init
set_option maxRecDepth 20000 in
theorem ggX4_reset_X4_within : GoodIn wsX4_reset wsX4_within := goodIn_r _ [11] (by decide +kernel) (by decide +kernel)
set_option maxRecDepth 20000 in
theorem gX4_reset_X4_within : GoodIn wsX4_reset (va_wsS RX4 59 yX4_within wsX4_within) := goodIn_app (goodIn_of _ (by decide +kernel)) ggX4_reset_X4_within
set_option maxRecDepth 20000 in
theorem ggX4_reset_X1_layOut : GoodIn wsX4_reset wsX1_layOut := goodIn_r _ [16, 17, 18, 19, 20, 21, 15, 22, 23, 24, 25, 26, 27, 28, 29, 30, 31, 32, 64, 65, 66, 67, 68, 69, 70, 71] (by decide +kernel) (by decide +kernel)
set_option maxRecDepth 20000 in
theorem gX4_reset_X1_layOut : GoodIn wsX4_reset (wsV RX4 63 RX1 yX1_layOut wsX1_layOut) := goodIn_app (goodIn_of _ (by decide +kernel)) ggX4_reset_X1_layOut
set_option maxRecDepth 20000 in
theorem ggX4_reset_X0_empty : GoodIn wsX4_reset wsX0_empty := goodIn_r _ [37, 38, 72, 73, 74, 75] (by decide +kernel) (by decide +kernel)
set_option maxRecDepth 20000 in
theorem gX4_reset_X0_empty : GoodIn wsX4_reset (wsV RX4 67 RX0 yX0_empty wsX0_empty) := goodIn_app (goodIn_of _ (by decide +kernel)) ggX4_reset_X0_empty
set_option maxRecDepth 20000 in
theorem ggX4_reset_X3_silence : GoodIn wsX4_reset wsX3_silence := goodIn_r _ [43, 44, 45, 46, 47, 48, 76, 77, 78, 79, 80, 81, 82, 83, 84, 85, 86] (by decide +kernel) (by decide +kernel)
set_option maxRecDepth 20000 in
theorem gX4_reset_X3_silence : GoodIn wsX4_reset (wsV RX4 70 RX3 yX3_silence wsX3_silence) := goodIn_app (goodIn_of _ (by decide +kernel)) ggX4_reset_X3_silence
set_option maxRecDepth 20000 in
theorem ggX4_reset_X1_size : GoodIn wsX4_reset wsX1_size := goodIn_r _ [52, 17, 18, 64, 65, 66, 67, 68, 69] (by decide +kernel) (by decide +kernel)
set_option maxRecDepth 20000 in
theorem gX4_reset_X1_size : GoodIn wsX4_reset (wsV RX4 73 RX1 yX1_size wsX1_size) := goodIn_app (goodIn_of _ (by decide +kernel)) ggX4_reset_X1_size
set_option maxRecDepth 20000 in
theorem ggX4_setDiodes_X1_ghosts : GoodIn wsX4_setDiodes wsX1_ghosts := goodIn_r _ [7, 8, 9, 10, 11, 6, 12, 13, 14, 15, 16, 17, 18, 19, 20, 21, 22, 23, 24, 25, 26, 27, 28, 40, 41, 42, 43, 44, 45, 46, 47] (by decide +kernel) (by decide +kernel)
set_option maxRecDepth 20000 in
theorem gX4_setDiodes_X1_ghosts : GoodIn wsX4_setDiodes (wsV RX4 80 RX1 yX1_ghosts wsX1_ghosts) := goodIn_app (goodIn_of _ (by decide +kernel)) ggX4_setDiodes_X1_ghosts
set_option maxRecDepth 20000 in
theorem ggX4_setBlocking_X4_one : GoodIn wsX4_setBlocking wsX4_one := goodIn_r _ [5] (by decide +kernel) (by decide +kernel)
set_option maxRecDepth 20000 in
theorem gX4_setBlocking_X4_one : GoodIn wsX4_setBlocking (va_wsS RX4 83 yX4_one wsX4_one) := goodIn_app (goodIn_of _ (by decide +kernel)) ggX4_setBlocking_X4_one
set_option maxRecDepth 20000 in
theorem ggX4_setLateRelease_X4_one : GoodIn wsX4_setLateRelease wsX4_one := goodIn_r _ [5] (by decide +kernel) (by decide +kernel)
set_option maxRecDepth 20000 in
theorem gX4_setLateRelease_X4_one : GoodIn wsX4_setLateRelease (va_wsS RX4 83 yX4_one wsX4_one) := goodIn_app (goodIn_of _ (by decide +kernel)) ggX4_setLateRelease_X4_one
set_option maxRecDepth 20000 in
theorem ggX4_setSlope_X4_within : GoodIn wsX4_setSlope wsX4_within := goodIn_r _ [5] (by decide +kernel) (by decide +kernel)
set_option maxRecDepth 20000 in
theorem gX4_setSlope_X4_within : GoodIn wsX4_setSlope (va_wsS RX4 59 yX4_within wsX4_within) := goodIn_app (goodIn_of _ (by decide +kernel)) ggX4_setSlope_X4_within
set_option maxRecDepth 20000 in
theorem ggX4_setVoices_X4_within : GoodIn wsX4_setVoices wsX4_within := goodIn_r _ [8] (by decide +kernel) (by decide +kernel)
set_option maxRecDepth 20000 in
theorem gX4_setVoices_X4_within : GoodIn wsX4_setVoices (va_wsS RX4 59 yX4_within wsX4_within) := goodIn_app (goodIn_of _ (by decide +kernel)) ggX4_setVoices_X4_within
set_option maxRecDepth 20000 in
theorem ggX4_setVoices_X3_limit : GoodIn wsX4_setVoices wsX3_limit := goodIn_r _ [13, 14, 15, 16, 17, 18, 12, 19, 20, 21, 22, 23, 24, 25, 26, 27, 28, 29, 30, 31, 32, 33, 34, 35, 47, 48, 49, 50, 51, 52, 53, 54, 55, 56, 57, 58, 59, 60, 61] (by decide +kernel) (by decide +kernel)
set_option maxRecDepth 20000 in
theorem gX4_setVoices_X3_limit : GoodIn wsX4_setVoices (wsV RX4 90 RX3 yX3_limit wsX3_limit) := goodIn_app (goodIn_of _ (by decide +kernel)) ggX4_setVoices_X3_limit
set_option maxRecDepth 20000 in
theorem ggX4_setKey_X1_has : GoodIn wsX4_setKey wsX1_has := goodIn_r _ [7, 8, 9, 10, 6, 11, 12, 13, 51, 52, 53, 54, 55, 56] (by decide +kernel) (by decide +kernel)
set_option maxRecDepth 20000 in
theorem gX4_setKey_X1_has : GoodIn wsX4_setKey (wsV RX4 96 RX1 yX1_has wsX1_has) := goodIn_app (goodIn_of _ (by decide +kernel)) ggX4_setKey_X1_has
set_option maxRecDepth 20000 in
theorem ggX4_setKey_X4_within : GoodIn wsX4_setKey wsX4_within := goodIn_r _ [17] (by decide +kernel) (by decide +kernel)
set_option maxRecDepth 20000 in
theorem gX4_setKey_X4_within : GoodIn wsX4_setKey (va_wsS RX4 59 yX4_within wsX4_within) := goodIn_app (goodIn_of _ (by decide +kernel)) ggX4_setKey_X4_within
set_option maxRecDepth 20000 in
theorem ggX4_setKey_X1_move : GoodIn wsX4_setKey wsX1_move := goodIn_r _ [21, 22, 23, 13, 24, 25, 26, 27, 28, 29, 30, 31, 32, 33, 34, 35, 36, 37, 38, 39, 51, 52, 53, 54, 55, 56, 57, 58] (by decide +kernel) (by decide +kernel)
set_option maxRecDepth 20000 in
theorem gX4_setKey_X1_move : GoodIn wsX4_setKey (wsV RX4 103 RX1 yX1_move wsX1_move) := goodIn_app (goodIn_of _ (by decide +kernel)) ggX4_setKey_X1_move
set_option maxRecDepth 20000 in
theorem ggX4_liftAll_X1_pressed : GoodIn wsX4_liftAll wsX1_pressed := goodIn_r _ [6, 7, 8, 9, 10, 5, 11, 12, 13, 14, 15, 16, 41, 42, 43, 44, 45, 46] (by decide +kernel) (by decide +kernel)
set_option maxRecDepth 20000 in
theorem gX4_liftAll_X1_pressed : GoodIn wsX4_liftAll (wsV RX4 106 RX1 yX1_pressed wsX1_pressed) := goodIn_app (goodIn_of _ (by decide +kernel)) ggX4_liftAll_X1_pressed
set_option maxRecDepth 20000 in
theorem ggX4_liftAll_X1_lift : GoodIn wsX4_liftAll wsX1_lift := goodIn_r _ [20, 7, 21, 22, 23, 24, 25, 26, 27, 28, 29, 41, 42, 43, 44, 45, 46, 47, 48] (by decide +kernel) (by decide +kernel)
set_option maxRecDepth 20000 in
theorem gX4_liftAll_X1_lift : GoodIn wsX4_liftAll (wsV RX4 109 RX1 yX1_lift wsX1_lift) := goodIn_app (goodIn_of _ (by decide +kernel)) ggX4_liftAll_X1_lift
set_option maxRecDepth 20000 in
theorem ggX4_sustain_X3_moveSustain : GoodIn wsX4_sustain wsX3_moveSustain := goodIn_r _ [7, 8, 9, 10, 11, 6, 12, 13, 14, 15, 16, 17, 18, 19, 20, 21, 22, 23, 24, 25, 26, 27, 28, 29, 30, 31, 32, 33, 34, 35, 36, 37, 38, 39, 51, 52, 53, 54, 55, 56, 57, 58, 59, 60, 61, 62, 63, 64, 65] (by decide +kernel) (by decide +kernel)
set_option maxRecDepth 20000 in
theorem gX4_sustain_X3_moveSustain : GoodIn wsX4_sustain (wsV RX4 112 RX3 yX3_moveSustain wsX3_moveSustain) := goodIn_app (goodIn_of _ (by decide +kernel)) ggX4_sustain_X3_moveSustain
set_option maxRecDepth 20000 in
theorem ggX4_sostenuto_X3_moveSostenuto : GoodIn wsX4_sostenuto wsX3_moveSostenuto := goodIn_r _ [7, 8, 9, 10, 11, 12, 13, 14, 6, 15, 16, 17, 18, 19, 20, 21, 22, 23, 24, 25, 26, 27, 28, 29, 30, 31, 32, 33, 34, 35, 36, 37, 38, 39, 40, 41, 42, 43, 55, 56, 57, 58, 59, 60, 61, 62, 63, 64, 65, 66, 67, 68, 69] (by decide +kernel) (by decide +kernel)
set_option maxRecDepth 20000 in
theorem gX4_sostenuto_X3_moveSostenuto : GoodIn wsX4_sostenuto (wsV RX4 116 RX3 yX3_moveSostenuto wsX3_moveSostenuto) := goodIn_app (goodIn_of _ (by decide +kernel)) ggX4_sostenuto_X3_moveSostenuto
set_option maxRecDepth 20000 in
theorem ggX4_tick_X4_within : GoodIn wsX4_tick wsX4_within := goodIn_r _ [11] (by decide +kernel) (by decide +kernel)
set_option maxRecDepth 20000 in
theorem gX4_tick_X4_within : GoodIn wsX4_tick (va_wsS RX4 59 yX4_within wsX4_within) := goodIn_app (goodIn_of _ (by decide +kernel)) ggX4_tick_X4_within
set_option maxRecDepth 20000 in
theorem ggX4_tick_J9_floorMod_7cf53 : GoodIn wsX4_tick wsJ9_floorMod_7cf53 := goodIn_r _ [15] (by decide +kernel) (by decide +kernel)
set_option maxRecDepth 20000 in
theorem gX4_tick_J9_floorMod_7cf53 : GoodIn wsX4_tick (va_wsS RX4 128 yJ9_floorMod_7cf53 wsJ9_floorMod_7cf53) := goodIn_app (goodIn_of _ (by decide +kernel)) ggX4_tick_J9_floorMod_7cf53
set_option maxRecDepth 20000 in
theorem ggX4_tick_X4_scanRow : GoodIn wsX4_tick wsX4_scanRow := goodIn_r _ [19, 1, 20, 21, 22, 23, 10, 24, 25, 26, 27, 7, 28, 29, 30, 31, 32, 33, 34, 35, 36, 37, 38, 39, 40, 41, 42, 43, 44, 45, 46, 47, 48, 49, 50, 51, 52, 53, 54, 55, 56, 57, 58, 59, 60, 61, 62, 2, 63, 64, 65, 66, 67, 68, 69, 70, 71, 72, 73, 74, 75, 76, 77, 13, 14, 15, 78, 79, 80, 81, 82, 3, 4, 5, 6, 83, 84, 85, 86, 87, 88, 89, 90, 91, 92, 93, 94, 95, 96, 97, 98, 99, 100, 101, 102, 103, 104, 105, 106, 107, 108, 109, 110, 111, 112, 113, 114, 115, 116, 117, 118, 119, 120, 121, 122, 123, 124, 125, 126, 127, 128, 129, 130, 131, 132, 133, 134, 135, 136, 137, 138, 139, 140, 141, 142, 143, 144, 145, 146, 147, 148, 149, 150, 151, 152, 153, 154, 155, 156, 157, 158, 159, 160, 161, 162, 163, 164] (by decide +kernel) (by decide +kernel)
set_option maxRecDepth 20000 in
theorem gX4_tick_X4_scanRow : GoodIn wsX4_tick (wsV RX4 131 RX4 yX4_scanRow wsX4_scanRow) := goodIn_app (goodIn_of _ (by decide +kernel)) ggX4_tick_X4_scanRow
set_option maxRecDepth 20000 in
theorem ggX4_key_X1_has : GoodIn wsX4_key wsX1_has := goodIn_r _ [10, 11, 12, 13, 9, 14, 15, 16, 72, 73, 74, 75, 76, 77] (by decide +kernel) (by decide +kernel)
set_option maxRecDepth 20000 in
theorem gX4_key_X1_has : GoodIn wsX4_key (wsV RX4 96 RX1 yX1_has wsX1_has) := goodIn_app (goodIn_of _ (by decide +kernel)) ggX4_key_X1_has
set_option maxRecDepth 20000 in
theorem ggX4_key_X3_withKey : GoodIn wsX4_key wsX3_withKey := goodIn_r _ [21, 22, 23, 24, 78, 79, 80, 81, 82, 83, 84, 85, 86, 87, 88] (by decide +kernel) (by decide +kernel)
set_option maxRecDepth 20000 in
theorem gX4_key_X3_withKey : GoodIn wsX4_key (wsV RX4 135 RX3 yX3_withKey wsX3_withKey) := goodIn_app (goodIn_of _ (by decide +kernel)) ggX4_key_X3_withKey
set_option maxRecDepth 20000 in
theorem ggX4_key_X1_firstSeen : GoodIn wsX4_key wsX1_firstSeen := goodIn_r _ [28, 29, 16, 30, 31, 32, 9, 33, 34, 35, 36, 37, 38, 39, 72, 73, 74, 75, 76, 77, 89, 90] (by decide +kernel) (by decide +kernel)
set_option maxRecDepth 20000 in
theorem gX4_key_X1_firstSeen : GoodIn wsX4_key (wsV RX4 139 RX1 yX1_firstSeen wsX1_firstSeen) := goodIn_app (goodIn_of _ (by decide +kernel)) ggX4_key_X1_firstSeen
set_option maxRecDepth 20000 in
theorem ggX4_key_X4_one : GoodIn wsX4_key wsX4_one := goodIn_r _ [43] (by decide +kernel) (by decide +kernel)
set_option maxRecDepth 20000 in
theorem gX4_key_X4_one : GoodIn wsX4_key (va_wsS RX4 83 yX4_one wsX4_one) := goodIn_app (goodIn_of _ (by decide +kernel)) ggX4_key_X4_one
set_option maxRecDepth 20000 in
theorem ggX4_key_X1_secondSeen : GoodIn wsX4_key wsX1_secondSeen := goodIn_r _ [47, 48, 16, 30, 31, 32, 9, 33, 34, 35, 36, 37, 38, 39, 72, 73, 74, 75, 76, 77, 89, 90] (by decide +kernel) (by decide +kernel)
set_option maxRecDepth 20000 in
theorem gX4_key_X1_secondSeen : GoodIn wsX4_key (wsV RX4 142 RX1 yX1_secondSeen wsX1_secondSeen) := goodIn_app (goodIn_of _ (by decide +kernel)) ggX4_key_X1_secondSeen
set_option maxRecDepth 20000 in
theorem ggX4_key_X1_isGhost : GoodIn wsX4_key wsX1_isGhost := goodIn_r _ [52, 16, 53, 54, 55, 9, 56, 29, 35, 48, 30, 31, 32, 33, 34, 36, 37, 38, 39, 72, 73, 74, 75, 76, 77, 89, 90] (by decide +kernel) (by decide +kernel)
set_option maxRecDepth 20000 in
theorem gX4_key_X1_isGhost : GoodIn wsX4_key (wsV RX4 145 RX1 yX1_isGhost wsX1_isGhost) := goodIn_app (goodIn_of _ (by decide +kernel)) ggX4_key_X1_isGhost
set_option maxRecDepth 20000 in
theorem ggX4_key_X1_isDoubtful : GoodIn wsX4_key wsX1_isDoubtful := goodIn_r _ [60, 16, 15, 29, 30, 31, 32, 9, 33, 34, 35, 36, 72, 73, 74, 75, 76, 77, 89, 90] (by decide +kernel) (by decide +kernel)
set_option maxRecDepth 20000 in
theorem gX4_key_X1_isDoubtful : GoodIn wsX4_key (wsV RX4 148 RX1 yX1_isDoubtful wsX1_isDoubtful) := goodIn_app (goodIn_of _ (by decide +kernel)) ggX4_key_X1_isDoubtful
set_option maxRecDepth 20000 in
theorem ggX4_voice_X4_one : GoodIn wsX4_voice wsX4_one := goodIn_r _ [11] (by decide +kernel) (by decide +kernel)
set_option maxRecDepth 20000 in
theorem gX4_voice_X4_one : GoodIn wsX4_voice (va_wsS RX4 83 yX4_one wsX4_one) := goodIn_app (goodIn_of _ (by decide +kernel)) ggX4_voice_X4_one
set_option maxRecDepth 20000 in
theorem ggX4_count_X1_size : GoodIn wsX4_count wsX1_size := goodIn_r _ [14, 15, 16, 91, 92, 93, 94, 95, 96] (by decide +kernel) (by decide +kernel)
set_option maxRecDepth 20000 in
theorem gX4_count_X1_size : GoodIn wsX4_count (wsV RX4 73 RX1 yX1_size wsX1_size) := goodIn_app (goodIn_of _ (by decide +kernel)) ggX4_count_X1_size
set_option maxRecDepth 20000 in
theorem ggX4_count_X1_pressed : GoodIn wsX4_count wsX1_pressed := goodIn_r _ [20, 21, 22, 11, 12, 13, 14, 15, 16, 23, 24, 25, 91, 92, 93, 94, 95, 96] (by decide +kernel) (by decide +kernel)
set_option maxRecDepth 20000 in
theorem gX4_count_X1_pressed : GoodIn wsX4_count (wsV RX4 106 RX1 yX1_pressed wsX1_pressed) := goodIn_app (goodIn_of _ (by decide +kernel)) ggX4_count_X1_pressed
set_option maxRecDepth 20000 in
theorem ggX4_count_X1_ghosts : GoodIn wsX4_count wsX1_ghosts := goodIn_r _ [29, 15, 30, 31, 32, 13, 33, 34, 35, 36, 37, 38, 39, 40, 41, 42, 43, 44, 45, 46, 47, 48, 49, 91, 92, 93, 94, 95, 96, 97, 98] (by decide +kernel) (by decide +kernel)
set_option maxRecDepth 20000 in
theorem gX4_count_X1_ghosts : GoodIn wsX4_count (wsV RX4 80 RX1 yX1_ghosts wsX1_ghosts) := goodIn_app (goodIn_of _ (by decide +kernel)) ggX4_count_X1_ghosts
set_option maxRecDepth 20000 in
theorem ggX4_count_X1_doubtful : GoodIn wsX4_count wsX1_doubtful := goodIn_r _ [53, 22, 11, 12, 13, 14, 15, 16, 54, 55, 56, 57, 34, 37, 38, 39, 40, 41, 35, 42, 23, 24, 25, 91, 92, 93, 94, 95, 96, 97, 98] (by decide +kernel) (by decide +kernel)
set_option maxRecDepth 20000 in
theorem gX4_count_X1_doubtful : GoodIn wsX4_count (wsV RX4 167 RX1 yX1_doubtful wsX1_doubtful) := goodIn_app (goodIn_of _ (by decide +kernel)) ggX4_count_X1_doubtful
set_option maxRecDepth 20000 in
theorem ggX4_count_X3_inState : GoodIn wsX4_count wsX3_inState := goodIn_r _ [62, 63, 64, 76, 77, 78, 79, 80, 81, 82, 83, 84, 85, 86] (by decide +kernel) (by decide +kernel)
set_option maxRecDepth 20000 in
theorem gX4_count_X3_inState : GoodIn wsX4_count (wsV RX4 170 RX3 yX3_inState wsX3_inState) := goodIn_app (goodIn_of _ (by decide +kernel)) ggX4_count_X3_inState
set_option maxRecDepth 20000 in
theorem ggX4_log_X4_within : GoodIn wsX4_log wsX4_within := goodIn_r _ [8] (by decide +kernel) (by decide +kernel)
set_option maxRecDepth 20000 in
theorem gX4_log_X4_within : GoodIn wsX4_log (va_wsS RX4 59 yX4_within wsX4_within) := goodIn_app (goodIn_of _ (by decide +kernel)) ggX4_log_X4_within
set_option maxRecDepth 20000 in
theorem ggX4_log_X0_size : GoodIn wsX4_log wsX0_size := goodIn_r _ [13, 14, 15, 16, 17, 18, 38, 39, 40, 41] (by decide +kernel) (by decide +kernel)
set_option maxRecDepth 20000 in
theorem gX4_log_X0_size : GoodIn wsX4_log (wsV RX4 179 RX0 yX0_size wsX0_size) := goodIn_app (goodIn_of _ (by decide +kernel)) ggX4_log_X0_size
set_option maxRecDepth 20000 in
theorem ggX4_log_X0_place : GoodIn wsX4_log wsX0_place := goodIn_r _ [22, 14, 23, 24, 25, 26, 38, 39, 40, 41] (by decide +kernel) (by decide +kernel)
set_option maxRecDepth 20000 in
theorem gX4_log_X0_place : GoodIn wsX4_log (wsV RX4 180 RX0 yX0_place wsX0_place) := goodIn_app (goodIn_of _ (by decide +kernel)) ggX4_log_X0_place
set_option maxRecDepth 20000 in
theorem ggX4_velocity_X4_within : GoodIn wsX4_velocity wsX4_within := goodIn_r _ [4] (by decide +kernel) (by decide +kernel)
set_option maxRecDepth 20000 in
theorem gX4_velocity_X4_within : GoodIn wsX4_velocity (va_wsS RX4 59 yX4_within wsX4_within) := goodIn_app (goodIn_of _ (by decide +kernel)) ggX4_velocity_X4_within
set_option maxRecDepth 20000 in
theorem ggX4_velocity_X4_velocityAfter : GoodIn wsX4_velocity wsX4_velocityAfter := goodIn_r _ [8, 9, 10, 11, 12, 13, 14, 15, 16, 17, 18, 19, 20, 21, 22, 23, 24, 25, 26, 27] (by decide +kernel) (by decide +kernel)
set_option maxRecDepth 20000 in
theorem gX4_velocity_X4_velocityAfter : GoodIn wsX4_velocity (wsV RX4 190 RX4 yX4_velocityAfter wsX4_velocityAfter) := goodIn_app (goodIn_of _ (by decide +kernel)) ggX4_velocity_X4_velocityAfter
set_option maxRecDepth 20000 in
theorem ggX4_nextTaken_X3_firstFree : GoodIn wsX4_nextTaken wsX3_firstFree := goodIn_r _ [6, 7, 8, 31, 32, 33, 34, 35, 36, 37, 38, 39, 40, 41] (by decide +kernel) (by decide +kernel)
set_option maxRecDepth 20000 in
theorem gX4_nextTaken_X3_firstFree : GoodIn wsX4_nextTaken (wsV RX4 193 RX3 yX3_firstFree wsX3_firstFree) := goodIn_app (goodIn_of _ (by decide +kernel)) ggX4_nextTaken_X3_firstFree
set_option maxRecDepth 20000 in
theorem ggX4_nextTaken_X3_victim : GoodIn wsX4_nextTaken wsX3_victim := goodIn_r _ [12, 7, 13, 14, 15, 5, 16, 17, 8, 18, 19, 31, 32, 33, 34, 35, 36, 37, 38, 39, 40, 41] (by decide +kernel) (by decide +kernel)
set_option maxRecDepth 20000 in
theorem gX4_nextTaken_X3_victim : GoodIn wsX4_nextTaken (wsV RX4 196 RX3 yX3_victim wsX3_victim) := goodIn_app (goodIn_of _ (by decide +kernel)) ggX4_nextTaken_X3_victim
set_option maxRecDepth 20000 in
theorem ggX4_connected_X2_rowsJoinedWith : GoodIn wsX4_connected wsX2_rowsJoinedWith := goodIn_r _ [9, 10, 28, 29] (by decide +kernel) (by decide +kernel)
set_option maxRecDepth 20000 in
theorem gX4_connected_X2_rowsJoinedWith : GoodIn wsX4_connected (wsV RX4 203 RX2 yX2_rowsJoinedWith wsX2_rowsJoinedWith) := goodIn_app (goodIn_of _ (by decide +kernel)) ggX4_connected_X2_rowsJoinedWith
set_option maxRecDepth 20000 in
theorem ggX4_worstKey_X1_ghosts : GoodIn wsX4_worstKey wsX1_ghosts := goodIn_r _ [7, 8, 9, 10, 11, 6, 12, 13, 14, 15, 16, 17, 18, 19, 20, 21, 22, 23, 24, 25, 26, 27, 28, 70, 71, 72, 73, 74, 75, 76, 77] (by decide +kernel) (by decide +kernel)
set_option maxRecDepth 20000 in
theorem gX4_worstKey_X1_ghosts : GoodIn wsX4_worstKey (wsV RX4 80 RX1 yX1_ghosts wsX1_ghosts) := goodIn_app (goodIn_of _ (by decide +kernel)) ggX4_worstKey_X1_ghosts
set_option maxRecDepth 20000 in
theorem ggX4_worstKey_X1_size : GoodIn wsX4_worstKey wsX1_size := goodIn_r _ [32, 8, 33, 70, 71, 72, 73, 74, 75] (by decide +kernel) (by decide +kernel)
set_option maxRecDepth 20000 in
theorem gX4_worstKey_X1_size : GoodIn wsX4_worstKey (wsV RX4 73 RX1 yX1_size wsX1_size) := goodIn_app (goodIn_of _ (by decide +kernel)) ggX4_worstKey_X1_size
set_option maxRecDepth 20000 in
theorem ggX4_worstKey_X1_ghostsWithout : GoodIn wsX4_worstKey wsX1_ghostsWithout := goodIn_r _ [37, 38, 39, 40, 41, 6, 42, 13, 33, 15, 43, 44, 45, 46, 47, 48, 49, 50, 51, 52, 53, 54, 55, 56, 57, 58, 4, 5, 7, 8, 9, 10, 11, 12, 14, 16, 17, 18, 19, 20, 21, 22, 23, 24, 25, 26, 27, 28, 70, 71, 72, 73, 74, 75, 76, 77] (by decide +kernel) (by decide +kernel)
set_option maxRecDepth 20000 in
theorem gX4_worstKey_X1_ghostsWithout : GoodIn wsX4_worstKey (wsV RX4 211 RX1 yX1_ghostsWithout wsX1_ghostsWithout) := goodIn_app (goodIn_of _ (by decide +kernel)) ggX4_worstKey_X1_ghostsWithout
set_option maxRecDepth 20000 in
theorem ggX4_restAfter_X4_within : GoodIn wsX4_restAfter wsX4_within := goodIn_r _ [10] (by decide +kernel) (by decide +kernel)
set_option maxRecDepth 20000 in
theorem gX4_restAfter_X4_within : GoodIn wsX4_restAfter (va_wsS RX4 59 yX4_within wsX4_within) := goodIn_app (goodIn_of _ (by decide +kernel)) ggX4_restAfter_X4_within
set_option maxRecDepth 20000 in
theorem ggX4_restAfter_X4_allRestBehind : GoodIn wsX4_restAfter wsX4_allRestBehind := goodIn_r _ [14, 1, 2, 15, 16, 17, 18, 19, 20, 21, 22, 23, 24, 25, 26, 27, 28, 29, 30, 31, 9, 32, 33, 34, 35, 36, 37, 38, 39, 40, 41, 42, 43, 44, 45, 46, 47, 48, 49, 50, 51, 52, 53] (by decide +kernel) (by decide +kernel)
set_option maxRecDepth 20000 in
theorem gX4_restAfter_X4_allRestBehind : GoodIn wsX4_restAfter (wsV RX4 214 RX4 yX4_allRestBehind wsX4_allRestBehind) := goodIn_app (goodIn_of _ (by decide +kernel)) ggX4_restAfter_X4_allRestBehind
set_option maxRecDepth 20000 in
theorem ggX4_scanRow_X4_scanKey : GoodIn wsX4_scanRow wsX4_scanKey := goodIn_r _ [7, 1, 8, 9, 10, 11, 12, 13, 14, 15, 16, 17, 18, 19, 20, 21, 22, 23, 24, 25, 26, 27, 28, 29, 30, 31, 32, 33, 34, 35, 36, 6, 37, 38, 39, 40, 41, 42, 43, 44, 45, 46, 47, 48, 49, 50, 51, 52, 53, 54, 55, 56, 57, 58, 59, 60, 61, 62, 63, 64, 65, 66, 67, 68, 69, 70, 71, 72, 73, 74, 75, 76, 77, 78, 79, 80, 81, 82, 83, 84, 85, 86, 87, 88, 89, 90, 91, 92, 93, 94, 95, 96, 97, 98, 99, 100, 101, 102, 103, 104, 105, 106, 107, 108, 109, 110, 111, 112, 113, 114, 115, 116, 117, 118, 119, 120, 121, 122, 123, 124, 125, 126, 127, 128, 129, 130, 131, 132, 133, 134, 135, 136, 137, 138, 139, 140, 141, 142, 143, 144, 145, 146, 147, 148, 149, 150, 151, 152, 153, 154, 155, 156] (by decide +kernel) (by decide +kernel)
set_option maxRecDepth 20000 in
theorem gX4_scanRow_X4_scanKey : GoodIn wsX4_scanRow (wsV RX4 220 RX4 yX4_scanKey wsX4_scanKey) := goodIn_app (goodIn_of _ (by decide +kernel)) ggX4_scanRow_X4_scanKey
set_option maxRecDepth 20000 in
theorem ggX4_scanKey_X1_firstSeen : GoodIn wsX4_scanKey wsX1_firstSeen := goodIn_r _ [10, 11, 12, 13, 14, 15, 9, 16, 17, 18, 19, 20, 21, 22, 129, 130, 131, 132, 133, 134, 135, 136] (by decide +kernel) (by decide +kernel)
set_option maxRecDepth 20000 in
theorem gX4_scanKey_X1_firstSeen : GoodIn wsX4_scanKey (wsV RX4 139 RX1 yX1_firstSeen wsX1_firstSeen) := goodIn_app (goodIn_of _ (by decide +kernel)) ggX4_scanKey_X1_firstSeen
set_option maxRecDepth 20000 in
theorem ggX4_scanKey_X1_secondSeen : GoodIn wsX4_scanKey wsX1_secondSeen := goodIn_r _ [26, 27, 12, 13, 14, 15, 9, 16, 17, 18, 19, 20, 21, 22, 129, 130, 131, 132, 133, 134, 135, 136] (by decide +kernel) (by decide +kernel)
set_option maxRecDepth 20000 in
theorem gX4_scanKey_X1_secondSeen : GoodIn wsX4_scanKey (wsV RX4 142 RX1 yX1_secondSeen wsX1_secondSeen) := goodIn_app (goodIn_of _ (by decide +kernel)) ggX4_scanKey_X1_secondSeen
set_option maxRecDepth 20000 in
theorem ggX4_scanKey_X4_enter : GoodIn wsX4_scanKey wsX4_enter := goodIn_r _ [32, 2, 33, 5, 118, 119, 120, 121, 122, 123, 124, 125, 126, 127, 128] (by decide +kernel) (by decide +kernel)
set_option maxRecDepth 20000 in
theorem gX4_scanKey_X4_enter : GoodIn wsX4_scanKey (wsV RX4 223 RX4 yX4_enter wsX4_enter) := goodIn_app (goodIn_of _ (by decide +kernel)) ggX4_scanKey_X4_enter
set_option maxRecDepth 20000 in
theorem ggX4_scanKey_X4_strike : GoodIn wsX4_scanKey wsX4_strike := goodIn_r _ [37, 2, 38, 1, 39, 40, 5, 41, 4, 33, 42, 43, 44, 45, 9, 46, 12, 47, 11, 13, 14, 15, 16, 17, 18, 19, 48, 49, 50, 51, 52, 53, 54, 55, 56, 57, 58, 59, 60, 61, 62, 63, 31, 64, 65, 66, 67, 68, 69, 70, 71, 72, 73, 74, 75, 76, 77, 78, 79, 80, 81, 82, 83, 84, 85, 86, 87, 88, 89, 90, 91, 92, 93, 94, 95, 96, 97, 98, 99, 100, 101, 102, 103, 118, 119, 120, 121, 122, 123, 124, 125, 126, 127, 128, 129, 130, 131, 132, 133, 134, 135, 136, 137, 138, 139, 140, 141, 142, 143, 144, 145, 146, 147, 148, 149, 150, 151] (by decide +kernel) (by decide +kernel)
set_option maxRecDepth 20000 in
theorem gX4_scanKey_X4_strike : GoodIn wsX4_scanKey (wsV RX4 226 RX4 yX4_strike wsX4_strike) := goodIn_app (goodIn_of _ (by decide +kernel)) ggX4_scanKey_X4_strike
set_option maxRecDepth 20000 in
theorem ggX4_scanKey_X3_release : GoodIn wsX4_scanKey wsX3_release := goodIn_r _ [107, 81, 85, 86, 87, 76, 88, 89, 80, 108, 109, 110, 111, 112, 113, 84, 114, 115, 116, 117, 79, 103, 49, 50, 51, 52, 53, 54, 55, 56, 57, 58, 59, 60, 141, 142, 143, 144, 145, 146, 147, 148, 149, 150, 151, 137, 138, 139, 140] (by decide +kernel) (by decide +kernel)
set_option maxRecDepth 20000 in
theorem gX4_scanKey_X3_release : GoodIn wsX4_scanKey (wsV RX4 229 RX3 yX3_release wsX3_release) := goodIn_app (goodIn_of _ (by decide +kernel)) ggX4_scanKey_X3_release
set_option maxRecDepth 20000 in
theorem ggX4_strike_X1_isDoubtful : GoodIn wsX4_strike wsX1_isDoubtful := goodIn_r _ [15, 16, 17, 18, 19, 20, 21, 14, 22, 23, 24, 25, 94, 95, 96, 97, 98, 99, 100, 101] (by decide +kernel) (by decide +kernel)
set_option maxRecDepth 20000 in
theorem gX4_strike_X1_isDoubtful : GoodIn wsX4_strike (wsV RX4 148 RX1 yX1_isDoubtful wsX1_isDoubtful) := goodIn_app (goodIn_of _ (by decide +kernel)) ggX4_strike_X1_isDoubtful
set_option maxRecDepth 20000 in
theorem ggX4_strike_X0_write : GoodIn wsX4_strike wsX0_write := goodIn_r _ [30, 31, 32, 33, 34, 35, 36, 37, 38, 102, 103, 104, 105] (by decide +kernel) (by decide +kernel)
set_option maxRecDepth 20000 in
theorem gX4_strike_X0_write : GoodIn wsX4_strike (wsV RX4 232 RX0 yX0_write wsX0_write) := goodIn_app (goodIn_of _ (by decide +kernel)) ggX4_strike_X0_write
set_option maxRecDepth 20000 in
theorem ggX4_strike_X4_velocityAfter : GoodIn wsX4_strike wsX4_velocityAfter := goodIn_r _ [43, 44, 45, 46, 47, 48, 49, 50, 51, 83, 84, 85, 86, 87, 88, 89, 90, 91, 92, 93] (by decide +kernel) (by decide +kernel)
set_option maxRecDepth 20000 in
theorem gX4_strike_X4_velocityAfter : GoodIn wsX4_strike (wsV RX4 190 RX4 yX4_velocityAfter wsX4_velocityAfter) := goodIn_app (goodIn_of _ (by decide +kernel)) ggX4_strike_X4_velocityAfter
set_option maxRecDepth 20000 in
theorem ggX4_strike_X3_sound : GoodIn wsX4_strike wsX3_sound := goodIn_r _ [56, 57, 58, 59, 60, 61, 62, 63, 64, 65, 66, 55, 67, 68, 69, 70, 71, 72, 73, 74, 75, 76, 77, 78, 79, 80, 81, 82, 27, 28, 29, 30, 31, 32, 33, 34, 35, 36, 37, 38, 106, 107, 108, 109, 110, 111, 112, 113, 114, 115, 116, 102, 103, 104, 105] (by decide +kernel) (by decide +kernel)
set_option maxRecDepth 20000 in
theorem gX4_strike_X3_sound : GoodIn wsX4_strike (wsV RX4 236 RX3 yX3_sound wsX3_sound) := goodIn_app (goodIn_of _ (by decide +kernel)) ggX4_strike_X3_sound
set_option maxRecDepth 20000 in
theorem ggX4_allRestBehind_J9_floorMod_7cf53 : GoodIn wsX4_allRestBehind wsJ9_floorMod_7cf53 := goodIn_r _ [8] (by decide +kernel) (by decide +kernel)
set_option maxRecDepth 20000 in
theorem gX4_allRestBehind_J9_floorMod_7cf53 : GoodIn wsX4_allRestBehind (va_wsS RX4 128 yJ9_floorMod_7cf53 wsJ9_floorMod_7cf53) := goodIn_app (goodIn_of _ (by decide +kernel)) ggX4_allRestBehind_J9_floorMod_7cf53
set_option maxRecDepth 20000 in
theorem ggX4_allRestBehind_X1_seen : GoodIn wsX4_allRestBehind wsX1_seen := goodIn_r _ [13, 14, 15, 16, 35, 36, 37, 38, 39, 40, 41, 42] (by decide +kernel) (by decide +kernel)
set_option maxRecDepth 20000 in
theorem gX4_allRestBehind_X1_seen : GoodIn wsX4_allRestBehind (wsV RX4 242 RX1 yX1_seen wsX1_seen) := goodIn_app (goodIn_of _ (by decide +kernel)) ggX4_allRestBehind_X1_seen
set_option maxRecDepth 20000 in
theorem ggX4_allRestBehind_X4_rowRests : GoodIn wsX4_allRestBehind wsX4_rowRests := goodIn_r _ [21, 1, 22, 23, 24, 25, 26, 27, 28, 29, 30, 31, 32, 33, 34, 35, 36, 37, 38, 39, 40] (by decide +kernel) (by decide +kernel)
set_option maxRecDepth 20000 in
theorem gX4_allRestBehind_X4_rowRests : GoodIn wsX4_allRestBehind (wsV RX4 246 RX4 yX4_rowRests wsX4_rowRests) := goodIn_app (goodIn_of _ (by decide +kernel)) ggX4_allRestBehind_X4_rowRests
set_option maxRecDepth 20000 in
theorem ggL_matrix_X4_connected : GoodIn wsL_matrix wsX4_connected := goodIn_r _ [5, 6, 7, 8, 9, 10, 11, 12, 13, 14, 15, 115, 116, 117, 118, 119, 120, 121, 122, 123, 124, 125, 126, 127, 128, 129, 130, 131, 132, 133] (by decide +kernel) (by decide +kernel)
set_option maxRecDepth 20000 in
theorem gL_matrix_X4_connected : GoodIn wsL_matrix (wsV RL 9 RX4 yX4_connected wsX4_connected) := goodIn_app (goodIn_of _ (by decide +kernel)) ggL_matrix_X4_connected
set_option maxRecDepth 20000 in
theorem ggL_matrix_X4_key : GoodIn wsL_matrix wsX4_key := goodIn_r _ [19, 6, 20, 21, 22, 23, 24, 25, 26, 27, 28, 29, 30, 31, 32, 33, 34, 35, 36, 37, 38, 39, 40, 41, 42, 43, 44, 45, 46, 47, 48, 49, 50, 51, 52, 53, 54, 55, 56, 57, 58, 59, 4, 60, 61, 62, 63, 64, 65, 66, 67, 68, 69, 70, 71, 72, 73, 74, 75, 76, 77, 115, 116, 117, 118, 119, 120, 121, 122, 123, 124, 125, 126, 127, 128, 129, 130, 131, 134, 135, 136, 137, 138, 139, 140, 141, 142, 143, 144, 132, 133] (by decide +kernel) (by decide +kernel)
set_option maxRecDepth 20000 in
theorem gL_matrix_X4_key : GoodIn wsL_matrix (wsV RL 15 RX4 yX4_key wsX4_key) := goodIn_app (goodIn_of _ (by decide +kernel)) ggL_matrix_X4_key
set_option maxRecDepth 20000 in
theorem ggL_matrix_X4_count : GoodIn wsL_matrix wsX4_count := goodIn_r _ [81, 82, 6, 23, 83, 84, 85, 86, 87, 88, 89, 30, 31, 27, 32, 33, 34, 90, 91, 92, 93, 94, 29, 59, 4, 60, 95, 96, 97, 98, 70, 71, 72, 73, 47, 53, 65, 48, 49, 50, 51, 52, 54, 99, 100, 101, 102, 103, 104, 105, 106, 107, 108, 109, 110, 75, 76, 77, 111, 112, 113, 38, 114, 40, 41, 115, 116, 117, 118, 119, 120, 121, 122, 123, 124, 125, 134, 135, 136, 137, 138, 139, 140, 141, 142, 143, 144, 145, 146, 147, 148, 126, 127, 128, 129, 130, 131, 132, 133] (by decide +kernel) (by decide +kernel)
set_option maxRecDepth 20000 in
theorem gL_matrix_X4_count : GoodIn wsL_matrix (wsV RL 19 RX4 yX4_count wsX4_count) := goodIn_app (goodIn_of _ (by decide +kernel)) ggL_matrix_X4_count
set_option maxRecDepth 20000 in
theorem ggL_voices_X4_count : GoodIn wsL_voices wsX4_count := goodIn_r _ [5, 6, 7, 8, 9, 10, 11, 12, 13, 14, 15, 16, 17, 18, 19, 20, 21, 22, 23, 24, 25, 26, 27, 28, 4, 29, 30, 31, 32, 33, 34, 35, 36, 37, 38, 39, 40, 41, 42, 43, 44, 45, 46, 47, 48, 49, 50, 51, 52, 53, 54, 55, 56, 57, 58, 59, 60, 61, 62, 63, 64, 65, 66, 67, 68, 158, 159, 160, 161, 162, 163, 164, 165, 166, 167, 168, 169, 170, 171, 172, 173, 174, 175, 176, 177, 178, 179, 180, 181, 182, 183, 184, 185, 186, 187, 188, 189, 190, 191] (by decide +kernel) (by decide +kernel)
set_option maxRecDepth 20000 in
theorem gL_voices_X4_count : GoodIn wsL_voices (wsV RL 19 RX4 yX4_count wsX4_count) := goodIn_app (goodIn_of _ (by decide +kernel)) ggL_voices_X4_count
set_option maxRecDepth 20000 in
theorem ggL_voices_X4_voice : GoodIn wsL_voices wsX4_voice := goodIn_r _ [72, 8, 9, 73, 74, 75, 76, 77, 78, 28, 4, 29, 158, 159, 160, 161, 162, 163, 164, 165, 166, 167, 168, 169, 170, 171, 172, 173, 174, 175, 176, 177, 178, 179] (by decide +kernel) (by decide +kernel)
set_option maxRecDepth 20000 in
theorem gL_voices_X4_voice : GoodIn wsL_voices (wsV RL 22 RX4 yX4_voice wsX4_voice) := goodIn_app (goodIn_of _ (by decide +kernel)) ggL_voices_X4_voice
set_option maxRecDepth 20000 in
theorem ggL_voices_X4_key : GoodIn wsL_voices wsX4_key := goodIn_r _ [82, 7, 83, 84, 85, 8, 86, 87, 88, 18, 89, 27, 16, 17, 19, 20, 21, 90, 91, 92, 65, 93, 67, 68, 94, 95, 96, 97, 98, 38, 41, 42, 43, 44, 45, 39, 46, 99, 100, 101, 78, 28, 4, 29, 102, 103, 104, 105, 40, 106, 107, 108, 109, 34, 35, 36, 37, 110, 59, 60, 61, 158, 159, 160, 161, 162, 163, 164, 165, 166, 167, 168, 184, 185, 186, 187, 188, 189, 169, 170, 171, 172, 173, 174, 175, 176, 177, 178, 179, 190, 191] (by decide +kernel) (by decide +kernel)
set_option maxRecDepth 20000 in
theorem gL_voices_X4_key : GoodIn wsL_voices (wsV RL 15 RX4 yX4_key wsX4_key) := goodIn_app (goodIn_of _ (by decide +kernel)) ggL_voices_X4_key
set_option maxRecDepth 20000 in
theorem ggL_voices_X4_nextTaken : GoodIn wsL_voices wsX4_nextTaken := goodIn_r _ [114, 8, 115, 116, 117, 65, 118, 67, 68, 119, 120, 121, 122, 123, 124, 125, 126, 127, 128, 129, 158, 159, 160, 161, 162, 163, 164, 165, 166, 167, 168, 169, 170, 171, 172, 173, 174, 175, 176, 177, 178, 179] (by decide +kernel) (by decide +kernel)
set_option maxRecDepth 20000 in
theorem gL_voices_X4_nextTaken : GoodIn wsL_voices (wsV RL 25 RX4 yX4_nextTaken wsX4_nextTaken) := goodIn_app (goodIn_of _ (by decide +kernel)) ggL_voices_X4_nextTaken
set_option maxRecDepth 20000 in
theorem ggL_voices_X4_log : GoodIn wsL_voices wsX4_log := goodIn_r _ [133, 10, 134, 135, 136, 137, 138, 4, 139, 140, 141, 142, 143, 144, 145, 146, 147, 148, 149, 150, 151, 152, 153, 154, 155, 156, 157, 158, 159, 160, 161, 162, 163, 164, 165, 166, 167, 168, 180, 181, 182, 183] (by decide +kernel) (by decide +kernel)
set_option maxRecDepth 20000 in
theorem gL_voices_X4_log : GoodIn wsL_voices (wsV RL 29 RX4 yX4_log wsX4_log) := goodIn_app (goodIn_of _ (by decide +kernel)) ggL_voices_X4_log
set_option maxRecDepth 20000 in
theorem ggL_tick_X4_count : GoodIn wsL_tick wsX4_count := goodIn_r _ [6, 7, 8, 9, 10, 11, 12, 13, 14, 15, 16, 17, 18, 19, 20, 21, 22, 23, 24, 25, 26, 27, 28, 29, 5, 30, 31, 32, 33, 34, 35, 36, 37, 38, 39, 40, 41, 42, 43, 44, 45, 46, 47, 48, 49, 50, 51, 52, 53, 54, 55, 56, 57, 58, 59, 60, 61, 62, 63, 64, 65, 66, 67, 68, 69, 207, 208, 209, 210, 211, 212, 213, 214, 215, 216, 217, 218, 219, 220, 221, 222, 223, 224, 225, 226, 227, 228, 229, 230, 231, 232, 233, 234, 235, 236, 237, 238, 239, 240] (by decide +kernel) (by decide +kernel)
set_option maxRecDepth 20000 in
theorem gL_tick_X4_count : GoodIn wsL_tick (wsV RL 19 RX4 yX4_count wsX4_count) := goodIn_app (goodIn_of _ (by decide +kernel)) ggL_tick_X4_count
set_option maxRecDepth 20000 in
theorem ggL_tick_X4_key : GoodIn wsL_tick wsX4_key := goodIn_r _ [73, 8, 74, 75, 76, 9, 77, 78, 79, 19, 80, 28, 17, 18, 20, 21, 22, 81, 82, 83, 66, 84, 68, 69, 85, 86, 87, 88, 89, 39, 42, 43, 44, 45, 46, 40, 47, 90, 91, 92, 93, 29, 5, 30, 94, 95, 96, 97, 41, 98, 99, 100, 101, 35, 36, 37, 38, 102, 60, 61, 62, 207, 208, 209, 210, 211, 212, 213, 214, 215, 216, 217, 233, 234, 235, 236, 237, 238, 218, 219, 220, 221, 222, 223, 224, 225, 226, 227, 228, 239, 240] (by decide +kernel) (by decide +kernel)
set_option maxRecDepth 20000 in
theorem gL_tick_X4_key : GoodIn wsL_tick (wsV RL 15 RX4 yX4_key wsX4_key) := goodIn_app (goodIn_of _ (by decide +kernel)) ggL_tick_X4_key
set_option maxRecDepth 20000 in
theorem ggL_tick_X4_tick : GoodIn wsL_tick wsX4_tick := goodIn_r _ [106, 8, 107, 108, 109, 110, 111, 7, 112, 113, 5, 114, 115, 116, 117, 118, 119, 120, 121, 122, 123, 124, 125, 126, 127, 75, 128, 9, 86, 87, 88, 19, 89, 39, 22, 42, 43, 44, 45, 46, 40, 47, 90, 91, 92, 94, 95, 96, 97, 41, 129, 130, 131, 132, 76, 133, 134, 135, 136, 137, 14, 11, 13, 102, 60, 61, 62, 21, 138, 139, 140, 141, 142, 143, 144, 145, 146, 147, 148, 149, 150, 151, 152, 153, 154, 155, 156, 157, 158, 66, 159, 160, 161, 85, 69, 162, 163, 164, 165, 82, 83, 84, 68, 166, 167, 168, 169, 170, 171, 172, 173, 174, 175, 176, 177, 178, 179, 180, 181, 182, 183, 184, 185, 186, 187, 188, 189, 190, 191, 192, 193, 207, 208, 209, 210, 211, 212, 213, 214, 215, 216, 217, 233, 234, 235, 236, 237, 238, 239, 240, 229, 230, 231, 232, 218, 219, 220, 221, 222, 223, 224, 225, 226, 227, 228] (by decide +kernel) (by decide +kernel)
set_option maxRecDepth 20000 in
theorem gL_tick_X4_tick : GoodIn wsL_tick (wsV RL 32 RX4 yX4_tick wsX4_tick) := goodIn_app (goodIn_of _ (by decide +kernel)) ggL_tick_X4_tick
set_option maxRecDepth 20000 in
theorem ggL_tick_X4_voice : GoodIn wsL_tick wsX4_voice := goodIn_r _ [197, 9, 10, 198, 199, 200, 201, 202, 93, 29, 5, 30, 207, 208, 209, 210, 211, 212, 213, 214, 215, 216, 217, 218, 219, 220, 221, 222, 223, 224, 225, 226, 227, 228] (by decide +kernel) (by decide +kernel)
set_option maxRecDepth 20000 in
theorem gL_tick_X4_voice : GoodIn wsL_tick (wsV RL 22 RX4 yX4_voice wsX4_voice) := goodIn_app (goodIn_of _ (by decide +kernel)) ggL_tick_X4_voice
set_option maxRecDepth 20000 in
theorem ggL_tick_X4_velocity : GoodIn wsL_tick wsX4_velocity := goodIn_r _ [206, 112, 113, 5, 114, 148, 149, 150, 151, 152, 108, 109, 110, 111, 153, 154, 155, 207, 208, 209, 210, 211, 212, 213, 214, 215, 216, 217] (by decide +kernel) (by decide +kernel)
set_option maxRecDepth 20000 in
theorem gL_tick_X4_velocity : GoodIn wsL_tick (wsV RL 35 RX4 yX4_velocity wsX4_velocity) := goodIn_app (goodIn_of _ (by decide +kernel)) ggL_tick_X4_velocity
set_option maxRecDepth 20000 in
theorem ggL_worst_X4_count : GoodIn wsL_worst wsX4_count := goodIn_r _ [5, 6, 7, 8, 9, 10, 11, 12, 13, 14, 15, 16, 17, 18, 19, 20, 21, 22, 23, 24, 25, 26, 27, 28, 4, 29, 30, 31, 32, 33, 34, 35, 36, 37, 38, 39, 40, 41, 42, 43, 44, 45, 46, 47, 48, 49, 50, 51, 52, 53, 54, 55, 56, 57, 58, 59, 60, 61, 62, 63, 64, 65, 66, 67, 68, 138, 139, 140, 141, 142, 143, 144, 145, 146, 147, 148, 149, 150, 151, 152, 153, 154, 155, 156, 157, 158, 159, 160, 161, 162, 163, 164, 165, 166, 167, 168, 169, 170, 171] (by decide +kernel) (by decide +kernel)
set_option maxRecDepth 20000 in
theorem gL_worst_X4_count : GoodIn wsL_worst (wsV RL 19 RX4 yX4_count wsX4_count) := goodIn_app (goodIn_of _ (by decide +kernel)) ggL_worst_X4_count
set_option maxRecDepth 20000 in
theorem ggL_worst_X4_worstKey : GoodIn wsL_worst wsX4_worstKey := goodIn_r _ [72, 7, 73, 30, 31, 32, 18, 33, 20, 34, 35, 36, 37, 38, 39, 40, 41, 42, 43, 44, 45, 46, 47, 48, 49, 50, 51, 52, 53, 15, 16, 17, 19, 21, 74, 75, 76, 77, 26, 78, 79, 80, 81, 82, 83, 84, 85, 86, 87, 88, 89, 90, 91, 92, 93, 94, 95, 96, 97, 138, 139, 140, 141, 142, 143, 144, 145, 146, 147, 148, 164, 165, 166, 167, 168, 169, 170, 171] (by decide +kernel) (by decide +kernel)
set_option maxRecDepth 20000 in
theorem gL_worst_X4_worstKey : GoodIn wsL_worst (wsV RL 38 RX4 yX4_worstKey wsX4_worstKey) := goodIn_app (goodIn_of _ (by decide +kernel)) ggL_worst_X4_worstKey
set_option maxRecDepth 20000 in
theorem ggL_worst_X4_key : GoodIn wsL_worst wsX4_key := goodIn_r _ [101, 7, 73, 102, 103, 8, 104, 105, 106, 18, 107, 27, 16, 17, 19, 20, 21, 108, 109, 110, 65, 111, 67, 68, 112, 113, 114, 115, 116, 38, 41, 42, 43, 44, 45, 39, 46, 117, 118, 119, 120, 28, 4, 29, 121, 122, 123, 124, 40, 125, 126, 127, 128, 34, 35, 36, 37, 129, 59, 60, 61, 138, 139, 140, 141, 142, 143, 144, 145, 146, 147, 148, 164, 165, 166, 167, 168, 169, 149, 150, 151, 152, 153, 154, 155, 156, 157, 158, 159, 170, 171] (by decide +kernel) (by decide +kernel)
set_option maxRecDepth 20000 in
theorem gL_worst_X4_key : GoodIn wsL_worst (wsV RL 15 RX4 yX4_key wsX4_key) := goodIn_app (goodIn_of _ (by decide +kernel)) ggL_worst_X4_key
set_option maxRecDepth 20000 in
theorem ggL_worst_X4_setKey : GoodIn wsL_worst wsX4_setKey := goodIn_r _ [133, 7, 73, 104, 105, 106, 18, 107, 27, 16, 17, 19, 20, 21, 134, 135, 4, 136, 137, 79, 80, 81, 26, 38, 40, 82, 83, 84, 85, 86, 87, 88, 89, 90, 91, 92, 93, 94, 95, 96, 138, 139, 140, 141, 142, 143, 144, 145, 146, 147, 148, 164, 165, 166, 167, 168, 169, 170, 171] (by decide +kernel) (by decide +kernel)
set_option maxRecDepth 20000 in
theorem gL_worst_X4_setKey : GoodIn wsL_worst (wsV RL 41 RX4 yX4_setKey wsX4_setKey) := goodIn_app (goodIn_of _ (by decide +kernel)) ggL_worst_X4_setKey
set_option maxRecDepth 20000 in
theorem ggL_rests_X4_restAfter : GoodIn wsL_rests wsX4_restAfter := goodIn_r _ [5, 6, 7, 8, 9, 10, 11, 12, 13, 4, 14, 15, 16, 17, 18, 19, 20, 21, 22, 23, 24, 25, 26, 27, 28, 29, 30, 31, 32, 33, 34, 35, 36, 37, 38, 174, 175, 176, 177, 178, 179, 180, 181, 182, 183, 184, 185, 186, 187, 188, 189, 190, 191, 192] (by decide +kernel) (by decide +kernel)
set_option maxRecDepth 20000 in
theorem gL_rests_X4_restAfter : GoodIn wsL_rests (wsV RL 44 RX4 yX4_restAfter wsX4_restAfter) := goodIn_app (goodIn_of _ (by decide +kernel)) ggL_rests_X4_restAfter
set_option maxRecDepth 20000 in
theorem ggL_rests_X4_key : GoodIn wsL_rests wsX4_key := goodIn_r _ [42, 6, 43, 38, 44, 45, 46, 47, 48, 28, 49, 50, 51, 52, 53, 54, 55, 56, 57, 58, 59, 60, 61, 62, 63, 64, 65, 66, 67, 68, 69, 26, 27, 29, 30, 31, 32, 70, 71, 72, 73, 74, 4, 75, 76, 77, 78, 79, 80, 81, 82, 83, 84, 85, 86, 87, 88, 89, 90, 91, 92, 174, 175, 176, 177, 178, 179, 180, 181, 182, 183, 184, 185, 186, 187, 188, 189, 190, 193, 194, 195, 196, 197, 198, 199, 200, 201, 202, 203, 191, 192] (by decide +kernel) (by decide +kernel)
set_option maxRecDepth 20000 in
theorem gL_rests_X4_key : GoodIn wsL_rests (wsV RL 15 RX4 yX4_key wsX4_key) := goodIn_app (goodIn_of _ (by decide +kernel)) ggL_rests_X4_key
set_option maxRecDepth 20000 in
theorem ggL_rests_X4_tick : GoodIn wsL_rests wsX4_tick := goodIn_r _ [96, 6, 7, 8, 9, 10, 11, 19, 12, 13, 4, 14, 21, 22, 23, 24, 97, 98, 99, 100, 37, 101, 102, 103, 104, 38, 105, 45, 64, 65, 66, 28, 67, 68, 55, 69, 26, 27, 29, 30, 31, 32, 70, 71, 72, 76, 77, 78, 79, 80, 106, 107, 108, 109, 44, 110, 111, 112, 113, 114, 115, 116, 117, 89, 90, 91, 92, 54, 118, 119, 120, 121, 122, 123, 124, 125, 126, 127, 128, 129, 130, 131, 132, 133, 134, 135, 136, 137, 138, 59, 139, 140, 141, 63, 62, 142, 143, 144, 145, 57, 58, 60, 61, 146, 147, 148, 149, 150, 151, 152, 153, 154, 155, 156, 157, 158, 159, 160, 161, 162, 163, 164, 165, 166, 167, 168, 169, 170, 171, 172, 173, 174, 175, 176, 177, 178, 179, 180, 181, 182, 183, 184, 185, 186, 187, 188, 189, 190, 191, 192, 204, 205, 206, 207, 193, 194, 195, 196, 197, 198, 199, 200, 201, 202, 203] (by decide +kernel) (by decide +kernel)
set_option maxRecDepth 20000 in
theorem gL_rests_X4_tick : GoodIn wsL_rests (wsV RL 32 RX4 yX4_tick wsX4_tick) := goodIn_app (goodIn_of _ (by decide +kernel)) ggL_rests_X4_tick
set_option maxRecDepth 20000 in
theorem ggL_pedals_X4_count : GoodIn wsL_pedals wsX4_count := goodIn_r _ [5, 6, 7, 8, 9, 10, 11, 12, 13, 14, 15, 16, 17, 18, 19, 20, 21, 22, 23, 24, 25, 26, 27, 28, 4, 29, 30, 31, 32, 33, 34, 35, 36, 37, 38, 39, 40, 41, 42, 43, 44, 45, 46, 47, 48, 49, 50, 51, 52, 53, 54, 55, 56, 57, 58, 59, 60, 61, 62, 63, 64, 65, 66, 67, 68, 126, 127, 128, 129, 130, 131, 132, 133, 134, 135, 136, 137, 138, 139, 140, 141, 142, 143, 144, 145, 146, 147, 148, 149, 150, 151, 152, 153, 154, 155, 156, 157, 158, 159] (by decide +kernel) (by decide +kernel)
set_option maxRecDepth 20000 in
theorem gL_pedals_X4_count : GoodIn wsL_pedals (wsV RL 19 RX4 yX4_count wsX4_count) := goodIn_app (goodIn_of _ (by decide +kernel)) ggL_pedals_X4_count
set_option maxRecDepth 20000 in
theorem ggL_pedals_X4_voice : GoodIn wsL_pedals wsX4_voice := goodIn_r _ [72, 8, 9, 73, 74, 75, 76, 77, 78, 28, 4, 29, 126, 127, 128, 129, 130, 131, 132, 133, 134, 135, 136, 137, 138, 139, 140, 141, 142, 143, 144, 145, 146, 147] (by decide +kernel) (by decide +kernel)
set_option maxRecDepth 20000 in
theorem gL_pedals_X4_voice : GoodIn wsL_pedals (wsV RL 22 RX4 yX4_voice wsX4_voice) := goodIn_app (goodIn_of _ (by decide +kernel)) ggL_pedals_X4_voice
set_option maxRecDepth 20000 in
theorem ggL_pedals_X4_sustain : GoodIn wsL_pedals wsX4_sustain := goodIn_r _ [82, 8, 6, 83, 84, 85, 65, 86, 87, 88, 89, 90, 91, 67, 68, 92, 93, 94, 95, 96, 97, 98, 99, 100, 101, 102, 103, 104, 105, 106, 107, 108, 109, 110, 111, 112, 113, 114, 115, 116, 126, 127, 128, 129, 130, 131, 132, 133, 134, 135, 136, 137, 138, 139, 140, 141, 142, 143, 144, 145, 146, 147, 148, 149, 150, 151] (by decide +kernel) (by decide +kernel)
set_option maxRecDepth 20000 in
theorem gL_pedals_X4_sustain : GoodIn wsL_pedals (wsV RL 47 RX4 yX4_sustain wsX4_sustain) := goodIn_app (goodIn_of _ (by decide +kernel)) ggL_pedals_X4_sustain
set_option maxRecDepth 20000 in
theorem ggL_pedals_X4_sostenuto : GoodIn wsL_pedals wsX4_sostenuto := goodIn_r _ [120, 8, 6, 121, 122, 123, 65, 124, 96, 67, 97, 68, 125, 63, 64, 66, 88, 89, 90, 91, 92, 93, 94, 95, 87, 98, 99, 100, 101, 102, 103, 104, 105, 106, 107, 108, 109, 110, 111, 112, 113, 114, 115, 116, 126, 127, 128, 129, 130, 131, 132, 133, 134, 135, 136, 137, 138, 139, 140, 141, 142, 143, 144, 145, 146, 147, 148, 149, 150, 151] (by decide +kernel) (by decide +kernel)
set_option maxRecDepth 20000 in
theorem gL_pedals_X4_sostenuto : GoodIn wsL_pedals (wsV RL 51 RX4 yX4_sostenuto wsX4_sostenuto) := goodIn_app (goodIn_of _ (by decide +kernel)) ggL_pedals_X4_sostenuto
