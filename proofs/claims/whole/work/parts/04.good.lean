set_option maxRecDepth 20000 in
theorem ggX0_write_J9_floorMod_7cf53 : GoodIn wsX0_write wsJ9_floorMod_7cf53 := goodIn_r _ [8] (by decide +kernel) (by decide +kernel)
set_option maxRecDepth 20000 in
theorem gX0_write_J9_floorMod_7cf53 : GoodIn wsX0_write (va_wsS RX0 25 yJ9_floorMod_7cf53 wsJ9_floorMod_7cf53) := goodIn_app (goodIn_of _ (by decide +kernel)) ggX0_write_J9_floorMod_7cf53
set_option maxRecDepth 20000 in
theorem ggX0_place_J9_floorMod_7cf53 : GoodIn wsX0_place wsJ9_floorMod_7cf53 := goodIn_r _ [5] (by decide +kernel) (by decide +kernel)
set_option maxRecDepth 20000 in
theorem gX0_place_J9_floorMod_7cf53 : GoodIn wsX0_place (va_wsS RX0 25 yJ9_floorMod_7cf53 wsJ9_floorMod_7cf53) := goodIn_app (goodIn_of _ (by decide +kernel)) ggX0_place_J9_floorMod_7cf53
set_option maxRecDepth 20000 in
theorem ggX1_init_X2_init : GoodIn wsX1_init wsX2_init := goodIn_r _ [15, 16, 2, 3, 4, 17, 18, 25, 26] (by decide +kernel) (by decide +kernel)
set_option maxRecDepth 20000 in
theorem gX1_init_X2_init_n17 : GoodIn wsX1_init (wsX2_init) := ggX1_init_X2_init
set_option maxRecDepth 20000 in
theorem ggX1_has_X1_size : GoodIn wsX1_has wsX1_size := goodIn_r _ [5, 6, 7, 8, 9, 10, 11, 12, 13] (by decide +kernel) (by decide +kernel)
set_option maxRecDepth 20000 in
theorem gX1_has_X1_size : GoodIn wsX1_has (wsV RX1 36 RX1 yX1_size wsX1_size) := goodIn_app (goodIn_of _ (by decide +kernel)) ggX1_has_X1_size
set_option maxRecDepth 20000 in
theorem ggX1_layOut_X1_lift : GoodIn wsX1_layOut wsX1_lift := goodIn_r _ [7, 8, 9, 10, 11, 12, 13, 14, 15, 16, 17, 18, 19, 20, 21, 22, 23, 24, 25] (by decide +kernel) (by decide +kernel)
set_option maxRecDepth 20000 in
theorem gX1_layOut_X1_lift : GoodIn wsX1_layOut (wsV RX1 40 RX1 yX1_lift wsX1_lift) := goodIn_app (goodIn_of _ (by decide +kernel)) ggX1_layOut_X1_lift
set_option maxRecDepth 20000 in
theorem ggX1_lift_X2_open : GoodIn wsX1_lift wsX2_open := goodIn_r _ [8, 9, 10, 17, 18] (by decide +kernel) (by decide +kernel)
set_option maxRecDepth 20000 in
theorem gX1_lift_X2_open : GoodIn wsX1_lift (wsV RX1 43 RX2 yX2_open wsX2_open) := goodIn_app (goodIn_of _ (by decide +kernel)) ggX1_lift_X2_open
set_option maxRecDepth 20000 in
theorem ggX1_move_X2_put : GoodIn wsX1_move wsX2_put := goodIn_r _ [9, 10, 11, 12, 13, 8, 14, 15, 16, 17, 18, 19, 26, 27] (by decide +kernel) (by decide +kernel)
set_option maxRecDepth 20000 in
theorem gX1_move_X2_put : GoodIn wsX1_move (wsV RX1 46 RX2 yX2_put wsX2_put) := goodIn_app (goodIn_of _ (by decide +kernel)) ggX1_move_X2_put
set_option maxRecDepth 20000 in
theorem ggX1_pressed_X1_size : GoodIn wsX1_pressed wsX1_size := goodIn_r _ [6, 7, 8, 12, 13, 14, 15, 16, 17] (by decide +kernel) (by decide +kernel)
set_option maxRecDepth 20000 in
theorem gX1_pressed_X1_size : GoodIn wsX1_pressed (wsV RX1 36 RX1 yX1_size wsX1_size) := goodIn_app (goodIn_of _ (by decide +kernel)) ggX1_pressed_X1_size
set_option maxRecDepth 20000 in
theorem ggX1_pressed_X4_one : GoodIn wsX1_pressed wsX4_one := goodIn_r _ [11] (by decide +kernel) (by decide +kernel)
set_option maxRecDepth 20000 in
theorem gX1_pressed_X4_one_n50 : GoodIn wsX1_pressed (wsX4_one) := ggX1_pressed_X4_one
set_option maxRecDepth 20000 in
theorem ggX1_firstSeen_X1_seen : GoodIn wsX1_firstSeen wsX1_seen := goodIn_r _ [7, 8, 9, 10, 14, 15, 16, 17, 18, 19, 20, 21] (by decide +kernel) (by decide +kernel)
set_option maxRecDepth 20000 in
theorem gX1_firstSeen_X1_seen : GoodIn wsX1_firstSeen (wsV RX1 60 RX1 yX1_seen wsX1_seen) := goodIn_app (goodIn_of _ (by decide +kernel)) ggX1_firstSeen_X1_seen
set_option maxRecDepth 20000 in
theorem ggX1_firstSeen_X1_contains : GoodIn wsX1_firstSeen wsX1_contains := goodIn_r _ [13] (by decide +kernel) (by decide +kernel)
set_option maxRecDepth 20000 in
theorem gX1_firstSeen_X1_contains : GoodIn wsX1_firstSeen (va_wsS RX1 64 yX1_contains wsX1_contains) := goodIn_app (goodIn_of _ (by decide +kernel)) ggX1_firstSeen_X1_contains
set_option maxRecDepth 20000 in
theorem ggX1_secondSeen_X1_seen : GoodIn wsX1_secondSeen wsX1_seen := goodIn_r _ [7, 8, 9, 10, 14, 15, 16, 17, 18, 19, 20, 21] (by decide +kernel) (by decide +kernel)
set_option maxRecDepth 20000 in
theorem gX1_secondSeen_X1_seen : GoodIn wsX1_secondSeen (wsV RX1 60 RX1 yX1_seen wsX1_seen) := goodIn_app (goodIn_of _ (by decide +kernel)) ggX1_secondSeen_X1_seen
set_option maxRecDepth 20000 in
theorem ggX1_secondSeen_X1_contains : GoodIn wsX1_secondSeen wsX1_contains := goodIn_r _ [13] (by decide +kernel) (by decide +kernel)
set_option maxRecDepth 20000 in
theorem gX1_secondSeen_X1_contains : GoodIn wsX1_secondSeen (va_wsS RX1 64 yX1_contains wsX1_contains) := goodIn_app (goodIn_of _ (by decide +kernel)) ggX1_secondSeen_X1_contains
set_option maxRecDepth 20000 in
theorem ggX1_isGhost_X1_ghostsIn : GoodIn wsX1_isGhost wsX1_ghostsIn := goodIn_r _ [6, 7, 8, 9, 10, 11, 12, 5, 13, 14, 15, 19, 20, 21, 22, 23, 24, 25, 26] (by decide +kernel) (by decide +kernel)
set_option maxRecDepth 20000 in
theorem gX1_isGhost_X1_ghostsIn : GoodIn wsX1_isGhost (wsV RX1 68 RX1 yX1_ghostsIn wsX1_ghostsIn) := goodIn_app (goodIn_of _ (by decide +kernel)) ggX1_isGhost_X1_ghostsIn
set_option maxRecDepth 20000 in
theorem ggX1_isGhost_X1_contains : GoodIn wsX1_isGhost wsX1_contains := goodIn_r _ [18] (by decide +kernel) (by decide +kernel)
set_option maxRecDepth 20000 in
theorem gX1_isGhost_X1_contains : GoodIn wsX1_isGhost (va_wsS RX1 64 yX1_contains wsX1_contains) := goodIn_app (goodIn_of _ (by decide +kernel)) ggX1_isGhost_X1_contains
set_option maxRecDepth 20000 in
theorem ggX1_isDoubtful_X1_seen : GoodIn wsX1_isDoubtful wsX1_seen := goodIn_r _ [8, 9, 10, 11, 12, 13, 14, 15, 16, 17, 18, 19] (by decide +kernel) (by decide +kernel)
set_option maxRecDepth 20000 in
theorem gX1_isDoubtful_X1_seen : GoodIn wsX1_isDoubtful (wsV RX1 60 RX1 yX1_seen wsX1_seen) := goodIn_app (goodIn_of _ (by decide +kernel)) ggX1_isDoubtful_X1_seen
set_option maxRecDepth 20000 in
theorem ggX1_doubtful_X1_size : GoodIn wsX1_doubtful wsX1_size := goodIn_r _ [5, 6, 7, 23, 24, 25, 26, 27, 28] (by decide +kernel) (by decide +kernel)
set_option maxRecDepth 20000 in
theorem gX1_doubtful_X1_size : GoodIn wsX1_doubtful (wsV RX1 36 RX1 yX1_size wsX1_size) := goodIn_app (goodIn_of _ (by decide +kernel)) ggX1_doubtful_X1_size
set_option maxRecDepth 20000 in
theorem ggX1_doubtful_X1_isDoubtful : GoodIn wsX1_doubtful wsX1_isDoubtful := goodIn_r _ [11, 7, 6, 12, 13, 14, 15, 4, 16, 17, 18, 19, 23, 24, 25, 26, 27, 28, 29, 30] (by decide +kernel) (by decide +kernel)
set_option maxRecDepth 20000 in
theorem gX1_doubtful_X1_isDoubtful : GoodIn wsX1_doubtful (wsV RX1 72 RX1 yX1_isDoubtful wsX1_isDoubtful) := goodIn_app (goodIn_of _ (by decide +kernel)) ggX1_doubtful_X1_isDoubtful
set_option maxRecDepth 20000 in
theorem ggX1_doubtful_X4_one : GoodIn wsX1_doubtful wsX4_one := goodIn_r _ [22] (by decide +kernel) (by decide +kernel)
set_option maxRecDepth 20000 in
theorem gX1_doubtful_X4_one_n50 : GoodIn wsX1_doubtful (wsX4_one) := ggX1_doubtful_X4_one
set_option maxRecDepth 20000 in
theorem ggX1_ghosts_X1_ghostsIn : GoodIn wsX1_ghosts wsX1_ghostsIn := goodIn_r _ [6, 7, 8, 9, 10, 11, 12, 5, 13, 14, 15, 23, 24, 25, 26, 27, 28, 29, 30] (by decide +kernel) (by decide +kernel)
set_option maxRecDepth 20000 in
theorem gX1_ghosts_X1_ghostsIn : GoodIn wsX1_ghosts (wsV RX1 68 RX1 yX1_ghostsIn wsX1_ghostsIn) := goodIn_app (goodIn_of _ (by decide +kernel)) ggX1_ghosts_X1_ghostsIn
set_option maxRecDepth 20000 in
theorem ggX1_ghosts_J6_bitCount_0f7a4 : GoodIn wsX1_ghosts wsJ6_bitCount_0f7a4 := goodIn_r _ [19, 20, 21, 22] (by decide +kernel) (by decide +kernel)
set_option maxRecDepth 20000 in
theorem gX1_ghosts_J6_bitCount_0f7a4 : GoodIn wsX1_ghosts (va_wsS RX1 76 yJ6_bitCount_0f7a4 wsJ6_bitCount_0f7a4) := goodIn_app (goodIn_of _ (by decide +kernel)) ggX1_ghosts_J6_bitCount_0f7a4
set_option maxRecDepth 20000 in
theorem ggX1_ghostsWithout_X1_move : GoodIn wsX1_ghostsWithout wsX1_move := goodIn_r _ [6, 1, 7, 8, 9, 10, 11, 12, 13, 14, 15, 16, 17, 18, 19, 20, 21, 22, 23, 24, 48, 49, 50, 51, 52, 53, 54, 55] (by decide +kernel) (by decide +kernel)
set_option maxRecDepth 20000 in
theorem gX1_ghostsWithout_X1_move : GoodIn wsX1_ghostsWithout (wsV RX1 81 RX1 yX1_move wsX1_move) := goodIn_app (goodIn_of _ (by decide +kernel)) ggX1_ghostsWithout_X1_move
set_option maxRecDepth 20000 in
theorem ggX1_ghostsWithout_X1_ghosts : GoodIn wsX1_ghostsWithout wsX1_ghosts := goodIn_r _ [28, 29, 30, 31, 32, 5, 33, 7, 34, 9, 35, 36, 37, 38, 39, 40, 41, 42, 43, 44, 45, 46, 47, 48, 49, 50, 51, 52, 53, 54, 55] (by decide +kernel) (by decide +kernel)
set_option maxRecDepth 20000 in
theorem gX1_ghostsWithout_X1_ghosts : GoodIn wsX1_ghostsWithout (wsV RX1 85 RX1 yX1_ghosts wsX1_ghosts) := goodIn_app (goodIn_of _ (by decide +kernel)) ggX1_ghostsWithout_X1_ghosts
set_option maxRecDepth 20000 in
theorem ggX1_ghostsIn_X1_seen : GoodIn wsX1_ghostsIn wsX1_seen := goodIn_r _ [8, 9, 2, 10, 11, 12, 13, 14, 15, 16, 17, 18] (by decide +kernel) (by decide +kernel)
set_option maxRecDepth 20000 in
theorem gX1_ghostsIn_X1_seen : GoodIn wsX1_ghostsIn (wsV RX1 60 RX1 yX1_seen wsX1_seen) := goodIn_app (goodIn_of _ (by decide +kernel)) ggX1_ghostsIn_X1_seen
set_option maxRecDepth 20000 in
theorem ggX2_put_X2_join : GoodIn wsX2_put wsX2_join := goodIn_r _ [6, 7, 1, 8, 9, 10, 5, 11, 12, 13] (by decide +kernel) (by decide +kernel)
set_option maxRecDepth 20000 in
theorem gX2_put_X2_join : GoodIn wsX2_put (wsV RX2 18 RX2 yX2_join wsX2_join) := goodIn_app (goodIn_of _ (by decide +kernel)) ggX2_put_X2_join
set_option maxRecDepth 20000 in
theorem ggX2_join_X2_joinThrough : GoodIn wsX2_join wsX2_joinThrough := goodIn_r _ [7, 1, 8, 9] (by decide +kernel) (by decide +kernel)
set_option maxRecDepth 20000 in
theorem gX2_join_X2_joinThrough : GoodIn wsX2_join (wsV RX2 21 RX2 yX2_joinThrough wsX2_joinThrough) := goodIn_app (goodIn_of _ (by decide +kernel)) ggX2_join_X2_joinThrough
set_option maxRecDepth 20000 in
theorem ggX3_limit_X3_free : GoodIn wsX3_limit wsX3_free := goodIn_r _ [7, 2, 8, 9, 10, 11, 12, 13, 14, 15, 16, 17, 18, 19, 20, 21, 22, 23, 24, 25, 26, 27, 28, 29, 30, 31, 32, 33, 34, 35, 36, 37, 38] (by decide +kernel) (by decide +kernel)
set_option maxRecDepth 20000 in
theorem gX3_limit_X3_free : GoodIn wsX3_limit (wsV RX3 49 RX3 yX3_free wsX3_free) := goodIn_app (goodIn_of _ (by decide +kernel)) ggX3_limit_X3_free
set_option maxRecDepth 20000 in
theorem ggX3_sound_X3_withKey : GoodIn wsX3_sound wsX3_withKey := goodIn_r _ [12, 13, 4, 3, 40, 41, 42, 43, 44, 45, 46, 47, 48, 49, 50] (by decide +kernel) (by decide +kernel)
set_option maxRecDepth 20000 in
theorem gX3_sound_X3_withKey : GoodIn wsX3_sound (wsV RX3 53 RX3 yX3_withKey wsX3_withKey) := goodIn_app (goodIn_of _ (by decide +kernel)) ggX3_sound_X3_withKey
set_option maxRecDepth 20000 in
theorem ggX3_sound_X3_firstFree : GoodIn wsX3_sound wsX3_firstFree := goodIn_r _ [17, 13, 4, 40, 41, 42, 43, 44, 45, 46, 47, 48, 49, 50] (by decide +kernel) (by decide +kernel)
set_option maxRecDepth 20000 in
theorem gX3_sound_X3_firstFree : GoodIn wsX3_sound (wsV RX3 57 RX3 yX3_firstFree wsX3_firstFree) := goodIn_app (goodIn_of _ (by decide +kernel)) ggX3_sound_X3_firstFree
set_option maxRecDepth 20000 in
theorem ggX3_sound_X3_victim : GoodIn wsX3_sound wsX3_victim := goodIn_r _ [21, 13, 22, 23, 24, 11, 25, 26, 4, 5, 6, 40, 41, 42, 43, 44, 45, 46, 47, 48, 49, 50] (by decide +kernel) (by decide +kernel)
set_option maxRecDepth 20000 in
theorem gX3_sound_X3_victim : GoodIn wsX3_sound (wsV RX3 61 RX3 yX3_victim wsX3_victim) := goodIn_app (goodIn_of _ (by decide +kernel)) ggX3_sound_X3_victim
set_option maxRecDepth 20000 in
theorem ggX3_sound_X0_write : GoodIn wsX3_sound wsX0_write := goodIn_r _ [31, 32, 33, 34, 35, 36, 37, 38, 39, 51, 52, 53, 54] (by decide +kernel) (by decide +kernel)
set_option maxRecDepth 20000 in
theorem gX3_sound_X0_write : GoodIn wsX3_sound (wsV RX3 64 RX0 yX0_write wsX0_write) := goodIn_app (goodIn_of _ (by decide +kernel)) ggX3_sound_X0_write
set_option maxRecDepth 20000 in
theorem ggX3_release_X3_withKey : GoodIn wsX3_release wsX3_withKey := goodIn_r _ [6, 7, 1, 8, 34, 35, 36, 37, 38, 39, 40, 41, 42, 43, 44] (by decide +kernel) (by decide +kernel)
set_option maxRecDepth 20000 in
theorem gX3_release_X3_withKey : GoodIn wsX3_release (wsV RX3 53 RX3 yX3_withKey wsX3_withKey) := goodIn_app (goodIn_of _ (by decide +kernel)) ggX3_release_X3_withKey
set_option maxRecDepth 20000 in
theorem ggX3_release_X3_isKeptByPedal : GoodIn wsX3_release wsX3_isKeptByPedal := goodIn_r _ [12, 13, 14, 15, 34, 35, 36, 37, 38, 39, 40, 41, 42, 43, 44] (by decide +kernel) (by decide +kernel)
set_option maxRecDepth 20000 in
theorem gX3_release_X3_isKeptByPedal : GoodIn wsX3_release (wsV RX3 70 RX3 yX3_isKeptByPedal wsX3_isKeptByPedal) := goodIn_app (goodIn_of _ (by decide +kernel)) ggX3_release_X3_isKeptByPedal
set_option maxRecDepth 20000 in
theorem ggX3_release_X3_free : GoodIn wsX3_release wsX3_free := goodIn_r _ [19, 1, 15, 20, 8, 21, 22, 23, 24, 25, 26, 27, 28, 29, 30, 31, 32, 33, 34, 35, 36, 37, 38, 39, 40, 41, 42, 43, 44, 45, 46, 47, 48] (by decide +kernel) (by decide +kernel)
set_option maxRecDepth 20000 in
theorem gX3_release_X3_free : GoodIn wsX3_release (wsV RX3 49 RX3 yX3_free wsX3_free) := goodIn_app (goodIn_of _ (by decide +kernel)) ggX3_release_X3_free
set_option maxRecDepth 20000 in
theorem ggX3_moveSustain_X3_freeKept : GoodIn wsX3_moveSustain wsX3_freeKept := goodIn_r _ [6, 7, 8, 9, 10, 11, 5, 12, 1, 13, 14, 15, 16, 17, 18, 19, 20, 21, 22, 23, 24, 25, 26, 27, 28, 29, 30, 31, 32, 33, 34, 35, 36, 37, 38, 39, 40, 41, 42, 43, 44, 45, 46, 47, 48] (by decide +kernel) (by decide +kernel)
set_option maxRecDepth 20000 in
theorem gX3_moveSustain_X3_freeKept : GoodIn wsX3_moveSustain (wsV RX3 74 RX3 yX3_freeKept wsX3_freeKept) := goodIn_app (goodIn_of _ (by decide +kernel)) ggX3_moveSustain_X3_freeKept
set_option maxRecDepth 20000 in
theorem ggX3_moveSostenuto_X3_inState : GoodIn wsX3_moveSostenuto wsX3_inState := goodIn_r _ [9, 2, 4, 38, 39, 40, 41, 42, 43, 44, 45, 46, 47, 48] (by decide +kernel) (by decide +kernel)
set_option maxRecDepth 20000 in
theorem gX3_moveSostenuto_X3_inState : GoodIn wsX3_moveSostenuto (wsV RX3 77 RX3 yX3_inState wsX3_inState) := goodIn_app (goodIn_of _ (by decide +kernel)) ggX3_moveSostenuto_X3_inState
set_option maxRecDepth 20000 in
theorem ggX3_moveSostenuto_X3_freeKept : GoodIn wsX3_moveSostenuto wsX3_freeKept := goodIn_r _ [13, 2, 4, 14, 15, 16, 8, 17, 18, 1, 3, 19, 20, 21, 22, 23, 24, 25, 26, 27, 28, 29, 30, 31, 32, 33, 34, 35, 36, 37, 38, 39, 40, 41, 42, 43, 44, 45, 46, 47, 48, 49, 50, 51, 52] (by decide +kernel) (by decide +kernel)
set_option maxRecDepth 20000 in
theorem gX3_moveSostenuto_X3_freeKept : GoodIn wsX3_moveSostenuto (wsV RX3 74 RX3 yX3_freeKept wsX3_freeKept) := goodIn_app (goodIn_of _ (by decide +kernel)) ggX3_moveSostenuto_X3_freeKept
set_option maxRecDepth 20000 in
theorem ggX3_victim_X3_goesBefore : GoodIn wsX3_victim wsX3_goesBefore := goodIn_r _ [6, 7, 8, 9, 10, 11, 12, 13, 14, 15, 16, 17, 18, 19, 20, 21] (by decide +kernel) (by decide +kernel)
set_option maxRecDepth 20000 in
theorem gX3_victim_X3_goesBefore : GoodIn wsX3_victim (wsV RX3 80 RX3 yX3_goesBefore wsX3_goesBefore) := goodIn_app (goodIn_of _ (by decide +kernel)) ggX3_victim_X3_goesBefore
set_option maxRecDepth 20000 in
theorem ggX3_freeKept_X3_isKeptByPedal : GoodIn wsX3_freeKept wsX3_isKeptByPedal := goodIn_r _ [7, 8, 9, 10, 30, 31, 32, 33, 34, 35, 36, 37, 38, 39, 40] (by decide +kernel) (by decide +kernel)
set_option maxRecDepth 20000 in
theorem gX3_freeKept_X3_isKeptByPedal : GoodIn wsX3_freeKept (wsV RX3 70 RX3 yX3_isKeptByPedal wsX3_isKeptByPedal) := goodIn_app (goodIn_of _ (by decide +kernel)) ggX3_freeKept_X3_isKeptByPedal
set_option maxRecDepth 20000 in
theorem ggX3_freeKept_X3_free : GoodIn wsX3_freeKept wsX3_free := goodIn_r _ [14, 2, 10, 15, 16, 17, 18, 19, 20, 21, 22, 23, 24, 25, 26, 27, 28, 29, 30, 31, 32, 33, 34, 35, 36, 37, 38, 39, 40, 41, 42, 43, 44] (by decide +kernel) (by decide +kernel)
set_option maxRecDepth 20000 in
theorem gX3_freeKept_X3_free : GoodIn wsX3_freeKept (wsV RX3 49 RX3 yX3_free wsX3_free) := goodIn_app (goodIn_of _ (by decide +kernel)) ggX3_freeKept_X3_free
set_option maxRecDepth 20000 in
theorem ggX3_free_X0_write : GoodIn wsX3_free wsX0_write := goodIn_r _ [9, 10, 11, 12, 13, 14, 15, 16, 17, 29, 30, 31, 32] (by decide +kernel) (by decide +kernel)
set_option maxRecDepth 20000 in
theorem gX3_free_X0_write : GoodIn wsX3_free (wsV RX3 64 RX0 yX0_write wsX0_write) := goodIn_app (goodIn_of _ (by decide +kernel)) ggX3_free_X0_write
set_option maxRecDepth 20000 in
theorem ggX4_init_X1_init : GoodIn wsX4_init wsX1_init := goodIn_r _ [26, 27, 2, 3, 16, 28, 29, 30, 31, 32, 33, 34, 35, 36, 37, 38, 39, 40, 41, 65, 66, 67, 68, 69, 70, 97, 98] (by decide +kernel) (by decide +kernel)
set_option maxRecDepth 20000 in
theorem gX4_init_X1_init_n11 : GoodIn wsX4_init (wsX1_init) := ggX4_init_X1_init
set_option maxRecDepth 20000 in
theorem ggX4_init_X0_init : GoodIn wsX4_init wsX0_init := goodIn_r _ [43, 44, 2, 3, 16, 45, 46, 47, 48, 82, 83, 84, 85] (by decide +kernel) (by decide +kernel)
set_option maxRecDepth 20000 in
theorem gX4_init_X0_init_n18 : GoodIn wsX4_init (wsX0_init) := ggX4_init_X0_init
set_option maxRecDepth 20000 in
theorem ggX4_init_X3_init : GoodIn wsX4_init wsX3_init := goodIn_r _ [51, 52, 2, 3, 16, 53, 54, 55, 56, 57, 58, 59, 60, 61, 62, 63, 64, 86, 87, 88, 89, 90, 91, 92, 93, 94, 95, 96] (by decide +kernel) (by decide +kernel)
set_option maxRecDepth 20000 in
theorem gX4_init_X3_init : GoodIn wsX4_init (wsX3_init) := ggX4_init_X3_init
set_option maxRecDepth 20000 in
theorem ggX4_reset_X4_within : GoodIn wsX4_reset wsX4_within := goodIn_r _ [11] (by decide +kernel) (by decide +kernel)
set_option maxRecDepth 20000 in
theorem gX4_reset_X4_within : GoodIn wsX4_reset (va_wsS RX4 59 yX4_within wsX4_within) := goodIn_app (goodIn_of _ (by decide +kernel)) ggX4_reset_X4_within
set_option maxRecDepth 20000 in
theorem ggX4_reset_X1_layOut : GoodIn wsX4_reset wsX1_layOut := goodIn_r _ [16, 17, 18, 19, 20, 21, 15, 22, 23, 24, 25, 26, 27, 28, 29, 30, 31, 32, 64, 65, 66, 67, 68, 69, 70, 71] (by decide +kernel) (by decide +kernel)
set_option maxRecDepth 20000 in
theorem gX4_reset_X1_layOut : GoodIn wsX4_reset (wsV RX4 63 RX1 yX1_layOut wsX1_layOut) := goodIn_app (goodIn_of _ (by decide +kernel)) ggX4_reset_X1_layOut
set_option maxRecDepth 20000 in
theorem ggX4_reset_X0_empty : GoodIn wsX4_reset wsX0_empty := goodIn_r _ [37, 38, 72, 73, 74, 75] (by decide +kernel) (by decide +kernel)
set_option maxRecDepth 20000 in
theorem gX4_reset_X0_empty : GoodIn wsX4_reset (wsV RX4 67 RX0 yX0_empty wsX0_empty) := goodIn_app (goodIn_of _ (by decide +kernel)) ggX4_reset_X0_empty
set_option maxRecDepth 20000 in
theorem ggX4_reset_X3_silence : GoodIn wsX4_reset wsX3_silence := goodIn_r _ [43, 44, 45, 46, 47, 48, 76, 77, 78, 79, 80, 81, 82, 83, 84, 85, 86] (by decide +kernel) (by decide +kernel)
set_option maxRecDepth 20000 in
theorem gX4_reset_X3_silence : GoodIn wsX4_reset (wsV RX4 70 RX3 yX3_silence wsX3_silence) := goodIn_app (goodIn_of _ (by decide +kernel)) ggX4_reset_X3_silence
set_option maxRecDepth 20000 in
theorem ggX4_reset_X1_size : GoodIn wsX4_reset wsX1_size := goodIn_r _ [52, 17, 18, 64, 65, 66, 67, 68, 69] (by decide +kernel) (by decide +kernel)
set_option maxRecDepth 20000 in
theorem gX4_reset_X1_size : GoodIn wsX4_reset (wsV RX4 73 RX1 yX1_size wsX1_size) := goodIn_app (goodIn_of _ (by decide +kernel)) ggX4_reset_X1_size
set_option maxRecDepth 20000 in
theorem ggX4_setDiodes_X1_ghosts : GoodIn wsX4_setDiodes wsX1_ghosts := goodIn_r _ [7, 8, 9, 10, 11, 6, 12, 13, 14, 15, 16, 17, 18, 19, 20, 21, 22, 23, 24, 25, 26, 27, 28, 40, 41, 42, 43, 44, 45, 46, 47] (by decide +kernel) (by decide +kernel)
set_option maxRecDepth 20000 in
theorem gX4_setDiodes_X1_ghosts : GoodIn wsX4_setDiodes (wsV RX4 80 RX1 yX1_ghosts wsX1_ghosts) := goodIn_app (goodIn_of _ (by decide +kernel)) ggX4_setDiodes_X1_ghosts
set_option maxRecDepth 20000 in
theorem ggX4_setBlocking_X4_one : GoodIn wsX4_setBlocking wsX4_one := goodIn_r _ [5] (by decide +kernel) (by decide +kernel)
set_option maxRecDepth 20000 in
theorem gX4_setBlocking_X4_one : GoodIn wsX4_setBlocking (va_wsS RX4 83 yX4_one wsX4_one) := goodIn_app (goodIn_of _ (by decide +kernel)) ggX4_setBlocking_X4_one
set_option maxRecDepth 20000 in
theorem ggX4_setLateRelease_X4_one : GoodIn wsX4_setLateRelease wsX4_one := goodIn_r _ [5] (by decide +kernel) (by decide +kernel)
set_option maxRecDepth 20000 in
theorem gX4_setLateRelease_X4_one : GoodIn wsX4_setLateRelease (va_wsS RX4 83 yX4_one wsX4_one) := goodIn_app (goodIn_of _ (by decide +kernel)) ggX4_setLateRelease_X4_one
set_option maxRecDepth 20000 in
theorem ggX4_setSlope_X4_within : GoodIn wsX4_setSlope wsX4_within := goodIn_r _ [5] (by decide +kernel) (by decide +kernel)
set_option maxRecDepth 20000 in
theorem gX4_setSlope_X4_within : GoodIn wsX4_setSlope (va_wsS RX4 59 yX4_within wsX4_within) := goodIn_app (goodIn_of _ (by decide +kernel)) ggX4_setSlope_X4_within
set_option maxRecDepth 20000 in
theorem ggX4_setVoices_X4_within : GoodIn wsX4_setVoices wsX4_within := goodIn_r _ [8] (by decide +kernel) (by decide +kernel)
set_option maxRecDepth 20000 in
theorem gX4_setVoices_X4_within : GoodIn wsX4_setVoices (va_wsS RX4 59 yX4_within wsX4_within) := goodIn_app (goodIn_of _ (by decide +kernel)) ggX4_setVoices_X4_within
set_option maxRecDepth 20000 in
theorem ggX4_setVoices_X3_limit : GoodIn wsX4_setVoices wsX3_limit := goodIn_r _ [13, 14, 15, 16, 17, 18, 12, 19, 20, 21, 22, 23, 24, 25, 26, 27, 28, 29, 30, 31, 32, 33, 34, 35, 47, 48, 49, 50, 51, 52, 53, 54, 55, 56, 57, 58, 59, 60, 61] (by decide +kernel) (by decide +kernel)
set_option maxRecDepth 20000 in
theorem gX4_setVoices_X3_limit : GoodIn wsX4_setVoices (wsV RX4 90 RX3 yX3_limit wsX3_limit) := goodIn_app (goodIn_of _ (by decide +kernel)) ggX4_setVoices_X3_limit
set_option maxRecDepth 20000 in
theorem ggX4_setKey_X1_has : GoodIn wsX4_setKey wsX1_has := goodIn_r _ [7, 8, 9, 10, 6, 11, 12, 13, 51, 52, 53, 54, 55, 56] (by decide +kernel) (by decide +kernel)
set_option maxRecDepth 20000 in
theorem gX4_setKey_X1_has : GoodIn wsX4_setKey (wsV RX4 96 RX1 yX1_has wsX1_has) := goodIn_app (goodIn_of _ (by decide +kernel)) ggX4_setKey_X1_has
set_option maxRecDepth 20000 in
theorem ggX4_setKey_X4_within : GoodIn wsX4_setKey wsX4_within := goodIn_r _ [17] (by decide +kernel) (by decide +kernel)
set_option maxRecDepth 20000 in
theorem gX4_setKey_X4_within : GoodIn wsX4_setKey (va_wsS RX4 59 yX4_within wsX4_within) := goodIn_app (goodIn_of _ (by decide +kernel)) ggX4_setKey_X4_within
set_option maxRecDepth 20000 in
theorem ggX4_setKey_X1_move : GoodIn wsX4_setKey wsX1_move := goodIn_r _ [21, 22, 23, 13, 24, 25, 26, 27, 28, 29, 30, 31, 32, 33, 34, 35, 36, 37, 38, 39, 51, 52, 53, 54, 55, 56, 57, 58] (by decide +kernel) (by decide +kernel)
set_option maxRecDepth 20000 in
theorem gX4_setKey_X1_move : GoodIn wsX4_setKey (wsV RX4 103 RX1 yX1_move wsX1_move) := goodIn_app (goodIn_of _ (by decide +kernel)) ggX4_setKey_X1_move
set_option maxRecDepth 20000 in
theorem ggX4_liftAll_X1_pressed : GoodIn wsX4_liftAll wsX1_pressed := goodIn_r _ [6, 7, 8, 9, 10, 5, 11, 12, 13, 14, 15, 16, 41, 42, 43, 44, 45, 46] (by decide +kernel) (by decide +kernel)
set_option maxRecDepth 20000 in
theorem gX4_liftAll_X1_pressed : GoodIn wsX4_liftAll (wsV RX4 106 RX1 yX1_pressed wsX1_pressed) := goodIn_app (goodIn_of _ (by decide +kernel)) ggX4_liftAll_X1_pressed
set_option maxRecDepth 20000 in
theorem ggX4_liftAll_X1_lift : GoodIn wsX4_liftAll wsX1_lift := goodIn_r _ [20, 7, 21, 22, 23, 24, 25, 26, 27, 28, 29, 41, 42, 43, 44, 45, 46, 47, 48] (by decide +kernel) (by decide +kernel)
set_option maxRecDepth 20000 in
theorem gX4_liftAll_X1_lift : GoodIn wsX4_liftAll (wsV RX4 109 RX1 yX1_lift wsX1_lift) := goodIn_app (goodIn_of _ (by decide +kernel)) ggX4_liftAll_X1_lift
set_option maxRecDepth 20000 in
theorem ggX4_sustain_X3_moveSustain : GoodIn wsX4_sustain wsX3_moveSustain := goodIn_r _ [7, 8, 9, 10, 11, 6, 12, 13, 14, 15, 16, 17, 18, 19, 20, 21, 22, 23, 24, 25, 26, 27, 28, 29, 30, 31, 32, 33, 34, 35, 36, 37, 38, 39, 51, 52, 53, 54, 55, 56, 57, 58, 59, 60, 61, 62, 63, 64, 65] (by decide +kernel) (by decide +kernel)
set_option maxRecDepth 20000 in
theorem gX4_sustain_X3_moveSustain : GoodIn wsX4_sustain (wsV RX4 112 RX3 yX3_moveSustain wsX3_moveSustain) := goodIn_app (goodIn_of _ (by decide +kernel)) ggX4_sustain_X3_moveSustain
set_option maxRecDepth 20000 in
theorem ggX4_sostenuto_X3_moveSostenuto : GoodIn wsX4_sostenuto wsX3_moveSostenuto := goodIn_r _ [7, 8, 9, 10, 11, 12, 13, 14, 6, 15, 16, 17, 18, 19, 20, 21, 22, 23, 24, 25, 26, 27, 28, 29, 30, 31, 32, 33, 34, 35, 36, 37, 38, 39, 40, 41, 42, 43, 55, 56, 57, 58, 59, 60, 61, 62, 63, 64, 65, 66, 67, 68, 69] (by decide +kernel) (by decide +kernel)
set_option maxRecDepth 20000 in
theorem gX4_sostenuto_X3_moveSostenuto : GoodIn wsX4_sostenuto (wsV RX4 116 RX3 yX3_moveSostenuto wsX3_moveSostenuto) := goodIn_app (goodIn_of _ (by decide +kernel)) ggX4_sostenuto_X3_moveSostenuto
set_option maxRecDepth 20000 in
theorem ggX4_tick_X4_within : GoodIn wsX4_tick wsX4_within := goodIn_r _ [11] (by decide +kernel) (by decide +kernel)
set_option maxRecDepth 20000 in
theorem gX4_tick_X4_within : GoodIn wsX4_tick (va_wsS RX4 59 yX4_within wsX4_within) := goodIn_app (goodIn_of _ (by decide +kernel)) ggX4_tick_X4_within
set_option maxRecDepth 20000 in
theorem ggX4_tick_J9_floorMod_7cf53 : GoodIn wsX4_tick wsJ9_floorMod_7cf53 := goodIn_r _ [15] (by decide +kernel) (by decide +kernel)
set_option maxRecDepth 20000 in
theorem gX4_tick_J9_floorMod_7cf53 : GoodIn wsX4_tick (va_wsS RX4 128 yJ9_floorMod_7cf53 wsJ9_floorMod_7cf53) := goodIn_app (goodIn_of _ (by decide +kernel)) ggX4_tick_J9_floorMod_7cf53
set_option maxRecDepth 20000 in
theorem ggX4_tick_X4_scanRow : GoodIn wsX4_tick wsX4_scanRow := goodIn_r _ [19, 1, 20, 21, 22, 23, 10, 24, 25, 26, 27, 7, 28, 29, 30, 31, 32, 33, 34, 35, 36, 37, 38, 39, 40, 41, 42, 43, 44, 45, 46, 47, 48, 49, 50, 51, 52, 53, 54, 55, 56, 57, 58, 59, 60, 61, 62, 2, 63, 64, 65, 66, 67, 68, 69, 70, 71, 72, 73, 74, 75, 76, 77, 13, 14, 15, 78, 79, 80, 81, 82, 3, 4, 5, 6, 83, 84, 85, 86, 87, 88, 89, 90, 91, 92, 93, 94, 95, 96, 97, 98, 99, 100, 101, 102, 103, 104, 105, 106, 107, 108, 109, 110, 111, 112, 113, 114, 115, 116, 117, 118, 119, 120, 121, 122, 123, 124, 125, 126, 127, 128, 129, 130, 131, 132, 133, 134, 135, 136, 137, 138, 139, 140, 141, 142, 143, 144, 145, 146, 147, 148, 149, 150, 151, 152, 153, 154, 155, 156, 157, 158, 159, 160, 161, 162, 163, 164] (by decide +kernel) (by decide +kernel)
set_option maxRecDepth 20000 in
theorem gX4_tick_X4_scanRow : GoodIn wsX4_tick (wsV RX4 131 RX4 yX4_scanRow wsX4_scanRow) := goodIn_app (goodIn_of _ (by decide +kernel)) ggX4_tick_X4_scanRow
set_option maxRecDepth 20000 in
theorem ggX4_key_X1_has : GoodIn wsX4_key wsX1_has := goodIn_r _ [10, 11, 12, 13, 9, 14, 15, 16, 72, 73, 74, 75, 76, 77] (by decide +kernel) (by decide +kernel)
set_option maxRecDepth 20000 in
theorem gX4_key_X1_has : GoodIn wsX4_key (wsV RX4 96 RX1 yX1_has wsX1_has) := goodIn_app (goodIn_of _ (by decide +kernel)) ggX4_key_X1_has
set_option maxRecDepth 20000 in
theorem ggX4_key_X3_withKey : GoodIn wsX4_key wsX3_withKey := goodIn_r _ [21, 22, 23, 24, 78, 79, 80, 81, 82, 83, 84, 85, 86, 87, 88] (by decide +kernel) (by decide +kernel)
set_option maxRecDepth 20000 in
theorem gX4_key_X3_withKey : GoodIn wsX4_key (wsV RX4 135 RX3 yX3_withKey wsX3_withKey) := goodIn_app (goodIn_of _ (by decide +kernel)) ggX4_key_X3_withKey
set_option maxRecDepth 20000 in
theorem ggX4_key_X1_firstSeen : GoodIn wsX4_key wsX1_firstSeen := goodIn_r _ [28, 29, 16, 30, 31, 32, 9, 33, 34, 35, 36, 37, 38, 39, 72, 73, 74, 75, 76, 77, 89, 90] (by decide +kernel) (by decide +kernel)
set_option maxRecDepth 20000 in
theorem gX4_key_X1_firstSeen : GoodIn wsX4_key (wsV RX4 139 RX1 yX1_firstSeen wsX1_firstSeen) := goodIn_app (goodIn_of _ (by decide +kernel)) ggX4_key_X1_firstSeen
set_option maxRecDepth 20000 in
theorem ggX4_key_X4_one : GoodIn wsX4_key wsX4_one := goodIn_r _ [43] (by decide +kernel) (by decide +kernel)
set_option maxRecDepth 20000 in
theorem gX4_key_X4_one : GoodIn wsX4_key (va_wsS RX4 83 yX4_one wsX4_one) := goodIn_app (goodIn_of _ (by decide +kernel)) ggX4_key_X4_one
set_option maxRecDepth 20000 in
theorem ggX4_key_X1_secondSeen : GoodIn wsX4_key wsX1_secondSeen := goodIn_r _ [47, 48, 16, 30, 31, 32, 9, 33, 34, 35, 36, 37, 38, 39, 72, 73, 74, 75, 76, 77, 89, 90] (by decide +kernel) (by decide +kernel)
set_option maxRecDepth 20000 in
theorem gX4_key_X1_secondSeen : GoodIn wsX4_key (wsV RX4 142 RX1 yX1_secondSeen wsX1_secondSeen) := goodIn_app (goodIn_of _ (by decide +kernel)) ggX4_key_X1_secondSeen
set_option maxRecDepth 20000 in
theorem ggX4_key_X1_isGhost : GoodIn wsX4_key wsX1_isGhost := goodIn_r _ [52, 16, 53, 54, 55, 9, 56, 29, 35, 48, 30, 31, 32, 33, 34, 36, 37, 38, 39, 72, 73, 74, 75, 76, 77, 89, 90] (by decide +kernel) (by decide +kernel)
set_option maxRecDepth 20000 in
theorem gX4_key_X1_isGhost : GoodIn wsX4_key (wsV RX4 145 RX1 yX1_isGhost wsX1_isGhost) := goodIn_app (goodIn_of _ (by decide +kernel)) ggX4_key_X1_isGhost
set_option maxRecDepth 20000 in
theorem ggX4_key_X1_isDoubtful : GoodIn wsX4_key wsX1_isDoubtful := goodIn_r _ [60, 16, 15, 29, 30, 31, 32, 9, 33, 34, 35, 36, 72, 73, 74, 75, 76, 77, 89, 90] (by decide +kernel) (by decide +kernel)
set_option maxRecDepth 20000 in
theorem gX4_key_X1_isDoubtful : GoodIn wsX4_key (wsV RX4 148 RX1 yX1_isDoubtful wsX1_isDoubtful) := goodIn_app (goodIn_of _ (by decide +kernel)) ggX4_key_X1_isDoubtful
set_option maxRecDepth 20000 in
theorem ggX4_voice_X4_one : GoodIn wsX4_voice wsX4_one := goodIn_r _ [11] (by decide +kernel) (by decide +kernel)
set_option maxRecDepth 20000 in
theorem gX4_voice_X4_one : GoodIn wsX4_voice (va_wsS RX4 83 yX4_one wsX4_one) := goodIn_app (goodIn_of _ (by decide +kernel)) ggX4_voice_X4_one
set_option maxRecDepth 20000 in
theorem ggX4_count_X1_size : GoodIn wsX4_count wsX1_size := goodIn_r _ [14, 15, 16, 91, 92, 93, 94, 95, 96] (by decide +kernel) (by decide +kernel)
set_option maxRecDepth 20000 in
theorem gX4_count_X1_size : GoodIn wsX4_count (wsV RX4 73 RX1 yX1_size wsX1_size) := goodIn_app (goodIn_of _ (by decide +kernel)) ggX4_count_X1_size
set_option maxRecDepth 20000 in
theorem ggX4_count_X1_pressed : GoodIn wsX4_count wsX1_pressed := goodIn_r _ [20, 21, 22, 11, 12, 13, 14, 15, 16, 23, 24, 25, 91, 92, 93, 94, 95, 96] (by decide +kernel) (by decide +kernel)
set_option maxRecDepth 20000 in
theorem gX4_count_X1_pressed : GoodIn wsX4_count (wsV RX4 106 RX1 yX1_pressed wsX1_pressed) := goodIn_app (goodIn_of _ (by decide +kernel)) ggX4_count_X1_pressed
set_option maxRecDepth 20000 in
theorem ggX4_count_X1_ghosts : GoodIn wsX4_count wsX1_ghosts := goodIn_r _ [29, 15, 30, 31, 32, 13, 33, 34, 35, 36, 37, 38, 39, 40, 41, 42, 43, 44, 45, 46, 47, 48, 49, 91, 92, 93, 94, 95, 96, 97, 98] (by decide +kernel) (by decide +kernel)
set_option maxRecDepth 20000 in
theorem gX4_count_X1_ghosts : GoodIn wsX4_count (wsV RX4 80 RX1 yX1_ghosts wsX1_ghosts) := goodIn_app (goodIn_of _ (by decide +kernel)) ggX4_count_X1_ghosts
set_option maxRecDepth 20000 in
theorem ggX4_count_X1_doubtful : GoodIn wsX4_count wsX1_doubtful := goodIn_r _ [53, 22, 11, 12, 13, 14, 15, 16, 54, 55, 56, 57, 34, 37, 38, 39, 40, 41, 35, 42, 23, 24, 25, 91, 92, 93, 94, 95, 96, 97, 98] (by decide +kernel) (by decide +kernel)
set_option maxRecDepth 20000 in
theorem gX4_count_X1_doubtful : GoodIn wsX4_count (wsV RX4 167 RX1 yX1_doubtful wsX1_doubtful) := goodIn_app (goodIn_of _ (by decide +kernel)) ggX4_count_X1_doubtful
set_option maxRecDepth 20000 in
theorem ggX4_count_X3_inState : GoodIn wsX4_count wsX3_inState := goodIn_r _ [62, 63, 64, 76, 77, 78, 79, 80, 81, 82, 83, 84, 85, 86] (by decide +kernel) (by decide +kernel)
set_option maxRecDepth 20000 in
theorem gX4_count_X3_inState : GoodIn wsX4_count (wsV RX4 170 RX3 yX3_inState wsX3_inState) := goodIn_app (goodIn_of _ (by decide +kernel)) ggX4_count_X3_inState
set_option maxRecDepth 20000 in
theorem ggX4_log_X4_within : GoodIn wsX4_log wsX4_within := goodIn_r _ [8] (by decide +kernel) (by decide +kernel)
set_option maxRecDepth 20000 in
theorem gX4_log_X4_within : GoodIn wsX4_log (va_wsS RX4 59 yX4_within wsX4_within) := goodIn_app (goodIn_of _ (by decide +kernel)) ggX4_log_X4_within
set_option maxRecDepth 20000 in
theorem ggX4_log_X0_size : GoodIn wsX4_log wsX0_size := goodIn_r _ [13, 14, 15, 16, 17, 18, 38, 39, 40, 41] (by decide +kernel) (by decide +kernel)
set_option maxRecDepth 20000 in
theorem gX4_log_X0_size : GoodIn wsX4_log (wsV RX4 179 RX0 yX0_size wsX0_size) := goodIn_app (goodIn_of _ (by decide +kernel)) ggX4_log_X0_size
set_option maxRecDepth 20000 in
theorem ggX4_log_X0_place : GoodIn wsX4_log wsX0_place := goodIn_r _ [22, 14, 23, 24, 25, 26, 38, 39, 40, 41] (by decide +kernel) (by decide +kernel)
set_option maxRecDepth 20000 in
theorem gX4_log_X0_place : GoodIn wsX4_log (wsV RX4 180 RX0 yX0_place wsX0_place) := goodIn_app (goodIn_of _ (by decide +kernel)) ggX4_log_X0_place
set_option maxRecDepth 20000 in
theorem ggX4_velocity_X4_within : GoodIn wsX4_velocity wsX4_within := goodIn_r _ [4] (by decide +kernel) (by decide +kernel)
set_option maxRecDepth 20000 in
theorem gX4_velocity_X4_within : GoodIn wsX4_velocity (va_wsS RX4 59 yX4_within wsX4_within) := goodIn_app (goodIn_of _ (by decide +kernel)) ggX4_velocity_X4_within
set_option maxRecDepth 20000 in
theorem ggX4_velocity_X4_velocityAfter : GoodIn wsX4_velocity wsX4_velocityAfter := goodIn_r _ [8, 9, 10, 11, 12, 13, 14, 15, 16, 17, 18, 19, 20, 21, 22, 23, 24, 25, 26, 27] (by decide +kernel) (by decide +kernel)
set_option maxRecDepth 20000 in
theorem gX4_velocity_X4_velocityAfter : GoodIn wsX4_velocity (wsV RX4 190 RX4 yX4_velocityAfter wsX4_velocityAfter) := goodIn_app (goodIn_of _ (by decide +kernel)) ggX4_velocity_X4_velocityAfter
set_option maxRecDepth 20000 in
theorem ggX4_nextTaken_X3_firstFree : GoodIn wsX4_nextTaken wsX3_firstFree := goodIn_r _ [6, 7, 8, 31, 32, 33, 34, 35, 36, 37, 38, 39, 40, 41] (by decide +kernel) (by decide +kernel)
set_option maxRecDepth 20000 in
theorem gX4_nextTaken_X3_firstFree : GoodIn wsX4_nextTaken (wsV RX4 193 RX3 yX3_firstFree wsX3_firstFree) := goodIn_app (goodIn_of _ (by decide +kernel)) ggX4_nextTaken_X3_firstFree
set_option maxRecDepth 20000 in
theorem ggX4_nextTaken_X3_victim : GoodIn wsX4_nextTaken wsX3_victim := goodIn_r _ [12, 7, 13, 14, 15, 5, 16, 17, 8, 18, 19, 31, 32, 33, 34, 35, 36, 37, 38, 39, 40, 41] (by decide +kernel) (by decide +kernel)
set_option maxRecDepth 20000 in
theorem gX4_nextTaken_X3_victim : GoodIn wsX4_nextTaken (wsV RX4 196 RX3 yX3_victim wsX3_victim) := goodIn_app (goodIn_of _ (by decide +kernel)) ggX4_nextTaken_X3_victim
set_option maxRecDepth 20000 in
theorem ggX4_connected_X2_rowsJoinedWith : GoodIn wsX4_connected wsX2_rowsJoinedWith := goodIn_r _ [9, 10, 28, 29] (by decide +kernel) (by decide +kernel)
set_option maxRecDepth 20000 in
theorem gX4_connected_X2_rowsJoinedWith : GoodIn wsX4_connected (wsV RX4 203 RX2 yX2_rowsJoinedWith wsX2_rowsJoinedWith) := goodIn_app (goodIn_of _ (by decide +kernel)) ggX4_connected_X2_rowsJoinedWith
set_option maxRecDepth 20000 in
theorem ggX4_worstKey_X1_ghosts : GoodIn wsX4_worstKey wsX1_ghosts := goodIn_r _ [7, 8, 9, 10, 11, 6, 12, 13, 14, 15, 16, 17, 18, 19, 20, 21, 22, 23, 24, 25, 26, 27, 28, 70, 71, 72, 73, 74, 75, 76, 77] (by decide +kernel) (by decide +kernel)
set_option maxRecDepth 20000 in
theorem gX4_worstKey_X1_ghosts : GoodIn wsX4_worstKey (wsV RX4 80 RX1 yX1_ghosts wsX1_ghosts) := goodIn_app (goodIn_of _ (by decide +kernel)) ggX4_worstKey_X1_ghosts
set_option maxRecDepth 20000 in
theorem ggX4_worstKey_X1_size : GoodIn wsX4_worstKey wsX1_size := goodIn_r _ [32, 8, 33, 70, 71, 72, 73, 74, 75] (by decide +kernel) (by decide +kernel)
set_option maxRecDepth 20000 in
theorem gX4_worstKey_X1_size : GoodIn wsX4_worstKey (wsV RX4 73 RX1 yX1_size wsX1_size) := goodIn_app (goodIn_of _ (by decide +kernel)) ggX4_worstKey_X1_size
set_option maxRecDepth 20000 in
theorem ggX4_worstKey_X1_ghostsWithout : GoodIn wsX4_worstKey wsX1_ghostsWithout := goodIn_r _ [37, 38, 39, 40, 41, 6, 42, 13, 33, 15, 43, 44, 45, 46, 47, 48, 49, 50, 51, 52, 53, 54, 55, 56, 57, 58, 4, 5, 7, 8, 9, 10, 11, 12, 14, 16, 17, 18, 19, 20, 21, 22, 23, 24, 25, 26, 27, 28, 70, 71, 72, 73, 74, 75, 76, 77] (by decide +kernel) (by decide +kernel)
set_option maxRecDepth 20000 in
theorem gX4_worstKey_X1_ghostsWithout : GoodIn wsX4_worstKey (wsV RX4 211 RX1 yX1_ghostsWithout wsX1_ghostsWithout) := goodIn_app (goodIn_of _ (by decide +kernel)) ggX4_worstKey_X1_ghostsWithout
set_option maxRecDepth 20000 in
theorem ggX4_restAfter_X4_within : GoodIn wsX4_restAfter wsX4_within := goodIn_r _ [10] (by decide +kernel) (by decide +kernel)
set_option maxRecDepth 20000 in
theorem gX4_restAfter_X4_within : GoodIn wsX4_restAfter (va_wsS RX4 59 yX4_within wsX4_within) := goodIn_app (goodIn_of _ (by decide +kernel)) ggX4_restAfter_X4_within
set_option maxRecDepth 20000 in
theorem ggX4_restAfter_X4_allRestBehind : GoodIn wsX4_restAfter wsX4_allRestBehind := goodIn_r _ [14, 1, 2, 15, 16, 17, 18, 19, 20, 21, 22, 23, 24, 25, 26, 27, 28, 29, 30, 31, 9, 32, 33, 34, 35, 36, 37, 38, 39, 40, 41, 42, 43, 44, 45, 46, 47, 48, 49, 50, 51, 52, 53] (by decide +kernel) (by decide +kernel)
set_option maxRecDepth 20000 in
theorem gX4_restAfter_X4_allRestBehind : GoodIn wsX4_restAfter (wsV RX4 214 RX4 yX4_allRestBehind wsX4_allRestBehind) := goodIn_app (goodIn_of _ (by decide +kernel)) ggX4_restAfter_X4_allRestBehind
set_option maxRecDepth 20000 in
theorem ggX4_scanRow_X4_scanKey : GoodIn wsX4_scanRow wsX4_scanKey := goodIn_r _ [7, 1, 8, 9, 10, 11, 12, 13, 14, 15, 16, 17, 18, 19, 20, 21, 22, 23, 24, 25, 26, 27, 28, 29, 30, 31, 32, 33, 34, 35, 36, 6, 37, 38, 39, 40, 41, 42, 43, 44, 45, 46, 47, 48, 49, 50, 51, 52, 53, 54, 55, 56, 57, 58, 59, 60, 61, 62, 63, 64, 65, 66, 67, 68, 69, 70, 71, 72, 73, 74, 75, 76, 77, 78, 79, 80, 81, 82, 83, 84, 85, 86, 87, 88, 89, 90, 91, 92, 93, 94, 95, 96, 97, 98, 99, 100, 101, 102, 103, 104, 105, 106, 107, 108, 109, 110, 111, 112, 113, 114, 115, 116, 117, 118, 119, 120, 121, 122, 123, 124, 125, 126, 127, 128, 129, 130, 131, 132, 133, 134, 135, 136, 137, 138, 139, 140, 141, 142, 143, 144, 145, 146, 147, 148, 149, 150, 151, 152, 153, 154, 155, 156] (by decide +kernel) (by decide +kernel)
set_option maxRecDepth 20000 in
theorem gX4_scanRow_X4_scanKey : GoodIn wsX4_scanRow (wsV RX4 220 RX4 yX4_scanKey wsX4_scanKey) := goodIn_app (goodIn_of _ (by decide +kernel)) ggX4_scanRow_X4_scanKey
set_option maxRecDepth 20000 in
theorem ggX4_scanKey_X1_firstSeen : GoodIn wsX4_scanKey wsX1_firstSeen := goodIn_r _ [10, 11, 12, 13, 14, 15, 9, 16, 17, 18, 19, 20, 21, 22, 129, 130, 131, 132, 133, 134, 135, 136] (by decide +kernel) (by decide +kernel)
set_option maxRecDepth 20000 in
theorem gX4_scanKey_X1_firstSeen : GoodIn wsX4_scanKey (wsV RX4 139 RX1 yX1_firstSeen wsX1_firstSeen) := goodIn_app (goodIn_of _ (by decide +kernel)) ggX4_scanKey_X1_firstSeen
set_option maxRecDepth 20000 in
theorem ggX4_scanKey_X1_secondSeen : GoodIn wsX4_scanKey wsX1_secondSeen := goodIn_r _ [26, 27, 12, 13, 14, 15, 9, 16, 17, 18, 19, 20, 21, 22, 129, 130, 131, 132, 133, 134, 135, 136] (by decide +kernel) (by decide +kernel)
set_option maxRecDepth 20000 in
theorem gX4_scanKey_X1_secondSeen : GoodIn wsX4_scanKey (wsV RX4 142 RX1 yX1_secondSeen wsX1_secondSeen) := goodIn_app (goodIn_of _ (by decide +kernel)) ggX4_scanKey_X1_secondSeen
set_option maxRecDepth 20000 in
theorem ggX4_scanKey_X4_enter : GoodIn wsX4_scanKey wsX4_enter := goodIn_r _ [32, 2, 33, 5, 118, 119, 120, 121, 122, 123, 124, 125, 126, 127, 128] (by decide +kernel) (by decide +kernel)
set_option maxRecDepth 20000 in
theorem gX4_scanKey_X4_enter : GoodIn wsX4_scanKey (wsV RX4 223 RX4 yX4_enter wsX4_enter) := goodIn_app (goodIn_of _ (by decide +kernel)) ggX4_scanKey_X4_enter
set_option maxRecDepth 20000 in
theorem ggX4_scanKey_X4_strike : GoodIn wsX4_scanKey wsX4_strike := goodIn_r _ [37, 2, 38, 1, 39, 40, 5, 41, 4, 33, 42, 43, 44, 45, 9, 46, 12, 47, 11, 13, 14, 15, 16, 17, 18, 19, 48, 49, 50, 51, 52, 53, 54, 55, 56, 57, 58, 59, 60, 61, 62, 63, 31, 64, 65, 66, 67, 68, 69, 70, 71, 72, 73, 74, 75, 76, 77, 78, 79, 80, 81, 82, 83, 84, 85, 86, 87, 88, 89, 90, 91, 92, 93, 94, 95, 96, 97, 98, 99, 100, 101, 102, 103, 118, 119, 120, 121, 122, 123, 124, 125, 126, 127, 128, 129, 130, 131, 132, 133, 134, 135, 136, 137, 138, 139, 140, 141, 142, 143, 144, 145, 146, 147, 148, 149, 150, 151] (by decide +kernel) (by decide +kernel)
set_option maxRecDepth 20000 in
theorem gX4_scanKey_X4_strike : GoodIn wsX4_scanKey (wsV RX4 226 RX4 yX4_strike wsX4_strike) := goodIn_app (goodIn_of _ (by decide +kernel)) ggX4_scanKey_X4_strike
set_option maxRecDepth 20000 in
theorem ggX4_scanKey_X3_release : GoodIn wsX4_scanKey wsX3_release := goodIn_r _ [107, 81, 85, 86, 87, 76, 88, 89, 80, 108, 109, 110, 111, 112, 113, 84, 114, 115, 116, 117, 79, 103, 49, 50, 51, 52, 53, 54, 55, 56, 57, 58, 59, 60, 141, 142, 143, 144, 145, 146, 147, 148, 149, 150, 151, 137, 138, 139, 140] (by decide +kernel) (by decide +kernel)
set_option maxRecDepth 20000 in
theorem gX4_scanKey_X3_release : GoodIn wsX4_scanKey (wsV RX4 229 RX3 yX3_release wsX3_release) := goodIn_app (goodIn_of _ (by decide +kernel)) ggX4_scanKey_X3_release
set_option maxRecDepth 20000 in
theorem ggX4_strike_X1_isDoubtful : GoodIn wsX4_strike wsX1_isDoubtful := goodIn_r _ [15, 16, 17, 18, 19, 20, 21, 14, 22, 23, 24, 25, 94, 95, 96, 97, 98, 99, 100, 101] (by decide +kernel) (by decide +kernel)
set_option maxRecDepth 20000 in
theorem gX4_strike_X1_isDoubtful : GoodIn wsX4_strike (wsV RX4 148 RX1 yX1_isDoubtful wsX1_isDoubtful) := goodIn_app (goodIn_of _ (by decide +kernel)) ggX4_strike_X1_isDoubtful
set_option maxRecDepth 20000 in
theorem ggX4_strike_X0_write : GoodIn wsX4_strike wsX0_write := goodIn_r _ [30, 31, 32, 33, 34, 35, 36, 37, 38, 102, 103, 104, 105] (by decide +kernel) (by decide +kernel)
set_option maxRecDepth 20000 in
theorem gX4_strike_X0_write : GoodIn wsX4_strike (wsV RX4 232 RX0 yX0_write wsX0_write) := goodIn_app (goodIn_of _ (by decide +kernel)) ggX4_strike_X0_write
set_option maxRecDepth 20000 in
theorem ggX4_strike_X4_velocityAfter : GoodIn wsX4_strike wsX4_velocityAfter := goodIn_r _ [43, 44, 45, 46, 47, 48, 49, 50, 51, 83, 84, 85, 86, 87, 88, 89, 90, 91, 92, 93] (by decide +kernel) (by decide +kernel)
set_option maxRecDepth 20000 in
theorem gX4_strike_X4_velocityAfter : GoodIn wsX4_strike (wsV RX4 190 RX4 yX4_velocityAfter wsX4_velocityAfter) := goodIn_app (goodIn_of _ (by decide +kernel)) ggX4_strike_X4_velocityAfter
set_option maxRecDepth 20000 in
theorem ggX4_strike_X3_sound : GoodIn wsX4_strike wsX3_sound := goodIn_r _ [56, 57, 58, 59, 60, 61, 62, 63, 64, 65, 66, 55, 67, 68, 69, 70, 71, 72, 73, 74, 75, 76, 77, 78, 79, 80, 81, 82, 27, 28, 29, 30, 31, 32, 33, 34, 35, 36, 37, 38, 106, 107, 108, 109, 110, 111, 112, 113, 114, 115, 116, 102, 103, 104, 105] (by decide +kernel) (by decide +kernel)
set_option maxRecDepth 20000 in
theorem gX4_strike_X3_sound : GoodIn wsX4_strike (wsV RX4 236 RX3 yX3_sound wsX3_sound) := goodIn_app (goodIn_of _ (by decide +kernel)) ggX4_strike_X3_sound
set_option maxRecDepth 20000 in
theorem ggX4_allRestBehind_J9_floorMod_7cf53 : GoodIn wsX4_allRestBehind wsJ9_floorMod_7cf53 := goodIn_r _ [8] (by decide +kernel) (by decide +kernel)
set_option maxRecDepth 20000 in
theorem gX4_allRestBehind_J9_floorMod_7cf53 : GoodIn wsX4_allRestBehind (va_wsS RX4 128 yJ9_floorMod_7cf53 wsJ9_floorMod_7cf53) := goodIn_app (goodIn_of _ (by decide +kernel)) ggX4_allRestBehind_J9_floorMod_7cf53
set_option maxRecDepth 20000 in
theorem ggX4_allRestBehind_X1_seen : GoodIn wsX4_allRestBehind wsX1_seen := goodIn_r _ [13, 14, 15, 16, 35, 36, 37, 38, 39, 40, 41, 42] (by decide +kernel) (by decide +kernel)
set_option maxRecDepth 20000 in
theorem gX4_allRestBehind_X1_seen : GoodIn wsX4_allRestBehind (wsV RX4 242 RX1 yX1_seen wsX1_seen) := goodIn_app (goodIn_of _ (by decide +kernel)) ggX4_allRestBehind_X1_seen
set_option maxRecDepth 20000 in
theorem ggX4_allRestBehind_X4_rowRests : GoodIn wsX4_allRestBehind wsX4_rowRests := goodIn_r _ [21, 1, 22, 23, 24, 25, 26, 27, 28, 29, 30, 31, 32, 33, 34, 35, 36, 37, 38, 39, 40] (by decide +kernel) (by decide +kernel)
set_option maxRecDepth 20000 in
theorem gX4_allRestBehind_X4_rowRests : GoodIn wsX4_allRestBehind (wsV RX4 246 RX4 yX4_rowRests wsX4_rowRests) := goodIn_app (goodIn_of _ (by decide +kernel)) ggX4_allRestBehind_X4_rowRests
set_option maxRecDepth 20000 in
theorem ggX5_init_X5_begin : GoodIn wsX5_init wsX5_begin := goodIn_r _ [25, 26, 27, 28, 29, 30, 7, 8, 9, 13, 17, 31, 32, 33, 34, 35, 36, 37, 24, 38, 39, 12, 40, 11, 41, 42, 43, 44, 45, 46, 47, 48, 49, 50, 51, 52, 53, 54, 55, 56, 57, 58, 59, 60, 61, 62, 63, 64, 65, 66, 67, 68, 69, 70, 71, 72, 73, 74, 75, 76, 77, 78, 79] (by decide +kernel) (by decide +kernel)
set_option maxRecDepth 20000 in
theorem gX5_init_X5_begin : GoodIn wsX5_init (wsV RX5 57 RX5 yX5_begin wsX5_begin) := goodIn_app (goodIn_of _ (by decide +kernel)) ggX5_init_X5_begin
set_option maxRecDepth 20000 in
theorem ggX5_begin_X5_appear : GoodIn wsX5_begin wsX5_appear := goodIn_r _ [19, 1, 20, 2, 21, 22, 6, 23, 24, 25, 26, 18, 27, 28, 29, 30, 31, 32, 33, 34, 35, 36, 37, 38, 39, 40, 41, 42, 43, 44, 45, 46, 47, 48, 49, 50, 51, 52, 53, 54, 55, 56, 57, 58, 59, 60, 61, 62] (by decide +kernel) (by decide +kernel)
set_option maxRecDepth 20000 in
theorem gX5_begin_X5_appear : GoodIn wsX5_begin (wsV RX5 89 RX5 yX5_appear wsX5_appear) := goodIn_app (goodIn_of _ (by decide +kernel)) ggX5_begin_X5_appear
set_option maxRecDepth 20000 in
theorem ggX5_reset_X5_in : GoodIn wsX5_reset wsX5_in := goodIn_r _ [4] (by decide +kernel) (by decide +kernel)
set_option maxRecDepth 20000 in
theorem gX5_reset_X5_in : GoodIn wsX5_reset (va_wsS RX5 92 yX5_in wsX5_in) := goodIn_app (goodIn_of _ (by decide +kernel)) ggX5_reset_X5_in
set_option maxRecDepth 20000 in
theorem ggX5_reset_X5_begin : GoodIn wsX5_reset wsX5_begin := goodIn_r _ [8, 9, 10, 11, 12, 13, 14, 15, 16, 17, 18, 19, 20, 21, 22, 23, 24, 25, 3, 26, 27, 28, 29, 30, 31, 32, 33, 34, 35, 36, 37, 38, 39, 40, 41, 42, 43, 44, 45, 46, 47, 48, 49, 50, 51, 52, 53, 54, 55, 56, 57, 58, 59, 60, 61, 62, 63, 64, 65, 66, 67, 68, 69] (by decide +kernel) (by decide +kernel)
set_option maxRecDepth 20000 in
theorem gX5_reset_X5_begin : GoodIn wsX5_reset (wsV RX5 57 RX5 yX5_begin wsX5_begin) := goodIn_app (goodIn_of _ (by decide +kernel)) ggX5_reset_X5_begin
set_option maxRecDepth 20000 in
theorem ggX5_reset_X5_keys : GoodIn wsX5_reset wsX5_keys := goodIn_r _ [39, 9, 10, 40, 41, 42, 43, 44, 45, 46, 47, 48, 49, 50, 51, 52, 53, 54, 55, 56, 57, 58, 59, 60, 61, 62, 63, 64, 65, 66, 67, 68, 69] (by decide +kernel) (by decide +kernel)
set_option maxRecDepth 20000 in
theorem gX5_reset_X5_keys : GoodIn wsX5_reset (wsV RX5 96 RX5 yX5_keys wsX5_keys) := goodIn_app (goodIn_of _ (by decide +kernel)) ggX5_reset_X5_keys
set_option maxRecDepth 20000 in
theorem ggX5_connect_X5_keys : GoodIn wsX5_connect wsX5_keys := goodIn_r _ [9, 10, 3, 11, 12, 13, 14, 15, 16, 17, 18, 19, 20, 21, 22, 23, 24, 25, 26, 27, 28, 29, 30, 31, 32, 33, 34, 35, 36, 37, 38, 39, 40] (by decide +kernel) (by decide +kernel)
set_option maxRecDepth 20000 in
theorem gX5_connect_X5_keys : GoodIn wsX5_connect (wsV RX5 96 RX5 yX5_keys wsX5_keys) := goodIn_app (goodIn_of _ (by decide +kernel)) ggX5_connect_X5_keys
set_option maxRecDepth 20000 in
theorem ggX5_appear_X5_connect : GoodIn wsX5_appear wsX5_connect := goodIn_r _ [12, 13, 2, 3, 6, 14, 15, 16, 11, 17, 1, 18, 19, 20, 21, 22, 23, 24, 25, 26, 27, 28, 29, 30, 31, 32, 33, 34, 35, 36, 37, 38, 39, 40, 41, 42, 43, 44, 45, 46, 47] (by decide +kernel) (by decide +kernel)
set_option maxRecDepth 20000 in
theorem gX5_appear_X5_connect : GoodIn wsX5_appear (wsV RX5 106 RX5 yX5_connect wsX5_connect) := goodIn_app (goodIn_of _ (by decide +kernel)) ggX5_appear_X5_connect
set_option maxRecDepth 20000 in
theorem ggX5_isDoubtful_X5_keys : GoodIn wsX5_isDoubtful wsX5_keys := goodIn_r _ [7, 8, 2, 9, 10, 11, 12, 13, 14, 15, 16, 17, 18, 19, 20, 21, 22, 23, 24, 25, 26, 27, 28, 29, 30, 31, 32, 33, 34, 35, 36, 37, 38] (by decide +kernel) (by decide +kernel)
set_option maxRecDepth 20000 in
theorem gX5_isDoubtful_X5_keys : GoodIn wsX5_isDoubtful (wsV RX5 96 RX5 yX5_keys wsX5_keys) := goodIn_app (goodIn_of _ (by decide +kernel)) ggX5_isDoubtful_X5_keys
set_option maxRecDepth 20000 in
theorem ggX5_ghosts_X5_keys : GoodIn wsX5_ghosts wsX5_keys := goodIn_r _ [5, 6, 7, 15, 16, 17, 18, 19, 20, 21, 22, 23, 24, 25, 26, 27, 28, 29, 30, 31, 32, 33, 34, 35, 36, 37, 38, 39, 40, 41, 42, 43, 44] (by decide +kernel) (by decide +kernel)
set_option maxRecDepth 20000 in
theorem gX5_ghosts_X5_keys : GoodIn wsX5_ghosts (wsV RX5 96 RX5 yX5_keys wsX5_keys) := goodIn_app (goodIn_of _ (by decide +kernel)) ggX5_ghosts_X5_keys
set_option maxRecDepth 20000 in
theorem ggX5_ghosts_X5_isGhost : GoodIn wsX5_ghosts wsX5_isGhost := goodIn_r _ [11, 12, 13, 14, 15, 16, 17, 18, 19, 20, 21, 22, 23, 24, 25, 26, 27, 28, 29, 30, 31, 32, 33, 34, 35, 36, 37, 38, 39, 40, 41, 42, 43, 44] (by decide +kernel) (by decide +kernel)
set_option maxRecDepth 20000 in
theorem gX5_ghosts_X5_isGhost : GoodIn wsX5_ghosts (wsV RX5 112 RX5 yX5_isGhost wsX5_isGhost) := goodIn_app (goodIn_of _ (by decide +kernel)) ggX5_ghosts_X5_isGhost
set_option maxRecDepth 20000 in
theorem ggX5_setDiodes_X5_appear : GoodIn wsX5_setDiodes wsX5_appear := goodIn_r _ [6, 7, 8, 9, 10, 1, 11, 12, 13, 14, 15, 5, 16, 17, 18, 19, 20, 21, 30, 31, 32, 33, 34, 35, 36, 37, 38, 39, 40, 41, 42, 43, 44, 45, 46, 47, 48, 49, 50, 51, 52, 53, 54, 55, 56, 57, 58, 59] (by decide +kernel) (by decide +kernel)
set_option maxRecDepth 20000 in
theorem gX5_setDiodes_X5_appear : GoodIn wsX5_setDiodes (wsV RX5 89 RX5 yX5_appear wsX5_appear) := goodIn_app (goodIn_of _ (by decide +kernel)) ggX5_setDiodes_X5_appear
set_option maxRecDepth 20000 in
theorem ggX5_setDiodes_X5_ghosts : GoodIn wsX5_setDiodes wsX5_ghosts := goodIn_r _ [25, 18, 19, 20, 5, 21, 7, 9, 26, 27, 28, 29, 12, 11, 10, 30, 31, 32, 33, 34, 35, 36, 37, 38, 39, 40, 41, 42, 43, 44, 45, 46, 47, 48, 49, 50, 51, 52, 53, 54, 55, 56, 57, 58, 59] (by decide +kernel) (by decide +kernel)
set_option maxRecDepth 20000 in
theorem gX5_setDiodes_X5_ghosts : GoodIn wsX5_setDiodes (wsV RX5 116 RX5 yX5_ghosts wsX5_ghosts) := goodIn_app (goodIn_of _ (by decide +kernel)) ggX5_setDiodes_X5_ghosts
set_option maxRecDepth 20000 in
theorem ggX5_setSlope_X5_in : GoodIn wsX5_setSlope wsX5_in := goodIn_r _ [5] (by decide +kernel) (by decide +kernel)
set_option maxRecDepth 20000 in
theorem gX5_setSlope_X5_in : GoodIn wsX5_setSlope (va_wsS RX5 92 yX5_in wsX5_in) := goodIn_app (goodIn_of _ (by decide +kernel)) ggX5_setSlope_X5_in
set_option maxRecDepth 20000 in
theorem ggX5_setVoices_X5_in : GoodIn wsX5_setVoices wsX5_in := goodIn_r _ [6] (by decide +kernel) (by decide +kernel)
set_option maxRecDepth 20000 in
theorem gX5_setVoices_X5_in : GoodIn wsX5_setVoices (va_wsS RX5 92 yX5_in wsX5_in) := goodIn_app (goodIn_of _ (by decide +kernel)) ggX5_setVoices_X5_in
set_option maxRecDepth 20000 in
theorem ggX5_setVoices_X5_frees : GoodIn wsX5_setVoices wsX5_frees := goodIn_r _ [10, 11, 12, 13, 14, 15, 16, 5, 17, 18, 19, 20, 21, 22, 23, 24, 25, 26, 27, 28, 29, 30, 31, 32, 33, 34, 35, 36, 37, 38, 39, 40, 41, 42, 43, 44, 45, 46, 47, 48, 49, 50] (by decide +kernel) (by decide +kernel)
set_option maxRecDepth 20000 in
theorem gX5_setVoices_X5_frees : GoodIn wsX5_setVoices (wsV RX5 125 RX5 yX5_frees wsX5_frees) := goodIn_app (goodIn_of _ (by decide +kernel)) ggX5_setVoices_X5_frees
set_option maxRecDepth 20000 in
theorem ggX5_frees_X5_enter : GoodIn wsX5_frees wsX5_enter := goodIn_r _ [8, 9, 10, 11, 12, 13, 14, 15, 16, 17, 18, 19, 20, 21, 22, 23, 24, 25, 26, 27, 28, 29, 30, 31, 32, 33, 34, 35, 36, 37, 38, 39, 40, 41] (by decide +kernel) (by decide +kernel)
set_option maxRecDepth 20000 in
theorem gX5_frees_X5_enter : GoodIn wsX5_frees (wsV RX5 132 RX5 yX5_enter wsX5_enter) := goodIn_app (goodIn_of _ (by decide +kernel)) ggX5_frees_X5_enter
set_option maxRecDepth 20000 in
theorem ggX5_weakest_X5_isWeaker : GoodIn wsX5_weakest wsX5_isWeaker := goodIn_r _ [7, 8, 9, 10, 11, 12, 13, 14, 15, 16, 17, 18, 19, 20, 21, 22, 23, 24, 25, 26, 27, 28, 29, 30, 31, 32, 33, 34, 35, 36, 37, 38, 39, 40] (by decide +kernel) (by decide +kernel)
set_option maxRecDepth 20000 in
theorem gX5_weakest_X5_isWeaker : GoodIn wsX5_weakest (wsV RX5 135 RX5 yX5_isWeaker wsX5_isWeaker) := goodIn_app (goodIn_of _ (by decide +kernel)) ggX5_weakest_X5_isWeaker
set_option maxRecDepth 20000 in
theorem ggX5_taken_X5_weakest : GoodIn wsX5_taken wsX5_weakest := goodIn_r _ [6, 7, 8, 9, 10, 11, 5, 12, 1, 13, 14, 15, 16, 17, 18, 19, 20, 21, 22, 23, 24, 25, 26, 27, 28, 29, 30, 31, 32, 33, 34, 35, 36, 37, 38, 39, 40, 41, 42, 43, 44] (by decide +kernel) (by decide +kernel)
set_option maxRecDepth 20000 in
theorem gX5_taken_X5_weakest : GoodIn wsX5_taken (wsV RX5 139 RX5 yX5_weakest wsX5_weakest) := goodIn_app (goodIn_of _ (by decide +kernel)) ggX5_taken_X5_weakest
set_option maxRecDepth 20000 in
theorem ggX5_strike_X5_isDoubtful : GoodIn wsX5_strike wsX5_isDoubtful := goodIn_r _ [17, 18, 19, 20, 21, 22, 16, 23, 9, 57, 58, 59, 60, 61, 62, 63, 64, 65, 66, 67, 68, 69, 70, 71, 72, 73, 74, 75, 76, 77, 78, 79, 80, 81, 82, 83, 84, 85, 86] (by decide +kernel) (by decide +kernel)
set_option maxRecDepth 20000 in
theorem gX5_strike_X5_isDoubtful : GoodIn wsX5_strike (wsV RX5 143 RX5 yX5_isDoubtful wsX5_isDoubtful) := goodIn_app (goodIn_of _ (by decide +kernel)) ggX5_strike_X5_isDoubtful
set_option maxRecDepth 20000 in
theorem ggX5_strike_X5_enter : GoodIn wsX5_strike wsX5_enter := goodIn_r _ [27, 28, 7, 29, 57, 58, 59, 60, 61, 62, 63, 64, 65, 66, 67, 68, 69, 70, 71, 72, 73, 74, 75, 76, 77, 78, 79, 80, 81, 82, 83, 84, 85, 86] (by decide +kernel) (by decide +kernel)
set_option maxRecDepth 20000 in
theorem gX5_strike_X5_enter : GoodIn wsX5_strike (wsV RX5 132 RX5 yX5_enter wsX5_enter) := goodIn_app (goodIn_of _ (by decide +kernel)) ggX5_strike_X5_enter
set_option maxRecDepth 20000 in
theorem ggX5_strike_X5_voiceOf : GoodIn wsX5_strike wsX5_voiceOf := goodIn_r _ [33, 34, 5, 4, 57, 58, 59, 60, 61, 62, 63, 64, 65, 66, 67, 68, 69, 70, 71, 72, 73, 74, 75, 76, 77, 78, 79, 80, 81, 82, 83, 84, 85, 86] (by decide +kernel) (by decide +kernel)
set_option maxRecDepth 20000 in
theorem gX5_strike_X5_voiceOf : GoodIn wsX5_strike (wsV RX5 146 RX5 yX5_voiceOf wsX5_voiceOf) := goodIn_app (goodIn_of _ (by decide +kernel)) ggX5_strike_X5_voiceOf
set_option maxRecDepth 20000 in
theorem ggX5_strike_X5_freeVoice : GoodIn wsX5_strike wsX5_freeVoice := goodIn_r _ [38, 34, 5, 57, 58, 59, 60, 61, 62, 63, 64, 65, 66, 67, 68, 69, 70, 71, 72, 73, 74, 75, 76, 77, 78, 79, 80, 81, 82, 83, 84, 85, 86] (by decide +kernel) (by decide +kernel)
set_option maxRecDepth 20000 in
theorem gX5_strike_X5_freeVoice : GoodIn wsX5_strike (wsV RX5 149 RX5 yX5_freeVoice wsX5_freeVoice) := goodIn_app (goodIn_of _ (by decide +kernel)) ggX5_strike_X5_freeVoice
set_option maxRecDepth 20000 in
theorem ggX5_strike_X5_taken : GoodIn wsX5_strike wsX5_taken := goodIn_r _ [42, 43, 44, 45, 46, 16, 47, 34, 5, 48, 49, 50, 51, 6, 10, 57, 58, 59, 60, 61, 62, 63, 64, 65, 66, 67, 68, 69, 70, 71, 72, 73, 74, 75, 76, 77, 78, 79, 80, 81, 82, 83, 84, 85, 86] (by decide +kernel) (by decide +kernel)
set_option maxRecDepth 20000 in
theorem gX5_strike_X5_taken : GoodIn wsX5_strike (wsV RX5 152 RX5 yX5_taken wsX5_taken) := goodIn_app (goodIn_of _ (by decide +kernel)) ggX5_strike_X5_taken
set_option maxRecDepth 20000 in
theorem ggX5_strike_X5_velocityAfter : GoodIn wsX5_strike wsX5_velocityAfter := goodIn_r _ [55, 56, 57, 58, 59, 60, 61, 62, 63, 64, 65, 66, 67, 68, 69, 70, 71, 72, 73, 74, 75, 76, 77, 78, 79, 80, 81, 82, 83, 84, 85, 86] (by decide +kernel) (by decide +kernel)
set_option maxRecDepth 20000 in
theorem gX5_strike_X5_velocityAfter : GoodIn wsX5_strike (wsV RX5 155 RX5 yX5_velocityAfter wsX5_velocityAfter) := goodIn_app (goodIn_of _ (by decide +kernel)) ggX5_strike_X5_velocityAfter
set_option maxRecDepth 20000 in
theorem ggX5_release_X5_voiceOf : GoodIn wsX5_release wsX5_voiceOf := goodIn_r _ [9, 10, 1, 11, 23, 24, 25, 26, 27, 28, 29, 30, 31, 32, 33, 34, 35, 36, 37, 38, 39, 40, 41, 42, 43, 44, 45, 46, 47, 48, 49, 50, 51, 52] (by decide +kernel) (by decide +kernel)
set_option maxRecDepth 20000 in
theorem gX5_release_X5_voiceOf : GoodIn wsX5_release (wsV RX5 146 RX5 yX5_voiceOf wsX5_voiceOf) := goodIn_app (goodIn_of _ (by decide +kernel)) ggX5_release_X5_voiceOf
set_option maxRecDepth 20000 in
theorem ggX5_release_X5_frees : GoodIn wsX5_release wsX5_frees := goodIn_r _ [15, 1, 4, 11, 16, 17, 18, 8, 19, 20, 21, 22, 23, 24, 25, 26, 27, 28, 29, 30, 31, 32, 33, 34, 35, 36, 37, 38, 39, 40, 41, 42, 43, 44, 45, 46, 47, 48, 49, 50, 51, 52] (by decide +kernel) (by decide +kernel)
set_option maxRecDepth 20000 in
theorem gX5_release_X5_frees : GoodIn wsX5_release (wsV RX5 125 RX5 yX5_frees wsX5_frees) := goodIn_app (goodIn_of _ (by decide +kernel)) ggX5_release_X5_frees
set_option maxRecDepth 20000 in
theorem ggX5_scan_X5_hits : GoodIn wsX5_scan wsX5_hits := goodIn_r _ [11, 1, 12, 13, 14, 10, 15, 16, 17, 18, 19, 20, 21, 4, 3, 22, 23, 24, 25, 26, 27, 28, 29, 2, 30, 31, 32, 33, 34, 35, 36, 37, 38, 39, 40, 41, 42, 43, 44, 45, 46, 47, 48, 49, 50, 51, 52, 53, 54, 55, 56, 57, 58, 59, 60, 61, 62, 63, 64, 65, 66, 67, 78, 79, 80, 81, 82, 83, 84, 85, 86, 87, 88, 89, 90, 91, 92, 93, 94, 95, 96, 97, 98, 99, 100, 101, 102, 103, 104, 105, 106, 107] (by decide +kernel) (by decide +kernel)
set_option maxRecDepth 20000 in
theorem gX5_scan_X5_hits : GoodIn wsX5_scan (wsV RX5 158 RX5 yX5_hits wsX5_hits) := goodIn_app (goodIn_of _ (by decide +kernel)) ggX5_scan_X5_hits
set_option maxRecDepth 20000 in
theorem ggX5_scan_X5_release : GoodIn wsX5_scan wsX5_release := goodIn_r _ [71, 20, 72, 73, 24, 41, 42, 43, 10, 44, 45, 19, 74, 75, 76, 77, 35, 36, 37, 38, 39, 4, 40, 78, 79, 80, 81, 82, 83, 84, 85, 86, 87, 88, 89, 90, 91, 92, 93, 94, 95, 96, 97, 98, 99, 100, 101, 102, 103, 104, 105, 106, 107] (by decide +kernel) (by decide +kernel)
set_option maxRecDepth 20000 in
theorem gX5_scan_X5_release : GoodIn wsX5_scan (wsV RX5 162 RX5 yX5_release wsX5_release) := goodIn_app (goodIn_of _ (by decide +kernel)) ggX5_scan_X5_release
set_option maxRecDepth 20000 in
theorem ggX5_hits_X5_strike : GoodIn wsX5_hits wsX5_strike := goodIn_r _ [6, 7, 8, 9, 10, 11, 12, 13, 14, 15, 16, 17, 18, 19, 20, 21, 5, 22, 23, 24, 25, 26, 27, 28, 29, 30, 31, 32, 33, 34, 35, 36, 37, 38, 39, 40, 41, 42, 43, 44, 45, 46, 47, 48, 49, 50, 51, 52, 53, 54, 55, 56, 57, 58, 59, 60, 61, 62, 63, 64, 65, 66, 67, 68, 69, 70, 71, 72, 73, 74, 75, 76, 77, 78, 79, 80, 81, 82, 83, 84, 85, 86, 87, 88, 89, 90, 91] (by decide +kernel) (by decide +kernel)
set_option maxRecDepth 20000 in
theorem gX5_hits_X5_strike : GoodIn wsX5_hits (wsV RX5 166 RX5 yX5_strike wsX5_strike) := goodIn_app (goodIn_of _ (by decide +kernel)) ggX5_hits_X5_strike
set_option maxRecDepth 20000 in
theorem ggX5_pass_X5_scan : GoodIn wsX5_pass wsX5_scan := goodIn_r _ [8, 9, 10, 11, 1, 12, 13, 14, 15, 16, 7, 17, 18, 19, 20, 21, 22, 23, 24, 25, 26, 27, 2, 28, 29, 30, 31, 32, 33, 34, 3, 35, 36, 37, 38, 39, 40, 41, 42, 43, 44, 45, 46, 47, 48, 49, 50, 51, 52, 53, 54, 55, 56, 57, 58, 59, 60, 61, 62, 63, 64, 65, 66, 67, 68, 69, 70, 71, 72, 73, 74, 75, 76, 77, 78, 79, 80, 81, 82, 83, 84, 85, 86, 87, 88, 89, 90, 91, 92, 93, 94, 95, 96, 97, 98, 99, 100, 101, 102, 103, 104, 105, 106, 107, 108, 109, 110, 111] (by decide +kernel) (by decide +kernel)
set_option maxRecDepth 20000 in
theorem gX5_pass_X5_scan : GoodIn wsX5_pass (wsV RX5 169 RX5 yX5_scan wsX5_scan) := goodIn_app (goodIn_of _ (by decide +kernel)) ggX5_pass_X5_scan
set_option maxRecDepth 20000 in
theorem ggX5_tick_X5_in : GoodIn wsX5_tick wsX5_in := goodIn_r _ [5] (by decide +kernel) (by decide +kernel)
set_option maxRecDepth 20000 in
theorem gX5_tick_X5_in : GoodIn wsX5_tick (va_wsS RX5 92 yX5_in wsX5_in) := goodIn_app (goodIn_of _ (by decide +kernel)) ggX5_tick_X5_in
set_option maxRecDepth 20000 in
theorem ggX5_tick_X5_pass : GoodIn wsX5_tick wsX5_pass := goodIn_r _ [9, 1, 10, 11, 12, 13, 14, 4, 15, 16, 17, 18, 19, 20, 21, 22, 23, 24, 25, 26, 27, 28, 29, 30, 31, 32, 33, 34, 35, 36, 37, 38, 39, 40, 41, 42, 43, 44, 45, 46, 47, 48, 49, 50, 51, 52, 53, 54, 55, 56, 57, 58, 59, 60, 61, 62, 63, 64, 65, 66, 67, 68, 69, 70, 71, 72, 73, 74, 75, 76, 77, 78, 79, 80, 81, 82, 83, 84, 85, 86, 87, 88, 89, 90, 91, 92, 93, 94, 95, 96, 97, 98, 99, 100, 101, 102, 103, 104, 105, 106, 107, 108, 109, 110, 111, 112, 113, 114, 115, 116, 117, 118] (by decide +kernel) (by decide +kernel)
set_option maxRecDepth 20000 in
theorem gX5_tick_X5_pass : GoodIn wsX5_tick (wsV RX5 172 RX5 yX5_pass wsX5_pass) := goodIn_app (goodIn_of _ (by decide +kernel)) ggX5_tick_X5_pass
set_option maxRecDepth 20000 in
theorem ggX5_noKey_X5_keys : GoodIn wsX5_noKey wsX5_keys := goodIn_r _ [5, 6, 7, 11, 12, 13, 14, 15, 16, 17, 18, 19, 20, 21, 22, 23, 24, 25, 26, 27, 28, 29, 30, 31, 32, 33, 34, 35, 36, 37, 38, 39, 40] (by decide +kernel) (by decide +kernel)
set_option maxRecDepth 20000 in
theorem gX5_noKey_X5_keys : GoodIn wsX5_noKey (wsV RX5 96 RX5 yX5_keys wsX5_keys) := goodIn_app (goodIn_of _ (by decide +kernel)) ggX5_noKey_X5_keys
set_option maxRecDepth 20000 in
theorem ggX5_noKey_X5_in : GoodIn wsX5_noKey wsX5_in := goodIn_r _ [10] (by decide +kernel) (by decide +kernel)
set_option maxRecDepth 20000 in
theorem gX5_noKey_X5_in : GoodIn wsX5_noKey (va_wsS RX5 92 yX5_in wsX5_in) := goodIn_app (goodIn_of _ (by decide +kernel)) ggX5_noKey_X5_in
set_option maxRecDepth 20000 in
theorem ggX5_setKey_X5_noKey : GoodIn wsX5_setKey wsX5_noKey := goodIn_r _ [6, 7, 8, 9, 5, 10, 11, 12, 13, 14, 15, 29, 30, 31, 32, 33, 34, 35, 36, 37, 38, 39, 40, 41, 42, 43, 44, 45, 46, 47, 48, 49, 50, 51, 52, 53, 54, 55, 56, 57, 58] (by decide +kernel) (by decide +kernel)
set_option maxRecDepth 20000 in
theorem gX5_setKey_X5_noKey : GoodIn wsX5_setKey (wsV RX5 176 RX5 yX5_noKey wsX5_noKey) := goodIn_app (goodIn_of _ (by decide +kernel)) ggX5_setKey_X5_noKey
set_option maxRecDepth 20000 in
theorem ggX5_setKey_X5_in : GoodIn wsX5_setKey wsX5_in := goodIn_r _ [15] (by decide +kernel) (by decide +kernel)
set_option maxRecDepth 20000 in
theorem gX5_setKey_X5_in : GoodIn wsX5_setKey (va_wsS RX5 92 yX5_in wsX5_in) := goodIn_app (goodIn_of _ (by decide +kernel)) ggX5_setKey_X5_in
set_option maxRecDepth 20000 in
theorem ggX5_setKey_X5_appear : GoodIn wsX5_setKey wsX5_appear := goodIn_r _ [19, 11, 20, 12, 21, 22, 1, 23, 24, 25, 26, 5, 27, 28, 7, 8, 9, 10, 29, 30, 31, 32, 33, 34, 35, 36, 37, 38, 39, 40, 41, 42, 43, 44, 45, 46, 47, 48, 49, 50, 51, 52, 53, 54, 55, 56, 57, 58] (by decide +kernel) (by decide +kernel)
set_option maxRecDepth 20000 in
theorem gX5_setKey_X5_appear : GoodIn wsX5_setKey (wsV RX5 89 RX5 yX5_appear wsX5_appear) := goodIn_app (goodIn_of _ (by decide +kernel)) ggX5_setKey_X5_appear
set_option maxRecDepth 20000 in
theorem ggX5_pressed_X5_keys : GoodIn wsX5_pressed wsX5_keys := goodIn_r _ [6, 7, 8, 9, 10, 11, 12, 13, 14, 15, 16, 17, 18, 19, 20, 21, 22, 23, 24, 25, 26, 27, 28, 29, 30, 31, 32, 33, 34, 35, 36, 37, 38] (by decide +kernel) (by decide +kernel)
set_option maxRecDepth 20000 in
theorem gX5_pressed_X5_keys : GoodIn wsX5_pressed (wsV RX5 96 RX5 yX5_keys wsX5_keys) := goodIn_app (goodIn_of _ (by decide +kernel)) ggX5_pressed_X5_keys
set_option maxRecDepth 20000 in
theorem ggX5_liftAll_X5_pressed : GoodIn wsX5_liftAll wsX5_pressed := goodIn_r _ [6, 1, 7, 8, 9, 5, 10, 11, 12, 26, 27, 28, 29, 30, 31, 32, 33, 34, 35, 36, 37, 38, 39, 40, 41, 42, 43, 44, 45, 46, 47, 48, 49, 50, 51, 52, 53, 54, 55] (by decide +kernel) (by decide +kernel)
set_option maxRecDepth 20000 in
theorem gX5_liftAll_X5_pressed : GoodIn wsX5_liftAll (wsV RX5 179 RX5 yX5_pressed wsX5_pressed) := goodIn_app (goodIn_of _ (by decide +kernel)) ggX5_liftAll_X5_pressed
set_option maxRecDepth 20000 in
theorem ggX5_liftAll_X5_keys : GoodIn wsX5_liftAll wsX5_keys := goodIn_r _ [10, 11, 12, 26, 27, 28, 29, 30, 31, 32, 33, 34, 35, 36, 37, 38, 39, 40, 41, 42, 43, 44, 45, 46, 47, 48, 49, 50, 51, 52, 53, 54, 55] (by decide +kernel) (by decide +kernel)
set_option maxRecDepth 20000 in
theorem gX5_liftAll_X5_keys : GoodIn wsX5_liftAll (wsV RX5 96 RX5 yX5_keys wsX5_keys) := goodIn_app (goodIn_of _ (by decide +kernel)) ggX5_liftAll_X5_keys
set_option maxRecDepth 20000 in
theorem ggX5_liftAll_X5_appear : GoodIn wsX5_liftAll wsX5_appear := goodIn_r _ [16, 11, 17, 12, 18, 19, 1, 20, 21, 22, 23, 5, 24, 25, 7, 8, 9, 10, 26, 27, 28, 29, 30, 31, 32, 33, 34, 35, 36, 37, 38, 39, 40, 41, 42, 43, 44, 45, 46, 47, 48, 49, 50, 51, 52, 53, 54, 55] (by decide +kernel) (by decide +kernel)
set_option maxRecDepth 20000 in
theorem gX5_liftAll_X5_appear : GoodIn wsX5_liftAll (wsV RX5 89 RX5 yX5_appear wsX5_appear) := goodIn_app (goodIn_of _ (by decide +kernel)) ggX5_liftAll_X5_appear
set_option maxRecDepth 20000 in
theorem ggX5_dropKept_X5_frees : GoodIn wsX5_dropKept wsX5_frees := goodIn_r _ [10, 2, 5, 11, 12, 13, 14, 9, 15, 16, 17, 18, 19, 20, 21, 22, 23, 24, 25, 26, 27, 28, 29, 30, 31, 32, 33, 34, 35, 36, 37, 38, 39, 40, 41, 42, 43, 44, 45, 46, 47, 48] (by decide +kernel) (by decide +kernel)
set_option maxRecDepth 20000 in
theorem gX5_dropKept_X5_frees : GoodIn wsX5_dropKept (wsV RX5 125 RX5 yX5_frees wsX5_frees) := goodIn_app (goodIn_of _ (by decide +kernel)) ggX5_dropKept_X5_frees
set_option maxRecDepth 20000 in
theorem ggX5_sustain_X5_dropKept : GoodIn wsX5_sustain wsX5_dropKept := goodIn_r _ [6, 7, 8, 1, 9, 10, 11, 12, 13, 5, 14, 15, 16, 17, 18, 19, 20, 21, 22, 23, 24, 25, 26, 27, 28, 29, 30, 31, 32, 33, 34, 35, 36, 37, 38, 39, 40, 41, 42, 43, 44, 45, 46, 47, 48, 49, 50, 51, 52] (by decide +kernel) (by decide +kernel)
set_option maxRecDepth 20000 in
theorem gX5_sustain_X5_dropKept : GoodIn wsX5_sustain (wsV RX5 182 RX5 yX5_dropKept wsX5_dropKept) := goodIn_app (goodIn_of _ (by decide +kernel)) ggX5_sustain_X5_dropKept
set_option maxRecDepth 20000 in
theorem ggX5_sostenuto_X5_dropKept : GoodIn wsX5_sostenuto wsX5_dropKept := goodIn_r _ [9, 2, 4, 10, 1, 3, 11, 12, 13, 8, 14, 15, 16, 17, 18, 19, 20, 21, 22, 23, 24, 25, 26, 27, 28, 29, 30, 31, 32, 33, 34, 35, 36, 37, 38, 39, 40, 41, 42, 43, 44, 45, 46, 47, 48, 49, 50, 51, 52] (by decide +kernel) (by decide +kernel)
set_option maxRecDepth 20000 in
theorem gX5_sostenuto_X5_dropKept : GoodIn wsX5_sostenuto (wsV RX5 182 RX5 yX5_dropKept wsX5_dropKept) := goodIn_app (goodIn_of _ (by decide +kernel)) ggX5_sostenuto_X5_dropKept
set_option maxRecDepth 20000 in
theorem ggX5_key_X5_noKey : GoodIn wsX5_key wsX5_noKey := goodIn_r _ [10, 11, 12, 13, 9, 14, 15, 16, 17, 18, 19, 35, 36, 37, 38, 39, 40, 41, 42, 43, 44, 45, 46, 47, 48, 49, 50, 51, 52, 53, 54, 55, 56, 57, 58, 59, 60, 61, 62, 63, 64] (by decide +kernel) (by decide +kernel)
set_option maxRecDepth 20000 in
theorem gX5_key_X5_noKey : GoodIn wsX5_key (wsV RX5 176 RX5 yX5_noKey wsX5_noKey) := goodIn_app (goodIn_of _ (by decide +kernel)) ggX5_key_X5_noKey
set_option maxRecDepth 20000 in
theorem ggX5_key_X5_voiceOf : GoodIn wsX5_key wsX5_voiceOf := goodIn_r _ [23, 24, 25, 26, 35, 36, 37, 38, 39, 40, 41, 42, 43, 44, 45, 46, 47, 48, 49, 50, 51, 52, 53, 54, 55, 56, 57, 58, 59, 60, 61, 62, 63, 64] (by decide +kernel) (by decide +kernel)
set_option maxRecDepth 20000 in
theorem gX5_key_X5_voiceOf : GoodIn wsX5_key (wsV RX5 146 RX5 yX5_voiceOf wsX5_voiceOf) := goodIn_app (goodIn_of _ (by decide +kernel)) ggX5_key_X5_voiceOf
set_option maxRecDepth 20000 in
theorem ggX5_key_X5_isGhost : GoodIn wsX5_key wsX5_isGhost := goodIn_r _ [30, 4, 1, 5, 35, 36, 37, 38, 39, 40, 41, 42, 43, 44, 45, 46, 47, 48, 49, 50, 51, 52, 53, 54, 55, 56, 57, 58, 59, 60, 61, 62, 63, 64] (by decide +kernel) (by decide +kernel)
set_option maxRecDepth 20000 in
theorem gX5_key_X5_isGhost : GoodIn wsX5_key (wsV RX5 112 RX5 yX5_isGhost wsX5_isGhost) := goodIn_app (goodIn_of _ (by decide +kernel)) ggX5_key_X5_isGhost
set_option maxRecDepth 20000 in
theorem ggX5_key_X5_isDoubtful : GoodIn wsX5_key wsX5_isDoubtful := goodIn_r _ [34, 4, 16, 11, 12, 13, 9, 14, 15, 35, 36, 37, 38, 39, 40, 41, 42, 43, 44, 45, 46, 47, 48, 49, 50, 51, 52, 53, 54, 55, 56, 57, 58, 59, 60, 61, 62, 63, 64] (by decide +kernel) (by decide +kernel)
set_option maxRecDepth 20000 in
theorem gX5_key_X5_isDoubtful : GoodIn wsX5_key (wsV RX5 143 RX5 yX5_isDoubtful wsX5_isDoubtful) := goodIn_app (goodIn_of _ (by decide +kernel)) ggX5_key_X5_isDoubtful
set_option maxRecDepth 20000 in
theorem ggX5_voice_X5_in : GoodIn wsX5_voice wsX5_in := goodIn_r _ [10] (by decide +kernel) (by decide +kernel)
set_option maxRecDepth 20000 in
theorem gX5_voice_X5_in : GoodIn wsX5_voice (va_wsS RX5 92 yX5_in wsX5_in) := goodIn_app (goodIn_of _ (by decide +kernel)) ggX5_voice_X5_in
set_option maxRecDepth 20000 in
theorem ggX5_count_X5_keys : GoodIn wsX5_count wsX5_keys := goodIn_r _ [12, 13, 14, 34, 35, 36, 37, 38, 39, 40, 41, 42, 43, 44, 45, 46, 47, 48, 49, 50, 51, 52, 53, 54, 55, 56, 57, 58, 59, 60, 61, 62, 63] (by decide +kernel) (by decide +kernel)
set_option maxRecDepth 20000 in
theorem gX5_count_X5_keys : GoodIn wsX5_count (wsV RX5 96 RX5 yX5_keys wsX5_keys) := goodIn_app (goodIn_of _ (by decide +kernel)) ggX5_count_X5_keys
set_option maxRecDepth 20000 in
theorem ggX5_count_X5_isDoubtful : GoodIn wsX5_count wsX5_isDoubtful := goodIn_r _ [18, 19, 14, 8, 9, 10, 11, 12, 13, 34, 35, 36, 37, 38, 39, 40, 41, 42, 43, 44, 45, 46, 47, 48, 49, 50, 51, 52, 53, 54, 55, 56, 57, 58, 59, 60, 61, 62, 63] (by decide +kernel) (by decide +kernel)
set_option maxRecDepth 20000 in
theorem gX5_count_X5_isDoubtful : GoodIn wsX5_count (wsV RX5 143 RX5 yX5_isDoubtful wsX5_isDoubtful) := goodIn_app (goodIn_of _ (by decide +kernel)) ggX5_count_X5_isDoubtful
set_option maxRecDepth 20000 in
theorem ggX5_count_X5_pressed : GoodIn wsX5_count wsX5_pressed := goodIn_r _ [23, 24, 8, 9, 10, 11, 12, 13, 14, 34, 35, 36, 37, 38, 39, 40, 41, 42, 43, 44, 45, 46, 47, 48, 49, 50, 51, 52, 53, 54, 55, 56, 57, 58, 59, 60, 61, 62, 63] (by decide +kernel) (by decide +kernel)
set_option maxRecDepth 20000 in
theorem gX5_count_X5_pressed : GoodIn wsX5_count (wsV RX5 179 RX5 yX5_pressed wsX5_pressed) := goodIn_app (goodIn_of _ (by decide +kernel)) ggX5_count_X5_pressed
set_option maxRecDepth 20000 in
theorem ggX5_count_X5_ghosts : GoodIn wsX5_count wsX5_ghosts := goodIn_r _ [28, 8, 9, 10, 11, 12, 13, 14, 29, 30, 31, 32, 19, 24, 33, 34, 35, 36, 37, 38, 39, 40, 41, 42, 43, 44, 45, 46, 47, 48, 49, 50, 51, 52, 53, 54, 55, 56, 57, 58, 59, 60, 61, 62, 63] (by decide +kernel) (by decide +kernel)
set_option maxRecDepth 20000 in
theorem gX5_count_X5_ghosts : GoodIn wsX5_count (wsV RX5 116 RX5 yX5_ghosts wsX5_ghosts) := goodIn_app (goodIn_of _ (by decide +kernel)) ggX5_count_X5_ghosts
set_option maxRecDepth 20000 in
theorem ggX5_log_X5_in : GoodIn wsX5_log wsX5_in := goodIn_r _ [6] (by decide +kernel) (by decide +kernel)
set_option maxRecDepth 20000 in
theorem gX5_log_X5_in : GoodIn wsX5_log (va_wsS RX5 92 yX5_in wsX5_in) := goodIn_app (goodIn_of _ (by decide +kernel)) ggX5_log_X5_in
set_option maxRecDepth 20000 in
theorem ggX5_velocity_X5_in : GoodIn wsX5_velocity wsX5_in := goodIn_r _ [4] (by decide +kernel) (by decide +kernel)
set_option maxRecDepth 20000 in
theorem gX5_velocity_X5_in : GoodIn wsX5_velocity (va_wsS RX5 92 yX5_in wsX5_in) := goodIn_app (goodIn_of _ (by decide +kernel)) ggX5_velocity_X5_in
set_option maxRecDepth 20000 in
theorem ggX5_velocity_X5_velocityAfter : GoodIn wsX5_velocity wsX5_velocityAfter := goodIn_r _ [8, 9, 10, 11, 12, 13, 14, 15, 16, 17, 18, 19, 20, 21, 22, 23, 24, 25, 26, 27, 28, 29, 30, 31, 32, 33, 34, 35, 36, 37, 38, 39] (by decide +kernel) (by decide +kernel)
set_option maxRecDepth 20000 in
theorem gX5_velocity_X5_velocityAfter : GoodIn wsX5_velocity (wsV RX5 155 RX5 yX5_velocityAfter wsX5_velocityAfter) := goodIn_app (goodIn_of _ (by decide +kernel)) ggX5_velocity_X5_velocityAfter
set_option maxRecDepth 20000 in
theorem ggX5_nextTaken_X5_freeVoice : GoodIn wsX5_nextTaken wsX5_freeVoice := goodIn_r _ [5, 6, 7, 23, 24, 25, 26, 27, 28, 29, 30, 31, 32, 33, 34, 35, 36, 37, 38, 39, 40, 41, 42, 43, 44, 45, 46, 47, 48, 49, 50, 51, 52] (by decide +kernel) (by decide +kernel)
set_option maxRecDepth 20000 in
theorem gX5_nextTaken_X5_freeVoice : GoodIn wsX5_nextTaken (wsV RX5 149 RX5 yX5_freeVoice wsX5_freeVoice) := goodIn_app (goodIn_of _ (by decide +kernel)) ggX5_nextTaken_X5_freeVoice
set_option maxRecDepth 20000 in
theorem ggX5_nextTaken_X5_taken : GoodIn wsX5_nextTaken wsX5_taken := goodIn_r _ [11, 12, 13, 14, 15, 4, 16, 6, 7, 17, 18, 19, 20, 21, 22, 23, 24, 25, 26, 27, 28, 29, 30, 31, 32, 33, 34, 35, 36, 37, 38, 39, 40, 41, 42, 43, 44, 45, 46, 47, 48, 49, 50, 51, 52] (by decide +kernel) (by decide +kernel)
set_option maxRecDepth 20000 in
theorem gX5_nextTaken_X5_taken : GoodIn wsX5_nextTaken (wsV RX5 152 RX5 yX5_taken wsX5_taken) := goodIn_app (goodIn_of _ (by decide +kernel)) ggX5_nextTaken_X5_taken
set_option maxRecDepth 20000 in
theorem ggX5_connected_X5_in : GoodIn wsX5_connected wsX5_in := goodIn_r _ [7] (by decide +kernel) (by decide +kernel)
set_option maxRecDepth 20000 in
theorem gX5_connected_X5_in : GoodIn wsX5_connected (va_wsS RX5 92 yX5_in wsX5_in) := goodIn_app (goodIn_of _ (by decide +kernel)) ggX5_connected_X5_in
set_option maxRecDepth 20000 in
theorem ggX5_connected_X5_connect : GoodIn wsX5_connected wsX5_connect := goodIn_r _ [11, 2, 3, 12, 13, 14, 15, 16, 6, 17, 1, 18, 19, 20, 21, 22, 23, 24, 25, 26, 27, 28, 29, 30, 31, 32, 33, 34, 35, 36, 37, 38, 39, 40, 41, 42, 43, 44, 45, 46, 47] (by decide +kernel) (by decide +kernel)
set_option maxRecDepth 20000 in
theorem gX5_connected_X5_connect : GoodIn wsX5_connected (wsV RX5 106 RX5 yX5_connect wsX5_connect) := goodIn_app (goodIn_of _ (by decide +kernel)) ggX5_connected_X5_connect
set_option maxRecDepth 20000 in
theorem ggX5_worstKey_X5_ghosts : GoodIn wsX5_worstKey wsX5_ghosts := goodIn_r _ [6, 7, 8, 9, 5, 10, 11, 12, 13, 14, 15, 16, 17, 1, 18, 30, 31, 32, 33, 34, 35, 36, 37, 38, 39, 40, 41, 42, 43, 44, 45, 46, 47, 48, 49, 50, 51, 52, 53, 54, 55, 56, 57, 58, 59] (by decide +kernel) (by decide +kernel)
set_option maxRecDepth 20000 in
theorem gX5_worstKey_X5_ghosts : GoodIn wsX5_worstKey (wsV RX5 116 RX5 yX5_ghosts wsX5_ghosts) := goodIn_app (goodIn_of _ (by decide +kernel)) ggX5_worstKey_X5_ghosts
set_option maxRecDepth 20000 in
theorem ggX5_worstKey_X5_keys : GoodIn wsX5_worstKey wsX5_keys := goodIn_r _ [10, 11, 12, 30, 31, 32, 33, 34, 35, 36, 37, 38, 39, 40, 41, 42, 43, 44, 45, 46, 47, 48, 49, 50, 51, 52, 53, 54, 55, 56, 57, 58, 59] (by decide +kernel) (by decide +kernel)
set_option maxRecDepth 20000 in
theorem gX5_worstKey_X5_keys : GoodIn wsX5_worstKey (wsV RX5 96 RX5 yX5_keys wsX5_keys) := goodIn_app (goodIn_of _ (by decide +kernel)) ggX5_worstKey_X5_keys
set_option maxRecDepth 20000 in
theorem ggX5_worstKey_X5_appear : GoodIn wsX5_worstKey wsX5_appear := goodIn_r _ [22, 11, 23, 12, 18, 24, 1, 17, 25, 26, 27, 5, 28, 29, 7, 8, 9, 10, 30, 31, 32, 33, 34, 35, 36, 37, 38, 39, 40, 41, 42, 43, 44, 45, 46, 47, 48, 49, 50, 51, 52, 53, 54, 55, 56, 57, 58, 59] (by decide +kernel) (by decide +kernel)
set_option maxRecDepth 20000 in
theorem gX5_worstKey_X5_appear : GoodIn wsX5_worstKey (wsV RX5 89 RX5 yX5_appear wsX5_appear) := goodIn_app (goodIn_of _ (by decide +kernel)) ggX5_worstKey_X5_appear
set_option maxRecDepth 20000 in
theorem ggX5_areAtRest_X5_keys : GoodIn wsX5_areAtRest wsX5_keys := goodIn_r _ [6, 7, 8, 9, 10, 11, 12, 13, 14, 15, 16, 17, 18, 19, 20, 21, 22, 23, 24, 25, 26, 27, 28, 29, 30, 31, 32, 33, 34, 35, 36, 37, 38] (by decide +kernel) (by decide +kernel)
set_option maxRecDepth 20000 in
theorem gX5_areAtRest_X5_keys : GoodIn wsX5_areAtRest (wsV RX5 96 RX5 yX5_keys wsX5_keys) := goodIn_app (goodIn_of _ (by decide +kernel)) ggX5_areAtRest_X5_keys
set_option maxRecDepth 20000 in
theorem ggX5_restAfter_X5_in : GoodIn wsX5_restAfter wsX5_in := goodIn_r _ [9] (by decide +kernel) (by decide +kernel)
set_option maxRecDepth 20000 in
theorem gX5_restAfter_X5_in : GoodIn wsX5_restAfter (va_wsS RX5 92 yX5_in wsX5_in) := goodIn_app (goodIn_of _ (by decide +kernel)) ggX5_restAfter_X5_in
set_option maxRecDepth 20000 in
theorem ggX5_restAfter_X5_areAtRest : GoodIn wsX5_restAfter wsX5_areAtRest := goodIn_r _ [13, 2, 14, 15, 16, 8, 17, 18, 19, 95, 96, 97, 98, 99, 100, 101, 102, 103, 104, 105, 106, 107, 108, 109, 110, 111, 112, 113, 114, 115, 116, 117, 118, 119, 120, 121, 122, 123, 124] (by decide +kernel) (by decide +kernel)
set_option maxRecDepth 20000 in
theorem gX5_restAfter_X5_areAtRest : GoodIn wsX5_restAfter (wsV RX5 185 RX5 yX5_areAtRest wsX5_areAtRest) := goodIn_app (goodIn_of _ (by decide +kernel)) ggX5_restAfter_X5_areAtRest
set_option maxRecDepth 20000 in
theorem ggX5_restAfter_X5_pass : GoodIn wsX5_restAfter wsX5_pass := goodIn_r _ [23, 5, 18, 19, 24, 25, 26, 8, 27, 2, 28, 4, 29, 30, 31, 32, 33, 34, 35, 36, 37, 38, 39, 40, 41, 42, 43, 44, 45, 46, 47, 48, 49, 50, 51, 14, 15, 16, 17, 52, 53, 54, 55, 56, 57, 58, 59, 60, 61, 62, 63, 64, 65, 66, 67, 68, 69, 70, 71, 72, 73, 74, 75, 76, 77, 78, 79, 80, 81, 82, 83, 84, 85, 86, 87, 88, 89, 90, 91, 92, 93, 94, 95, 96, 97, 98, 99, 100, 101, 102, 103, 104, 105, 106, 107, 108, 109, 110, 111, 112, 113, 114, 115, 116, 117, 118, 119, 120, 121, 122, 123, 124] (by decide +kernel) (by decide +kernel)
set_option maxRecDepth 20000 in
theorem gX5_restAfter_X5_pass : GoodIn wsX5_restAfter (wsV RX5 172 RX5 yX5_pass wsX5_pass) := goodIn_app (goodIn_of _ (by decide +kernel)) ggX5_restAfter_X5_pass
