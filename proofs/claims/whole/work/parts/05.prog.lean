/-! THE PROGRAM of the small machine: printed by wip/gen/mkprog.py out of the printed claim -/
abbrev bz_iadd : bz_Op := bz_ii (fun x y => x + y)
abbrev bz_isub : bz_Op := bz_ii (fun x y => x - y)
abbrev bz_imul : bz_Op := bz_ii (fun x y => x * y)
abbrev bz_iand : bz_Op := bz_ii (fun x y => x &&& y)
abbrev bz_ixor : bz_Op := bz_ii (fun x y => x ^^^ y)
abbrev bz_ladd : bz_Op := bz_ll (fun x y => x + y)
abbrev bz_lsub : bz_Op := bz_ll (fun x y => x - y)
abbrev bz_lmul : bz_Op := bz_ll (fun x y => x * y)
abbrev bz_land : bz_Op := bz_ll (fun x y => x &&& y)
abbrev bz_lor : bz_Op := bz_ll (fun x y => x ||| y)
abbrev bz_idiv : bz_Op := bz_ig (fun x y => x / y)
abbrev bz_irem : bz_Op := bz_ig (fun x y => x % y)
abbrev bz_ldiv : bz_Op := bz_lg (fun x y => x / y)
abbrev bz_lrem : bz_Op := bz_lg (fun x y => x % y)
abbrev bz_lushr : bz_Op := bz_li (fun x y => (x.toUInt64 >>> (y.toInt64.toUInt64 &&& Int64.toUInt64 63)).toInt64)
abbrev bz_lshl : bz_Op := bz_li (fun x y => x <<< (y.toInt64 &&& 63))
abbrev mX0_isLost : Nat := 0
abbrev mX0_winsAtOnce : Nat := 1
abbrev mX0_learn : Nat := 2
abbrev mX0_winningMove : Nat := 3
abbrev mX6_copy : Nat := 4
abbrev mX4_copy : Nat := 5
abbrev mX1_keep : Nat := 6
abbrev mX2_choose : Nat := 7
abbrev mX2_power : Nat := 8
abbrev mX2_winning : Nat := 9
abbrev mX2_games : Nat := 10
abbrev mX2_commonDivisor : Nat := 11
abbrev mX3_add : Nat := 12
abbrev mX3_empty : Nat := 13
abbrev mX10_isWithin : Nat := 14
abbrev mX3_signAt : Nat := 15
abbrev mX3_isLetter : Nat := 16
abbrev mX3_canStand : Nat := 17
abbrev mX3_isActAt : Nat := 18
abbrev mX3_firstFault : Nat := 19
abbrev mX3_actKind : Nat := 20
abbrev mX3_actLength : Nat := 21
abbrev mX4_add : Nat := 22
abbrev mJ9_floorMod_7cf53 : Nat := 23
abbrev mX7_cellBehind : Nat := 24
abbrev mX4_allFit : Nat := 25
abbrev mX5_begin : Nat := 26
abbrev mX10_turned : Nat := 27
abbrev mX10_next : Nat := 28
abbrev mX6_lyingOn : Nat := 29
abbrev mX5_touch : Nat := 30
abbrev mX10_isPocket : Nat := 31
abbrev mX5_run : Nat := 32
abbrev mX5_pointsMore : Nat := 33
abbrev mX5_foulsMore : Nat := 34
abbrev mX10_isBall : Nat := 35
abbrev mX6_isDown : Nat := 36
abbrev mX6_cellOrNone : Nat := 37
abbrev mX6_howManyDown : Nat := 38
abbrev mX6_reasonAgainst : Nat := 39
abbrev mX6_driftOne : Nat := 40
abbrev mX6_drift : Nat := 41
abbrev mX10_bit : Nat := 42
abbrev mX7_walk : Nat := 43
abbrev mX8_begin : Nat := 44
abbrev mX8_play : Nat := 45
abbrev mX8_tryAct : Nat := 46
abbrev mX8_runText : Nat := 47
abbrev mX8_runSeason : Nat := 48
abbrev mX8_forceToTouch : Nat := 49
abbrev mX10_isCell : Nat := 50
abbrev mX10_isPlace : Nat := 51
abbrev mX9_gather : Nat := 52
abbrev mX9_countLeft : Nat := 53
abbrev mJ9_max_7cf53 : Nat := 54
abbrev mX9_mostLeftAt : Nat := 55
abbrev mX9_chooseStep : Nat := 56
abbrev mX10_ball : Nat := 57
abbrev mX10_score : Nat := 58
abbrev mX10_say : Nat := 59
abbrev mX10_wipe : Nat := 60
abbrev mX10_fault : Nat := 61
abbrev mX10_tryText : Nat := 62
abbrev mX10_judge : Nat := 63
abbrev mX10_behind : Nat := 64
abbrev mX10_table : Nat := 65
abbrev mX10_candour : Nat := 66
abbrev mX10_done : Nat := 67
abbrev mX10_hint : Nat := 68
abbrev mJ13_bitCount_95d88 : Nat := 69
abbrev mX10_alone : Nat := 70
abbrev mX10_reachOf : Nat := 71
abbrev mX10_firstWayInto : Nat := 72
abbrev mX10_withAllThatReach : Nat := 73
abbrev mX10_strokes : Nat := 74
abbrev mX10_seen : Nat := 75
abbrev mX10_forget : Nat := 76
abbrev mX10_sent : Nat := 77
abbrev mX10_ask : Nat := 78
abbrev mX10_chalk : Nat := 79
abbrev mJ9_max_f86c9 : Nat := 80
abbrev mX10_match : Nat := 81
abbrev mX10_season : Nat := 82
abbrev mX10_image : Nat := 83
abbrev mX10_restore : Nat := 84
abbrev mX10_told : Nat := 85
abbrev mX11_in : Nat := 86
abbrev mX11_isBall : Nat := 87
abbrev mX11_isCell : Nat := 88
abbrev mX11_isPocket : Nat := 89
abbrev mX11_isPlace : Nat := 90
abbrev mX11_home : Nat := 91
abbrev mX11_downwards : Nat := 92
abbrev mX11_across : Nat := 93
abbrev mX11_turned : Nat := 94
abbrev mX11_ahead : Nat := 95
abbrev mX11_ballOn : Nat := 96
abbrev mX11_ball : Nat := 97
abbrev mX11_score : Nat := 98
abbrev mX11_say : Nat := 99
abbrev mX11_wipe : Nat := 100
abbrev mX11_close : Nat := 101
abbrev mX11_begin : Nat := 102
abbrev mX11_deed : Nat := 103
abbrev mX11_force : Nat := 104
abbrev mX11_readOn : Nat := 105
abbrev mX11_fault : Nat := 106
abbrev mX11_touch : Nat := 107
abbrev mX11_step : Nat := 108
abbrev mX11_send : Nat := 109
abbrev mX11_stroke : Nat := 110
abbrev mX11_columnOf : Nat := 111
abbrev mX11_drift : Nat := 112
abbrev mX11_nap : Nat := 113
abbrev mX11_whyNot : Nat := 114
abbrev mX11_happen : Nat := 115
abbrev mX11_keepNow : Nat := 116
abbrev mX11_back : Nat := 117
abbrev mX11_goCrises : Nat := 118
abbrev mX11_refusal : Nat := 119
abbrev mX11_judge : Nat := 120
abbrev mX11_behind : Nat := 121
abbrev mX11_downMany : Nat := 122
abbrev mX11_table : Nat := 123
abbrev mX11_candour : Nat := 124
abbrev mX11_done : Nat := 125
abbrev mX11_stepsBy : Nat := 126
abbrev mX11_hint : Nat := 127
abbrev mX11_next : Nat := 128
abbrev mX11_behindSteps : Nat := 129
abbrev mX11_metMany : Nat := 130
abbrev mX11_stepsBack : Nat := 131
abbrev mX11_alone : Nat := 132
abbrev mX11_leadsTo : Nat := 133
abbrev mX11_wayTo : Nat := 134
abbrev mX11_findFar : Nat := 135
abbrev mX11_strokes : Nat := 136
abbrev mX11_seen : Nat := 137
abbrev mX11_forget : Nat := 138
abbrev mX11_isFit : Nat := 139
abbrev mX11_findFits : Nat := 140
abbrev mX11_sent : Nat := 141
abbrev mX11_mostNow : Nat := 142
abbrev mX11_ask : Nat := 143
abbrev mX11_digit : Nat := 144
abbrev mX11_tenTo : Nat := 145
abbrev mX11_leastTake : Nat := 146
abbrev mX11_chalk : Nat := 147
abbrev mX11_lowest : Nat := 148
abbrev mX11_power : Nat := 149
abbrev mX11_findChance : Nat := 150
abbrev mX11_match : Nat := 151
abbrev mX11_actBy : Nat := 152
abbrev mX11_season : Nat := 153
abbrev mX11_pass : Nat := 154
abbrev mX11_passRow : Nat := 155
abbrev mX11_passAll : Nat := 156
abbrev mX11_image : Nat := 157
abbrev mX11_restore : Nat := 158
abbrev mX11_told : Nat := 159
abbrev mL_law : Nat := 160
def bt_X0_isLost : List bz_E := (0, .inl (bz_iload 1 1)) :: (1, .inl (bz_push (.int 10) 2)) :: (3, .inl (bz_irem)) :: (4, .inl (bz_istore 3 1)) :: (5, .inl (bz_iload 1 1)) :: (6, .inl (bz_push (.int 10) 2)) ::
  (8, .inl (bz_idiv)) :: (9, .inl (bz_push (.int 100) 2)) :: (11, .inl (bz_irem)) :: (12, .inl (bz_istore 4 2)) :: (14, .inl (bz_iload 2 1)) :: (15, .inl (bz_if_eq 35)) ::
  (18, .inl (bz_aload 0 1)) :: (19, .inl (bz_getR 0 0)) :: (22, .inl (bz_iload 4 2)) :: (24, .inl (bz_iald)) :: (25, .inl (bz_iload 3 1)) :: (26, .inl (bz_ic_ne 33)) ::
  (29, .inl (bz_push (.int 1) 1)) :: (30, .inl (bz_goto 34)) :: (33, .inl (bz_push (.int 0) 1)) :: (34, .inr (.inr 3)) :: (35, .inl (bz_iload 4 2)) :: (37, .inl (bz_push (.int 10) 2)) ::
  (39, .inl (bz_idiv)) :: (40, .inl (bz_iload 4 2)) :: (42, .inl (bz_push (.int 10) 2)) :: (44, .inl (bz_irem)) :: (45, .inl (bz_ixor)) :: (46, .inl (bz_iload 3 1)) ::
  (47, .inl (bz_ixor)) :: (48, .inl (bz_if_ne 55)) :: (51, .inl (bz_push (.int 1) 1)) :: (52, .inl (bz_goto 56)) :: (55, .inl (bz_push (.int 0) 1)) :: (56, .inr (.inr 3)) :: []
def bm_X0_isLost : bz_M := (RX0, yX0_isLost, cX0_isLost, 5, (some .boolean), 0, 0, bt_X0_isLost)
def bt_X0_winsAtOnce : List bz_E := (0, .inl (bz_push (.int 10) 2)) :: (2, .inl (bz_iload 1 1)) :: (3, .inl (bz_imul)) :: (4, .inl (bz_iload 2 1)) :: (5, .inl (bz_iadd)) :: (6, .inl (bz_istore 3 1)) ::
  (7, .inl (bz_iload 3 1)) :: (8, .inl (bz_if_eq 22)) :: (11, .inl (bz_aload 0 1)) :: (12, .inl (bz_iload 3 1)) :: (13, .inl (bz_push (.int 0) 1)) :: (14, .inr (.inl (mX0_isLost, 3, 1))) ::
  (17, .inl (bz_if_eq 22)) :: (20, .inl (bz_push (.int 1) 1)) :: (21, .inr (.inr 3)) :: (22, .inl (bz_iload 1 1)) :: (23, .inl (bz_push (.int 10) 2)) :: (25, .inl (bz_idiv)) ::
  (26, .inl (bz_istore 4 2)) :: (28, .inl (bz_iload 1 1)) :: (29, .inl (bz_push (.int 10) 2)) :: (31, .inl (bz_irem)) :: (32, .inl (bz_istore 5 2)) :: (34, .inl (bz_push (.int 0) 1)) ::
  (35, .inl (bz_istore 6 2)) :: (37, .inl (bz_iload 6 2)) :: (39, .inl (bz_iload 4 2)) :: (41, .inl (bz_ic_ge 69)) :: (44, .inl (bz_aload 0 1)) :: (45, .inl (bz_getR 0 0)) ::
  (48, .inl (bz_push (.int 10) 2)) :: (50, .inl (bz_iload 6 2)) :: (52, .inl (bz_imul)) :: (53, .inl (bz_iload 5 2)) :: (55, .inl (bz_iadd)) :: (56, .inl (bz_iald)) ::
  (57, .inl (bz_iload 2 1)) :: (58, .inl (bz_ic_ne 63)) :: (61, .inl (bz_push (.int 1) 1)) :: (62, .inr (.inr 3)) :: (63, .inl (bz_iinc 6 1)) :: (66, .inl (bz_goto 37)) ::
  (69, .inl (bz_push (.int 0) 1)) :: (70, .inl (bz_istore 6 2)) :: (72, .inl (bz_iload 6 2)) :: (74, .inl (bz_iload 5 2)) :: (76, .inl (bz_ic_ge 104)) :: (79, .inl (bz_aload 0 1)) ::
  (80, .inl (bz_getR 0 0)) :: (83, .inl (bz_push (.int 10) 2)) :: (85, .inl (bz_iload 4 2)) :: (87, .inl (bz_imul)) :: (88, .inl (bz_iload 6 2)) :: (90, .inl (bz_iadd)) ::
  (91, .inl (bz_iald)) :: (92, .inl (bz_iload 2 1)) :: (93, .inl (bz_ic_ne 98)) :: (96, .inl (bz_push (.int 1) 1)) :: (97, .inr (.inr 3)) :: (98, .inl (bz_iinc 6 1)) ::
  (101, .inl (bz_goto 72)) :: (104, .inl (bz_push (.int 0) 1)) :: (105, .inr (.inr 3)) :: []
def bm_X0_winsAtOnce : bz_M := (RX0, yX0_winsAtOnce, cX0_winsAtOnce, 7, (some .boolean), 1, 24, bt_X0_winsAtOnce)
def bt_X0_learn : List bz_E := (0, .inl (bz_push (.int 0) 1)) :: (1, .inl (bz_istore 1 1)) :: (2, .inl (bz_iload 1 1)) :: (3, .inl (bz_push (.int 100) 2)) :: (5, .inl (bz_ic_ge 58)) :: (8, .inl (bz_aload 0 1)) ::
  (9, .inl (bz_getI 0 1)) :: (12, .inl (bz_if_ne 58)) :: (15, .inl (bz_aload 0 1)) :: (16, .inl (bz_getR 0 0)) :: (19, .inl (bz_iload 1 1)) :: (20, .inl (bz_push (.int (-6)) 2)) ::
  (22, .inl (bz_iast)) :: (23, .inl (bz_push (.int 9) 2)) :: (25, .inl (bz_istore 2 1)) :: (26, .inl (bz_iload 2 1)) :: (27, .inl (bz_if_lt 52)) :: (30, .inl (bz_aload 0 1)) ::
  (31, .inl (bz_iload 1 1)) :: (32, .inl (bz_iload 2 1)) :: (33, .inr (.inl (mX0_winsAtOnce, 3, 1))) :: (36, .inl (bz_if_ne 46)) :: (39, .inl (bz_aload 0 1)) :: (40, .inl (bz_getR 0 0)) ::
  (43, .inl (bz_iload 1 1)) :: (44, .inl (bz_iload 2 1)) :: (45, .inl (bz_iast)) :: (46, .inl (bz_iinc 2 (-1))) :: (49, .inl (bz_goto 26)) :: (52, .inl (bz_iinc 1 1)) ::
  (55, .inl (bz_goto 2)) :: (58, .inl (bz_aload 0 1)) :: (59, .inl (bz_push (.int 1) 1)) :: (60, .inl (bz_putZ 0 1)) :: (63, .inr (.inr 0)) :: []
def bm_X0_learn : bz_M := (RX0, yX0_learn, cX0_learn, 3, none, 2, 50, bt_X0_learn)
def bt_X0_winningMove : List bz_E := (0, .inl (bz_aload 0 1)) :: (1, .inr (.inl (mX0_learn, 1, 1))) :: (4, .inl (bz_push (.int 0) 1)) :: (5, .inl (bz_istore 3 1)) :: (6, .inl (bz_iload 3 1)) :: (7, .inl (bz_push (.int 3) 1)) ::
  (8, .inl (bz_ic_ge 87)) :: (11, .inl (bz_iload 3 1)) :: (12, .inl (bz_if_ne 20)) :: (15, .inl (bz_push (.int 100) 2)) :: (17, .inl (bz_goto 31)) :: (20, .inl (bz_iload 3 1)) ::
  (21, .inl (bz_push (.int 1) 1)) :: (22, .inl (bz_ic_ne 30)) :: (25, .inl (bz_push (.int 10) 2)) :: (27, .inl (bz_goto 31)) :: (30, .inl (bz_push (.int 1) 1)) :: (31, .inl (bz_istore 4 2)) ::
  (33, .inl (bz_iload 1 1)) :: (34, .inl (bz_iload 4 2)) :: (36, .inl (bz_idiv)) :: (37, .inl (bz_push (.int 10) 2)) :: (39, .inl (bz_irem)) :: (40, .inl (bz_istore 5 2)) ::
  (42, .inl (bz_push (.int 1) 1)) :: (43, .inl (bz_istore 6 2)) :: (45, .inl (bz_iload 6 2)) :: (47, .inl (bz_iload 5 2)) :: (49, .inl (bz_ic_gt 81)) :: (52, .inl (bz_aload 0 1)) ::
  (53, .inl (bz_iload 1 1)) :: (54, .inl (bz_iload 6 2)) :: (56, .inl (bz_iload 4 2)) :: (58, .inl (bz_imul)) :: (59, .inl (bz_isub)) :: (60, .inl (bz_iload 2 1)) ::
  (61, .inr (.inl (mX0_isLost, 3, 1))) :: (64, .inl (bz_if_eq 75)) :: (67, .inl (bz_push (.int 10) 2)) :: (69, .inl (bz_iload 3 1)) :: (70, .inl (bz_imul)) :: (71, .inl (bz_iload 6 2)) ::
  (73, .inl (bz_iadd)) :: (74, .inr (.inr 1)) :: (75, .inl (bz_iinc 6 1)) :: (78, .inl (bz_goto 45)) :: (81, .inl (bz_iinc 3 1)) :: (84, .inl (bz_goto 6)) ::
  (87, .inl (bz_iload 2 1)) :: (88, .inl (bz_if_eq 109)) :: (91, .inl (bz_iload 1 1)) :: (92, .inl (bz_if_eq 109)) :: (95, .inl (bz_aload 0 1)) :: (96, .inl (bz_iload 1 1)) ::
  (97, .inl (bz_push (.int 0) 1)) :: (98, .inr (.inl (mX0_isLost, 3, 1))) :: (101, .inl (bz_if_eq 109)) :: (104, .inl (bz_push (.int 99) 2)) :: (106, .inl (bz_goto 111)) :: (109, .inl (bz_push (.int (-6)) 2)) ::
  (111, .inr (.inr 1)) :: []
def bm_X0_winningMove : bz_M := (RX0, yX0_winningMove, cX0_winningMove, 7, (some .int), 3, 72, bt_X0_winningMove)
def bt_X6_copy : List bz_E := (0, .inl (bz_push (.int 0) 1)) :: (1, .inl (bz_istore 2 1)) :: (2, .inl (bz_iload 2 1)) :: (3, .inl (bz_push (.int 3) 1)) :: (4, .inl (bz_ic_ge 25)) :: (7, .inl (bz_aload 0 1)) ::
  (8, .inl (bz_getR 5 0)) :: (11, .inl (bz_iload 2 1)) :: (12, .inl (bz_aload 1 1)) :: (13, .inl (bz_getR 5 0)) :: (16, .inl (bz_iload 2 1)) :: (17, .inl (bz_iald)) ::
  (18, .inl (bz_iast)) :: (19, .inl (bz_iinc 2 1)) :: (22, .inl (bz_goto 2)) :: (25, .inl (bz_aload 0 1)) :: (26, .inl (bz_aload 1 1)) :: (27, .inl (bz_getI 5 1)) ::
  (30, .inl (bz_putI 5 1)) :: (33, .inl (bz_aload 0 1)) :: (34, .inl (bz_aload 1 1)) :: (35, .inl (bz_getI 5 2)) :: (38, .inl (bz_putI 5 2)) :: (41, .inl (bz_aload 0 1)) ::
  (42, .inl (bz_aload 1 1)) :: (43, .inl (bz_getI 5 3)) :: (46, .inl (bz_putI 5 3)) :: (49, .inr (.inr 0)) :: []
def bm_X6_copy : bz_M := (RX6, yX6_copy, cX6_copy, 3, none, 0, 0, bt_X6_copy)
def bt_X4_copy : List bz_E := (0, .inl (bz_push (.int 0) 1)) :: (1, .inl (bz_istore 2 1)) :: (2, .inl (bz_iload 2 1)) :: (3, .inl (bz_push (.int 8) 2)) :: (5, .inl (bz_ic_ge 38)) :: (8, .inl (bz_aload 0 1)) ::
  (9, .inl (bz_getR 3 0)) :: (12, .inl (bz_iload 2 1)) :: (13, .inl (bz_aload 1 1)) :: (14, .inl (bz_getR 3 0)) :: (17, .inl (bz_iload 2 1)) :: (18, .inl (bz_iald)) ::
  (19, .inl (bz_iast)) :: (20, .inl (bz_aload 0 1)) :: (21, .inl (bz_getR 3 1)) :: (24, .inl (bz_iload 2 1)) :: (25, .inl (bz_aload 1 1)) :: (26, .inl (bz_getR 3 1)) ::
  (29, .inl (bz_iload 2 1)) :: (30, .inl (bz_iald)) :: (31, .inl (bz_iast)) :: (32, .inl (bz_iinc 2 1)) :: (35, .inl (bz_goto 2)) :: (38, .inl (bz_aload 0 1)) ::
  (39, .inl (bz_aload 1 1)) :: (40, .inl (bz_getI 3 2)) :: (43, .inl (bz_putI 3 2)) :: (46, .inr (.inr 0)) :: []
def bm_X4_copy : bz_M := (RX4, yX4_copy, cX4_copy, 3, none, 0, 0, bt_X4_copy)
def bt_X1_keep : List bz_E := (0, .inl (bz_aload 0 1)) :: (1, .inl (bz_getR 1 0)) :: (4, .inl (bz_aload 1 1)) :: (5, .inr (.inl (mX6_copy, 2, 6))) :: (8, .inl (bz_aload 0 1)) :: (9, .inl (bz_getR 1 1)) ::
  (12, .inl (bz_aload 2 1)) :: (13, .inr (.inl (mX4_copy, 2, 4))) :: (16, .inl (bz_aload 0 1)) :: (17, .inl (bz_push (.int 1) 1)) :: (18, .inl (bz_putZ 1 2)) :: (21, .inr (.inr 0)) :: []
def bm_X1_keep : bz_M := (RX1, yX1_keep, cX1_keep, 3, none, 1, 22, bt_X1_keep)
def bt_X2_choose : List bz_E := (0, .inl (bz_push (.long 1) 1)) :: (1, .inl (bz_lstore 2 1)) :: (2, .inl (bz_push (.int 1) 1)) :: (3, .inl (bz_istore 4 2)) :: (5, .inl (bz_iload 4 2)) :: (7, .inl (bz_iload 1 1)) ::
  (8, .inl (bz_ic_gt 31)) :: (11, .inl (bz_lload 2 1)) :: (12, .inl (bz_iload 0 1)) :: (13, .inl (bz_iload 1 1)) :: (14, .inl (bz_isub)) :: (15, .inl (bz_iload 4 2)) ::
  (17, .inl (bz_iadd)) :: (18, .inl (bz_i2l)) :: (19, .inl (bz_lmul)) :: (20, .inl (bz_iload 4 2)) :: (22, .inl (bz_i2l)) :: (23, .inl (bz_ldiv)) ::
  (24, .inl (bz_lstore 2 1)) :: (25, .inl (bz_iinc 4 1)) :: (28, .inl (bz_goto 5)) :: (31, .inl (bz_lload 2 1)) :: (32, .inr (.inr 2)) :: []
def bm_X2_choose : bz_M := (RX2, yX2_choose, cX2_choose, 5, (some .long), 0, 0, bt_X2_choose)
def bt_X2_power : List bz_E := (0, .inl (bz_push (.long 1) 1)) :: (1, .inl (bz_lstore 2 1)) :: (2, .inl (bz_push (.int 0) 1)) :: (3, .inl (bz_istore 4 2)) :: (5, .inl (bz_iload 4 2)) :: (7, .inl (bz_iload 1 1)) ::
  (8, .inl (bz_ic_ge 22)) :: (11, .inl (bz_lload 2 1)) :: (12, .inl (bz_iload 0 1)) :: (13, .inl (bz_i2l)) :: (14, .inl (bz_lmul)) :: (15, .inl (bz_lstore 2 1)) ::
  (16, .inl (bz_iinc 4 1)) :: (19, .inl (bz_goto 5)) :: (22, .inl (bz_lload 2 1)) :: (23, .inr (.inr 2)) :: []
def bm_X2_power : bz_M := (RX2, yX2_power, cX2_power, 5, (some .long), 0, 0, bt_X2_power)
def bt_X2_winning : List bz_E := (0, .inl (bz_push (.long 0) 1)) :: (1, .inl (bz_lstore 3 1)) :: (2, .inl (bz_push (.int 0) 1)) :: (3, .inl (bz_istore 5 2)) :: (5, .inl (bz_iload 5 2)) :: (7, .inl (bz_iload 1 1)) ::
  (8, .inl (bz_ic_ge 59)) :: (11, .inl (bz_lload 3 1)) :: (12, .inl (bz_iload 0 1)) :: (13, .inl (bz_push (.int 1) 1)) :: (14, .inl (bz_isub)) :: (15, .inl (bz_iload 5 2)) ::
  (17, .inl (bz_iadd)) :: (18, .inl (bz_iload 5 2)) :: (20, .inr (.inl (mX2_choose, 2, 0))) :: (23, .inl (bz_iload 2 1)) :: (24, .inl (bz_iload 0 1)) :: (25, .inr (.inl (mX2_power, 2, 0))) ::
  (28, .inl (bz_lmul)) :: (29, .inl (bz_push (.int 10) 2)) :: (31, .inl (bz_iload 2 1)) :: (32, .inl (bz_isub)) :: (33, .inl (bz_iload 5 2)) :: (35, .inr (.inl (mX2_power, 2, 0))) ::
  (38, .inl (bz_lmul)) :: (39, .inl (bz_push (.int 10) 2)) :: (41, .inl (bz_iload 1 1)) :: (42, .inl (bz_push (.int 1) 1)) :: (43, .inl (bz_isub)) :: (44, .inl (bz_iload 5 2)) ::
  (46, .inl (bz_isub)) :: (47, .inr (.inl (mX2_power, 2, 0))) :: (50, .inl (bz_lmul)) :: (51, .inl (bz_ladd)) :: (52, .inl (bz_lstore 3 1)) :: (53, .inl (bz_iinc 5 1)) ::
  (56, .inl (bz_goto 5)) :: (59, .inl (bz_lload 3 1)) :: (60, .inr (.inr 2)) :: []
def bm_X2_winning : bz_M := (RX2, yX2_winning, cX2_winning, 6, (some .long), 1, 24, bt_X2_winning)
def bt_X2_games : List bz_E := (0, .inl (bz_push (.long 0) 1)) :: (1, .inl (bz_lstore 3 1)) :: (2, .inl (bz_push (.int 0) 1)) :: (3, .inl (bz_istore 5 2)) :: (5, .inl (bz_iload 5 2)) :: (7, .inl (bz_iload 0 1)) ::
  (8, .inl (bz_ic_ge 79)) :: (11, .inl (bz_push (.int 0) 1)) :: (12, .inl (bz_istore 6 2)) :: (14, .inl (bz_iload 6 2)) :: (16, .inl (bz_iload 1 1)) :: (17, .inl (bz_ic_ge 73)) ::
  (20, .inl (bz_lload 3 1)) :: (21, .inl (bz_iload 5 2)) :: (23, .inl (bz_iload 6 2)) :: (25, .inl (bz_iadd)) :: (26, .inl (bz_iload 6 2)) :: (28, .inr (.inl (mX2_choose, 2, 0))) ::
  (31, .inl (bz_iload 2 1)) :: (32, .inl (bz_iload 5 2)) :: (34, .inr (.inl (mX2_power, 2, 0))) :: (37, .inl (bz_lmul)) :: (38, .inl (bz_push (.int 10) 2)) :: (40, .inl (bz_iload 2 1)) ::
  (41, .inl (bz_isub)) :: (42, .inl (bz_iload 6 2)) :: (44, .inr (.inl (mX2_power, 2, 0))) :: (47, .inl (bz_lmul)) :: (48, .inl (bz_push (.int 10) 2)) :: (50, .inl (bz_iload 0 1)) ::
  (51, .inl (bz_iload 1 1)) :: (52, .inl (bz_iadd)) :: (53, .inl (bz_push (.int 1) 1)) :: (54, .inl (bz_isub)) :: (55, .inl (bz_iload 5 2)) :: (57, .inl (bz_isub)) ::
  (58, .inl (bz_iload 6 2)) :: (60, .inl (bz_isub)) :: (61, .inr (.inl (mX2_power, 2, 0))) :: (64, .inl (bz_lmul)) :: (65, .inl (bz_ladd)) :: (66, .inl (bz_lstore 3 1)) ::
  (67, .inl (bz_iinc 6 1)) :: (70, .inl (bz_goto 14)) :: (73, .inl (bz_iinc 5 1)) :: (76, .inl (bz_goto 5)) :: (79, .inl (bz_lload 3 1)) :: (80, .inr (.inr 2)) :: []
def bm_X2_games : bz_M := (RX2, yX2_games, cX2_games, 7, (some .long), 1, 24, bt_X2_games)
def bt_X2_commonDivisor : List bz_E := (0, .inl (bz_lload 0 1)) :: (1, .inl (bz_lstore 4 2)) :: (3, .inl (bz_lload 2 1)) :: (4, .inl (bz_lstore 6 2)) :: (6, .inl (bz_push (.int 0) 1)) :: (7, .inl (bz_istore 8 2)) ::
  (9, .inl (bz_iload 8 2)) :: (11, .inl (bz_push (.int 1000) 3)) :: (14, .inl (bz_ic_ge 45)) :: (17, .inl (bz_lload 6 2)) :: (19, .inl (bz_push (.long 0) 1)) :: (20, .inl (bz_lcmp)) ::
  (21, .inl (bz_if_eq 45)) :: (24, .inl (bz_lload 4 2)) :: (26, .inl (bz_lload 6 2)) :: (28, .inl (bz_lrem)) :: (29, .inl (bz_lstore 9 2)) :: (31, .inl (bz_lload 6 2)) ::
  (33, .inl (bz_lstore 4 2)) :: (35, .inl (bz_lload 9 2)) :: (37, .inl (bz_lstore 6 2)) :: (39, .inl (bz_iinc 8 1)) :: (42, .inl (bz_goto 9)) :: (45, .inl (bz_lload 4 2)) ::
  (47, .inr (.inr 2)) :: []
def bm_X2_commonDivisor : bz_M := (RX2, yX2_commonDivisor, cX2_commonDivisor, 11, (some .long), 0, 0, bt_X2_commonDivisor)
def bt_X3_add : List bz_E := (0, .inl (bz_aload 0 1)) :: (1, .inl (bz_getI 2 1)) :: (4, .inl (bz_push (.int 60) 2)) :: (6, .inl (bz_ic_lt 11)) :: (9, .inl (bz_push (.int 0) 1)) :: (10, .inr (.inr 3)) ::
  (11, .inl (bz_aload 0 1)) :: (12, .inl (bz_getR 2 0)) :: (15, .inl (bz_aload 0 1)) :: (16, .inl (bz_getI 2 1)) :: (19, .inl (bz_iload 1 1)) :: (20, .inl (bz_iast)) ::
  (21, .inl (bz_aload 0 1)) :: (22, .inl (bz_dup)) :: (23, .inl (bz_getI 2 1)) :: (26, .inl (bz_push (.int 1) 1)) :: (27, .inl (bz_iadd)) :: (28, .inl (bz_putI 2 1)) ::
  (31, .inl (bz_push (.int 1) 1)) :: (32, .inr (.inr 3)) :: []
def bm_X3_add : bz_M := (RX3, yX3_add, cX3_add, 2, (some .boolean), 0, 0, bt_X3_add)
def bt_X3_empty : List bz_E := (0, .inl (bz_aload 0 1)) :: (1, .inl (bz_getI 2 1)) :: (4, .inl (bz_istore 1 1)) :: (5, .inl (bz_aload 0 1)) :: (6, .inl (bz_push (.int 0) 1)) :: (7, .inl (bz_putI 2 1)) ::
  (10, .inl (bz_iload 1 1)) :: (11, .inr (.inr 1)) :: []
def bm_X3_empty : bz_M := (RX3, yX3_empty, cX3_empty, 2, (some .int), 0, 0, bt_X3_empty)
def bt_X10_isWithin : List bz_E := (0, .inl (bz_iload 0 1)) :: (1, .inl (bz_iload 1 1)) :: (2, .inl (bz_ic_lt 14)) :: (5, .inl (bz_iload 0 1)) :: (6, .inl (bz_iload 2 1)) :: (7, .inl (bz_ic_gt 14)) ::
  (10, .inl (bz_push (.int 1) 1)) :: (11, .inl (bz_goto 15)) :: (14, .inl (bz_push (.int 0) 1)) :: (15, .inr (.inr 3)) :: []
def bm_X10_isWithin : bz_M := (RX10, yX10_isWithin, cX10_isWithin, 3, (some .boolean), 0, 0, bt_X10_isWithin)
def bt_X3_signAt : List bz_E := (0, .inl (bz_iload 1 1)) :: (1, .inl (bz_push (.int 0) 1)) :: (2, .inl (bz_aload 0 1)) :: (3, .inl (bz_getI 2 1)) :: (6, .inl (bz_push (.int 1) 1)) :: (7, .inl (bz_isub)) ::
  (8, .inr (.inl (mX10_isWithin, 3, 0))) :: (11, .inl (bz_if_eq 23)) :: (14, .inl (bz_aload 0 1)) :: (15, .inl (bz_getR 2 0)) :: (18, .inl (bz_iload 1 1)) :: (19, .inl (bz_iald)) ::
  (20, .inl (bz_goto 24)) :: (23, .inl (bz_push (.int 0) 1)) :: (24, .inr (.inr 1)) :: []
def bm_X3_signAt : bz_M := (RX3, yX3_signAt, cX3_signAt, 2, (some .int), 1, 22, bt_X3_signAt)
def bt_X3_isLetter : List bz_E := (0, .inl (bz_iload 0 1)) :: (1, .inl (bz_push (.int 65) 2)) :: (3, .inl (bz_push (.int 67) 2)) :: (5, .inr (.inl (mX10_isWithin, 3, 0))) :: (8, .inr (.inr 3)) :: []
def bm_X3_isLetter : bz_M := (RX3, yX3_isLetter, cX3_isLetter, 1, (some .boolean), 1, 22, bt_X3_isLetter)
def bt_X3_canStand : List bz_E := (0, .inl (bz_iload 1 1)) :: (1, .inl (bz_switch [(0, 28), (1, 53)] 76)) :: (28, .inl (bz_iload 0 1)) :: (29, .inr (.inl (mX3_isLetter, 1, 0))) :: (32, .inl (bz_if_ne 47)) :: (35, .inl (bz_iload 0 1)) ::
  (36, .inl (bz_push (.int 126) 2)) :: (38, .inl (bz_ic_eq 47)) :: (41, .inl (bz_iload 0 1)) :: (42, .inl (bz_push (.int 46) 2)) :: (44, .inl (bz_ic_ne 51)) :: (47, .inl (bz_push (.int 1) 1)) ::
  (48, .inl (bz_goto 52)) :: (51, .inl (bz_push (.int 0) 1)) :: (52, .inr (.inr 3)) :: (53, .inl (bz_iload 0 1)) :: (54, .inl (bz_push (.int 48) 2)) :: (56, .inl (bz_push (.int 55) 2)) ::
  (58, .inr (.inl (mX10_isWithin, 3, 0))) :: (61, .inl (bz_if_ne 70)) :: (64, .inl (bz_iload 0 1)) :: (65, .inl (bz_push (.int 94) 2)) :: (67, .inl (bz_ic_ne 74)) :: (70, .inl (bz_push (.int 1) 1)) ::
  (71, .inl (bz_goto 75)) :: (74, .inl (bz_push (.int 0) 1)) :: (75, .inr (.inr 3)) :: (76, .inl (bz_iload 0 1)) :: (77, .inl (bz_push (.int 49) 2)) :: (79, .inl (bz_push (.int 57) 2)) ::
  (81, .inr (.inl (mX10_isWithin, 3, 0))) :: (84, .inr (.inr 3)) :: []
def bm_X3_canStand : bz_M := (RX3, yX3_canStand, cX3_canStand, 2, (some .boolean), 2, 42, bt_X3_canStand)
def bt_X3_isActAt : List bz_E := (0, .inl (bz_iload 1 1)) :: (1, .inl (bz_switch [(0, 28), (1, 41)] 53)) :: (28, .inl (bz_iload 0 1)) :: (29, .inr (.inl (mX3_isLetter, 1, 0))) :: (32, .inl (bz_if_ne 39)) :: (35, .inl (bz_push (.int 1) 1)) ::
  (36, .inl (bz_goto 40)) :: (39, .inl (bz_push (.int 0) 1)) :: (40, .inr (.inr 3)) :: (41, .inl (bz_iload 0 1)) :: (42, .inl (bz_push (.int 94) 2)) :: (44, .inl (bz_ic_ne 51)) ::
  (47, .inl (bz_push (.int 1) 1)) :: (48, .inl (bz_goto 52)) :: (51, .inl (bz_push (.int 0) 1)) :: (52, .inr (.inr 3)) :: (53, .inl (bz_push (.int 1) 1)) :: (54, .inr (.inr 3)) :: []
def bm_X3_isActAt : bz_M := (RX3, yX3_isActAt, cX3_isActAt, 2, (some .boolean), 2, 42, bt_X3_isActAt)
def bt_X3_firstFault : List bz_E := (0, .inl (bz_push (.int 0) 1)) :: (1, .inl (bz_istore 1 1)) :: (2, .inl (bz_push (.int 0) 1)) :: (3, .inl (bz_istore 2 1)) :: (4, .inl (bz_iload 2 1)) :: (5, .inl (bz_aload 0 1)) ::
  (6, .inl (bz_getI 2 1)) :: (9, .inl (bz_ic_ge 51)) :: (12, .inl (bz_aload 0 1)) :: (13, .inl (bz_getR 2 0)) :: (16, .inl (bz_iload 2 1)) :: (17, .inl (bz_iald)) ::
  (18, .inl (bz_istore 3 1)) :: (19, .inl (bz_iload 3 1)) :: (20, .inl (bz_iload 1 1)) :: (21, .inr (.inl (mX3_canStand, 2, 0))) :: (24, .inl (bz_if_ne 29)) :: (27, .inl (bz_iload 2 1)) ::
  (28, .inr (.inr 1)) :: (29, .inl (bz_iload 3 1)) :: (30, .inl (bz_iload 1 1)) :: (31, .inr (.inl (mX3_isActAt, 2, 0))) :: (34, .inl (bz_if_eq 41)) :: (37, .inl (bz_push (.int 0) 1)) ::
  (38, .inl (bz_goto 44)) :: (41, .inl (bz_iload 1 1)) :: (42, .inl (bz_push (.int 1) 1)) :: (43, .inl (bz_iadd)) :: (44, .inl (bz_istore 1 1)) :: (45, .inl (bz_iinc 2 1)) ::
  (48, .inl (bz_goto 4)) :: (51, .inl (bz_iload 1 1)) :: (52, .inl (bz_if_ne 60)) :: (55, .inl (bz_push (.int (-6)) 2)) :: (57, .inl (bz_goto 64)) :: (60, .inl (bz_aload 0 1)) ::
  (61, .inl (bz_getI 2 1)) :: (64, .inr (.inr 1)) :: []
def bm_X3_firstFault : bz_M := (RX3, yX3_firstFault, cX3_firstFault, 4, (some .int), 3, 63, bt_X3_firstFault)
def bt_X3_actKind : List bz_E := (0, .inl (bz_aload 0 1)) :: (1, .inl (bz_iload 1 1)) :: (2, .inr (.inl (mX3_signAt, 2, 3))) :: (5, .inr (.inl (mX3_isLetter, 1, 0))) :: (8, .inl (bz_if_ne 27)) :: (11, .inl (bz_aload 0 1)) ::
  (12, .inl (bz_iload 1 1)) :: (13, .inr (.inl (mX3_signAt, 2, 3))) :: (16, .inl (bz_push (.int 126) 2)) :: (18, .inl (bz_ic_ne 25)) :: (21, .inl (bz_push (.int 2) 1)) :: (22, .inl (bz_goto 26)) ::
  (25, .inl (bz_push (.int 3) 1)) :: (26, .inr (.inr 1)) :: (27, .inl (bz_aload 0 1)) :: (28, .inl (bz_iload 1 1)) :: (29, .inl (bz_push (.int 1) 1)) :: (30, .inl (bz_iadd)) ::
  (31, .inr (.inl (mX3_signAt, 2, 3))) :: (34, .inl (bz_push (.int 94) 2)) :: (36, .inl (bz_ic_ne 43)) :: (39, .inl (bz_push (.int 1) 1)) :: (40, .inl (bz_goto 44)) :: (43, .inl (bz_push (.int 0) 1)) ::
  (44, .inr (.inr 1)) :: []
def bm_X3_actKind : bz_M := (RX3, yX3_actKind, cX3_actKind, 2, (some .int), 2, 43, bt_X3_actKind)
def bt_X3_actLength : List bz_E := (0, .inl (bz_aload 0 1)) :: (1, .inl (bz_iload 1 1)) :: (2, .inr (.inl (mX3_actKind, 2, 3))) :: (5, .inl (bz_switch [(0, 32), (1, 34)] 36)) :: (32, .inl (bz_push (.int 3) 1)) :: (33, .inr (.inr 1)) ::
  (34, .inl (bz_push (.int 2) 1)) :: (35, .inr (.inr 1)) :: (36, .inl (bz_push (.int 1) 1)) :: (37, .inr (.inr 1)) :: []
def bm_X3_actLength : bz_M := (RX3, yX3_actLength, cX3_actLength, 2, (some .int), 3, 64, bt_X3_actLength)
def bt_X4_add : List bz_E := (0, .inl (bz_aload 0 1)) :: (1, .inl (bz_getI 3 2)) :: (4, .inl (bz_push (.int 8) 2)) :: (6, .inl (bz_ic_lt 11)) :: (9, .inl (bz_push (.int 0) 1)) :: (10, .inr (.inr 3)) ::
  (11, .inl (bz_aload 0 1)) :: (12, .inl (bz_getR 3 0)) :: (15, .inl (bz_aload 0 1)) :: (16, .inl (bz_getI 3 2)) :: (19, .inl (bz_iload 1 1)) :: (20, .inl (bz_iast)) ::
  (21, .inl (bz_aload 0 1)) :: (22, .inl (bz_getR 3 1)) :: (25, .inl (bz_aload 0 1)) :: (26, .inl (bz_getI 3 2)) :: (29, .inl (bz_iload 2 1)) :: (30, .inl (bz_iast)) ::
  (31, .inl (bz_aload 0 1)) :: (32, .inl (bz_dup)) :: (33, .inl (bz_getI 3 2)) :: (36, .inl (bz_push (.int 1) 1)) :: (37, .inl (bz_iadd)) :: (38, .inl (bz_putI 3 2)) ::
  (41, .inl (bz_push (.int 1) 1)) :: (42, .inr (.inr 3)) :: []
def bm_X4_add : bz_M := (RX4, yX4_add, cX4_add, 3, (some .boolean), 0, 0, bt_X4_add)
def bt_J9_floorMod_7cf53 : List bz_E := (0, .inl (bz_iload 0 1)) :: (1, .inl (bz_iload 1 1)) :: (2, .inl (bz_irem)) :: (3, .inl (bz_istore 2 1)) :: (4, .inl (bz_iload 0 1)) :: (5, .inl (bz_iload 1 1)) ::
  (6, .inl (bz_ixor)) :: (7, .inl (bz_if_ge 18)) :: (10, .inl (bz_iload 2 1)) :: (11, .inl (bz_if_eq 18)) :: (14, .inl (bz_iload 2 1)) :: (15, .inl (bz_iload 1 1)) ::
  (16, .inl (bz_iadd)) :: (17, .inr (.inr 1)) :: (18, .inl (bz_iload 2 1)) :: (19, .inr (.inr 1)) :: []
def bm_J9_floorMod_7cf53 : bz_M := (RJ9, yJ9_floorMod_7cf53, cJ9_floorMod_7cf53, 3, (some .int), 0, 0, bt_J9_floorMod_7cf53)
def bt_X7_cellBehind : List bz_E := (0, .inl (bz_aload 0 1)) :: (1, .inl (bz_getR 6 0)) :: (4, .inl (bz_iload 1 1)) :: (5, .inl (bz_push (.int 16) 2)) :: (7, .inr (.inl (mJ9_floorMod_7cf53, 2, 0))) :: (10, .inl (bz_iald)) ::
  (11, .inr (.inr 1)) :: []
def bm_X7_cellBehind : bz_M := (RX7, yX7_cellBehind, cX7_cellBehind, 2, (some .int), 1, 22, bt_X7_cellBehind)
def bt_X4_allFit : List bz_E := (0, .inl (bz_push (.int 0) 1)) :: (1, .inl (bz_istore 2 1)) :: (2, .inl (bz_iload 2 1)) :: (3, .inl (bz_aload 0 1)) :: (4, .inl (bz_getI 3 2)) :: (7, .inl (bz_ic_ge 43)) ::
  (10, .inl (bz_iload 2 1)) :: (11, .inl (bz_push (.int 8) 2)) :: (13, .inl (bz_ic_ge 43)) :: (16, .inl (bz_aload 1 1)) :: (17, .inl (bz_aload 0 1)) :: (18, .inl (bz_getR 3 0)) ::
  (21, .inl (bz_iload 2 1)) :: (22, .inl (bz_iald)) :: (23, .inr (.inl (mX7_cellBehind, 2, 7))) :: (26, .inl (bz_aload 0 1)) :: (27, .inl (bz_getR 3 1)) :: (30, .inl (bz_iload 2 1)) ::
  (31, .inl (bz_iald)) :: (32, .inl (bz_ic_eq 37)) :: (35, .inl (bz_push (.int 0) 1)) :: (36, .inr (.inr 3)) :: (37, .inl (bz_iinc 2 1)) :: (40, .inl (bz_goto 2)) ::
  (43, .inl (bz_push (.int 1) 1)) :: (44, .inr (.inr 3)) :: []
def bm_X4_allFit : bz_M := (RX4, yX4_allFit, cX4_allFit, 3, (some .boolean), 2, 43, bt_X4_allFit)
def bt_X5_begin : List bz_E := (0, .inl (bz_aload 0 1)) :: (1, .inl (bz_iload 1 1)) :: (2, .inl (bz_putI 4 0)) :: (5, .inl (bz_aload 0 1)) :: (6, .inl (bz_push (.int 0) 1)) :: (7, .inl (bz_putI 4 1)) ::
  (10, .inl (bz_aload 0 1)) :: (11, .inl (bz_push (.int 0) 1)) :: (12, .inl (bz_putI 4 2)) :: (15, .inl (bz_aload 0 1)) :: (16, .inl (bz_push (.int (-1)) 1)) :: (17, .inl (bz_putI 4 3)) ::
  (20, .inl (bz_aload 0 1)) :: (21, .inl (bz_push (.int (-1)) 1)) :: (22, .inl (bz_putI 4 4)) :: (25, .inl (bz_aload 0 1)) :: (26, .inl (bz_push (.int (-6)) 2)) :: (28, .inl (bz_putI 4 5)) ::
  (31, .inl (bz_aload 0 1)) :: (32, .inl (bz_push (.int (-6)) 2)) :: (34, .inl (bz_putI 4 6)) :: (37, .inr (.inr 0)) :: []
def bm_X5_begin : bz_M := (RX5, yX5_begin, cX5_begin, 2, none, 0, 0, bt_X5_begin)
def bt_X10_turned : List bz_E := (0, .inl (bz_iload 1 1)) :: (1, .inl (bz_push (.int 7) 2)) :: (3, .inl (bz_iand)) :: (4, .inl (bz_istore 2 1)) :: (5, .inl (bz_iload 0 1)) :: (6, .inl (bz_push (.int 9) 2)) ::
  (8, .inl (bz_idiv)) :: (9, .inl (bz_push (.ref 1001) 3)) :: (12, .inl (bz_iload 2 1)) :: (13, .inl (bz_iald)) :: (14, .inl (bz_iadd)) :: (15, .inl (bz_istore 3 1)) ::
  (16, .inl (bz_iload 0 1)) :: (17, .inl (bz_push (.int 9) 2)) :: (19, .inl (bz_irem)) :: (20, .inl (bz_push (.ref 1002) 3)) :: (23, .inl (bz_iload 2 1)) :: (24, .inl (bz_iald)) ::
  (25, .inl (bz_iadd)) :: (26, .inl (bz_istore 4 2)) :: (28, .inl (bz_iload 3 1)) :: (29, .inl (bz_if_lt 37)) :: (32, .inl (bz_iload 3 1)) :: (33, .inl (bz_push (.int 5) 1)) ::
  (34, .inl (bz_ic_lt 44)) :: (37, .inl (bz_push (.int 4) 1)) :: (38, .inl (bz_iload 2 1)) :: (39, .inl (bz_isub)) :: (40, .inl (bz_push (.int 7) 2)) :: (42, .inl (bz_iand)) ::
  (43, .inl (bz_istore 2 1)) :: (44, .inl (bz_iload 4 2)) :: (46, .inl (bz_if_lt 56)) :: (49, .inl (bz_iload 4 2)) :: (51, .inl (bz_push (.int 9) 2)) :: (53, .inl (bz_ic_lt 64)) ::
  (56, .inl (bz_push (.int 8) 2)) :: (58, .inl (bz_iload 2 1)) :: (59, .inl (bz_isub)) :: (60, .inl (bz_push (.int 7) 2)) :: (62, .inl (bz_iand)) :: (63, .inl (bz_istore 2 1)) ::
  (64, .inl (bz_iload 2 1)) :: (65, .inr (.inr 1)) :: []
def bm_X10_turned : bz_M := (RX10, yX10_turned, cX10_turned, 5, (some .int), 0, 0, bt_X10_turned)
def bt_X10_next : List bz_E := (0, .inl (bz_iload 0 1)) :: (1, .inl (bz_push (.int 9) 2)) :: (3, .inl (bz_push (.ref 1001) 3)) :: (6, .inl (bz_iload 1 1)) :: (7, .inl (bz_push (.int 7) 2)) :: (9, .inl (bz_iand)) ::
  (10, .inl (bz_iald)) :: (11, .inl (bz_imul)) :: (12, .inl (bz_iadd)) :: (13, .inl (bz_push (.ref 1002) 3)) :: (16, .inl (bz_iload 1 1)) :: (17, .inl (bz_push (.int 7) 2)) ::
  (19, .inl (bz_iand)) :: (20, .inl (bz_iald)) :: (21, .inl (bz_iadd)) :: (22, .inr (.inr 1)) :: []
def bm_X10_next : bz_M := (RX10, yX10_next, cX10_next, 2, (some .int), 0, 0, bt_X10_next)
def bt_X6_lyingOn : List bz_E := (0, .inl (bz_push (.int 0) 1)) :: (1, .inl (bz_istore 2 1)) :: (2, .inl (bz_iload 2 1)) :: (3, .inl (bz_push (.int 3) 1)) :: (4, .inl (bz_ic_ge 25)) :: (7, .inl (bz_aload 0 1)) ::
  (8, .inl (bz_getR 5 0)) :: (11, .inl (bz_iload 2 1)) :: (12, .inl (bz_iald)) :: (13, .inl (bz_iload 1 1)) :: (14, .inl (bz_ic_ne 19)) :: (17, .inl (bz_iload 2 1)) ::
  (18, .inr (.inr 1)) :: (19, .inl (bz_iinc 2 1)) :: (22, .inl (bz_goto 2)) :: (25, .inl (bz_push (.int (-1)) 1)) :: (26, .inr (.inr 1)) :: []
def bm_X6_lyingOn : bz_M := (RX6, yX6_lyingOn, cX6_lyingOn, 3, (some .int), 0, 0, bt_X6_lyingOn)
def bt_X5_touch : List bz_E := (0, .inl (bz_aload 0 1)) :: (1, .inl (bz_dup)) :: (2, .inl (bz_getI 4 1)) :: (5, .inl (bz_push (.int 1) 1)) :: (6, .inl (bz_iadd)) :: (7, .inl (bz_putI 4 1)) ::
  (10, .inl (bz_aload 0 1)) :: (11, .inl (bz_getI 4 1)) :: (14, .inl (bz_push (.int 1) 1)) :: (15, .inl (bz_ic_ne 36)) :: (18, .inl (bz_aload 0 1)) :: (19, .inl (bz_iload 1 1)) ::
  (20, .inl (bz_putI 4 4)) :: (23, .inl (bz_aload 0 1)) :: (24, .inl (bz_iload 2 1)) :: (25, .inl (bz_putI 4 5)) :: (28, .inl (bz_aload 0 1)) :: (29, .inl (bz_aload 0 1)) ::
  (30, .inl (bz_getI 4 2)) :: (33, .inl (bz_putI 4 6)) :: (36, .inr (.inr 0)) :: []
def bm_X5_touch : bz_M := (RX5, yX5_touch, cX5_touch, 3, none, 0, 0, bt_X5_touch)
def bt_X10_isPocket : List bz_E := (0, .inl (bz_iload 0 1)) :: (1, .inl (bz_push (.int 9) 2)) :: (3, .inl (bz_idiv)) :: (4, .inl (bz_istore 1 1)) :: (5, .inl (bz_iload 1 1)) :: (6, .inl (bz_if_eq 14)) ::
  (9, .inl (bz_iload 1 1)) :: (10, .inl (bz_push (.int 4) 1)) :: (11, .inl (bz_ic_ne 27)) :: (14, .inl (bz_iload 0 1)) :: (15, .inl (bz_push (.int 9) 2)) :: (17, .inl (bz_irem)) ::
  (18, .inl (bz_push (.int 4) 1)) :: (19, .inl (bz_irem)) :: (20, .inl (bz_if_ne 27)) :: (23, .inl (bz_push (.int 1) 1)) :: (24, .inl (bz_goto 28)) :: (27, .inl (bz_push (.int 0) 1)) ::
  (28, .inr (.inr 3)) :: []
def bm_X10_isPocket : bz_M := (RX10, yX10_isPocket, cX10_isPocket, 2, (some .boolean), 0, 0, bt_X10_isPocket)
def bt_X5_run : List bz_E := (0, .inl (bz_aload 0 1)) :: (1, .inl (bz_iload 2 1)) :: (2, .inr (.inl (mX5_begin, 2, 5))) :: (5, .inl (bz_iload 2 1)) :: (6, .inl (bz_istore 5 2)) :: (8, .inl (bz_iload 3 1)) ::
  (9, .inl (bz_istore 6 2)) :: (11, .inl (bz_push (.int 1) 1)) :: (12, .inl (bz_istore 7 2)) :: (14, .inl (bz_iload 7 2)) :: (16, .inl (bz_iload 4 2)) :: (18, .inl (bz_ic_gt 146)) ::
  (21, .inl (bz_aload 0 1)) :: (22, .inl (bz_getI 4 3)) :: (25, .inl (bz_push (.int (-1)) 1)) :: (26, .inl (bz_ic_ne 146)) :: (29, .inl (bz_aload 1 1)) :: (30, .inl (bz_getR 5 0)) ::
  (33, .inl (bz_iload 5 2)) :: (35, .inl (bz_iald)) :: (36, .inl (bz_istore 8 2)) :: (38, .inl (bz_iload 8 2)) :: (40, .inl (bz_iload 6 2)) :: (42, .inr (.inl (mX10_turned, 2, 0))) ::
  (45, .inl (bz_istore 9 2)) :: (47, .inl (bz_iload 9 2)) :: (49, .inl (bz_iload 6 2)) :: (51, .inl (bz_ic_eq 64)) :: (54, .inl (bz_aload 0 1)) :: (55, .inl (bz_dup)) ::
  (56, .inl (bz_getI 4 2)) :: (59, .inl (bz_push (.int 1) 1)) :: (60, .inl (bz_iadd)) :: (61, .inl (bz_putI 4 2)) :: (64, .inl (bz_iload 9 2)) :: (66, .inl (bz_istore 6 2)) ::
  (68, .inl (bz_iload 8 2)) :: (70, .inl (bz_iload 6 2)) :: (72, .inr (.inl (mX10_next, 2, 0))) :: (75, .inl (bz_istore 10 2)) :: (77, .inl (bz_aload 1 1)) :: (78, .inl (bz_iload 10 2)) ::
  (80, .inr (.inl (mX6_lyingOn, 2, 6))) :: (83, .inl (bz_istore 11 2)) :: (85, .inl (bz_iload 11 2)) :: (87, .inl (bz_push (.int (-1)) 1)) :: (88, .inl (bz_ic_eq 106)) :: (91, .inl (bz_aload 0 1)) ::
  (92, .inl (bz_iload 11 2)) :: (94, .inl (bz_iload 7 2)) :: (96, .inr (.inl (mX5_touch, 3, 5))) :: (99, .inl (bz_iload 11 2)) :: (101, .inl (bz_istore 5 2)) :: (103, .inl (bz_goto 140)) ::
  (106, .inl (bz_iload 10 2)) :: (108, .inr (.inl (mX10_isPocket, 1, 0))) :: (111, .inl (bz_if_eq 131)) :: (114, .inl (bz_aload 1 1)) :: (115, .inl (bz_getR 5 0)) :: (118, .inl (bz_iload 5 2)) ::
  (120, .inl (bz_push (.int (-1)) 1)) :: (121, .inl (bz_iast)) :: (122, .inl (bz_aload 0 1)) :: (123, .inl (bz_iload 5 2)) :: (125, .inl (bz_putI 4 3)) :: (128, .inl (bz_goto 140)) ::
  (131, .inl (bz_aload 1 1)) :: (132, .inl (bz_getR 5 0)) :: (135, .inl (bz_iload 5 2)) :: (137, .inl (bz_iload 10 2)) :: (139, .inl (bz_iast)) :: (140, .inl (bz_iinc 7 1)) ::
  (143, .inl (bz_goto 14)) :: (146, .inr (.inr 0)) :: []
def bm_X5_run : bz_M := (RX5, yX5_run, cX5_run, 12, none, 1, 24, bt_X5_run)
def bt_X5_pointsMore : List bz_E := (0, .inl (bz_aload 0 1)) :: (1, .inl (bz_getI 4 1)) :: (4, .inl (bz_push (.int 2) 1)) :: (5, .inl (bz_ic_lt 12)) :: (8, .inl (bz_push (.int 2) 1)) :: (9, .inl (bz_goto 13)) ::
  (12, .inl (bz_push (.int 0) 1)) :: (13, .inl (bz_istore 1 1)) :: (14, .inl (bz_aload 0 1)) :: (15, .inl (bz_getI 4 3)) :: (18, .inl (bz_push (.int (-1)) 1)) :: (19, .inl (bz_ic_eq 37)) ::
  (22, .inl (bz_aload 0 1)) :: (23, .inl (bz_getI 4 3)) :: (26, .inl (bz_aload 0 1)) :: (27, .inl (bz_getI 4 0)) :: (30, .inl (bz_ic_eq 37)) :: (33, .inl (bz_push (.int 3) 1)) ::
  (34, .inl (bz_goto 38)) :: (37, .inl (bz_push (.int 0) 1)) :: (38, .inl (bz_istore 2 1)) :: (39, .inl (bz_iload 1 1)) :: (40, .inl (bz_iload 2 1)) :: (41, .inl (bz_iadd)) ::
  (42, .inr (.inr 1)) :: []
def bm_X5_pointsMore : bz_M := (RX5, yX5_pointsMore, cX5_pointsMore, 3, (some .int), 0, 0, bt_X5_pointsMore)
def bt_X5_foulsMore : List bz_E := (0, .inl (bz_aload 0 1)) :: (1, .inl (bz_getI 4 3)) :: (4, .inl (bz_aload 0 1)) :: (5, .inl (bz_getI 4 0)) :: (8, .inl (bz_ic_ne 15)) :: (11, .inl (bz_push (.int 1) 1)) ::
  (12, .inl (bz_goto 16)) :: (15, .inl (bz_push (.int 0) 1)) :: (16, .inl (bz_istore 1 1)) :: (17, .inl (bz_aload 0 1)) :: (18, .inl (bz_getI 4 1)) :: (21, .inl (bz_if_le 35)) ::
  (24, .inl (bz_aload 0 1)) :: (25, .inl (bz_getI 4 6)) :: (28, .inl (bz_if_ne 35)) :: (31, .inl (bz_push (.int 1) 1)) :: (32, .inl (bz_goto 36)) :: (35, .inl (bz_push (.int 0) 1)) ::
  (36, .inl (bz_istore 2 1)) :: (37, .inl (bz_iload 1 1)) :: (38, .inl (bz_iload 2 1)) :: (39, .inl (bz_iadd)) :: (40, .inr (.inr 1)) :: []
def bm_X5_foulsMore : bz_M := (RX5, yX5_foulsMore, cX5_foulsMore, 3, (some .int), 0, 0, bt_X5_foulsMore)
def bt_X10_isBall : List bz_E := (0, .inl (bz_iload 0 1)) :: (1, .inl (bz_if_lt 13)) :: (4, .inl (bz_iload 0 1)) :: (5, .inl (bz_push (.int 3) 1)) :: (6, .inl (bz_ic_ge 13)) :: (9, .inl (bz_push (.int 1) 1)) ::
  (10, .inl (bz_goto 14)) :: (13, .inl (bz_push (.int 0) 1)) :: (14, .inr (.inr 3)) :: []
def bm_X10_isBall : bz_M := (RX10, yX10_isBall, cX10_isBall, 1, (some .boolean), 0, 0, bt_X10_isBall)
def bt_X6_isDown : List bz_E := (0, .inl (bz_iload 1 1)) :: (1, .inr (.inl (mX10_isBall, 1, 0))) :: (4, .inl (bz_if_eq 17)) :: (7, .inl (bz_aload 0 1)) :: (8, .inl (bz_getR 5 0)) :: (11, .inl (bz_iload 1 1)) ::
  (12, .inl (bz_iald)) :: (13, .inl (bz_push (.int (-1)) 1)) :: (14, .inl (bz_ic_ne 21)) :: (17, .inl (bz_push (.int 1) 1)) :: (18, .inl (bz_goto 22)) :: (21, .inl (bz_push (.int 0) 1)) ::
  (22, .inr (.inr 3)) :: []
def bm_X6_isDown : bz_M := (RX6, yX6_isDown, cX6_isDown, 2, (some .boolean), 1, 20, bt_X6_isDown)
def bt_X6_cellOrNone : List bz_E := (0, .inl (bz_aload 0 1)) :: (1, .inl (bz_iload 1 1)) :: (2, .inr (.inl (mX6_isDown, 2, 6))) :: (5, .inl (bz_if_eq 13)) :: (8, .inl (bz_push (.int (-6)) 2)) :: (10, .inl (bz_goto 19)) ::
  (13, .inl (bz_aload 0 1)) :: (14, .inl (bz_getR 5 0)) :: (17, .inl (bz_iload 1 1)) :: (18, .inl (bz_iald)) :: (19, .inr (.inr 1)) :: []
def bm_X6_cellOrNone : bz_M := (RX6, yX6_cellOrNone, cX6_cellOrNone, 2, (some .int), 2, 41, bt_X6_cellOrNone)
def bt_X6_howManyDown : List bz_E := (0, .inl (bz_push (.int 0) 1)) :: (1, .inl (bz_istore 1 1)) :: (2, .inl (bz_push (.int 0) 1)) :: (3, .inl (bz_istore 2 1)) :: (4, .inl (bz_iload 2 1)) :: (5, .inl (bz_push (.int 3) 1)) ::
  (6, .inl (bz_ic_ge 26)) :: (9, .inl (bz_aload 0 1)) :: (10, .inl (bz_iload 2 1)) :: (11, .inr (.inl (mX6_isDown, 2, 6))) :: (14, .inl (bz_if_eq 20)) :: (17, .inl (bz_iinc 1 1)) ::
  (20, .inl (bz_iinc 2 1)) :: (23, .inl (bz_goto 4)) :: (26, .inl (bz_iload 1 1)) :: (27, .inr (.inr 1)) :: []
def bm_X6_howManyDown : bz_M := (RX6, yX6_howManyDown, cX6_howManyDown, 3, (some .int), 2, 41, bt_X6_howManyDown)
def bt_X6_reasonAgainst : List bz_E := (0, .inl (bz_iload 1 1)) :: (1, .inl (bz_switch (bz_mk 0 [32, 46, 99, 84]) 99)) :: (32, .inl (bz_aload 0 1)) :: (33, .inl (bz_iload 2 1)) :: (34, .inr (.inl (mX6_isDown, 2, 6))) :: (37, .inl (bz_if_eq 44)) ::
  (40, .inl (bz_push (.int 1) 1)) :: (41, .inl (bz_goto 45)) :: (44, .inl (bz_push (.int 0) 1)) :: (45, .inr (.inr 1)) :: (46, .inl (bz_iload 2 1)) :: (47, .inr (.inl (mX10_isBall, 1, 0))) ::
  (50, .inl (bz_if_eq 63)) :: (53, .inl (bz_aload 0 1)) :: (54, .inl (bz_getR 5 0)) :: (57, .inl (bz_iload 2 1)) :: (58, .inl (bz_iald)) :: (59, .inl (bz_push (.int (-1)) 1)) ::
  (60, .inl (bz_ic_eq 65)) :: (63, .inl (bz_push (.int 1) 1)) :: (64, .inr (.inr 1)) :: (65, .inl (bz_aload 0 1)) :: (66, .inl (bz_push (.ref 1000) 3)) :: (69, .inl (bz_iload 2 1)) ::
  (70, .inl (bz_iald)) :: (71, .inr (.inl (mX6_lyingOn, 2, 6))) :: (74, .inl (bz_push (.int (-1)) 1)) :: (75, .inl (bz_ic_ne 82)) :: (78, .inl (bz_push (.int 0) 1)) :: (79, .inl (bz_goto 83)) ::
  (82, .inl (bz_push (.int 2) 1)) :: (83, .inr (.inr 1)) :: (84, .inl (bz_aload 0 1)) :: (85, .inl (bz_getI 5 3)) :: (88, .inl (bz_push (.int 99) 2)) :: (90, .inl (bz_ic_lt 97)) ::
  (93, .inl (bz_push (.int 3) 1)) :: (94, .inl (bz_goto 98)) :: (97, .inl (bz_push (.int 0) 1)) :: (98, .inr (.inr 1)) :: (99, .inl (bz_push (.int 0) 1)) :: (100, .inr (.inr 1)) :: []
def bm_X6_reasonAgainst : bz_M := (RX6, yX6_reasonAgainst, cX6_reasonAgainst, 3, (some .int), 2, 41, bt_X6_reasonAgainst)
def bt_X6_driftOne : List bz_E := (0, .inl (bz_aload 0 1)) :: (1, .inl (bz_getR 5 0)) :: (4, .inl (bz_iload 1 1)) :: (5, .inl (bz_iald)) :: (6, .inl (bz_push (.int 1) 1)) :: (7, .inl (bz_isub)) ::
  (8, .inl (bz_istore 2 1)) :: (9, .inl (bz_iload 2 1)) :: (10, .inr (.inl (mX10_isPocket, 1, 0))) :: (13, .inl (bz_if_ne 32)) :: (16, .inl (bz_aload 0 1)) :: (17, .inl (bz_iload 2 1)) ::
  (18, .inr (.inl (mX6_lyingOn, 2, 6))) :: (21, .inl (bz_push (.int (-1)) 1)) :: (22, .inl (bz_ic_ne 32)) :: (25, .inl (bz_aload 0 1)) :: (26, .inl (bz_getR 5 0)) :: (29, .inl (bz_iload 1 1)) ::
  (30, .inl (bz_iload 2 1)) :: (31, .inl (bz_iast)) :: (32, .inr (.inr 0)) :: []
def bm_X6_driftOne : bz_M := (RX6, yX6_driftOne, cX6_driftOne, 3, none, 1, 22, bt_X6_driftOne)
def bt_X6_drift : List bz_E := (0, .inl (bz_push (.int 1) 1)) :: (1, .inl (bz_istore 1 1)) :: (2, .inl (bz_iload 1 1)) :: (3, .inl (bz_push (.int 9) 2)) :: (5, .inl (bz_ic_ge 53)) :: (8, .inl (bz_push (.int 0) 1)) ::
  (9, .inl (bz_istore 2 1)) :: (10, .inl (bz_iload 2 1)) :: (11, .inl (bz_push (.int 3) 1)) :: (12, .inl (bz_ic_ge 47)) :: (15, .inl (bz_aload 0 1)) :: (16, .inl (bz_iload 2 1)) ::
  (17, .inr (.inl (mX6_isDown, 2, 6))) :: (20, .inl (bz_if_ne 41)) :: (23, .inl (bz_aload 0 1)) :: (24, .inl (bz_getR 5 0)) :: (27, .inl (bz_iload 2 1)) :: (28, .inl (bz_iald)) ::
  (29, .inl (bz_push (.int 9) 2)) :: (31, .inl (bz_irem)) :: (32, .inl (bz_iload 1 1)) :: (33, .inl (bz_ic_ne 41)) :: (36, .inl (bz_aload 0 1)) :: (37, .inl (bz_iload 2 1)) ::
  (38, .inr (.inl (mX6_driftOne, 2, 6))) :: (41, .inl (bz_iinc 2 1)) :: (44, .inl (bz_goto 10)) :: (47, .inl (bz_iinc 1 1)) :: (50, .inl (bz_goto 2)) :: (53, .inr (.inr 0)) :: []
def bm_X6_drift : bz_M := (RX6, yX6_drift, cX6_drift, 3, none, 2, 44, bt_X6_drift)
def bt_X10_bit : List bz_E := (0, .inl (bz_push (.long 1) 1)) :: (1, .inl (bz_iload 0 1)) :: (2, .inl (bz_lshl)) :: (3, .inr (.inr 2)) :: []
def bm_X10_bit : bz_M := (RX10, yX10_bit, cX10_bit, 1, (some .long), 0, 0, bt_X10_bit)
def bt_X7_walk : List bz_E := (0, .inl (bz_aload 0 1)) :: (1, .inl (bz_push (.int (-6)) 2)) :: (3, .inl (bz_putI 6 1)) :: (6, .inl (bz_aload 0 1)) :: (7, .inl (bz_push (.long 0) 1)) :: (8, .inl (bz_putL 6 2)) ::
  (11, .inl (bz_iload 1 1)) :: (12, .inl (bz_istore 3 1)) :: (13, .inl (bz_iload 2 1)) :: (14, .inl (bz_istore 4 2)) :: (16, .inl (bz_push (.int 0) 1)) :: (17, .inl (bz_istore 5 2)) ::
  (19, .inl (bz_iload 5 2)) :: (21, .inl (bz_push (.int 16) 2)) :: (23, .inl (bz_ic_ge 96)) :: (26, .inl (bz_aload 0 1)) :: (27, .inl (bz_getR 6 0)) :: (30, .inl (bz_iload 5 2)) ::
  (32, .inl (bz_iload 3 1)) :: (33, .inl (bz_iast)) :: (34, .inl (bz_aload 0 1)) :: (35, .inl (bz_dup)) :: (36, .inl (bz_getL 6 2)) :: (39, .inl (bz_iload 3 1)) ::
  (40, .inr (.inl (mX10_bit, 1, 0))) :: (43, .inl (bz_lor)) :: (44, .inl (bz_putL 6 2)) :: (47, .inl (bz_iload 3 1)) :: (48, .inl (bz_iload 4 2)) :: (50, .inr (.inl (mX10_turned, 2, 0))) ::
  (53, .inl (bz_istore 4 2)) :: (55, .inl (bz_iload 3 1)) :: (56, .inl (bz_iload 4 2)) :: (58, .inr (.inl (mX10_next, 2, 0))) :: (61, .inl (bz_istore 3 1)) :: (62, .inl (bz_aload 0 1)) ::
  (63, .inl (bz_getI 6 1)) :: (66, .inl (bz_push (.int (-6)) 2)) :: (68, .inl (bz_ic_ne 90)) :: (71, .inl (bz_iload 3 1)) :: (72, .inl (bz_iload 1 1)) :: (73, .inl (bz_ic_ne 90)) ::
  (76, .inl (bz_iload 4 2)) :: (78, .inl (bz_iload 2 1)) :: (79, .inl (bz_ic_ne 90)) :: (82, .inl (bz_aload 0 1)) :: (83, .inl (bz_iload 5 2)) :: (85, .inl (bz_push (.int 1) 1)) ::
  (86, .inl (bz_iadd)) :: (87, .inl (bz_putI 6 1)) :: (90, .inl (bz_iinc 5 1)) :: (93, .inl (bz_goto 19)) :: (96, .inr (.inr 0)) :: []
def bm_X7_walk : bz_M := (RX7, yX7_walk, cX7_walk, 6, none, 1, 24, bt_X7_walk)
def bt_X8_begin : List bz_E := (0, .inl (bz_aload 0 1)) :: (1, .inl (bz_getR 7 0)) :: (4, .inl (bz_aload 1 1)) :: (5, .inr (.inl (mX6_copy, 2, 6))) :: (8, .inl (bz_aload 0 1)) :: (9, .inl (bz_push (.int 0) 1)) ::
  (10, .inl (bz_putI 7 2)) :: (13, .inl (bz_aload 0 1)) :: (14, .inl (bz_push (.int (-6)) 2)) :: (16, .inl (bz_putI 7 3)) :: (19, .inl (bz_aload 0 1)) :: (20, .inl (bz_push (.int (-6)) 2)) ::
  (22, .inl (bz_putI 7 4)) :: (25, .inl (bz_aload 0 1)) :: (26, .inl (bz_push (.int 0) 1)) :: (27, .inl (bz_putI 7 5)) :: (30, .inl (bz_aload 0 1)) :: (31, .inl (bz_push (.int 0) 1)) ::
  (32, .inl (bz_putI 7 6)) :: (35, .inl (bz_aload 0 1)) :: (36, .inl (bz_push (.int (-6)) 2)) :: (38, .inl (bz_putI 7 7)) :: (41, .inr (.inr 0)) :: []
def bm_X8_begin : bz_M := (RX8, yX8_begin, cX8_begin, 2, none, 1, 22, bt_X8_begin)
def bt_X8_play : List bz_E := (0, .inl (bz_aload 0 1)) :: (1, .inl (bz_getR 7 1)) :: (4, .inl (bz_aload 0 1)) :: (5, .inl (bz_getR 7 0)) :: (8, .inl (bz_iload 1 1)) :: (9, .inl (bz_iload 2 1)) ::
  (10, .inl (bz_iload 3 1)) :: (11, .inr (.inl (mX5_run, 5, 5))) :: (14, .inl (bz_aload 0 1)) :: (15, .inl (bz_getR 7 0)) :: (18, .inl (bz_dup)) :: (19, .inl (bz_getI 5 1)) ::
  (22, .inl (bz_aload 0 1)) :: (23, .inl (bz_getR 7 1)) :: (26, .inr (.inl (mX5_pointsMore, 1, 5))) :: (29, .inl (bz_iadd)) :: (30, .inl (bz_putI 5 1)) :: (33, .inl (bz_aload 0 1)) ::
  (34, .inl (bz_getR 7 0)) :: (37, .inl (bz_dup)) :: (38, .inl (bz_getI 5 2)) :: (41, .inl (bz_aload 0 1)) :: (42, .inl (bz_getR 7 1)) :: (45, .inr (.inl (mX5_foulsMore, 1, 5))) ::
  (48, .inl (bz_iadd)) :: (49, .inl (bz_putI 5 2)) :: (52, .inl (bz_aload 0 1)) :: (53, .inl (bz_dup)) :: (54, .inl (bz_getI 7 5)) :: (57, .inl (bz_aload 0 1)) ::
  (58, .inl (bz_getR 7 1)) :: (61, .inl (bz_getI 4 1)) :: (64, .inl (bz_iadd)) :: (65, .inl (bz_putI 7 5)) :: (68, .inl (bz_aload 0 1)) :: (69, .inl (bz_dup)) ::
  (70, .inl (bz_getI 7 6)) :: (73, .inl (bz_aload 0 1)) :: (74, .inl (bz_getR 7 1)) :: (77, .inl (bz_getI 4 2)) :: (80, .inl (bz_iadd)) :: (81, .inl (bz_putI 7 6)) ::
  (84, .inr (.inr 0)) :: []
def bm_X8_play : bz_M := (RX8, yX8_play, cX8_play, 4, none, 2, 55, bt_X8_play)
def bt_X8_tryAct : List bz_E := (0, .inl (bz_aload 0 1)) :: (1, .inl (bz_getR 7 0)) :: (4, .inl (bz_iload 1 1)) :: (5, .inl (bz_iload 2 1)) :: (6, .inr (.inl (mX6_reasonAgainst, 3, 6))) :: (9, .inl (bz_istore 5 2)) ::
  (11, .inl (bz_iload 5 2)) :: (13, .inl (bz_if_eq 19)) :: (16, .inl (bz_iload 5 2)) :: (18, .inr (.inr 1)) :: (19, .inl (bz_iload 1 1)) :: (20, .inl (bz_switch (bz_mk 0 [48, 59, 76]) 86)) ::
  (48, .inl (bz_aload 0 1)) :: (49, .inl (bz_iload 2 1)) :: (50, .inl (bz_iload 3 1)) :: (51, .inl (bz_iload 4 2)) :: (53, .inr (.inl (mX8_play, 4, 8))) :: (56, .inl (bz_goto 99)) ::
  (59, .inl (bz_aload 0 1)) :: (60, .inl (bz_getR 7 0)) :: (63, .inl (bz_getR 5 0)) :: (66, .inl (bz_iload 2 1)) :: (67, .inl (bz_push (.ref 1000) 3)) :: (70, .inl (bz_iload 2 1)) ::
  (71, .inl (bz_iald)) :: (72, .inl (bz_iast)) :: (73, .inl (bz_goto 99)) :: (76, .inl (bz_aload 0 1)) :: (77, .inl (bz_getR 7 0)) :: (80, .inr (.inl (mX6_drift, 1, 6))) ::
  (83, .inl (bz_goto 99)) :: (86, .inl (bz_aload 0 1)) :: (87, .inl (bz_getR 7 0)) :: (90, .inl (bz_dup)) :: (91, .inl (bz_getI 5 3)) :: (94, .inl (bz_push (.int 1) 1)) ::
  (95, .inl (bz_iadd)) :: (96, .inl (bz_putI 5 3)) :: (99, .inl (bz_push (.int 0) 1)) :: (100, .inr (.inr 1)) :: []
def bm_X8_tryAct : bz_M := (RX8, yX8_tryAct, cX8_tryAct, 6, (some .int), 3, 78, bt_X8_tryAct)
def bt_X8_runText : List bz_E := (0, .inl (bz_aload 0 1)) :: (1, .inl (bz_aload 2 1)) :: (2, .inr (.inl (mX8_begin, 2, 8))) :: (5, .inl (bz_push (.int 0) 1)) :: (6, .inl (bz_istore 3 1)) :: (7, .inl (bz_iload 3 1)) ::
  (8, .inl (bz_aload 1 1)) :: (9, .inl (bz_getI 2 1)) :: (12, .inl (bz_ic_ge 141)) :: (15, .inl (bz_aload 0 1)) :: (16, .inl (bz_getI 7 3)) :: (19, .inl (bz_push (.int (-6)) 2)) ::
  (21, .inl (bz_ic_ne 141)) :: (24, .inl (bz_aload 0 1)) :: (25, .inl (bz_getR 7 0)) :: (28, .inl (bz_getI 5 2)) :: (31, .inl (bz_istore 4 2)) :: (33, .inl (bz_aload 0 1)) ::
  (34, .inl (bz_aload 1 1)) :: (35, .inl (bz_iload 3 1)) :: (36, .inr (.inl (mX3_actKind, 2, 3))) :: (39, .inl (bz_aload 1 1)) :: (40, .inl (bz_iload 3 1)) :: (41, .inr (.inl (mX3_signAt, 2, 3))) ::
  (44, .inl (bz_push (.int 65) 2)) :: (46, .inl (bz_isub)) :: (47, .inl (bz_aload 1 1)) :: (48, .inl (bz_iload 3 1)) :: (49, .inl (bz_push (.int 1) 1)) :: (50, .inl (bz_iadd)) ::
  (51, .inr (.inl (mX3_signAt, 2, 3))) :: (54, .inl (bz_push (.int 48) 2)) :: (56, .inl (bz_isub)) :: (57, .inl (bz_aload 1 1)) :: (58, .inl (bz_iload 3 1)) :: (59, .inl (bz_push (.int 2) 1)) ::
  (60, .inl (bz_iadd)) :: (61, .inr (.inl (mX3_signAt, 2, 3))) :: (64, .inl (bz_push (.int 48) 2)) :: (66, .inl (bz_isub)) :: (67, .inr (.inl (mX8_tryAct, 5, 8))) :: (70, .inl (bz_istore 5 2)) ::
  (72, .inl (bz_iload 5 2)) :: (74, .inl (bz_if_eq 91)) :: (77, .inl (bz_aload 0 1)) :: (78, .inl (bz_aload 0 1)) :: (79, .inl (bz_getI 7 2)) :: (82, .inl (bz_putI 7 3)) ::
  (85, .inl (bz_aload 0 1)) :: (86, .inl (bz_iload 5 2)) :: (88, .inl (bz_putI 7 4)) :: (91, .inl (bz_aload 0 1)) :: (92, .inl (bz_getI 7 7)) :: (95, .inl (bz_push (.int (-6)) 2)) ::
  (97, .inl (bz_ic_ne 120)) :: (100, .inl (bz_aload 0 1)) :: (101, .inl (bz_getR 7 0)) :: (104, .inl (bz_getI 5 2)) :: (107, .inl (bz_iload 4 2)) :: (109, .inl (bz_ic_le 120)) ::
  (112, .inl (bz_aload 0 1)) :: (113, .inl (bz_aload 0 1)) :: (114, .inl (bz_getI 7 2)) :: (117, .inl (bz_putI 7 7)) :: (120, .inl (bz_aload 0 1)) :: (121, .inl (bz_dup)) ::
  (122, .inl (bz_getI 7 2)) :: (125, .inl (bz_push (.int 1) 1)) :: (126, .inl (bz_iadd)) :: (127, .inl (bz_putI 7 2)) :: (130, .inl (bz_iload 3 1)) :: (131, .inl (bz_aload 1 1)) ::
  (132, .inl (bz_iload 3 1)) :: (133, .inr (.inl (mX3_actLength, 2, 3))) :: (136, .inl (bz_iadd)) :: (137, .inl (bz_istore 3 1)) :: (138, .inl (bz_goto 7)) :: (141, .inr (.inr 0)) :: []
def bm_X8_runText : bz_M := (RX8, yX8_runText, cX8_runText, 6, none, 4, 103, bt_X8_runText)
def bt_X8_runSeason : List bz_E := (0, .inl (bz_aload 0 1)) :: (1, .inl (bz_aload 3 1)) :: (2, .inr (.inl (mX8_begin, 2, 8))) :: (5, .inl (bz_iload 1 1)) :: (6, .inl (bz_istore 4 2)) :: (8, .inl (bz_push (.int 0) 1)) ::
  (9, .inl (bz_istore 5 2)) :: (11, .inl (bz_iload 5 2)) :: (13, .inl (bz_iload 2 1)) :: (14, .inl (bz_ic_ge 90)) :: (17, .inl (bz_push (.int 75) 2)) :: (19, .inl (bz_iload 4 2)) ::
  (21, .inl (bz_imul)) :: (22, .inl (bz_push (.int 74) 2)) :: (24, .inl (bz_iadd)) :: (25, .inl (bz_push (.int 65537) 2)) :: (27, .inl (bz_irem)) :: (28, .inl (bz_istore 4 2)) ::
  (30, .inl (bz_iload 4 2)) :: (32, .inl (bz_push (.int 3) 1)) :: (33, .inl (bz_idiv)) :: (34, .inl (bz_push (.int 8) 2)) :: (36, .inl (bz_irem)) :: (37, .inl (bz_istore 6 2)) ::
  (39, .inl (bz_iload 4 2)) :: (41, .inl (bz_push (.int 24) 2)) :: (43, .inl (bz_idiv)) :: (44, .inl (bz_istore 7 2)) :: (46, .inl (bz_aload 0 1)) :: (47, .inl (bz_iload 6 2)) ::
  (49, .inl (bz_push (.int 4) 1)) :: (50, .inl (bz_ic_gt 57)) :: (53, .inl (bz_push (.int 0) 1)) :: (54, .inl (bz_goto 61)) :: (57, .inl (bz_iload 6 2)) :: (59, .inl (bz_push (.int 4) 1)) ::
  (60, .inl (bz_isub)) :: (61, .inl (bz_iload 4 2)) :: (63, .inl (bz_push (.int 3) 1)) :: (64, .inl (bz_irem)) :: (65, .inl (bz_iload 7 2)) :: (67, .inl (bz_push (.int 8) 2)) ::
  (69, .inl (bz_irem)) :: (70, .inl (bz_push (.int 1) 1)) :: (71, .inl (bz_iload 7 2)) :: (73, .inl (bz_push (.int 8) 2)) :: (75, .inl (bz_idiv)) :: (76, .inl (bz_push (.int 9) 2)) ::
  (78, .inl (bz_irem)) :: (79, .inl (bz_iadd)) :: (80, .inr (.inl (mX8_tryAct, 5, 8))) :: (83, .inl (bz_pop1)) :: (84, .inl (bz_iinc 5 1)) :: (87, .inl (bz_goto 11)) ::
  (90, .inr (.inr 0)) :: []
def bm_X8_runSeason : bz_M := (RX8, yX8_runSeason, cX8_runSeason, 8, none, 4, 103, bt_X8_runSeason)
def bt_X8_forceToTouch : List bz_E := (0, .inl (bz_aload 0 1)) :: (1, .inl (bz_aload 1 1)) :: (2, .inr (.inl (mX8_begin, 2, 8))) :: (5, .inl (bz_aload 0 1)) :: (6, .inl (bz_getR 7 1)) :: (9, .inl (bz_aload 0 1)) ::
  (10, .inl (bz_getR 7 0)) :: (13, .inl (bz_iload 2 1)) :: (14, .inl (bz_iload 3 1)) :: (15, .inl (bz_push (.int 9) 2)) :: (17, .inr (.inl (mX5_run, 5, 5))) :: (20, .inl (bz_aload 0 1)) ::
  (21, .inl (bz_getR 7 1)) :: (24, .inl (bz_getI 4 4)) :: (27, .inl (bz_iload 4 2)) :: (29, .inl (bz_ic_ne 54)) :: (32, .inl (bz_aload 0 1)) :: (33, .inl (bz_getR 7 1)) ::
  (36, .inl (bz_getI 4 6)) :: (39, .inl (bz_iload 5 2)) :: (41, .inl (bz_ic_ne 54)) :: (44, .inl (bz_aload 0 1)) :: (45, .inl (bz_getR 7 1)) :: (48, .inl (bz_getI 4 5)) ::
  (51, .inl (bz_goto 56)) :: (54, .inl (bz_push (.int (-6)) 2)) :: (56, .inr (.inr 1)) :: []
def bm_X8_forceToTouch : bz_M := (RX8, yX8_forceToTouch, cX8_forceToTouch, 6, (some .int), 2, 55, bt_X8_forceToTouch)
def bt_X10_isCell : List bz_E := (0, .inl (bz_iload 0 1)) :: (1, .inl (bz_push (.int 0) 1)) :: (2, .inl (bz_push (.int 44) 2)) :: (4, .inr (.inl (mX10_isWithin, 3, 0))) :: (7, .inr (.inr 3)) :: []
def bm_X10_isCell : bz_M := (RX10, yX10_isCell, cX10_isCell, 1, (some .boolean), 1, 22, bt_X10_isCell)
def bt_X10_isPlace : List bz_E := (0, .inl (bz_iload 0 1)) :: (1, .inr (.inl (mX10_isCell, 1, 0))) :: (4, .inl (bz_if_eq 18)) :: (7, .inl (bz_iload 0 1)) :: (8, .inr (.inl (mX10_isPocket, 1, 0))) :: (11, .inl (bz_if_ne 18)) ::
  (14, .inl (bz_push (.int 1) 1)) :: (15, .inl (bz_goto 19)) :: (18, .inl (bz_push (.int 0) 1)) :: (19, .inr (.inr 3)) :: []
def bm_X10_isPlace : bz_M := (RX10, yX10_isPlace, cX10_isPlace, 1, (some .boolean), 2, 42, bt_X10_isPlace)
def bt_X9_gather : List bz_E := (0, .inl (bz_aload 0 1)) :: (1, .inl (bz_push (.int 0) 1)) :: (2, .inl (bz_putI 8 1)) :: (5, .inl (bz_push (.int 0) 1)) :: (6, .inl (bz_istore 3 1)) :: (7, .inl (bz_iload 3 1)) ::
  (8, .inl (bz_push (.int 45) 2)) :: (10, .inl (bz_ic_ge 83)) :: (13, .inl (bz_push (.int 0) 1)) :: (14, .inl (bz_istore 4 2)) :: (16, .inl (bz_iload 4 2)) :: (18, .inl (bz_push (.int 8) 2)) ::
  (20, .inl (bz_ic_ge 77)) :: (23, .inl (bz_iload 3 1)) :: (24, .inr (.inl (mX10_isPlace, 1, 0))) :: (27, .inl (bz_if_eq 77)) :: (30, .inl (bz_aload 2 1)) :: (31, .inl (bz_iload 3 1)) ::
  (32, .inl (bz_iload 4 2)) :: (34, .inr (.inl (mX7_walk, 3, 7))) :: (37, .inl (bz_aload 1 1)) :: (38, .inl (bz_aload 2 1)) :: (39, .inr (.inl (mX4_allFit, 2, 4))) :: (42, .inl (bz_if_eq 71)) ::
  (45, .inl (bz_aload 0 1)) :: (46, .inl (bz_getR 8 0)) :: (49, .inl (bz_aload 0 1)) :: (50, .inl (bz_getI 8 1)) :: (53, .inl (bz_push (.int 10) 2)) :: (55, .inl (bz_iload 3 1)) ::
  (56, .inl (bz_imul)) :: (57, .inl (bz_iload 4 2)) :: (59, .inl (bz_iadd)) :: (60, .inl (bz_iast)) :: (61, .inl (bz_aload 0 1)) :: (62, .inl (bz_dup)) ::
  (63, .inl (bz_getI 8 1)) :: (66, .inl (bz_push (.int 1) 1)) :: (67, .inl (bz_iadd)) :: (68, .inl (bz_putI 8 1)) :: (71, .inl (bz_iinc 4 1)) :: (74, .inl (bz_goto 16)) ::
  (77, .inl (bz_iinc 3 1)) :: (80, .inl (bz_goto 7)) :: (83, .inr (.inr 0)) :: []
def bm_X9_gather : bz_M := (RX9, yX9_gather, cX9_gather, 5, none, 3, 65, bt_X9_gather)
def bt_X9_countLeft : List bz_E := (0, .inl (bz_push (.int 0) 1)) :: (1, .inl (bz_istore 2 1)) :: (2, .inl (bz_iload 2 1)) :: (3, .inl (bz_push (.int 720) 3)) :: (6, .inl (bz_ic_ge 22)) :: (9, .inl (bz_aload 0 1)) ::
  (10, .inl (bz_getR 8 4)) :: (13, .inl (bz_iload 2 1)) :: (14, .inl (bz_push (.int 0) 1)) :: (15, .inl (bz_iast)) :: (16, .inl (bz_iinc 2 1)) :: (19, .inl (bz_goto 2)) ::
  (22, .inl (bz_push (.int 0) 1)) :: (23, .inl (bz_istore 2 1)) :: (24, .inl (bz_iload 2 1)) :: (25, .inl (bz_aload 0 1)) :: (26, .inl (bz_getI 8 1)) :: (29, .inl (bz_ic_ge 93)) ::
  (32, .inl (bz_aload 1 1)) :: (33, .inl (bz_aload 0 1)) :: (34, .inl (bz_getR 8 0)) :: (37, .inl (bz_iload 2 1)) :: (38, .inl (bz_iald)) :: (39, .inl (bz_push (.int 10) 2)) ::
  (41, .inl (bz_idiv)) :: (42, .inl (bz_aload 0 1)) :: (43, .inl (bz_getR 8 0)) :: (46, .inl (bz_iload 2 1)) :: (47, .inl (bz_iald)) :: (48, .inl (bz_push (.int 10) 2)) ::
  (50, .inl (bz_irem)) :: (51, .inr (.inl (mX7_walk, 3, 7))) :: (54, .inl (bz_push (.int 0) 1)) :: (55, .inl (bz_istore 3 1)) :: (56, .inl (bz_iload 3 1)) :: (57, .inl (bz_push (.int 16) 2)) ::
  (59, .inl (bz_ic_ge 87)) :: (62, .inl (bz_aload 0 1)) :: (63, .inl (bz_getR 8 4)) :: (66, .inl (bz_iload 3 1)) :: (67, .inl (bz_push (.int 45) 2)) :: (69, .inl (bz_imul)) ::
  (70, .inl (bz_aload 1 1)) :: (71, .inl (bz_iload 3 1)) :: (72, .inr (.inl (mX7_cellBehind, 2, 7))) :: (75, .inl (bz_iadd)) :: (76, .inl (bz_dup2)) :: (77, .inl (bz_iald)) ::
  (78, .inl (bz_push (.int 1) 1)) :: (79, .inl (bz_iadd)) :: (80, .inl (bz_iast)) :: (81, .inl (bz_iinc 3 1)) :: (84, .inl (bz_goto 56)) :: (87, .inl (bz_iinc 2 1)) ::
  (90, .inl (bz_goto 24)) :: (93, .inr (.inr 0)) :: []
def bm_X9_countLeft : bz_M := (RX9, yX9_countLeft, cX9_countLeft, 4, none, 2, 49, bt_X9_countLeft)
def bt_J9_max_7cf53 : List bz_E := (0, .inl (bz_iload 0 1)) :: (1, .inl (bz_iload 1 1)) :: (2, .inl (bz_ic_lt 9)) :: (5, .inl (bz_iload 0 1)) :: (6, .inl (bz_goto 10)) :: (9, .inl (bz_iload 1 1)) ::
  (10, .inr (.inr 1)) :: []
def bm_J9_max_7cf53 : bz_M := (RJ9, yJ9_max_7cf53, cJ9_max_7cf53, 2, (some .int), 0, 0, bt_J9_max_7cf53)
def bt_X9_mostLeftAt : List bz_E := (0, .inl (bz_push (.int 0) 1)) :: (1, .inl (bz_istore 2 1)) :: (2, .inl (bz_push (.int 0) 1)) :: (3, .inl (bz_istore 3 1)) :: (4, .inl (bz_iload 3 1)) :: (5, .inl (bz_push (.int 45) 2)) ::
  (7, .inl (bz_ic_ge 32)) :: (10, .inl (bz_iload 2 1)) :: (11, .inl (bz_aload 0 1)) :: (12, .inl (bz_getR 8 4)) :: (15, .inl (bz_iload 1 1)) :: (16, .inl (bz_push (.int 45) 2)) ::
  (18, .inl (bz_imul)) :: (19, .inl (bz_iload 3 1)) :: (20, .inl (bz_iadd)) :: (21, .inl (bz_iald)) :: (22, .inr (.inl (mJ9_max_7cf53, 2, 0))) :: (25, .inl (bz_istore 2 1)) ::
  (26, .inl (bz_iinc 3 1)) :: (29, .inl (bz_goto 4)) :: (32, .inl (bz_iload 2 1)) :: (33, .inr (.inr 1)) :: []
def bm_X9_mostLeftAt : bz_M := (RX9, yX9_mostLeftAt, cX9_mostLeftAt, 4, (some .int), 1, 21, bt_X9_mostLeftAt)
def bt_X9_chooseStep : List bz_E := (0, .inl (bz_aload 0 1)) :: (1, .inl (bz_aload 1 1)) :: (2, .inr (.inl (mX9_countLeft, 2, 9))) :: (5, .inl (bz_aload 0 1)) :: (6, .inl (bz_push (.int (-6)) 2)) :: (8, .inl (bz_putI 8 2)) ::
  (11, .inl (bz_aload 0 1)) :: (12, .inl (bz_push (.int (-6)) 2)) :: (14, .inl (bz_putI 8 3)) :: (17, .inl (bz_push (.int 0) 1)) :: (18, .inl (bz_istore 2 1)) :: (19, .inl (bz_iload 2 1)) ::
  (20, .inl (bz_push (.int 16) 2)) :: (22, .inl (bz_ic_ge 64)) :: (25, .inl (bz_aload 0 1)) :: (26, .inl (bz_iload 2 1)) :: (27, .inr (.inl (mX9_mostLeftAt, 2, 9))) :: (30, .inl (bz_istore 3 1)) ::
  (31, .inl (bz_aload 0 1)) :: (32, .inl (bz_getI 8 2)) :: (35, .inl (bz_push (.int (-6)) 2)) :: (37, .inl (bz_ic_eq 48)) :: (40, .inl (bz_iload 3 1)) :: (41, .inl (bz_aload 0 1)) ::
  (42, .inl (bz_getI 8 3)) :: (45, .inl (bz_ic_ge 58)) :: (48, .inl (bz_aload 0 1)) :: (49, .inl (bz_iload 2 1)) :: (50, .inl (bz_putI 8 2)) :: (53, .inl (bz_aload 0 1)) ::
  (54, .inl (bz_iload 3 1)) :: (55, .inl (bz_putI 8 3)) :: (58, .inl (bz_iinc 2 1)) :: (61, .inl (bz_goto 19)) :: (64, .inr (.inr 0)) :: []
def bm_X9_chooseStep : bz_M := (RX9, yX9_chooseStep, cX9_chooseStep, 4, none, 3, 72, bt_X9_chooseStep)
def bt_X10_ball : List bz_E := (0, .inl (bz_iload 1 1)) :: (1, .inr (.inl (mX10_isBall, 1, 0))) :: (4, .inl (bz_if_eq 19)) :: (7, .inl (bz_iload 2 1)) :: (8, .inl (bz_push (.int (-1)) 1)) :: (9, .inl (bz_ic_eq 21)) ::
  (12, .inl (bz_iload 2 1)) :: (13, .inr (.inl (mX10_isPlace, 1, 0))) :: (16, .inl (bz_if_ne 21)) :: (19, .inl (bz_push (.int (-1)) 1)) :: (20, .inr (.inr 1)) :: (21, .inl (bz_aload 0 1)) ::
  (22, .inl (bz_getR 9 0)) :: (25, .inl (bz_iload 2 1)) :: (26, .inr (.inl (mX6_lyingOn, 2, 6))) :: (29, .inl (bz_istore 3 1)) :: (30, .inl (bz_iload 2 1)) :: (31, .inl (bz_push (.int (-1)) 1)) ::
  (32, .inl (bz_ic_eq 48)) :: (35, .inl (bz_iload 3 1)) :: (36, .inl (bz_push (.int (-1)) 1)) :: (37, .inl (bz_ic_eq 48)) :: (40, .inl (bz_iload 3 1)) :: (41, .inl (bz_iload 1 1)) ::
  (42, .inl (bz_ic_eq 48)) :: (45, .inl (bz_push (.int (-3)) 2)) :: (47, .inr (.inr 1)) :: (48, .inl (bz_aload 0 1)) :: (49, .inl (bz_getR 9 0)) :: (52, .inl (bz_iload 1 1)) ::
  (53, .inr (.inl (mX6_cellOrNone, 2, 6))) :: (56, .inl (bz_istore 4 2)) :: (58, .inl (bz_aload 0 1)) :: (59, .inl (bz_getR 9 0)) :: (62, .inl (bz_getR 5 0)) :: (65, .inl (bz_iload 1 1)) ::
  (66, .inl (bz_iload 2 1)) :: (67, .inl (bz_iast)) :: (68, .inl (bz_iload 4 2)) :: (70, .inr (.inr 1)) :: []
def bm_X10_ball : bz_M := (RX10, yX10_ball, cX10_ball, 5, (some .int), 3, 62, bt_X10_ball)
def bt_X10_score : List bz_E := (0, .inl (bz_iload 1 1)) :: (1, .inl (bz_push (.int 0) 1)) :: (2, .inl (bz_push (.int 99) 2)) :: (4, .inr (.inl (mX10_isWithin, 3, 0))) :: (7, .inl (bz_if_eq 20)) :: (10, .inl (bz_iload 2 1)) ::
  (11, .inl (bz_push (.int 0) 1)) :: (12, .inl (bz_push (.int 99) 2)) :: (14, .inr (.inl (mX10_isWithin, 3, 0))) :: (17, .inl (bz_if_ne 23)) :: (20, .inl (bz_push (.int (-2)) 2)) :: (22, .inr (.inr 1)) ::
  (23, .inl (bz_push (.int 100) 2)) :: (25, .inl (bz_aload 0 1)) :: (26, .inl (bz_getR 9 0)) :: (29, .inl (bz_getI 5 1)) :: (32, .inl (bz_imul)) :: (33, .inl (bz_aload 0 1)) ::
  (34, .inl (bz_getR 9 0)) :: (37, .inl (bz_getI 5 2)) :: (40, .inl (bz_iadd)) :: (41, .inl (bz_istore 3 1)) :: (42, .inl (bz_aload 0 1)) :: (43, .inl (bz_getR 9 0)) ::
  (46, .inl (bz_iload 1 1)) :: (47, .inl (bz_putI 5 1)) :: (50, .inl (bz_aload 0 1)) :: (51, .inl (bz_getR 9 0)) :: (54, .inl (bz_iload 2 1)) :: (55, .inl (bz_putI 5 2)) ::
  (58, .inl (bz_iload 3 1)) :: (59, .inr (.inr 1)) :: []
def bm_X10_score : bz_M := (RX10, yX10_score, cX10_score, 4, (some .int), 1, 22, bt_X10_score)
def bt_X10_say : List bz_E := (0, .inl (bz_iload 1 1)) :: (1, .inl (bz_push (.int 33) 2)) :: (3, .inl (bz_push (.int 126) 2)) :: (5, .inr (.inl (mX10_isWithin, 3, 0))) :: (8, .inl (bz_if_ne 14)) :: (11, .inl (bz_push (.int (-2)) 2)) ::
  (13, .inr (.inr 1)) :: (14, .inl (bz_aload 0 1)) :: (15, .inl (bz_getR 9 2)) :: (18, .inl (bz_iload 1 1)) :: (19, .inr (.inl (mX3_add, 2, 3))) :: (22, .inl (bz_if_eq 35)) ::
  (25, .inl (bz_aload 0 1)) :: (26, .inl (bz_getR 9 2)) :: (29, .inl (bz_getI 2 1)) :: (32, .inl (bz_goto 37)) :: (35, .inl (bz_push (.int (-4)) 2)) :: (37, .inr (.inr 1)) :: []
def bm_X10_say : bz_M := (RX10, yX10_say, cX10_say, 2, (some .int), 1, 22, bt_X10_say)
def bt_X10_wipe : List bz_E := (0, .inl (bz_aload 0 1)) :: (1, .inl (bz_getR 9 2)) :: (4, .inr (.inl (mX3_empty, 1, 3))) :: (7, .inr (.inr 1)) :: []
def bm_X10_wipe : bz_M := (RX10, yX10_wipe, cX10_wipe, 1, (some .int), 1, 21, bt_X10_wipe)
def bt_X10_fault : List bz_E := (0, .inl (bz_aload 0 1)) :: (1, .inl (bz_getR 9 2)) :: (4, .inr (.inl (mX3_firstFault, 1, 3))) :: (7, .inr (.inr 1)) :: []
def bm_X10_fault : bz_M := (RX10, yX10_fault, cX10_fault, 1, (some .int), 4, 86, bt_X10_fault)
def bt_X10_tryText : List bz_E := (0, .inl (bz_aload 0 1)) :: (1, .inl (bz_getR 9 2)) :: (4, .inr (.inl (mX3_firstFault, 1, 3))) :: (7, .inl (bz_push (.int (-6)) 2)) :: (9, .inl (bz_ic_eq 15)) :: (12, .inl (bz_push (.int (-5)) 2)) ::
  (14, .inr (.inr 1)) :: (15, .inl (bz_aload 0 1)) :: (16, .inl (bz_getR 9 3)) :: (19, .inl (bz_aload 0 1)) :: (20, .inl (bz_getR 9 2)) :: (23, .inl (bz_aload 0 1)) ::
  (24, .inl (bz_getR 9 0)) :: (27, .inr (.inl (mX8_runText, 3, 8))) :: (30, .inl (bz_aload 0 1)) :: (31, .inl (bz_getR 9 3)) :: (34, .inl (bz_getI 7 3)) :: (37, .inl (bz_push (.int (-6)) 2)) ::
  (39, .inl (bz_ic_ne 46)) :: (42, .inl (bz_push (.int 0) 1)) :: (43, .inl (bz_goto 48)) :: (46, .inl (bz_push (.int (-3)) 2)) :: (48, .inr (.inr 1)) :: []
def bm_X10_tryText : bz_M := (RX10, yX10_tryText, cX10_tryText, 1, (some .int), 5, 128, bt_X10_tryText)
def bt_X10_judge : List bz_E := (0, .inl (bz_iload 1 1)) :: (1, .inl (bz_push (.int 0) 1)) :: (2, .inl (bz_push (.int 2) 1)) :: (3, .inr (.inl (mX10_isWithin, 3, 0))) :: (6, .inl (bz_if_ne 12)) :: (9, .inl (bz_push (.int (-2)) 2)) ::
  (11, .inr (.inr 1)) :: (12, .inl (bz_aload 0 1)) :: (13, .inr (.inl (mX10_tryText, 1, 10))) :: (16, .inl (bz_istore 2 1)) :: (17, .inl (bz_iload 2 1)) :: (18, .inl (bz_push (.int (-5)) 2)) ::
  (20, .inl (bz_ic_eq 34)) :: (23, .inl (bz_iload 2 1)) :: (24, .inl (bz_push (.int (-3)) 2)) :: (26, .inl (bz_ic_ne 36)) :: (29, .inl (bz_iload 1 1)) :: (30, .inl (bz_push (.int 2) 1)) ::
  (31, .inl (bz_ic_ne 36)) :: (34, .inl (bz_iload 2 1)) :: (35, .inr (.inr 1)) :: (36, .inl (bz_iload 1 1)) :: (37, .inl (bz_switch [(0, 64), (1, 72)] 80)) :: (64, .inl (bz_aload 0 1)) ::
  (65, .inl (bz_getR 9 3)) :: (68, .inl (bz_getI 7 3)) :: (71, .inr (.inr 1)) :: (72, .inl (bz_aload 0 1)) :: (73, .inl (bz_getR 9 3)) :: (76, .inl (bz_getI 7 4)) ::
  (79, .inr (.inr 1)) :: (80, .inl (bz_aload 0 1)) :: (81, .inl (bz_getR 9 3)) :: (84, .inl (bz_getI 7 5)) :: (87, .inr (.inr 1)) :: []
def bm_X10_judge : bz_M := (RX10, yX10_judge, cX10_judge, 3, (some .int), 6, 148, bt_X10_judge)
def bt_X10_behind : List bz_E := (0, .inl (bz_iload 1 1)) :: (1, .inr (.inl (mX10_isBall, 1, 0))) :: (4, .inl (bz_if_ne 9)) :: (7, .inl (bz_push (.int (-1)) 1)) :: (8, .inr (.inr 1)) :: (9, .inl (bz_aload 0 1)) ::
  (10, .inr (.inl (mX10_tryText, 1, 10))) :: (13, .inl (bz_istore 2 1)) :: (14, .inl (bz_iload 2 1)) :: (15, .inl (bz_if_eq 22)) :: (18, .inl (bz_iload 2 1)) :: (19, .inl (bz_goto 33)) ::
  (22, .inl (bz_aload 0 1)) :: (23, .inl (bz_getR 9 3)) :: (26, .inl (bz_getR 7 0)) :: (29, .inl (bz_iload 1 1)) :: (30, .inr (.inl (mX6_cellOrNone, 2, 6))) :: (33, .inr (.inr 1)) :: []
def bm_X10_behind : bz_M := (RX10, yX10_behind, cX10_behind, 3, (some .int), 6, 148, bt_X10_behind)
def bt_X10_table : List bz_E := (0, .inl (bz_iload 1 1)) :: (1, .inl (bz_push (.int 0) 1)) :: (2, .inl (bz_push (.int 3) 1)) :: (3, .inr (.inl (mX10_isWithin, 3, 0))) :: (6, .inl (bz_if_ne 12)) :: (9, .inl (bz_push (.int (-2)) 2)) ::
  (11, .inr (.inr 1)) :: (12, .inl (bz_aload 0 1)) :: (13, .inr (.inl (mX10_tryText, 1, 10))) :: (16, .inl (bz_istore 2 1)) :: (17, .inl (bz_iload 2 1)) :: (18, .inl (bz_if_eq 23)) ::
  (21, .inl (bz_iload 2 1)) :: (22, .inr (.inr 1)) :: (23, .inl (bz_iload 1 1)) :: (24, .inl (bz_switch (bz_mk 0 [52, 63, 74]) 85)) :: (52, .inl (bz_aload 0 1)) :: (53, .inl (bz_getR 9 3)) ::
  (56, .inl (bz_getR 7 0)) :: (59, .inl (bz_getI 5 1)) :: (62, .inr (.inr 1)) :: (63, .inl (bz_aload 0 1)) :: (64, .inl (bz_getR 9 3)) :: (67, .inl (bz_getR 7 0)) ::
  (70, .inl (bz_getI 5 2)) :: (73, .inr (.inr 1)) :: (74, .inl (bz_aload 0 1)) :: (75, .inl (bz_getR 9 3)) :: (78, .inl (bz_getR 7 0)) :: (81, .inr (.inl (mX6_howManyDown, 1, 6))) ::
  (84, .inr (.inr 1)) :: (85, .inl (bz_aload 0 1)) :: (86, .inl (bz_getR 9 3)) :: (89, .inl (bz_getR 7 0)) :: (92, .inl (bz_getI 5 3)) :: (95, .inr (.inr 1)) :: []
def bm_X10_table : bz_M := (RX10, yX10_table, cX10_table, 3, (some .int), 6, 148, bt_X10_table)
def bt_X10_candour : List bz_E := (0, .inl (bz_iload 1 1)) :: (1, .inl (bz_push (.int 0) 1)) :: (2, .inl (bz_push (.int 1) 1)) :: (3, .inr (.inl (mX10_isWithin, 3, 0))) :: (6, .inl (bz_if_ne 12)) :: (9, .inl (bz_push (.int (-2)) 2)) ::
  (11, .inr (.inr 1)) :: (12, .inl (bz_aload 0 1)) :: (13, .inr (.inl (mX10_tryText, 1, 10))) :: (16, .inl (bz_istore 2 1)) :: (17, .inl (bz_iload 2 1)) :: (18, .inl (bz_if_eq 23)) ::
  (21, .inl (bz_iload 2 1)) :: (22, .inr (.inr 1)) :: (23, .inl (bz_iload 1 1)) :: (24, .inl (bz_if_ne 37)) :: (27, .inl (bz_aload 0 1)) :: (28, .inl (bz_getR 9 3)) ::
  (31, .inl (bz_getI 7 7)) :: (34, .inl (bz_goto 44)) :: (37, .inl (bz_aload 0 1)) :: (38, .inl (bz_getR 9 3)) :: (41, .inl (bz_getI 7 6)) :: (44, .inr (.inr 1)) :: []
def bm_X10_candour : bz_M := (RX10, yX10_candour, cX10_candour, 3, (some .int), 6, 148, bt_X10_candour)
def bt_X10_done : List bz_E := (0, .inl (bz_aload 0 1)) :: (1, .inr (.inl (mX10_tryText, 1, 10))) :: (4, .inl (bz_istore 1 1)) :: (5, .inl (bz_iload 1 1)) :: (6, .inl (bz_if_eq 11)) :: (9, .inl (bz_iload 1 1)) ::
  (10, .inr (.inr 1)) :: (11, .inl (bz_aload 0 1)) :: (12, .inl (bz_getR 9 0)) :: (15, .inl (bz_aload 0 1)) :: (16, .inl (bz_getR 9 3)) :: (19, .inl (bz_getR 7 0)) ::
  (22, .inr (.inl (mX6_copy, 2, 6))) :: (25, .inl (bz_aload 0 1)) :: (26, .inl (bz_getR 9 2)) :: (29, .inr (.inl (mX3_empty, 1, 3))) :: (32, .inl (bz_pop1)) :: (33, .inl (bz_aload 0 1)) ::
  (34, .inl (bz_getR 9 3)) :: (37, .inl (bz_getI 7 2)) :: (40, .inr (.inr 1)) :: []
def bm_X10_done : bz_M := (RX10, yX10_done, cX10_done, 2, (some .int), 6, 148, bt_X10_done)
def bt_X10_hint : List bz_E := (0, .inl (bz_iload 1 1)) :: (1, .inr (.inl (mX10_isBall, 1, 0))) :: (4, .inl (bz_if_eq 19)) :: (7, .inl (bz_iload 2 1)) :: (8, .inr (.inl (mX10_isBall, 1, 0))) :: (11, .inl (bz_if_eq 19)) ::
  (14, .inl (bz_iload 1 1)) :: (15, .inl (bz_iload 2 1)) :: (16, .inl (bz_ic_ne 21)) :: (19, .inl (bz_push (.int (-1)) 1)) :: (20, .inr (.inr 1)) :: (21, .inl (bz_iload 3 1)) ::
  (22, .inl (bz_push (.int 0) 1)) :: (23, .inl (bz_push (.int 4) 1)) :: (24, .inr (.inl (mX10_isWithin, 3, 0))) :: (27, .inl (bz_if_eq 40)) :: (30, .inl (bz_iload 4 2)) :: (32, .inl (bz_push (.int 0) 1)) ::
  (33, .inl (bz_push (.int 1) 1)) :: (34, .inr (.inl (mX10_isWithin, 3, 0))) :: (37, .inl (bz_if_ne 43)) :: (40, .inl (bz_push (.int (-2)) 2)) :: (42, .inr (.inr 1)) :: (43, .inl (bz_aload 0 1)) ::
  (44, .inl (bz_getR 9 0)) :: (47, .inl (bz_iload 1 1)) :: (48, .inr (.inl (mX6_isDown, 2, 6))) :: (51, .inl (bz_if_ne 65)) :: (54, .inl (bz_aload 0 1)) :: (55, .inl (bz_getR 9 0)) ::
  (58, .inl (bz_iload 2 1)) :: (59, .inr (.inl (mX6_isDown, 2, 6))) :: (62, .inl (bz_if_eq 68)) :: (65, .inl (bz_push (.int (-6)) 2)) :: (67, .inr (.inr 1)) :: (68, .inl (bz_push (.int (-6)) 2)) ::
  (70, .inl (bz_istore 5 2)) :: (72, .inl (bz_push (.int (-6)) 2)) :: (74, .inl (bz_istore 6 2)) :: (76, .inl (bz_push (.int 0) 1)) :: (77, .inl (bz_istore 7 2)) :: (79, .inl (bz_iload 7 2)) ::
  (81, .inl (bz_push (.int 8) 2)) :: (83, .inl (bz_ic_ge 139)) :: (86, .inl (bz_aload 0 1)) :: (87, .inl (bz_getR 9 3)) :: (90, .inl (bz_aload 0 1)) :: (91, .inl (bz_getR 9 0)) ::
  (94, .inl (bz_iload 1 1)) :: (95, .inl (bz_iload 7 2)) :: (97, .inl (bz_iload 2 1)) :: (98, .inl (bz_iload 3 1)) :: (99, .inr (.inl (mX8_forceToTouch, 6, 8))) :: (102, .inl (bz_istore 8 2)) ::
  (104, .inl (bz_iload 8 2)) :: (106, .inl (bz_push (.int (-6)) 2)) :: (108, .inl (bz_ic_eq 133)) :: (111, .inl (bz_iload 5 2)) :: (113, .inl (bz_push (.int (-6)) 2)) :: (115, .inl (bz_ic_eq 125)) ::
  (118, .inl (bz_iload 8 2)) :: (120, .inl (bz_iload 5 2)) :: (122, .inl (bz_ic_ge 133)) :: (125, .inl (bz_iload 8 2)) :: (127, .inl (bz_istore 5 2)) :: (129, .inl (bz_iload 7 2)) ::
  (131, .inl (bz_istore 6 2)) :: (133, .inl (bz_iinc 7 1)) :: (136, .inl (bz_goto 79)) :: (139, .inl (bz_iload 4 2)) :: (141, .inl (bz_if_ne 149)) :: (144, .inl (bz_iload 5 2)) ::
  (146, .inl (bz_goto 151)) :: (149, .inl (bz_iload 6 2)) :: (151, .inr (.inr 1)) :: []
def bm_X10_hint : bz_M := (RX10, yX10_hint, cX10_hint, 9, (some .int), 3, 80, bt_X10_hint)
def bt_J13_bitCount_95d88 : List bz_E := (0, .inl (bz_lload 0 1)) :: (1, .inl (bz_lload 0 1)) :: (2, .inl (bz_push (.int 1) 1)) :: (3, .inl (bz_lushr)) :: (4, .inl (bz_push (.long 6148914691236517205) 3)) :: (7, .inl (bz_land)) ::
  (8, .inl (bz_lsub)) :: (9, .inl (bz_lstore 0 1)) :: (10, .inl (bz_lload 0 1)) :: (11, .inl (bz_push (.long 3689348814741910323) 3)) :: (14, .inl (bz_land)) :: (15, .inl (bz_lload 0 1)) ::
  (16, .inl (bz_push (.int 2) 1)) :: (17, .inl (bz_lushr)) :: (18, .inl (bz_push (.long 3689348814741910323) 3)) :: (21, .inl (bz_land)) :: (22, .inl (bz_ladd)) :: (23, .inl (bz_lstore 0 1)) ::
  (24, .inl (bz_lload 0 1)) :: (25, .inl (bz_lload 0 1)) :: (26, .inl (bz_push (.int 4) 1)) :: (27, .inl (bz_lushr)) :: (28, .inl (bz_ladd)) :: (29, .inl (bz_push (.long 1085102592571150095) 3)) ::
  (32, .inl (bz_land)) :: (33, .inl (bz_lstore 0 1)) :: (34, .inl (bz_lload 0 1)) :: (35, .inl (bz_lload 0 1)) :: (36, .inl (bz_push (.int 8) 2)) :: (38, .inl (bz_lushr)) ::
  (39, .inl (bz_ladd)) :: (40, .inl (bz_lstore 0 1)) :: (41, .inl (bz_lload 0 1)) :: (42, .inl (bz_lload 0 1)) :: (43, .inl (bz_push (.int 16) 2)) :: (45, .inl (bz_lushr)) ::
  (46, .inl (bz_ladd)) :: (47, .inl (bz_lstore 0 1)) :: (48, .inl (bz_lload 0 1)) :: (49, .inl (bz_lload 0 1)) :: (50, .inl (bz_push (.int 32) 2)) :: (52, .inl (bz_lushr)) ::
  (53, .inl (bz_ladd)) :: (54, .inl (bz_lstore 0 1)) :: (55, .inl (bz_lload 0 1)) :: (56, .inl (bz_l2i)) :: (57, .inl (bz_push (.int 127) 2)) :: (59, .inl (bz_iand)) ::
  (60, .inr (.inr 1)) :: []
def bm_J13_bitCount_95d88 : bz_M := (RJ13, yJ13_bitCount_95d88, cJ13_bitCount_95d88, 2, (some .int), 0, 0, bt_J13_bitCount_95d88)
def bt_X10_alone : List bz_E := (0, .inl (bz_iload 1 1)) :: (1, .inr (.inl (mX10_isPlace, 1, 0))) :: (4, .inl (bz_if_ne 9)) :: (7, .inl (bz_push (.int (-1)) 1)) :: (8, .inr (.inr 1)) :: (9, .inl (bz_iload 2 1)) ::
  (10, .inl (bz_push (.int 0) 1)) :: (11, .inl (bz_push (.int 7) 2)) :: (13, .inr (.inl (mX10_isWithin, 3, 0))) :: (16, .inl (bz_if_eq 39)) :: (19, .inl (bz_iload 3 1)) :: (20, .inl (bz_push (.int 0) 1)) ::
  (21, .inl (bz_push (.int 99999) 2)) :: (23, .inr (.inl (mX10_isWithin, 3, 0))) :: (26, .inl (bz_if_eq 39)) :: (29, .inl (bz_iload 4 2)) :: (31, .inl (bz_push (.int 0) 1)) :: (32, .inl (bz_push (.int 2) 1)) ::
  (33, .inr (.inl (mX10_isWithin, 3, 0))) :: (36, .inl (bz_if_ne 42)) :: (39, .inl (bz_push (.int (-2)) 2)) :: (41, .inr (.inr 1)) :: (42, .inl (bz_aload 0 1)) :: (43, .inl (bz_getR 9 4)) ::
  (46, .inl (bz_iload 1 1)) :: (47, .inl (bz_iload 2 1)) :: (48, .inr (.inl (mX7_walk, 3, 7))) :: (51, .inl (bz_iload 4 2)) :: (53, .inl (bz_switch [(0, 80), (1, 89)] 97)) :: (80, .inl (bz_aload 0 1)) ::
  (81, .inl (bz_getR 9 4)) :: (84, .inl (bz_iload 3 1)) :: (85, .inr (.inl (mX7_cellBehind, 2, 7))) :: (88, .inr (.inr 1)) :: (89, .inl (bz_aload 0 1)) :: (90, .inl (bz_getR 9 4)) ::
  (93, .inl (bz_getI 6 1)) :: (96, .inr (.inr 1)) :: (97, .inl (bz_aload 0 1)) :: (98, .inl (bz_getR 9 4)) :: (101, .inl (bz_getL 6 2)) :: (104, .inr (.inl (mJ13_bitCount_95d88, 1, 0))) ::
  (107, .inr (.inr 1)) :: []
def bm_X10_alone : bz_M := (RX10, yX10_alone, cX10_alone, 5, (some .int), 3, 62, bt_X10_alone)
def bt_X10_reachOf : List bz_E := (0, .inl (bz_push (.long 0) 1)) :: (1, .inl (bz_lstore 2 1)) :: (2, .inl (bz_iload 0 1)) :: (3, .inl (bz_istore 4 2)) :: (5, .inl (bz_iload 1 1)) :: (6, .inl (bz_istore 5 2)) ::
  (8, .inl (bz_push (.int 1) 1)) :: (9, .inl (bz_istore 6 2)) :: (11, .inl (bz_iload 6 2)) :: (13, .inl (bz_push (.int 9) 2)) :: (15, .inl (bz_ic_gt 60)) :: (18, .inl (bz_iload 4 2)) ::
  (20, .inl (bz_iload 5 2)) :: (22, .inr (.inl (mX10_turned, 2, 0))) :: (25, .inl (bz_istore 5 2)) :: (27, .inl (bz_iload 4 2)) :: (29, .inl (bz_iload 5 2)) :: (31, .inr (.inl (mX10_next, 2, 0))) ::
  (34, .inl (bz_istore 4 2)) :: (36, .inl (bz_iload 4 2)) :: (38, .inr (.inl (mX10_isPocket, 1, 0))) :: (41, .inl (bz_if_eq 46)) :: (44, .inl (bz_lload 2 1)) :: (45, .inr (.inr 2)) ::
  (46, .inl (bz_lload 2 1)) :: (47, .inl (bz_iload 4 2)) :: (49, .inr (.inl (mX10_bit, 1, 0))) :: (52, .inl (bz_lor)) :: (53, .inl (bz_lstore 2 1)) :: (54, .inl (bz_iinc 6 1)) ::
  (57, .inl (bz_goto 11)) :: (60, .inl (bz_lload 2 1)) :: (61, .inr (.inr 2)) :: []
def bm_X10_reachOf : bz_M := (RX10, yX10_reachOf, cX10_reachOf, 7, (some .long), 1, 24, bt_X10_reachOf)
def bt_X10_firstWayInto : List bz_E := (0, .inl (bz_push (.int 0) 1)) :: (1, .inl (bz_istore 3 1)) :: (2, .inl (bz_iload 3 1)) :: (3, .inl (bz_push (.int 8) 2)) :: (5, .inl (bz_ic_ge 28)) :: (8, .inl (bz_iload 0 1)) ::
  (9, .inl (bz_iload 3 1)) :: (10, .inr (.inl (mX10_reachOf, 2, 0))) :: (13, .inl (bz_lload 1 1)) :: (14, .inl (bz_land)) :: (15, .inl (bz_push (.long 0) 1)) :: (16, .inl (bz_lcmp)) ::
  (17, .inl (bz_if_eq 22)) :: (20, .inl (bz_iload 3 1)) :: (21, .inr (.inr 1)) :: (22, .inl (bz_iinc 3 1)) :: (25, .inl (bz_goto 2)) :: (28, .inl (bz_push (.int (-6)) 2)) ::
  (30, .inr (.inr 1)) :: []
def bm_X10_firstWayInto : bz_M := (RX10, yX10_firstWayInto, cX10_firstWayInto, 4, (some .int), 2, 50, bt_X10_firstWayInto)
def bt_X10_withAllThatReach : List bz_E := (0, .inl (bz_lload 0 1)) :: (1, .inl (bz_lstore 2 1)) :: (2, .inl (bz_push (.int 0) 1)) :: (3, .inl (bz_istore 4 2)) :: (5, .inl (bz_iload 4 2)) :: (7, .inl (bz_push (.int 45) 2)) ::
  (9, .inl (bz_ic_ge 45)) :: (12, .inl (bz_iload 4 2)) :: (14, .inr (.inl (mX10_isPlace, 1, 0))) :: (17, .inl (bz_if_eq 39)) :: (20, .inl (bz_iload 4 2)) :: (22, .inl (bz_lload 0 1)) ::
  (23, .inr (.inl (mX10_firstWayInto, 2, 0))) :: (26, .inl (bz_push (.int (-6)) 2)) :: (28, .inl (bz_ic_eq 39)) :: (31, .inl (bz_lload 2 1)) :: (32, .inl (bz_iload 4 2)) :: (34, .inr (.inl (mX10_bit, 1, 0))) ::
  (37, .inl (bz_lor)) :: (38, .inl (bz_lstore 2 1)) :: (39, .inl (bz_iinc 4 1)) :: (42, .inl (bz_goto 5)) :: (45, .inl (bz_lload 2 1)) :: (46, .inr (.inr 2)) :: []
def bm_X10_withAllThatReach : bz_M := (RX10, yX10_withAllThatReach, cX10_withAllThatReach, 5, (some .long), 3, 73, bt_X10_withAllThatReach)
def bt_X10_strokes : List bz_E := (0, .inl (bz_iload 1 1)) :: (1, .inr (.inl (mX10_isPlace, 1, 0))) :: (4, .inl (bz_if_eq 14)) :: (7, .inl (bz_iload 2 1)) :: (8, .inr (.inl (mX10_isPlace, 1, 0))) :: (11, .inl (bz_if_ne 16)) ::
  (14, .inl (bz_push (.int (-1)) 1)) :: (15, .inr (.inr 1)) :: (16, .inl (bz_iload 3 1)) :: (17, .inl (bz_push (.int 0) 1)) :: (18, .inl (bz_push (.int 1) 1)) :: (19, .inr (.inl (mX10_isWithin, 3, 0))) ::
  (22, .inl (bz_if_ne 28)) :: (25, .inl (bz_push (.int (-2)) 2)) :: (27, .inr (.inr 1)) :: (28, .inl (bz_iload 1 1)) :: (29, .inl (bz_iload 2 1)) :: (30, .inl (bz_ic_ne 44)) ::
  (33, .inl (bz_iload 3 1)) :: (34, .inl (bz_if_ne 41)) :: (37, .inl (bz_push (.int 0) 1)) :: (38, .inl (bz_goto 43)) :: (41, .inl (bz_push (.int (-6)) 2)) :: (43, .inr (.inr 1)) ::
  (44, .inl (bz_iload 2 1)) :: (45, .inr (.inl (mX10_bit, 1, 0))) :: (48, .inl (bz_lstore 4 2)) :: (50, .inl (bz_push (.int 1) 1)) :: (51, .inl (bz_istore 6 2)) :: (53, .inl (bz_iload 6 2)) ::
  (55, .inl (bz_push (.int 45) 2)) :: (57, .inl (bz_ic_ge 100)) :: (60, .inl (bz_iload 1 1)) :: (61, .inl (bz_lload 4 2)) :: (63, .inr (.inl (mX10_firstWayInto, 2, 0))) :: (66, .inl (bz_istore 7 2)) ::
  (68, .inl (bz_iload 7 2)) :: (70, .inl (bz_push (.int (-6)) 2)) :: (72, .inl (bz_ic_eq 87)) :: (75, .inl (bz_iload 3 1)) :: (76, .inl (bz_if_ne 84)) :: (79, .inl (bz_iload 6 2)) ::
  (81, .inl (bz_goto 86)) :: (84, .inl (bz_iload 7 2)) :: (86, .inr (.inr 1)) :: (87, .inl (bz_lload 4 2)) :: (89, .inr (.inl (mX10_withAllThatReach, 1, 0))) :: (92, .inl (bz_lstore 4 2)) ::
  (94, .inl (bz_iinc 6 1)) :: (97, .inl (bz_goto 53)) :: (100, .inl (bz_push (.int (-6)) 2)) :: (102, .inr (.inr 1)) :: []
def bm_X10_strokes : bz_M := (RX10, yX10_strokes, cX10_strokes, 8, (some .int), 4, 97, bt_X10_strokes)
def bt_X10_seen : List bz_E := (0, .inl (bz_iload 2 1)) :: (1, .inr (.inl (mX10_isCell, 1, 0))) :: (4, .inl (bz_if_ne 9)) :: (7, .inl (bz_push (.int (-1)) 1)) :: (8, .inr (.inr 1)) :: (9, .inl (bz_iload 1 1)) ::
  (10, .inl (bz_push (.int 0) 1)) :: (11, .inl (bz_push (.int 60) 2)) :: (13, .inr (.inl (mX10_isWithin, 3, 0))) :: (16, .inl (bz_if_ne 22)) :: (19, .inl (bz_push (.int (-2)) 2)) :: (21, .inr (.inr 1)) ::
  (22, .inl (bz_aload 0 1)) :: (23, .inl (bz_getR 9 1)) :: (26, .inl (bz_iload 1 1)) :: (27, .inl (bz_iload 2 1)) :: (28, .inr (.inl (mX4_add, 3, 4))) :: (31, .inl (bz_if_eq 44)) ::
  (34, .inl (bz_aload 0 1)) :: (35, .inl (bz_getR 9 1)) :: (38, .inl (bz_getI 3 2)) :: (41, .inl (bz_goto 46)) :: (44, .inl (bz_push (.int (-4)) 2)) :: (46, .inr (.inr 1)) :: []
def bm_X10_seen : bz_M := (RX10, yX10_seen, cX10_seen, 3, (some .int), 2, 42, bt_X10_seen)
def bt_X10_forget : List bz_E := (0, .inl (bz_aload 0 1)) :: (1, .inl (bz_getR 9 1)) :: (4, .inl (bz_getI 3 2)) :: (7, .inl (bz_istore 1 1)) :: (8, .inl (bz_aload 0 1)) :: (9, .inl (bz_getR 9 1)) ::
  (12, .inl (bz_push (.int 0) 1)) :: (13, .inl (bz_putI 3 2)) :: (16, .inl (bz_iload 1 1)) :: (17, .inr (.inr 1)) :: []
def bm_X10_forget : bz_M := (RX10, yX10_forget, cX10_forget, 2, (some .int), 0, 0, bt_X10_forget)
def bt_X10_sent : List bz_E := (0, .inl (bz_aload 0 1)) :: (1, .inl (bz_getR 9 5)) :: (4, .inl (bz_aload 0 1)) :: (5, .inl (bz_getR 9 1)) :: (8, .inl (bz_aload 0 1)) :: (9, .inl (bz_getR 9 4)) ::
  (12, .inr (.inl (mX9_gather, 3, 9))) :: (15, .inl (bz_iload 1 1)) :: (16, .inl (bz_push (.int (-1)) 1)) :: (17, .inl (bz_ic_ne 28)) :: (20, .inl (bz_aload 0 1)) :: (21, .inl (bz_getR 9 5)) ::
  (24, .inl (bz_getI 8 1)) :: (27, .inr (.inr 1)) :: (28, .inl (bz_iload 1 1)) :: (29, .inl (bz_push (.int 0) 1)) :: (30, .inl (bz_aload 0 1)) :: (31, .inl (bz_getR 9 5)) ::
  (34, .inl (bz_getI 8 1)) :: (37, .inl (bz_push (.int 1) 1)) :: (38, .inl (bz_isub)) :: (39, .inr (.inl (mX10_isWithin, 3, 0))) :: (42, .inl (bz_if_eq 57)) :: (45, .inl (bz_aload 0 1)) ::
  (46, .inl (bz_getR 9 5)) :: (49, .inl (bz_getR 8 0)) :: (52, .inl (bz_iload 1 1)) :: (53, .inl (bz_iald)) :: (54, .inl (bz_goto 59)) :: (57, .inl (bz_push (.int (-6)) 2)) ::
  (59, .inr (.inr 1)) :: []
def bm_X10_sent : bz_M := (RX10, yX10_sent, cX10_sent, 2, (some .int), 4, 89, bt_X10_sent)
def bt_X10_ask : List bz_E := (0, .inl (bz_iload 1 1)) :: (1, .inl (bz_push (.int 0) 1)) :: (2, .inl (bz_push (.int 1) 1)) :: (3, .inr (.inl (mX10_isWithin, 3, 0))) :: (6, .inl (bz_if_ne 12)) :: (9, .inl (bz_push (.int (-2)) 2)) ::
  (11, .inr (.inr 1)) :: (12, .inl (bz_aload 0 1)) :: (13, .inl (bz_getR 9 5)) :: (16, .inl (bz_aload 0 1)) :: (17, .inl (bz_getR 9 1)) :: (20, .inl (bz_aload 0 1)) ::
  (21, .inl (bz_getR 9 4)) :: (24, .inr (.inl (mX9_gather, 3, 9))) :: (27, .inl (bz_aload 0 1)) :: (28, .inl (bz_getR 9 5)) :: (31, .inl (bz_getI 8 1)) :: (34, .inl (bz_if_ne 40)) ::
  (37, .inl (bz_push (.int (-6)) 2)) :: (39, .inr (.inr 1)) :: (40, .inl (bz_aload 0 1)) :: (41, .inl (bz_getR 9 5)) :: (44, .inl (bz_aload 0 1)) :: (45, .inl (bz_getR 9 4)) ::
  (48, .inr (.inl (mX9_chooseStep, 2, 9))) :: (51, .inl (bz_iload 1 1)) :: (52, .inl (bz_if_ne 65)) :: (55, .inl (bz_aload 0 1)) :: (56, .inl (bz_getR 9 5)) :: (59, .inl (bz_getI 8 2)) ::
  (62, .inl (bz_goto 72)) :: (65, .inl (bz_aload 0 1)) :: (66, .inl (bz_getR 9 5)) :: (69, .inl (bz_getI 8 3)) :: (72, .inr (.inr 1)) :: []
def bm_X10_ask : bz_M := (RX10, yX10_ask, cX10_ask, 2, (some .int), 4, 95, bt_X10_ask)
def bt_X10_chalk : List bz_E := (0, .inl (bz_iload 1 1)) :: (1, .inl (bz_push (.int 0) 1)) :: (2, .inl (bz_push (.int 999) 3)) :: (5, .inr (.inl (mX10_isWithin, 3, 0))) :: (8, .inl (bz_if_eq 29)) :: (11, .inl (bz_iload 2 1)) ::
  (12, .inl (bz_push (.int 0) 1)) :: (13, .inl (bz_push (.int 1) 1)) :: (14, .inr (.inl (mX10_isWithin, 3, 0))) :: (17, .inl (bz_if_eq 29)) :: (20, .inl (bz_iload 3 1)) :: (21, .inl (bz_push (.int 0) 1)) ::
  (22, .inl (bz_push (.int 1) 1)) :: (23, .inr (.inl (mX10_isWithin, 3, 0))) :: (26, .inl (bz_if_ne 32)) :: (29, .inl (bz_push (.int (-2)) 2)) :: (31, .inr (.inr 1)) :: (32, .inl (bz_aload 0 1)) ::
  (33, .inl (bz_getR 9 6)) :: (36, .inl (bz_iload 1 1)) :: (37, .inl (bz_iload 2 1)) :: (38, .inl (bz_push (.int 1) 1)) :: (39, .inl (bz_ic_ne 46)) :: (42, .inl (bz_push (.int 1) 1)) ::
  (43, .inl (bz_goto 47)) :: (46, .inl (bz_push (.int 0) 1)) :: (47, .inr (.inl (mX0_winningMove, 3, 1))) :: (50, .inl (bz_istore 4 2)) :: (52, .inl (bz_iload 3 1)) :: (53, .inl (bz_if_ne 69)) ::
  (56, .inl (bz_iload 4 2)) :: (58, .inl (bz_push (.int (-6)) 2)) :: (60, .inl (bz_ic_ne 67)) :: (63, .inl (bz_push (.int 0) 1)) :: (64, .inl (bz_goto 68)) :: (67, .inl (bz_push (.int 1) 1)) ::
  (68, .inr (.inr 1)) :: (69, .inl (bz_iload 4 2)) :: (71, .inr (.inr 1)) :: []
def bm_X10_chalk : bz_M := (RX10, yX10_chalk, cX10_chalk, 5, (some .int), 4, 98, bt_X10_chalk)
def bt_J9_max_f86c9 : List bz_E := (0, .inl (bz_lload 0 1)) :: (1, .inl (bz_lload 2 1)) :: (2, .inl (bz_lcmp)) :: (3, .inl (bz_if_lt 10)) :: (6, .inl (bz_lload 0 1)) :: (7, .inl (bz_goto 11)) ::
  (10, .inl (bz_lload 2 1)) :: (11, .inr (.inr 2)) :: []
def bm_J9_max_f86c9 : bz_M := (RJ9, yJ9_max_f86c9, cJ9_max_f86c9, 4, (some .long), 0, 0, bt_J9_max_f86c9)
def bt_X10_match : List bz_E := (0, .inl (bz_iload 1 1)) :: (1, .inl (bz_push (.int 1) 1)) :: (2, .inl (bz_push (.int 8) 2)) :: (4, .inr (.inl (mX10_isWithin, 3, 0))) :: (7, .inl (bz_if_eq 67)) :: (10, .inl (bz_iload 2 1)) ::
  (11, .inl (bz_push (.int 0) 1)) :: (12, .inl (bz_push (.int 10) 2)) :: (14, .inr (.inl (mX10_isWithin, 3, 0))) :: (17, .inl (bz_if_eq 67)) :: (20, .inl (bz_iload 3 1)) :: (21, .inl (bz_push (.int 0) 1)) ::
  (22, .inl (bz_iload 1 1)) :: (23, .inl (bz_push (.int 1) 1)) :: (24, .inl (bz_isub)) :: (25, .inr (.inl (mX10_isWithin, 3, 0))) :: (28, .inl (bz_if_eq 67)) :: (31, .inl (bz_iload 4 2)) ::
  (33, .inl (bz_push (.int 0) 1)) :: (34, .inl (bz_iload 1 1)) :: (35, .inl (bz_push (.int 1) 1)) :: (36, .inl (bz_isub)) :: (37, .inr (.inl (mX10_isWithin, 3, 0))) :: (40, .inl (bz_if_eq 67)) ::
  (43, .inl (bz_iload 5 2)) :: (45, .inl (bz_push (.int 0) 1)) :: (46, .inl (bz_push (.int 1) 1)) :: (47, .inr (.inl (mX10_isWithin, 3, 0))) :: (50, .inl (bz_if_eq 67)) :: (53, .inl (bz_iload 6 2)) ::
  (55, .inl (bz_push (.int 0) 1)) :: (56, .inl (bz_push (.int 1) 1)) :: (57, .inr (.inl (mX10_isWithin, 3, 0))) :: (60, .inl (bz_if_eq 67)) :: (63, .inl (bz_push (.int 1) 1)) :: (64, .inl (bz_goto 68)) ::
  (67, .inl (bz_push (.int 0) 1)) :: (68, .inl (bz_istore 7 2)) :: (70, .inl (bz_iload 7 2)) :: (72, .inl (bz_if_ne 79)) :: (75, .inl (bz_push (.long (-1000000000000000002)) 3)) :: (78, .inr (.inr 2)) ::
  (79, .inl (bz_iload 1 1)) :: (80, .inl (bz_iload 3 1)) :: (81, .inl (bz_isub)) :: (82, .inl (bz_istore 8 2)) :: (84, .inl (bz_iload 1 1)) :: (85, .inl (bz_iload 4 2)) ::
  (87, .inl (bz_isub)) :: (88, .inl (bz_istore 9 2)) :: (90, .inl (bz_push (.int 10) 2)) :: (92, .inl (bz_iload 8 2)) :: (94, .inl (bz_iload 9 2)) :: (96, .inl (bz_iadd)) ::
  (97, .inl (bz_push (.int 1) 1)) :: (98, .inl (bz_isub)) :: (99, .inr (.inl (mX2_power, 2, 0))) :: (102, .inl (bz_lstore 10 2)) :: (104, .inl (bz_iload 5 2)) :: (106, .inl (bz_if_ne 120)) ::
  (109, .inl (bz_iload 8 2)) :: (111, .inl (bz_iload 9 2)) :: (113, .inl (bz_iload 2 1)) :: (114, .inr (.inl (mX2_winning, 3, 0))) :: (117, .inl (bz_goto 128)) :: (120, .inl (bz_iload 8 2)) ::
  (122, .inl (bz_iload 9 2)) :: (124, .inl (bz_iload 2 1)) :: (125, .inr (.inl (mX2_games, 3, 0))) :: (128, .inl (bz_lstore 12 2)) :: (130, .inl (bz_push (.long 1) 1)) :: (131, .inl (bz_lload 12 2)) ::
  (133, .inl (bz_lload 10 2)) :: (135, .inr (.inl (mX2_commonDivisor, 2, 0))) :: (138, .inr (.inl (mJ9_max_f86c9, 2, 0))) :: (141, .inl (bz_lstore 14 2)) :: (143, .inl (bz_iload 6 2)) :: (145, .inl (bz_if_ne 156)) ::
  (148, .inl (bz_lload 12 2)) :: (150, .inl (bz_lload 14 2)) :: (152, .inl (bz_ldiv)) :: (153, .inl (bz_goto 161)) :: (156, .inl (bz_lload 10 2)) :: (158, .inl (bz_lload 14 2)) ::
  (160, .inl (bz_ldiv)) :: (161, .inr (.inr 2)) :: []
def bm_X10_match : bz_M := (RX10, yX10_match, cX10_match, 16, (some .long), 2, 50, bt_X10_match)
def bt_X10_season : List bz_E := (0, .inl (bz_iload 1 1)) :: (1, .inl (bz_push (.int 0) 1)) :: (2, .inl (bz_push (.int 9999) 3)) :: (5, .inr (.inl (mX10_isWithin, 3, 0))) :: (8, .inl (bz_if_eq 30)) :: (11, .inl (bz_iload 2 1)) ::
  (12, .inl (bz_push (.int 1) 1)) :: (13, .inl (bz_push (.int 99) 2)) :: (15, .inr (.inl (mX10_isWithin, 3, 0))) :: (18, .inl (bz_if_eq 30)) :: (21, .inl (bz_iload 3 1)) :: (22, .inl (bz_push (.int 0) 1)) ::
  (23, .inl (bz_push (.int 2) 1)) :: (24, .inr (.inl (mX10_isWithin, 3, 0))) :: (27, .inl (bz_if_ne 33)) :: (30, .inl (bz_push (.int (-2)) 2)) :: (32, .inr (.inr 1)) :: (33, .inl (bz_aload 0 1)) ::
  (34, .inl (bz_getR 9 3)) :: (37, .inl (bz_iload 1 1)) :: (38, .inl (bz_iload 2 1)) :: (39, .inl (bz_aload 0 1)) :: (40, .inl (bz_getR 9 0)) :: (43, .inr (.inl (mX8_runSeason, 4, 8))) ::
  (46, .inl (bz_iload 3 1)) :: (47, .inl (bz_switch [(0, 72), (1, 83)] 94)) :: (72, .inl (bz_aload 0 1)) :: (73, .inl (bz_getR 9 3)) :: (76, .inl (bz_getR 7 0)) :: (79, .inl (bz_getI 5 1)) ::
  (82, .inr (.inr 1)) :: (83, .inl (bz_aload 0 1)) :: (84, .inl (bz_getR 9 3)) :: (87, .inl (bz_getR 7 0)) :: (90, .inl (bz_getI 5 2)) :: (93, .inr (.inr 1)) ::
  (94, .inl (bz_aload 0 1)) :: (95, .inl (bz_getR 9 3)) :: (98, .inl (bz_getR 7 0)) :: (101, .inr (.inl (mX6_howManyDown, 1, 6))) :: (104, .inr (.inr 1)) :: []
def bm_X10_season : bz_M := (RX10, yX10_season, cX10_season, 4, (some .int), 5, 130, bt_X10_season)
def bt_X10_image : List bz_E := (0, .inl (bz_iload 1 1)) :: (1, .inl (bz_push (.int 0) 1)) :: (2, .inl (bz_push (.int 1) 1)) :: (3, .inr (.inl (mX10_isWithin, 3, 0))) :: (6, .inl (bz_if_ne 12)) :: (9, .inl (bz_push (.int (-2)) 2)) ::
  (11, .inr (.inr 1)) :: (12, .inl (bz_aload 0 1)) :: (13, .inl (bz_getR 9 7)) :: (16, .inl (bz_iload 1 1)) :: (17, .inl (bz_aald)) :: (18, .inl (bz_aload 0 1)) ::
  (19, .inl (bz_getR 9 0)) :: (22, .inl (bz_aload 0 1)) :: (23, .inl (bz_getR 9 1)) :: (26, .inr (.inl (mX1_keep, 3, 2))) :: (29, .inl (bz_push (.int 1) 1)) :: (30, .inr (.inr 1)) :: []
def bm_X10_image : bz_M := (RX10, yX10_image, cX10_image, 2, (some .int), 2, 44, bt_X10_image)
def bt_X10_restore : List bz_E := (0, .inl (bz_iload 1 1)) :: (1, .inl (bz_push (.int 0) 1)) :: (2, .inl (bz_push (.int 1) 1)) :: (3, .inr (.inl (mX10_isWithin, 3, 0))) :: (6, .inl (bz_if_ne 12)) :: (9, .inl (bz_push (.int (-2)) 2)) ::
  (11, .inr (.inr 1)) :: (12, .inl (bz_aload 0 1)) :: (13, .inl (bz_getR 9 7)) :: (16, .inl (bz_iload 1 1)) :: (17, .inl (bz_aald)) :: (18, .inl (bz_getI 1 2)) ::
  (21, .inl (bz_if_ne 27)) :: (24, .inl (bz_push (.int (-3)) 2)) :: (26, .inr (.inr 1)) :: (27, .inl (bz_aload 0 1)) :: (28, .inl (bz_getR 9 0)) :: (31, .inl (bz_aload 0 1)) ::
  (32, .inl (bz_getR 9 7)) :: (35, .inl (bz_iload 1 1)) :: (36, .inl (bz_aald)) :: (37, .inl (bz_getR 1 0)) :: (40, .inr (.inl (mX6_copy, 2, 6))) :: (43, .inl (bz_aload 0 1)) ::
  (44, .inl (bz_getR 9 1)) :: (47, .inl (bz_aload 0 1)) :: (48, .inl (bz_getR 9 7)) :: (51, .inl (bz_iload 1 1)) :: (52, .inl (bz_aald)) :: (53, .inl (bz_getR 1 1)) ::
  (56, .inr (.inl (mX4_copy, 2, 4))) :: (59, .inl (bz_push (.int 1) 1)) :: (60, .inr (.inr 1)) :: []
def bm_X10_restore : bz_M := (RX10, yX10_restore, cX10_restore, 2, (some .int), 1, 22, bt_X10_restore)
def bt_X10_told : List bz_E := (0, .inl (bz_iload 1 1)) :: (1, .inl (bz_switch (bz_mk 0 [36, 44, 52, 60, 68]) 76)) :: (36, .inl (bz_aload 0 1)) :: (37, .inl (bz_getR 9 2)) :: (40, .inl (bz_getI 2 1)) :: (43, .inr (.inr 1)) ::
  (44, .inl (bz_aload 0 1)) :: (45, .inl (bz_getR 9 0)) :: (48, .inl (bz_getI 5 1)) :: (51, .inr (.inr 1)) :: (52, .inl (bz_aload 0 1)) :: (53, .inl (bz_getR 9 0)) ::
  (56, .inl (bz_getI 5 2)) :: (59, .inr (.inr 1)) :: (60, .inl (bz_aload 0 1)) :: (61, .inl (bz_getR 9 0)) :: (64, .inl (bz_getI 5 3)) :: (67, .inr (.inr 1)) ::
  (68, .inl (bz_aload 0 1)) :: (69, .inl (bz_getR 9 1)) :: (72, .inl (bz_getI 3 2)) :: (75, .inr (.inr 1)) :: (76, .inl (bz_iload 1 1)) :: (77, .inl (bz_push (.int 10) 2)) ::
  (79, .inl (bz_push (.int 12) 2)) :: (81, .inr (.inl (mX10_isWithin, 3, 0))) :: (84, .inl (bz_if_eq 101)) :: (87, .inl (bz_aload 0 1)) :: (88, .inl (bz_getR 9 0)) :: (91, .inl (bz_iload 1 1)) ::
  (92, .inl (bz_push (.int 10) 2)) :: (94, .inl (bz_isub)) :: (95, .inr (.inl (mX6_cellOrNone, 2, 6))) :: (98, .inl (bz_goto 103)) :: (101, .inl (bz_push (.int (-2)) 2)) :: (103, .inr (.inr 1)) :: []
def bm_X10_told : bz_M := (RX10, yX10_told, cX10_told, 2, (some .int), 3, 62, bt_X10_told)
def bt_X11_in : List bz_E := (0, .inl (bz_lload 0 1)) :: (1, .inl (bz_lload 2 1)) :: (2, .inl (bz_lcmp)) :: (3, .inl (bz_if_lt 17)) :: (6, .inl (bz_lload 0 1)) :: (7, .inl (bz_lload 4 2)) ::
  (9, .inl (bz_lcmp)) :: (10, .inl (bz_if_gt 17)) :: (13, .inl (bz_push (.int 1) 1)) :: (14, .inl (bz_goto 18)) :: (17, .inl (bz_push (.int 0) 1)) :: (18, .inr (.inr 3)) :: []
def bm_X11_in : bz_M := (RX11, yX11_in, cX11_in, 6, (some .boolean), 0, 0, bt_X11_in)
def bt_X11_isBall : List bz_E := (0, .inl (bz_iload 0 1)) :: (1, .inl (bz_i2l)) :: (2, .inl (bz_push (.long 0) 1)) :: (3, .inl (bz_push (.long 2) 3)) :: (6, .inr (.inl (mX11_in, 3, 0))) :: (9, .inr (.inr 3)) :: []
def bm_X11_isBall : bz_M := (RX11, yX11_isBall, cX11_isBall, 1, (some .boolean), 1, 25, bt_X11_isBall)
def bt_X11_isCell : List bz_E := (0, .inl (bz_iload 0 1)) :: (1, .inl (bz_i2l)) :: (2, .inl (bz_push (.long 0) 1)) :: (3, .inl (bz_push (.long 44) 3)) :: (6, .inr (.inl (mX11_in, 3, 0))) :: (9, .inr (.inr 3)) :: []
def bm_X11_isCell : bz_M := (RX11, yX11_isCell, cX11_isCell, 1, (some .boolean), 1, 25, bt_X11_isCell)
def bt_X11_isPocket : List bz_E := (0, .inl (bz_iload 0 1)) :: (1, .inl (bz_push (.int 9) 2)) :: (3, .inl (bz_idiv)) :: (4, .inl (bz_if_eq 15)) :: (7, .inl (bz_iload 0 1)) :: (8, .inl (bz_push (.int 9) 2)) ::
  (10, .inl (bz_idiv)) :: (11, .inl (bz_push (.int 4) 1)) :: (12, .inl (bz_ic_ne 28)) :: (15, .inl (bz_iload 0 1)) :: (16, .inl (bz_push (.int 9) 2)) :: (18, .inl (bz_irem)) ::
  (19, .inl (bz_push (.int 4) 1)) :: (20, .inl (bz_irem)) :: (21, .inl (bz_if_ne 28)) :: (24, .inl (bz_push (.int 1) 1)) :: (25, .inl (bz_goto 29)) :: (28, .inl (bz_push (.int 0) 1)) ::
  (29, .inr (.inr 3)) :: []
def bm_X11_isPocket : bz_M := (RX11, yX11_isPocket, cX11_isPocket, 1, (some .boolean), 0, 0, bt_X11_isPocket)
def bt_X11_isPlace : List bz_E := (0, .inl (bz_iload 0 1)) :: (1, .inr (.inl (mX11_isCell, 1, 0))) :: (4, .inl (bz_if_eq 18)) :: (7, .inl (bz_iload 0 1)) :: (8, .inr (.inl (mX11_isPocket, 1, 0))) :: (11, .inl (bz_if_ne 18)) ::
  (14, .inl (bz_push (.int 1) 1)) :: (15, .inl (bz_goto 19)) :: (18, .inl (bz_push (.int 0) 1)) :: (19, .inr (.inr 3)) :: []
def bm_X11_isPlace : bz_M := (RX11, yX11_isPlace, cX11_isPlace, 1, (some .boolean), 2, 45, bt_X11_isPlace)
def bt_X11_home : List bz_E := (0, .inl (bz_iload 0 1)) :: (1, .inl (bz_if_ne 9)) :: (4, .inl (bz_push (.int 10) 2)) :: (6, .inl (bz_goto 21)) :: (9, .inl (bz_iload 0 1)) :: (10, .inl (bz_push (.int 1) 1)) ::
  (11, .inl (bz_ic_ne 19)) :: (14, .inl (bz_push (.int 16) 2)) :: (16, .inl (bz_goto 21)) :: (19, .inl (bz_push (.int 24) 2)) :: (21, .inr (.inr 1)) :: []
def bm_X11_home : bz_M := (RX11, yX11_home, cX11_home, 1, (some .int), 0, 0, bt_X11_home)
def bt_X11_downwards : List bz_E := (0, .inl (bz_iload 0 1)) :: (1, .inl (bz_if_eq 15)) :: (4, .inl (bz_iload 0 1)) :: (5, .inl (bz_push (.int 1) 1)) :: (6, .inl (bz_ic_eq 15)) :: (9, .inl (bz_iload 0 1)) ::
  (10, .inl (bz_push (.int 7) 2)) :: (12, .inl (bz_ic_ne 19)) :: (15, .inl (bz_push (.int (-1)) 1)) :: (16, .inl (bz_goto 35)) :: (19, .inl (bz_iload 0 1)) :: (20, .inl (bz_push (.int 2) 1)) ::
  (21, .inl (bz_ic_eq 30)) :: (24, .inl (bz_iload 0 1)) :: (25, .inl (bz_push (.int 6) 2)) :: (27, .inl (bz_ic_ne 34)) :: (30, .inl (bz_push (.int 0) 1)) :: (31, .inl (bz_goto 35)) ::
  (34, .inl (bz_push (.int 1) 1)) :: (35, .inr (.inr 1)) :: []
def bm_X11_downwards : bz_M := (RX11, yX11_downwards, cX11_downwards, 1, (some .int), 0, 0, bt_X11_downwards)
def bt_X11_across : List bz_E := (0, .inl (bz_iload 0 1)) :: (1, .inl (bz_if_eq 9)) :: (4, .inl (bz_iload 0 1)) :: (5, .inl (bz_push (.int 4) 1)) :: (6, .inl (bz_ic_ne 13)) :: (9, .inl (bz_push (.int 0) 1)) ::
  (10, .inl (bz_goto 23)) :: (13, .inl (bz_iload 0 1)) :: (14, .inl (bz_push (.int 4) 1)) :: (15, .inl (bz_ic_ge 22)) :: (18, .inl (bz_push (.int 1) 1)) :: (19, .inl (bz_goto 23)) ::
  (22, .inl (bz_push (.int (-1)) 1)) :: (23, .inr (.inr 1)) :: []
def bm_X11_across : bz_M := (RX11, yX11_across, cX11_across, 1, (some .int), 0, 0, bt_X11_across)
def bt_X11_turned : List bz_E := (0, .inl (bz_iload 0 1)) :: (1, .inl (bz_push (.int 9) 2)) :: (3, .inl (bz_idiv)) :: (4, .inl (bz_iload 1 1)) :: (5, .inr (.inl (mX11_downwards, 1, 0))) :: (8, .inl (bz_iadd)) ::
  (9, .inl (bz_i2l)) :: (10, .inl (bz_push (.long 0) 1)) :: (11, .inl (bz_push (.long 4) 3)) :: (14, .inr (.inl (mX11_in, 3, 0))) :: (17, .inl (bz_if_ne 24)) :: (20, .inl (bz_push (.int 1) 1)) ::
  (21, .inl (bz_goto 25)) :: (24, .inl (bz_push (.int 0) 1)) :: (25, .inl (bz_istore 2 1)) :: (26, .inl (bz_iload 0 1)) :: (27, .inl (bz_push (.int 9) 2)) :: (29, .inl (bz_irem)) ::
  (30, .inl (bz_iload 1 1)) :: (31, .inr (.inl (mX11_across, 1, 0))) :: (34, .inl (bz_iadd)) :: (35, .inl (bz_i2l)) :: (36, .inl (bz_push (.long 0) 1)) :: (37, .inl (bz_push (.long 8) 3)) ::
  (40, .inr (.inl (mX11_in, 3, 0))) :: (43, .inl (bz_if_ne 50)) :: (46, .inl (bz_push (.int 1) 1)) :: (47, .inl (bz_goto 51)) :: (50, .inl (bz_push (.int 0) 1)) :: (51, .inl (bz_istore 3 1)) ::
  (52, .inl (bz_iload 2 1)) :: (53, .inl (bz_if_eq 66)) :: (56, .inl (bz_push (.int 12) 2)) :: (58, .inl (bz_iload 1 1)) :: (59, .inl (bz_isub)) :: (60, .inl (bz_push (.int 8) 2)) ::
  (62, .inl (bz_irem)) :: (63, .inl (bz_goto 67)) :: (66, .inl (bz_iload 1 1)) :: (67, .inl (bz_istore 4 2)) :: (69, .inl (bz_iload 3 1)) :: (70, .inl (bz_if_eq 84)) ::
  (73, .inl (bz_push (.int 8) 2)) :: (75, .inl (bz_iload 4 2)) :: (77, .inl (bz_isub)) :: (78, .inl (bz_push (.int 8) 2)) :: (80, .inl (bz_irem)) :: (81, .inl (bz_goto 86)) ::
  (84, .inl (bz_iload 4 2)) :: (86, .inr (.inr 1)) :: []
def bm_X11_turned : bz_M := (RX11, yX11_turned, cX11_turned, 5, (some .int), 1, 25, bt_X11_turned)
def bt_X11_ahead : List bz_E := (0, .inl (bz_iload 0 1)) :: (1, .inl (bz_push (.int 9) 2)) :: (3, .inl (bz_iload 1 1)) :: (4, .inr (.inl (mX11_downwards, 1, 0))) :: (7, .inl (bz_imul)) :: (8, .inl (bz_iadd)) ::
  (9, .inl (bz_iload 1 1)) :: (10, .inr (.inl (mX11_across, 1, 0))) :: (13, .inl (bz_iadd)) :: (14, .inr (.inr 1)) :: []
def bm_X11_ahead : bz_M := (RX11, yX11_ahead, cX11_ahead, 2, (some .int), 1, 20, bt_X11_ahead)
def bt_X11_ballOn : List bz_E := (0, .inl (bz_push (.int (-6)) 2)) :: (2, .inl (bz_istore 2 1)) :: (3, .inl (bz_push (.int 0) 1)) :: (4, .inl (bz_istore 3 1)) :: (5, .inl (bz_iload 3 1)) :: (6, .inl (bz_push (.int 3) 1)) ::
  (7, .inl (bz_ic_ge 32)) :: (10, .inl (bz_aload 0 1)) :: (11, .inl (bz_getR 10 0)) :: (14, .inl (bz_iload 3 1)) :: (15, .inl (bz_iald)) :: (16, .inl (bz_iload 1 1)) ::
  (17, .inl (bz_ic_ne 24)) :: (20, .inl (bz_iload 3 1)) :: (21, .inl (bz_goto 25)) :: (24, .inl (bz_iload 2 1)) :: (25, .inl (bz_istore 2 1)) :: (26, .inl (bz_iinc 3 1)) ::
  (29, .inl (bz_goto 5)) :: (32, .inl (bz_iload 2 1)) :: (33, .inr (.inr 1)) :: []
def bm_X11_ballOn : bz_M := (RX11, yX11_ballOn, cX11_ballOn, 4, (some .int), 0, 0, bt_X11_ballOn)
def bt_X11_ball : List bz_E := (0, .inl (bz_iload 1 1)) :: (1, .inr (.inl (mX11_isBall, 1, 0))) :: (4, .inl (bz_if_eq 19)) :: (7, .inl (bz_iload 2 1)) :: (8, .inl (bz_push (.int (-1)) 1)) :: (9, .inl (bz_ic_eq 21)) ::
  (12, .inl (bz_iload 2 1)) :: (13, .inr (.inl (mX11_isPlace, 1, 0))) :: (16, .inl (bz_if_ne 21)) :: (19, .inl (bz_push (.int (-1)) 1)) :: (20, .inr (.inr 1)) :: (21, .inl (bz_iload 2 1)) ::
  (22, .inl (bz_if_ge 30)) :: (25, .inl (bz_push (.int (-6)) 2)) :: (27, .inl (bz_goto 35)) :: (30, .inl (bz_aload 0 1)) :: (31, .inl (bz_iload 2 1)) :: (32, .inr (.inl (mX11_ballOn, 2, 11))) ::
  (35, .inl (bz_istore 3 1)) :: (36, .inl (bz_iload 3 1)) :: (37, .inl (bz_if_lt 48)) :: (40, .inl (bz_iload 3 1)) :: (41, .inl (bz_iload 1 1)) :: (42, .inl (bz_ic_eq 48)) ::
  (45, .inl (bz_push (.int (-3)) 2)) :: (47, .inr (.inr 1)) :: (48, .inl (bz_aload 0 1)) :: (49, .inl (bz_getR 10 0)) :: (52, .inl (bz_iload 1 1)) :: (53, .inl (bz_iald)) ::
  (54, .inl (bz_istore 4 2)) :: (56, .inl (bz_aload 0 1)) :: (57, .inl (bz_getR 10 0)) :: (60, .inl (bz_iload 1 1)) :: (61, .inl (bz_iload 2 1)) :: (62, .inl (bz_if_ge 70)) ::
  (65, .inl (bz_push (.int (-6)) 2)) :: (67, .inl (bz_goto 71)) :: (70, .inl (bz_iload 2 1)) :: (71, .inl (bz_iast)) :: (72, .inl (bz_iload 4 2)) :: (74, .inr (.inr 1)) :: []
def bm_X11_ball : bz_M := (RX11, yX11_ball, cX11_ball, 5, (some .int), 3, 65, bt_X11_ball)
def bt_X11_score : List bz_E := (0, .inl (bz_iload 1 1)) :: (1, .inl (bz_i2l)) :: (2, .inl (bz_push (.long 0) 1)) :: (3, .inl (bz_push (.long 99) 3)) :: (6, .inr (.inl (mX11_in, 3, 0))) :: (9, .inl (bz_if_eq 24)) ::
  (12, .inl (bz_iload 2 1)) :: (13, .inl (bz_i2l)) :: (14, .inl (bz_push (.long 0) 1)) :: (15, .inl (bz_push (.long 99) 3)) :: (18, .inr (.inl (mX11_in, 3, 0))) :: (21, .inl (bz_if_ne 27)) ::
  (24, .inl (bz_push (.int (-2)) 2)) :: (26, .inr (.inr 1)) :: (27, .inl (bz_push (.int 100) 2)) :: (29, .inl (bz_aload 0 1)) :: (30, .inl (bz_getI 10 1)) :: (33, .inl (bz_imul)) ::
  (34, .inl (bz_aload 0 1)) :: (35, .inl (bz_getI 10 2)) :: (38, .inl (bz_iadd)) :: (39, .inl (bz_istore 3 1)) :: (40, .inl (bz_aload 0 1)) :: (41, .inl (bz_iload 1 1)) ::
  (42, .inl (bz_putI 10 1)) :: (45, .inl (bz_aload 0 1)) :: (46, .inl (bz_iload 2 1)) :: (47, .inl (bz_putI 10 2)) :: (50, .inl (bz_iload 3 1)) :: (51, .inr (.inr 1)) :: []
def bm_X11_score : bz_M := (RX11, yX11_score, cX11_score, 4, (some .int), 1, 25, bt_X11_score)
def bt_X11_say : List bz_E := (0, .inl (bz_iload 1 1)) :: (1, .inl (bz_i2l)) :: (2, .inl (bz_push (.long 33) 3)) :: (5, .inl (bz_push (.long 126) 3)) :: (8, .inr (.inl (mX11_in, 3, 0))) :: (11, .inl (bz_if_ne 17)) ::
  (14, .inl (bz_push (.int (-2)) 2)) :: (16, .inr (.inr 1)) :: (17, .inl (bz_aload 0 1)) :: (18, .inl (bz_getI 10 8)) :: (21, .inl (bz_push (.int 60) 2)) :: (23, .inl (bz_ic_ne 29)) ::
  (26, .inl (bz_push (.int (-4)) 2)) :: (28, .inr (.inr 1)) :: (29, .inl (bz_aload 0 1)) :: (30, .inl (bz_getR 10 7)) :: (33, .inl (bz_aload 0 1)) :: (34, .inl (bz_getI 10 8)) ::
  (37, .inl (bz_iload 1 1)) :: (38, .inl (bz_iast)) :: (39, .inl (bz_aload 0 1)) :: (40, .inl (bz_dup)) :: (41, .inl (bz_getI 10 8)) :: (44, .inl (bz_push (.int 1) 1)) ::
  (45, .inl (bz_iadd)) :: (46, .inl (bz_putI 10 8)) :: (49, .inl (bz_aload 0 1)) :: (50, .inl (bz_getI 10 8)) :: (53, .inr (.inr 1)) :: []
def bm_X11_say : bz_M := (RX11, yX11_say, cX11_say, 2, (some .int), 1, 25, bt_X11_say)
def bt_X11_wipe : List bz_E := (0, .inl (bz_aload 0 1)) :: (1, .inl (bz_getI 10 8)) :: (4, .inl (bz_istore 1 1)) :: (5, .inl (bz_aload 0 1)) :: (6, .inl (bz_push (.int 0) 1)) :: (7, .inl (bz_putI 10 8)) ::
  (10, .inl (bz_iload 1 1)) :: (11, .inr (.inr 1)) :: []
def bm_X11_wipe : bz_M := (RX11, yX11_wipe, cX11_wipe, 2, (some .int), 0, 0, bt_X11_wipe)
def bt_X11_close : List bz_E := (0, .inl (bz_aload 0 1)) :: (1, .inl (bz_getR 10 9)) :: (4, .inl (bz_aload 0 1)) :: (5, .inl (bz_getI 10 13)) :: (8, .inl (bz_iload 1 1)) :: (9, .inl (bz_iast)) ::
  (10, .inl (bz_aload 0 1)) :: (11, .inl (bz_dup)) :: (12, .inl (bz_getI 10 13)) :: (15, .inl (bz_push (.int 1) 1)) :: (16, .inl (bz_iadd)) :: (17, .inl (bz_putI 10 13)) ::
  (20, .inl (bz_push (.int 0) 1)) :: (21, .inr (.inr 1)) :: []
def bm_X11_close : bz_M := (RX11, yX11_close, cX11_close, 2, (some .int), 0, 0, bt_X11_close)
def bt_X11_begin : List bz_E := (0, .inl (bz_iload 1 1)) :: (1, .inl (bz_i2l)) :: (2, .inl (bz_push (.long 65) 3)) :: (5, .inl (bz_push (.long 67) 3)) :: (8, .inr (.inl (mX11_in, 3, 0))) :: (11, .inl (bz_istore 2 1)) ::
  (12, .inl (bz_aload 0 1)) :: (13, .inl (bz_getR 10 10)) :: (16, .inl (bz_aload 0 1)) :: (17, .inl (bz_getI 10 13)) :: (20, .inl (bz_iload 2 1)) :: (21, .inl (bz_if_eq 31)) ::
  (24, .inl (bz_iload 1 1)) :: (25, .inl (bz_push (.int 65) 2)) :: (27, .inl (bz_isub)) :: (28, .inl (bz_goto 32)) :: (31, .inl (bz_push (.int 0) 1)) :: (32, .inl (bz_iast)) ::
  (33, .inl (bz_aload 0 1)) :: (34, .inl (bz_getR 10 11)) :: (37, .inl (bz_aload 0 1)) :: (38, .inl (bz_getI 10 13)) :: (41, .inl (bz_push (.int 0) 1)) :: (42, .inl (bz_iast)) ::
  (43, .inl (bz_aload 0 1)) :: (44, .inl (bz_getR 10 12)) :: (47, .inl (bz_aload 0 1)) :: (48, .inl (bz_getI 10 13)) :: (51, .inl (bz_push (.int 0) 1)) :: (52, .inl (bz_iast)) ::
  (53, .inl (bz_iload 2 1)) :: (54, .inl (bz_if_eq 61)) :: (57, .inl (bz_push (.int 1) 1)) :: (58, .inl (bz_goto 91)) :: (61, .inl (bz_iload 1 1)) :: (62, .inl (bz_push (.int 126) 2)) ::
  (64, .inl (bz_ic_ne 75)) :: (67, .inl (bz_aload 0 1)) :: (68, .inl (bz_push (.int 2) 1)) :: (69, .inr (.inl (mX11_close, 2, 11))) :: (72, .inl (bz_goto 91)) :: (75, .inl (bz_iload 1 1)) ::
  (76, .inl (bz_push (.int 46) 2)) :: (78, .inl (bz_ic_ne 89)) :: (81, .inl (bz_aload 0 1)) :: (82, .inl (bz_push (.int 3) 1)) :: (83, .inr (.inl (mX11_close, 2, 11))) :: (86, .inl (bz_goto 91)) ::
  (89, .inl (bz_push (.int (-6)) 2)) :: (91, .inr (.inr 1)) :: []
def bm_X11_begin : bz_M := (RX11, yX11_begin, cX11_begin, 3, (some .int), 1, 25, bt_X11_begin)
def bt_X11_deed : List bz_E := (0, .inl (bz_iload 1 1)) :: (1, .inl (bz_push (.int 94) 2)) :: (3, .inl (bz_ic_ne 12)) :: (6, .inl (bz_aload 0 1)) :: (7, .inl (bz_push (.int 1) 1)) :: (8, .inr (.inl (mX11_close, 2, 11))) ::
  (11, .inr (.inr 1)) :: (12, .inl (bz_aload 0 1)) :: (13, .inl (bz_getR 10 11)) :: (16, .inl (bz_aload 0 1)) :: (17, .inl (bz_getI 10 13)) :: (20, .inl (bz_iload 1 1)) ::
  (21, .inl (bz_push (.int 48) 2)) :: (23, .inl (bz_isub)) :: (24, .inl (bz_iast)) :: (25, .inl (bz_iload 1 1)) :: (26, .inl (bz_i2l)) :: (27, .inl (bz_push (.long 48) 3)) ::
  (30, .inl (bz_push (.long 55) 3)) :: (33, .inr (.inl (mX11_in, 3, 0))) :: (36, .inl (bz_if_eq 43)) :: (39, .inl (bz_push (.int 2) 1)) :: (40, .inl (bz_goto 45)) :: (43, .inl (bz_push (.int (-6)) 2)) ::
  (45, .inr (.inr 1)) :: []
def bm_X11_deed : bz_M := (RX11, yX11_deed, cX11_deed, 2, (some .int), 1, 25, bt_X11_deed)
def bt_X11_force : List bz_E := (0, .inl (bz_aload 0 1)) :: (1, .inl (bz_getR 10 12)) :: (4, .inl (bz_aload 0 1)) :: (5, .inl (bz_getI 10 13)) :: (8, .inl (bz_iload 1 1)) :: (9, .inl (bz_push (.int 48) 2)) ::
  (11, .inl (bz_isub)) :: (12, .inl (bz_iast)) :: (13, .inl (bz_iload 1 1)) :: (14, .inl (bz_i2l)) :: (15, .inl (bz_push (.long 49) 3)) :: (18, .inl (bz_push (.long 57) 3)) ::
  (21, .inr (.inl (mX11_in, 3, 0))) :: (24, .inl (bz_if_eq 35)) :: (27, .inl (bz_aload 0 1)) :: (28, .inl (bz_push (.int 0) 1)) :: (29, .inr (.inl (mX11_close, 2, 11))) :: (32, .inl (bz_goto 37)) ::
  (35, .inl (bz_push (.int (-6)) 2)) :: (37, .inr (.inr 1)) :: []
def bm_X11_force : bz_M := (RX11, yX11_force, cX11_force, 2, (some .int), 1, 25, bt_X11_force)
def bt_X11_readOn : List bz_E := (0, .inl (bz_iload 1 1)) :: (1, .inl (bz_if_ne 12)) :: (4, .inl (bz_aload 0 1)) :: (5, .inl (bz_iload 2 1)) :: (6, .inr (.inl (mX11_begin, 2, 11))) :: (9, .inl (bz_goto 30)) ::
  (12, .inl (bz_iload 1 1)) :: (13, .inl (bz_push (.int 1) 1)) :: (14, .inl (bz_ic_ne 25)) :: (17, .inl (bz_aload 0 1)) :: (18, .inl (bz_iload 2 1)) :: (19, .inr (.inl (mX11_deed, 2, 11))) ::
  (22, .inl (bz_goto 30)) :: (25, .inl (bz_aload 0 1)) :: (26, .inl (bz_iload 2 1)) :: (27, .inr (.inl (mX11_force, 2, 11))) :: (30, .inr (.inr 1)) :: []
def bm_X11_readOn : bz_M := (RX11, yX11_readOn, cX11_readOn, 3, (some .int), 2, 47, bt_X11_readOn)
def bt_X11_fault : List bz_E := (0, .inl (bz_aload 0 1)) :: (1, .inl (bz_push (.int 0) 1)) :: (2, .inl (bz_putI 10 13)) :: (5, .inl (bz_push (.int 0) 1)) :: (6, .inl (bz_istore 1 1)) :: (7, .inl (bz_push (.int 0) 1)) ::
  (8, .inl (bz_istore 2 1)) :: (9, .inl (bz_iload 2 1)) :: (10, .inl (bz_aload 0 1)) :: (11, .inl (bz_getI 10 8)) :: (14, .inl (bz_ic_ge 41)) :: (17, .inl (bz_aload 0 1)) ::
  (18, .inl (bz_iload 1 1)) :: (19, .inl (bz_aload 0 1)) :: (20, .inl (bz_getR 10 7)) :: (23, .inl (bz_iload 2 1)) :: (24, .inl (bz_iald)) :: (25, .inr (.inl (mX11_readOn, 3, 11))) ::
  (28, .inl (bz_istore 1 1)) :: (29, .inl (bz_iload 1 1)) :: (30, .inl (bz_if_ge 35)) :: (33, .inl (bz_iload 2 1)) :: (34, .inr (.inr 1)) :: (35, .inl (bz_iinc 2 1)) ::
  (38, .inl (bz_goto 9)) :: (41, .inl (bz_iload 1 1)) :: (42, .inl (bz_if_ne 50)) :: (45, .inl (bz_push (.int (-6)) 2)) :: (47, .inl (bz_goto 54)) :: (50, .inl (bz_aload 0 1)) ::
  (51, .inl (bz_getI 10 8)) :: (54, .inr (.inr 1)) :: []
def bm_X11_fault : bz_M := (RX11, yX11_fault, cX11_fault, 3, (some .int), 3, 69, bt_X11_fault)
def bt_X11_touch : List bz_E := (0, .inl (bz_aload 0 1)) :: (1, .inl (bz_dup)) :: (2, .inl (bz_getI 10 17)) :: (5, .inl (bz_push (.int 1) 1)) :: (6, .inl (bz_iadd)) :: (7, .inl (bz_putI 10 17)) ::
  (10, .inl (bz_aload 0 1)) :: (11, .inl (bz_getI 10 20)) :: (14, .inl (bz_if_ge 40)) :: (17, .inl (bz_aload 0 1)) :: (18, .inl (bz_iload 1 1)) :: (19, .inl (bz_putI 10 20)) ::
  (22, .inl (bz_aload 0 1)) :: (23, .inl (bz_aload 0 1)) :: (24, .inl (bz_getI 10 18)) :: (27, .inl (bz_putI 10 19)) :: (30, .inl (bz_aload 0 1)) :: (31, .inl (bz_iload 2 1)) ::
  (32, .inl (bz_aload 0 1)) :: (33, .inl (bz_getI 10 16)) :: (36, .inl (bz_isub)) :: (37, .inl (bz_putI 10 21)) :: (40, .inl (bz_aload 0 1)) :: (41, .inl (bz_iload 1 1)) ::
  (42, .inl (bz_putI 10 14)) :: (45, .inr (.inr 0)) :: []
def bm_X11_touch : bz_M := (RX11, yX11_touch, cX11_touch, 3, none, 0, 0, bt_X11_touch)
def bt_X11_step : List bz_E := (0, .inl (bz_aload 0 1)) :: (1, .inl (bz_getR 10 0)) :: (4, .inl (bz_aload 0 1)) :: (5, .inl (bz_getI 10 14)) :: (8, .inl (bz_iald)) :: (9, .inl (bz_aload 0 1)) ::
  (10, .inl (bz_getI 10 15)) :: (13, .inr (.inl (mX11_turned, 2, 0))) :: (16, .inl (bz_istore 2 1)) :: (17, .inl (bz_aload 0 1)) :: (18, .inl (bz_dup)) :: (19, .inl (bz_getI 10 18)) ::
  (22, .inl (bz_iload 2 1)) :: (23, .inl (bz_aload 0 1)) :: (24, .inl (bz_getI 10 15)) :: (27, .inl (bz_ic_ne 34)) :: (30, .inl (bz_push (.int 0) 1)) :: (31, .inl (bz_goto 35)) ::
  (34, .inl (bz_push (.int 1) 1)) :: (35, .inl (bz_iadd)) :: (36, .inl (bz_putI 10 18)) :: (39, .inl (bz_aload 0 1)) :: (40, .inl (bz_iload 2 1)) :: (41, .inl (bz_putI 10 15)) ::
  (44, .inl (bz_aload 0 1)) :: (45, .inl (bz_dup)) :: (46, .inl (bz_getI 10 16)) :: (49, .inl (bz_push (.int 1) 1)) :: (50, .inl (bz_isub)) :: (51, .inl (bz_putI 10 16)) ::
  (54, .inl (bz_aload 0 1)) :: (55, .inl (bz_getR 10 0)) :: (58, .inl (bz_aload 0 1)) :: (59, .inl (bz_getI 10 14)) :: (62, .inl (bz_iald)) :: (63, .inl (bz_aload 0 1)) ::
  (64, .inl (bz_getI 10 15)) :: (67, .inr (.inl (mX11_ahead, 2, 0))) :: (70, .inl (bz_istore 3 1)) :: (71, .inl (bz_aload 0 1)) :: (72, .inl (bz_iload 3 1)) :: (73, .inr (.inl (mX11_ballOn, 2, 11))) ::
  (76, .inl (bz_istore 4 2)) :: (78, .inl (bz_iload 4 2)) :: (80, .inl (bz_if_lt 91)) :: (83, .inl (bz_aload 0 1)) :: (84, .inl (bz_iload 4 2)) :: (86, .inl (bz_iload 1 1)) ::
  (87, .inr (.inl (mX11_touch, 3, 11))) :: (90, .inr (.inr 0)) :: (91, .inl (bz_aload 0 1)) :: (92, .inl (bz_getR 10 0)) :: (95, .inl (bz_aload 0 1)) :: (96, .inl (bz_getI 10 14)) ::
  (99, .inl (bz_iload 3 1)) :: (100, .inl (bz_iast)) :: (101, .inl (bz_iload 3 1)) :: (102, .inr (.inl (mX11_isPocket, 1, 0))) :: (105, .inl (bz_if_eq 127)) :: (108, .inl (bz_aload 0 1)) ::
  (109, .inl (bz_getR 10 0)) :: (112, .inl (bz_aload 0 1)) :: (113, .inl (bz_getI 10 14)) :: (116, .inl (bz_push (.int (-6)) 2)) :: (118, .inl (bz_iast)) :: (119, .inl (bz_aload 0 1)) ::
  (120, .inl (bz_aload 0 1)) :: (121, .inl (bz_getI 10 14)) :: (124, .inl (bz_putI 10 22)) :: (127, .inr (.inr 0)) :: []
def bm_X11_step : bz_M := (RX11, yX11_step, cX11_step, 5, none, 2, 49, bt_X11_step)
def bt_X11_send : List bz_E := (0, .inl (bz_aload 0 1)) :: (1, .inl (bz_iload 1 1)) :: (2, .inl (bz_putI 10 14)) :: (5, .inl (bz_aload 0 1)) :: (6, .inl (bz_iload 2 1)) :: (7, .inl (bz_putI 10 15)) ::
  (10, .inl (bz_aload 0 1)) :: (11, .inl (bz_iload 3 1)) :: (12, .inl (bz_putI 10 16)) :: (15, .inl (bz_aload 0 1)) :: (16, .inl (bz_push (.int 0) 1)) :: (17, .inl (bz_putI 10 17)) ::
  (20, .inl (bz_aload 0 1)) :: (21, .inl (bz_push (.int 0) 1)) :: (22, .inl (bz_putI 10 18)) :: (25, .inl (bz_aload 0 1)) :: (26, .inl (bz_push (.int (-6)) 2)) :: (28, .inl (bz_putI 10 19)) ::
  (31, .inl (bz_aload 0 1)) :: (32, .inl (bz_push (.int (-6)) 2)) :: (34, .inl (bz_putI 10 20)) :: (37, .inl (bz_aload 0 1)) :: (38, .inl (bz_push (.int (-6)) 2)) :: (40, .inl (bz_putI 10 21)) ::
  (43, .inl (bz_aload 0 1)) :: (44, .inl (bz_push (.int (-6)) 2)) :: (46, .inl (bz_putI 10 22)) :: (49, .inl (bz_aload 0 1)) :: (50, .inl (bz_getI 10 16)) :: (53, .inl (bz_if_le 71)) ::
  (56, .inl (bz_aload 0 1)) :: (57, .inl (bz_getI 10 22)) :: (60, .inl (bz_if_ge 71)) :: (63, .inl (bz_aload 0 1)) :: (64, .inl (bz_iload 3 1)) :: (65, .inr (.inl (mX11_step, 2, 11))) ::
  (68, .inl (bz_goto 49)) :: (71, .inr (.inr 0)) :: []
def bm_X11_send : bz_M := (RX11, yX11_send, cX11_send, 4, none, 3, 73, bt_X11_send)
def bt_X11_stroke : List bz_E := (0, .inl (bz_aload 0 1)) :: (1, .inl (bz_iload 1 1)) :: (2, .inl (bz_iload 2 1)) :: (3, .inl (bz_iload 3 1)) :: (4, .inr (.inl (mX11_send, 4, 11))) :: (7, .inl (bz_aload 0 1)) ::
  (8, .inl (bz_dup)) :: (9, .inl (bz_getI 10 1)) :: (12, .inl (bz_aload 0 1)) :: (13, .inl (bz_getI 10 17)) :: (16, .inl (bz_push (.int 1) 1)) :: (17, .inl (bz_ic_le 24)) ::
  (20, .inl (bz_push (.int 2) 1)) :: (21, .inl (bz_goto 25)) :: (24, .inl (bz_push (.int 0) 1)) :: (25, .inl (bz_iadd)) :: (26, .inl (bz_putI 10 1)) :: (29, .inl (bz_aload 0 1)) ::
  (30, .inl (bz_dup)) :: (31, .inl (bz_getI 10 1)) :: (34, .inl (bz_aload 0 1)) :: (35, .inl (bz_getI 10 22)) :: (38, .inl (bz_if_lt 53)) :: (41, .inl (bz_aload 0 1)) ::
  (42, .inl (bz_getI 10 22)) :: (45, .inl (bz_iload 1 1)) :: (46, .inl (bz_ic_eq 53)) :: (49, .inl (bz_push (.int 3) 1)) :: (50, .inl (bz_goto 54)) :: (53, .inl (bz_push (.int 0) 1)) ::
  (54, .inl (bz_iadd)) :: (55, .inl (bz_putI 10 1)) :: (58, .inl (bz_aload 0 1)) :: (59, .inl (bz_dup)) :: (60, .inl (bz_getI 10 2)) :: (63, .inl (bz_aload 0 1)) ::
  (64, .inl (bz_getI 10 22)) :: (67, .inl (bz_iload 1 1)) :: (68, .inl (bz_ic_ne 75)) :: (71, .inl (bz_push (.int 1) 1)) :: (72, .inl (bz_goto 76)) :: (75, .inl (bz_push (.int 0) 1)) ::
  (76, .inl (bz_iadd)) :: (77, .inl (bz_putI 10 2)) :: (80, .inl (bz_aload 0 1)) :: (81, .inl (bz_dup)) :: (82, .inl (bz_getI 10 2)) :: (85, .inl (bz_aload 0 1)) ::
  (86, .inl (bz_getI 10 17)) :: (89, .inl (bz_if_le 103)) :: (92, .inl (bz_aload 0 1)) :: (93, .inl (bz_getI 10 19)) :: (96, .inl (bz_if_ne 103)) :: (99, .inl (bz_push (.int 1) 1)) ::
  (100, .inl (bz_goto 104)) :: (103, .inl (bz_push (.int 0) 1)) :: (104, .inl (bz_iadd)) :: (105, .inl (bz_putI 10 2)) :: (108, .inl (bz_aload 0 1)) :: (109, .inl (bz_dup)) ::
  (110, .inl (bz_getI 10 23)) :: (113, .inl (bz_aload 0 1)) :: (114, .inl (bz_getI 10 17)) :: (117, .inl (bz_iadd)) :: (118, .inl (bz_putI 10 23)) :: (121, .inl (bz_aload 0 1)) ::
  (122, .inl (bz_dup)) :: (123, .inl (bz_getI 10 24)) :: (126, .inl (bz_aload 0 1)) :: (127, .inl (bz_getI 10 18)) :: (130, .inl (bz_iadd)) :: (131, .inl (bz_putI 10 24)) ::
  (134, .inr (.inr 0)) :: []
def bm_X11_stroke : bz_M := (RX11, yX11_stroke, cX11_stroke, 4, none, 4, 96, bt_X11_stroke)
def bt_X11_columnOf : List bz_E := (0, .inl (bz_iload 0 1)) :: (1, .inl (bz_if_ge 9)) :: (4, .inl (bz_push (.int 9) 2)) :: (6, .inl (bz_goto 13)) :: (9, .inl (bz_iload 0 1)) :: (10, .inl (bz_push (.int 9) 2)) ::
  (12, .inl (bz_irem)) :: (13, .inr (.inr 1)) :: []
def bm_X11_columnOf : bz_M := (RX11, yX11_columnOf, cX11_columnOf, 1, (some .int), 0, 0, bt_X11_columnOf)
def bt_X11_drift : List bz_E := (0, .inl (bz_aload 0 1)) :: (1, .inl (bz_getR 10 0)) :: (4, .inl (bz_iload 1 1)) :: (5, .inl (bz_iald)) :: (6, .inl (bz_istore 2 1)) :: (7, .inl (bz_iload 2 1)) ::
  (8, .inl (bz_if_lt 46)) :: (11, .inl (bz_iload 2 1)) :: (12, .inl (bz_push (.int 9) 2)) :: (14, .inl (bz_irem)) :: (15, .inl (bz_if_le 46)) :: (18, .inl (bz_iload 2 1)) ::
  (19, .inl (bz_push (.int 1) 1)) :: (20, .inl (bz_isub)) :: (21, .inr (.inl (mX11_isPocket, 1, 0))) :: (24, .inl (bz_if_ne 46)) :: (27, .inl (bz_aload 0 1)) :: (28, .inl (bz_iload 2 1)) ::
  (29, .inl (bz_push (.int 1) 1)) :: (30, .inl (bz_isub)) :: (31, .inr (.inl (mX11_ballOn, 2, 11))) :: (34, .inl (bz_if_ge 46)) :: (37, .inl (bz_aload 0 1)) :: (38, .inl (bz_getR 10 0)) ::
  (41, .inl (bz_iload 1 1)) :: (42, .inl (bz_iload 2 1)) :: (43, .inl (bz_push (.int 1) 1)) :: (44, .inl (bz_isub)) :: (45, .inl (bz_iast)) :: (46, .inr (.inr 0)) :: []
def bm_X11_drift : bz_M := (RX11, yX11_drift, cX11_drift, 3, none, 1, 23, bt_X11_drift)
def bt_X11_nap : List bz_E := (0, .inl (bz_push (.int 0) 1)) :: (1, .inl (bz_istore 1 1)) :: (2, .inl (bz_iload 1 1)) :: (3, .inl (bz_push (.int 3) 1)) :: (4, .inl (bz_ic_ge 28)) :: (7, .inl (bz_aload 0 1)) ::
  (8, .inl (bz_getR 10 25)) :: (11, .inl (bz_iload 1 1)) :: (12, .inl (bz_aload 0 1)) :: (13, .inl (bz_getR 10 0)) :: (16, .inl (bz_iload 1 1)) :: (17, .inl (bz_iald)) ::
  (18, .inr (.inl (mX11_columnOf, 1, 0))) :: (21, .inl (bz_iast)) :: (22, .inl (bz_iinc 1 1)) :: (25, .inl (bz_goto 2)) :: (28, .inl (bz_push (.int 0) 1)) :: (29, .inl (bz_istore 1 1)) ::
  (30, .inl (bz_iload 1 1)) :: (31, .inl (bz_push (.int 9) 2)) :: (33, .inl (bz_ic_ge 70)) :: (36, .inl (bz_push (.int 0) 1)) :: (37, .inl (bz_istore 2 1)) :: (38, .inl (bz_iload 2 1)) ::
  (39, .inl (bz_push (.int 3) 1)) :: (40, .inl (bz_ic_ge 64)) :: (43, .inl (bz_aload 0 1)) :: (44, .inl (bz_getR 10 25)) :: (47, .inl (bz_iload 2 1)) :: (48, .inl (bz_iald)) ::
  (49, .inl (bz_iload 1 1)) :: (50, .inl (bz_ic_ne 58)) :: (53, .inl (bz_aload 0 1)) :: (54, .inl (bz_iload 2 1)) :: (55, .inr (.inl (mX11_drift, 2, 11))) :: (58, .inl (bz_iinc 2 1)) ::
  (61, .inl (bz_goto 38)) :: (64, .inl (bz_iinc 1 1)) :: (67, .inl (bz_goto 30)) :: (70, .inr (.inr 0)) :: []
def bm_X11_nap : bz_M := (RX11, yX11_nap, cX11_nap, 3, none, 2, 45, bt_X11_nap)
def bt_X11_whyNot : List bz_E := (0, .inl (bz_iload 1 1)) :: (1, .inl (bz_switch (bz_mk 0 [32, 47, 92, 77]) 92)) :: (32, .inl (bz_aload 0 1)) :: (33, .inl (bz_getR 10 0)) :: (36, .inl (bz_iload 2 1)) :: (37, .inl (bz_iald)) ::
  (38, .inl (bz_if_ge 45)) :: (41, .inl (bz_push (.int 1) 1)) :: (42, .inl (bz_goto 46)) :: (45, .inl (bz_push (.int 0) 1)) :: (46, .inr (.inr 1)) :: (47, .inl (bz_aload 0 1)) ::
  (48, .inl (bz_getR 10 0)) :: (51, .inl (bz_iload 2 1)) :: (52, .inl (bz_iald)) :: (53, .inl (bz_if_lt 60)) :: (56, .inl (bz_push (.int 1) 1)) :: (57, .inl (bz_goto 76)) ::
  (60, .inl (bz_aload 0 1)) :: (61, .inl (bz_iload 2 1)) :: (62, .inr (.inl (mX11_home, 1, 0))) :: (65, .inr (.inl (mX11_ballOn, 2, 11))) :: (68, .inl (bz_if_lt 75)) :: (71, .inl (bz_push (.int 2) 1)) ::
  (72, .inl (bz_goto 76)) :: (75, .inl (bz_push (.int 0) 1)) :: (76, .inr (.inr 1)) :: (77, .inl (bz_aload 0 1)) :: (78, .inl (bz_getI 10 3)) :: (81, .inl (bz_push (.int 99) 2)) ::
  (83, .inl (bz_ic_ne 90)) :: (86, .inl (bz_push (.int 3) 1)) :: (87, .inl (bz_goto 91)) :: (90, .inl (bz_push (.int 0) 1)) :: (91, .inr (.inr 1)) :: (92, .inl (bz_push (.int 0) 1)) ::
  (93, .inr (.inr 1)) :: []
def bm_X11_whyNot : bz_M := (RX11, yX11_whyNot, cX11_whyNot, 3, (some .int), 1, 23, bt_X11_whyNot)
def bt_X11_happen : List bz_E := (0, .inl (bz_iload 1 1)) :: (1, .inl (bz_switch (bz_mk 0 [28, 39, 52]) 59)) :: (28, .inl (bz_aload 0 1)) :: (29, .inl (bz_iload 2 1)) :: (30, .inl (bz_iload 3 1)) :: (31, .inl (bz_iload 4 2)) ::
  (33, .inr (.inl (mX11_stroke, 4, 11))) :: (36, .inl (bz_goto 69)) :: (39, .inl (bz_aload 0 1)) :: (40, .inl (bz_getR 10 0)) :: (43, .inl (bz_iload 2 1)) :: (44, .inl (bz_iload 2 1)) ::
  (45, .inr (.inl (mX11_home, 1, 0))) :: (48, .inl (bz_iast)) :: (49, .inl (bz_goto 69)) :: (52, .inl (bz_aload 0 1)) :: (53, .inr (.inl (mX11_nap, 1, 11))) :: (56, .inl (bz_goto 69)) ::
  (59, .inl (bz_aload 0 1)) :: (60, .inl (bz_dup)) :: (61, .inl (bz_getI 10 3)) :: (64, .inl (bz_push (.int 1) 1)) :: (65, .inl (bz_iadd)) :: (66, .inl (bz_putI 10 3)) ::
  (69, .inr (.inr 0)) :: []
def bm_X11_happen : bz_M := (RX11, yX11_happen, cX11_happen, 5, none, 5, 119, bt_X11_happen)
def bt_X11_keepNow : List bz_E := (0, .inl (bz_push (.int 0) 1)) :: (1, .inl (bz_istore 1 1)) :: (2, .inl (bz_iload 1 1)) :: (3, .inl (bz_push (.int 3) 1)) :: (4, .inl (bz_ic_ge 25)) :: (7, .inl (bz_aload 0 1)) ::
  (8, .inl (bz_getR 10 26)) :: (11, .inl (bz_iload 1 1)) :: (12, .inl (bz_aload 0 1)) :: (13, .inl (bz_getR 10 0)) :: (16, .inl (bz_iload 1 1)) :: (17, .inl (bz_iald)) ::
  (18, .inl (bz_iast)) :: (19, .inl (bz_iinc 1 1)) :: (22, .inl (bz_goto 2)) :: (25, .inl (bz_aload 0 1)) :: (26, .inl (bz_getR 10 26)) :: (29, .inl (bz_push (.int 3) 1)) ::
  (30, .inl (bz_aload 0 1)) :: (31, .inl (bz_getI 10 1)) :: (34, .inl (bz_iast)) :: (35, .inl (bz_aload 0 1)) :: (36, .inl (bz_getR 10 26)) :: (39, .inl (bz_push (.int 4) 1)) ::
  (40, .inl (bz_aload 0 1)) :: (41, .inl (bz_getI 10 2)) :: (44, .inl (bz_iast)) :: (45, .inl (bz_aload 0 1)) :: (46, .inl (bz_getR 10 26)) :: (49, .inl (bz_push (.int 5) 1)) ::
  (50, .inl (bz_aload 0 1)) :: (51, .inl (bz_getI 10 3)) :: (54, .inl (bz_iast)) :: (55, .inr (.inr 0)) :: []
def bm_X11_keepNow : bz_M := (RX11, yX11_keepNow, cX11_keepNow, 2, none, 0, 0, bt_X11_keepNow)
def bt_X11_back : List bz_E := (0, .inl (bz_push (.int 0) 1)) :: (1, .inl (bz_istore 2 1)) :: (2, .inl (bz_iload 2 1)) :: (3, .inl (bz_push (.int 3) 1)) :: (4, .inl (bz_ic_ge 25)) :: (7, .inl (bz_aload 0 1)) ::
  (8, .inl (bz_getR 10 0)) :: (11, .inl (bz_iload 2 1)) :: (12, .inl (bz_aload 0 1)) :: (13, .inl (bz_getR 10 26)) :: (16, .inl (bz_iload 2 1)) :: (17, .inl (bz_iald)) ::
  (18, .inl (bz_iast)) :: (19, .inl (bz_iinc 2 1)) :: (22, .inl (bz_goto 2)) :: (25, .inl (bz_aload 0 1)) :: (26, .inl (bz_aload 0 1)) :: (27, .inl (bz_getR 10 26)) ::
  (30, .inl (bz_push (.int 3) 1)) :: (31, .inl (bz_iald)) :: (32, .inl (bz_putI 10 1)) :: (35, .inl (bz_aload 0 1)) :: (36, .inl (bz_aload 0 1)) :: (37, .inl (bz_getR 10 26)) ::
  (40, .inl (bz_push (.int 4) 1)) :: (41, .inl (bz_iald)) :: (42, .inl (bz_putI 10 2)) :: (45, .inl (bz_aload 0 1)) :: (46, .inl (bz_aload 0 1)) :: (47, .inl (bz_getR 10 26)) ::
  (50, .inl (bz_push (.int 5) 1)) :: (51, .inl (bz_iald)) :: (52, .inl (bz_putI 10 3)) :: (55, .inl (bz_iload 1 1)) :: (56, .inr (.inr 1)) :: []
def bm_X11_back : bz_M := (RX11, yX11_back, cX11_back, 3, (some .int), 0, 0, bt_X11_back)
def bt_X11_goCrises : List bz_E := (0, .inl (bz_aload 0 1)) :: (1, .inl (bz_push (.int (-6)) 2)) :: (3, .inl (bz_putI 10 27)) :: (6, .inl (bz_aload 0 1)) :: (7, .inl (bz_push (.int (-6)) 2)) :: (9, .inl (bz_putI 10 28)) ::
  (12, .inl (bz_aload 0 1)) :: (13, .inl (bz_push (.int (-6)) 2)) :: (15, .inl (bz_putI 10 29)) :: (18, .inl (bz_aload 0 1)) :: (19, .inl (bz_push (.int 0) 1)) :: (20, .inl (bz_putI 10 23)) ::
  (23, .inl (bz_aload 0 1)) :: (24, .inl (bz_push (.int 0) 1)) :: (25, .inl (bz_putI 10 24)) :: (28, .inl (bz_push (.int 0) 1)) :: (29, .inl (bz_istore 1 1)) :: (30, .inl (bz_iload 1 1)) ::
  (31, .inl (bz_aload 0 1)) :: (32, .inl (bz_getI 10 13)) :: (35, .inl (bz_ic_ge 160)) :: (38, .inl (bz_aload 0 1)) :: (39, .inl (bz_getI 10 27)) :: (42, .inl (bz_if_ge 160)) ::
  (45, .inl (bz_aload 0 1)) :: (46, .inl (bz_aload 0 1)) :: (47, .inl (bz_getR 10 9)) :: (50, .inl (bz_iload 1 1)) :: (51, .inl (bz_iald)) :: (52, .inl (bz_aload 0 1)) ::
  (53, .inl (bz_getR 10 10)) :: (56, .inl (bz_iload 1 1)) :: (57, .inl (bz_iald)) :: (58, .inr (.inl (mX11_whyNot, 3, 11))) :: (61, .inl (bz_istore 2 1)) :: (62, .inl (bz_aload 0 1)) ::
  (63, .inl (bz_getI 10 2)) :: (66, .inl (bz_istore 3 1)) :: (67, .inl (bz_aload 0 1)) :: (68, .inl (bz_iload 2 1)) :: (69, .inl (bz_if_le 76)) :: (72, .inl (bz_iload 1 1)) ::
  (73, .inl (bz_goto 78)) :: (76, .inl (bz_push (.int (-6)) 2)) :: (78, .inl (bz_putI 10 27)) :: (81, .inl (bz_aload 0 1)) :: (82, .inl (bz_iload 2 1)) :: (83, .inl (bz_if_le 90)) ::
  (86, .inl (bz_iload 2 1)) :: (87, .inl (bz_goto 92)) :: (90, .inl (bz_push (.int (-6)) 2)) :: (92, .inl (bz_putI 10 28)) :: (95, .inl (bz_iload 2 1)) :: (96, .inl (bz_if_ne 127)) ::
  (99, .inl (bz_aload 0 1)) :: (100, .inl (bz_aload 0 1)) :: (101, .inl (bz_getR 10 9)) :: (104, .inl (bz_iload 1 1)) :: (105, .inl (bz_iald)) :: (106, .inl (bz_aload 0 1)) ::
  (107, .inl (bz_getR 10 10)) :: (110, .inl (bz_iload 1 1)) :: (111, .inl (bz_iald)) :: (112, .inl (bz_aload 0 1)) :: (113, .inl (bz_getR 10 11)) :: (116, .inl (bz_iload 1 1)) ::
  (117, .inl (bz_iald)) :: (118, .inl (bz_aload 0 1)) :: (119, .inl (bz_getR 10 12)) :: (122, .inl (bz_iload 1 1)) :: (123, .inl (bz_iald)) :: (124, .inr (.inl (mX11_happen, 5, 11))) ::
  (127, .inl (bz_aload 0 1)) :: (128, .inl (bz_aload 0 1)) :: (129, .inl (bz_getI 10 2)) :: (132, .inl (bz_iload 3 1)) :: (133, .inl (bz_ic_le 147)) :: (136, .inl (bz_aload 0 1)) ::
  (137, .inl (bz_getI 10 29)) :: (140, .inl (bz_if_ge 147)) :: (143, .inl (bz_iload 1 1)) :: (144, .inl (bz_goto 151)) :: (147, .inl (bz_aload 0 1)) :: (148, .inl (bz_getI 10 29)) ::
  (151, .inl (bz_putI 10 29)) :: (154, .inl (bz_iinc 1 1)) :: (157, .inl (bz_goto 30)) :: (160, .inr (.inr 0)) :: []
def bm_X11_goCrises : bz_M := (RX11, yX11_goCrises, cX11_goCrises, 4, none, 6, 143, bt_X11_goCrises)
def bt_X11_refusal : List bz_E := (0, .inl (bz_aload 0 1)) :: (1, .inr (.inl (mX11_keepNow, 1, 11))) :: (4, .inl (bz_aload 0 1)) :: (5, .inr (.inl (mX11_fault, 1, 11))) :: (8, .inl (bz_if_lt 14)) :: (11, .inl (bz_push (.int (-5)) 2)) ::
  (13, .inr (.inr 1)) :: (14, .inl (bz_aload 0 1)) :: (15, .inr (.inl (mX11_goCrises, 1, 11))) :: (18, .inl (bz_aload 0 1)) :: (19, .inl (bz_getI 10 27)) :: (22, .inl (bz_if_lt 30)) ::
  (25, .inl (bz_push (.int (-3)) 2)) :: (27, .inl (bz_goto 32)) :: (30, .inl (bz_push (.int (-6)) 2)) :: (32, .inr (.inr 1)) :: []
def bm_X11_refusal : bz_M := (RX11, yX11_refusal, cX11_refusal, 1, (some .int), 7, 166, bt_X11_refusal)
def bt_X11_judge : List bz_E := (0, .inl (bz_iload 1 1)) :: (1, .inl (bz_i2l)) :: (2, .inl (bz_push (.long 0) 1)) :: (3, .inl (bz_push (.long 2) 3)) :: (6, .inr (.inl (mX11_in, 3, 0))) :: (9, .inl (bz_if_ne 15)) ::
  (12, .inl (bz_push (.int (-2)) 2)) :: (14, .inr (.inr 1)) :: (15, .inl (bz_aload 0 1)) :: (16, .inl (bz_aload 0 1)) :: (17, .inr (.inl (mX11_refusal, 1, 11))) :: (20, .inr (.inl (mX11_back, 2, 11))) ::
  (23, .inl (bz_istore 2 1)) :: (24, .inl (bz_iload 2 1)) :: (25, .inl (bz_push (.int (-5)) 2)) :: (27, .inl (bz_ic_eq 41)) :: (30, .inl (bz_iload 1 1)) :: (31, .inl (bz_push (.int 1) 1)) ::
  (32, .inl (bz_ic_le 43)) :: (35, .inl (bz_iload 2 1)) :: (36, .inl (bz_push (.int (-3)) 2)) :: (38, .inl (bz_ic_ne 43)) :: (41, .inl (bz_iload 2 1)) :: (42, .inr (.inr 1)) ::
  (43, .inl (bz_iload 1 1)) :: (44, .inl (bz_if_ne 54)) :: (47, .inl (bz_aload 0 1)) :: (48, .inl (bz_getI 10 27)) :: (51, .inl (bz_goto 70)) :: (54, .inl (bz_iload 1 1)) ::
  (55, .inl (bz_push (.int 1) 1)) :: (56, .inl (bz_ic_ne 66)) :: (59, .inl (bz_aload 0 1)) :: (60, .inl (bz_getI 10 28)) :: (63, .inl (bz_goto 70)) :: (66, .inl (bz_aload 0 1)) ::
  (67, .inl (bz_getI 10 23)) :: (70, .inr (.inr 1)) :: []
def bm_X11_judge : bz_M := (RX11, yX11_judge, cX11_judge, 3, (some .int), 8, 186, bt_X11_judge)
def bt_X11_behind : List bz_E := (0, .inl (bz_iload 1 1)) :: (1, .inr (.inl (mX11_isBall, 1, 0))) :: (4, .inl (bz_if_ne 9)) :: (7, .inl (bz_push (.int (-1)) 1)) :: (8, .inr (.inr 1)) :: (9, .inl (bz_aload 0 1)) ::
  (10, .inr (.inl (mX11_refusal, 1, 11))) :: (13, .inl (bz_istore 2 1)) :: (14, .inl (bz_aload 0 1)) :: (15, .inl (bz_iload 2 1)) :: (16, .inl (bz_push (.int (-6)) 2)) :: (18, .inl (bz_ic_eq 25)) ::
  (21, .inl (bz_iload 2 1)) :: (22, .inl (bz_goto 31)) :: (25, .inl (bz_aload 0 1)) :: (26, .inl (bz_getR 10 0)) :: (29, .inl (bz_iload 1 1)) :: (30, .inl (bz_iald)) ::
  (31, .inr (.inl (mX11_back, 2, 11))) :: (34, .inr (.inr 1)) :: []
def bm_X11_behind : bz_M := (RX11, yX11_behind, cX11_behind, 3, (some .int), 8, 186, bt_X11_behind)
def bt_X11_downMany : List bz_E := (0, .inl (bz_push (.int 0) 1)) :: (1, .inl (bz_istore 1 1)) :: (2, .inl (bz_push (.int 0) 1)) :: (3, .inl (bz_istore 2 1)) :: (4, .inl (bz_iload 2 1)) :: (5, .inl (bz_push (.int 3) 1)) ::
  (6, .inl (bz_ic_ge 32)) :: (9, .inl (bz_iload 1 1)) :: (10, .inl (bz_aload 0 1)) :: (11, .inl (bz_getR 10 0)) :: (14, .inl (bz_iload 2 1)) :: (15, .inl (bz_iald)) ::
  (16, .inl (bz_if_ge 23)) :: (19, .inl (bz_push (.int 1) 1)) :: (20, .inl (bz_goto 24)) :: (23, .inl (bz_push (.int 0) 1)) :: (24, .inl (bz_iadd)) :: (25, .inl (bz_istore 1 1)) ::
  (26, .inl (bz_iinc 2 1)) :: (29, .inl (bz_goto 4)) :: (32, .inl (bz_iload 1 1)) :: (33, .inr (.inr 1)) :: []
def bm_X11_downMany : bz_M := (RX11, yX11_downMany, cX11_downMany, 3, (some .int), 0, 0, bt_X11_downMany)
def bt_X11_table : List bz_E := (0, .inl (bz_iload 1 1)) :: (1, .inl (bz_i2l)) :: (2, .inl (bz_push (.long 0) 1)) :: (3, .inl (bz_push (.long 3) 3)) :: (6, .inr (.inl (mX11_in, 3, 0))) :: (9, .inl (bz_if_ne 15)) ::
  (12, .inl (bz_push (.int (-2)) 2)) :: (14, .inr (.inr 1)) :: (15, .inl (bz_aload 0 1)) :: (16, .inr (.inl (mX11_refusal, 1, 11))) :: (19, .inl (bz_istore 2 1)) :: (20, .inl (bz_aload 0 1)) ::
  (21, .inl (bz_iload 2 1)) :: (22, .inl (bz_push (.int (-6)) 2)) :: (24, .inl (bz_ic_eq 31)) :: (27, .inl (bz_iload 2 1)) :: (28, .inl (bz_goto 70)) :: (31, .inl (bz_iload 1 1)) ::
  (32, .inl (bz_if_ne 42)) :: (35, .inl (bz_aload 0 1)) :: (36, .inl (bz_getI 10 1)) :: (39, .inl (bz_goto 70)) :: (42, .inl (bz_iload 1 1)) :: (43, .inl (bz_push (.int 1) 1)) ::
  (44, .inl (bz_ic_ne 54)) :: (47, .inl (bz_aload 0 1)) :: (48, .inl (bz_getI 10 2)) :: (51, .inl (bz_goto 70)) :: (54, .inl (bz_iload 1 1)) :: (55, .inl (bz_push (.int 2) 1)) ::
  (56, .inl (bz_ic_ne 66)) :: (59, .inl (bz_aload 0 1)) :: (60, .inr (.inl (mX11_downMany, 1, 11))) :: (63, .inl (bz_goto 70)) :: (66, .inl (bz_aload 0 1)) :: (67, .inl (bz_getI 10 3)) ::
  (70, .inr (.inl (mX11_back, 2, 11))) :: (73, .inr (.inr 1)) :: []
def bm_X11_table : bz_M := (RX11, yX11_table, cX11_table, 3, (some .int), 8, 186, bt_X11_table)
def bt_X11_candour : List bz_E := (0, .inl (bz_iload 1 1)) :: (1, .inl (bz_i2l)) :: (2, .inl (bz_push (.long 0) 1)) :: (3, .inl (bz_push (.long 1) 1)) :: (4, .inr (.inl (mX11_in, 3, 0))) :: (7, .inl (bz_if_ne 13)) ::
  (10, .inl (bz_push (.int (-2)) 2)) :: (12, .inr (.inr 1)) :: (13, .inl (bz_aload 0 1)) :: (14, .inl (bz_aload 0 1)) :: (15, .inr (.inl (mX11_refusal, 1, 11))) :: (18, .inr (.inl (mX11_back, 2, 11))) ::
  (21, .inl (bz_istore 2 1)) :: (22, .inl (bz_iload 2 1)) :: (23, .inl (bz_push (.int (-6)) 2)) :: (25, .inl (bz_ic_eq 32)) :: (28, .inl (bz_iload 2 1)) :: (29, .inl (bz_goto 47)) ::
  (32, .inl (bz_iload 1 1)) :: (33, .inl (bz_if_ne 43)) :: (36, .inl (bz_aload 0 1)) :: (37, .inl (bz_getI 10 29)) :: (40, .inl (bz_goto 47)) :: (43, .inl (bz_aload 0 1)) ::
  (44, .inl (bz_getI 10 24)) :: (47, .inr (.inr 1)) :: []
def bm_X11_candour : bz_M := (RX11, yX11_candour, cX11_candour, 3, (some .int), 8, 186, bt_X11_candour)
def bt_X11_done : List bz_E := (0, .inl (bz_aload 0 1)) :: (1, .inr (.inl (mX11_refusal, 1, 11))) :: (4, .inl (bz_istore 1 1)) :: (5, .inl (bz_iload 1 1)) :: (6, .inl (bz_push (.int (-6)) 2)) :: (8, .inl (bz_ic_eq 17)) ::
  (11, .inl (bz_aload 0 1)) :: (12, .inl (bz_iload 1 1)) :: (13, .inr (.inl (mX11_back, 2, 11))) :: (16, .inr (.inr 1)) :: (17, .inl (bz_aload 0 1)) :: (18, .inl (bz_push (.int 0) 1)) ::
  (19, .inl (bz_putI 10 8)) :: (22, .inl (bz_aload 0 1)) :: (23, .inl (bz_getI 10 13)) :: (26, .inr (.inr 1)) :: []
def bm_X11_done : bz_M := (RX11, yX11_done, cX11_done, 2, (some .int), 8, 186, bt_X11_done)
def bt_X11_stepsBy : List bz_E := (0, .inl (bz_aload 0 1)) :: (1, .inr (.inl (mX11_keepNow, 1, 11))) :: (4, .inl (bz_aload 0 1)) :: (5, .inl (bz_iload 1 1)) :: (6, .inl (bz_iload 4 2)) :: (8, .inl (bz_push (.int 9) 2)) ::
  (10, .inr (.inl (mX11_send, 4, 11))) :: (13, .inl (bz_aload 0 1)) :: (14, .inl (bz_getI 10 20)) :: (17, .inl (bz_iload 2 1)) :: (18, .inl (bz_ic_ne 33)) :: (21, .inl (bz_aload 0 1)) ::
  (22, .inl (bz_getI 10 19)) :: (25, .inl (bz_iload 3 1)) :: (26, .inl (bz_ic_ne 33)) :: (29, .inl (bz_push (.int 1) 1)) :: (30, .inl (bz_goto 34)) :: (33, .inl (bz_push (.int 0) 1)) ::
  (34, .inl (bz_istore 5 2)) :: (36, .inl (bz_aload 0 1)) :: (37, .inl (bz_iload 5 2)) :: (39, .inl (bz_if_eq 49)) :: (42, .inl (bz_aload 0 1)) :: (43, .inl (bz_getI 10 21)) ::
  (46, .inl (bz_goto 51)) :: (49, .inl (bz_push (.int (-6)) 2)) :: (51, .inr (.inl (mX11_back, 2, 11))) :: (54, .inr (.inr 1)) :: []
def bm_X11_stepsBy : bz_M := (RX11, yX11_stepsBy, cX11_stepsBy, 6, (some .int), 4, 96, bt_X11_stepsBy)
def bt_X11_hint : List bz_E := (0, .inl (bz_iload 1 1)) :: (1, .inr (.inl (mX11_isBall, 1, 0))) :: (4, .inl (bz_if_eq 19)) :: (7, .inl (bz_iload 2 1)) :: (8, .inr (.inl (mX11_isBall, 1, 0))) :: (11, .inl (bz_if_eq 19)) ::
  (14, .inl (bz_iload 1 1)) :: (15, .inl (bz_iload 2 1)) :: (16, .inl (bz_ic_ne 21)) :: (19, .inl (bz_push (.int (-1)) 1)) :: (20, .inr (.inr 1)) :: (21, .inl (bz_iload 3 1)) ::
  (22, .inl (bz_i2l)) :: (23, .inl (bz_push (.long 0) 1)) :: (24, .inl (bz_push (.long 4) 3)) :: (27, .inr (.inl (mX11_in, 3, 0))) :: (30, .inl (bz_if_eq 44)) :: (33, .inl (bz_iload 4 2)) ::
  (35, .inl (bz_i2l)) :: (36, .inl (bz_push (.long 0) 1)) :: (37, .inl (bz_push (.long 1) 1)) :: (38, .inr (.inl (mX11_in, 3, 0))) :: (41, .inl (bz_if_ne 47)) :: (44, .inl (bz_push (.int (-2)) 2)) ::
  (46, .inr (.inr 1)) :: (47, .inl (bz_push (.int (-6)) 2)) :: (49, .inl (bz_istore 5 2)) :: (51, .inl (bz_push (.int (-6)) 2)) :: (53, .inl (bz_istore 6 2)) :: (55, .inl (bz_push (.int 7) 2)) ::
  (57, .inl (bz_istore 7 2)) :: (59, .inl (bz_iload 7 2)) :: (61, .inl (bz_if_lt 142)) :: (64, .inl (bz_aload 0 1)) :: (65, .inl (bz_getR 10 0)) :: (68, .inl (bz_iload 1 1)) ::
  (69, .inl (bz_iald)) :: (70, .inl (bz_if_lt 142)) :: (73, .inl (bz_aload 0 1)) :: (74, .inl (bz_iload 1 1)) :: (75, .inl (bz_iload 2 1)) :: (76, .inl (bz_iload 3 1)) ::
  (77, .inl (bz_iload 7 2)) :: (79, .inr (.inl (mX11_stepsBy, 5, 11))) :: (82, .inl (bz_istore 8 2)) :: (84, .inl (bz_iload 8 2)) :: (86, .inl (bz_if_lt 105)) :: (89, .inl (bz_iload 5 2)) ::
  (91, .inl (bz_if_lt 101)) :: (94, .inl (bz_iload 8 2)) :: (96, .inl (bz_iload 5 2)) :: (98, .inl (bz_ic_gt 105)) :: (101, .inl (bz_push (.int 1) 1)) :: (102, .inl (bz_goto 106)) ::
  (105, .inl (bz_push (.int 0) 1)) :: (106, .inl (bz_istore 9 2)) :: (108, .inl (bz_iload 9 2)) :: (110, .inl (bz_if_eq 118)) :: (113, .inl (bz_iload 7 2)) :: (115, .inl (bz_goto 120)) ::
  (118, .inl (bz_iload 6 2)) :: (120, .inl (bz_istore 6 2)) :: (122, .inl (bz_iload 9 2)) :: (124, .inl (bz_if_eq 132)) :: (127, .inl (bz_iload 8 2)) :: (129, .inl (bz_goto 134)) ::
  (132, .inl (bz_iload 5 2)) :: (134, .inl (bz_istore 5 2)) :: (136, .inl (bz_iinc 7 (-1))) :: (139, .inl (bz_goto 59)) :: (142, .inl (bz_iload 4 2)) :: (144, .inl (bz_if_ne 152)) ::
  (147, .inl (bz_iload 5 2)) :: (149, .inl (bz_goto 154)) :: (152, .inl (bz_iload 6 2)) :: (154, .inr (.inr 1)) :: []
def bm_X11_hint : bz_M := (RX11, yX11_hint, cX11_hint, 10, (some .int), 5, 121, bt_X11_hint)
def bt_X11_next : List bz_E := (0, .inl (bz_iload 0 1)) :: (1, .inl (bz_push (.int 10) 2)) :: (3, .inl (bz_idiv)) :: (4, .inl (bz_iload 0 1)) :: (5, .inl (bz_push (.int 10) 2)) :: (7, .inl (bz_irem)) ::
  (8, .inr (.inl (mX11_turned, 2, 0))) :: (11, .inl (bz_istore 1 1)) :: (12, .inl (bz_push (.int 10) 2)) :: (14, .inl (bz_iload 0 1)) :: (15, .inl (bz_push (.int 10) 2)) :: (17, .inl (bz_idiv)) ::
  (18, .inl (bz_iload 1 1)) :: (19, .inr (.inl (mX11_ahead, 2, 0))) :: (22, .inl (bz_imul)) :: (23, .inl (bz_iload 1 1)) :: (24, .inl (bz_iadd)) :: (25, .inr (.inr 1)) :: []
def bm_X11_next : bz_M := (RX11, yX11_next, cX11_next, 2, (some .int), 2, 49, bt_X11_next)
def bt_X11_behindSteps : List bz_E := (0, .inl (bz_iload 0 1)) :: (1, .inl (bz_istore 2 1)) :: (2, .inl (bz_push (.int 0) 1)) :: (3, .inl (bz_istore 3 1)) :: (4, .inl (bz_iload 3 1)) :: (5, .inl (bz_iload 1 1)) ::
  (6, .inl (bz_ic_ge 20)) :: (9, .inl (bz_iload 2 1)) :: (10, .inr (.inl (mX11_next, 1, 0))) :: (13, .inl (bz_istore 2 1)) :: (14, .inl (bz_iinc 3 1)) :: (17, .inl (bz_goto 4)) ::
  (20, .inl (bz_iload 2 1)) :: (21, .inr (.inr 1)) :: []
def bm_X11_behindSteps : bz_M := (RX11, yX11_behindSteps, cX11_behindSteps, 4, (some .int), 3, 70, bt_X11_behindSteps)
def bt_X11_metMany : List bz_E := (0, .inl (bz_push (.int 0) 1)) :: (1, .inl (bz_istore 2 1)) :: (2, .inl (bz_iload 2 1)) :: (3, .inl (bz_push (.int 45) 2)) :: (5, .inl (bz_ic_ge 21)) :: (8, .inl (bz_aload 0 1)) ::
  (9, .inl (bz_getR 10 30)) :: (12, .inl (bz_iload 2 1)) :: (13, .inl (bz_push (.int 0) 1)) :: (14, .inl (bz_zast)) :: (15, .inl (bz_iinc 2 1)) :: (18, .inl (bz_goto 2)) ::
  (21, .inl (bz_iload 1 1)) :: (22, .inl (bz_istore 2 1)) :: (23, .inl (bz_push (.int 0) 1)) :: (24, .inl (bz_istore 3 1)) :: (25, .inl (bz_push (.int 0) 1)) :: (26, .inl (bz_istore 4 2)) ::
  (28, .inl (bz_iload 4 2)) :: (30, .inl (bz_push (.int 400) 3)) :: (33, .inl (bz_ic_ge 77)) :: (36, .inl (bz_iload 3 1)) :: (37, .inl (bz_aload 0 1)) :: (38, .inl (bz_getR 10 30)) ::
  (41, .inl (bz_iload 2 1)) :: (42, .inl (bz_push (.int 10) 2)) :: (44, .inl (bz_idiv)) :: (45, .inl (bz_zald)) :: (46, .inl (bz_if_eq 53)) :: (49, .inl (bz_push (.int 0) 1)) ::
  (50, .inl (bz_goto 54)) :: (53, .inl (bz_push (.int 1) 1)) :: (54, .inl (bz_iadd)) :: (55, .inl (bz_istore 3 1)) :: (56, .inl (bz_aload 0 1)) :: (57, .inl (bz_getR 10 30)) ::
  (60, .inl (bz_iload 2 1)) :: (61, .inl (bz_push (.int 10) 2)) :: (63, .inl (bz_idiv)) :: (64, .inl (bz_push (.int 1) 1)) :: (65, .inl (bz_zast)) :: (66, .inl (bz_iload 2 1)) ::
  (67, .inr (.inl (mX11_next, 1, 0))) :: (70, .inl (bz_istore 2 1)) :: (71, .inl (bz_iinc 4 1)) :: (74, .inl (bz_goto 28)) :: (77, .inl (bz_iload 3 1)) :: (78, .inr (.inr 1)) :: []
def bm_X11_metMany : bz_M := (RX11, yX11_metMany, cX11_metMany, 5, (some .int), 3, 70, bt_X11_metMany)
def bt_X11_stepsBack : List bz_E := (0, .inl (bz_iload 0 1)) :: (1, .inr (.inl (mX11_next, 1, 0))) :: (4, .inl (bz_istore 1 1)) :: (5, .inl (bz_push (.int 1) 1)) :: (6, .inl (bz_istore 2 1)) :: (7, .inl (bz_iload 2 1)) ::
  (8, .inl (bz_push (.int 400) 3)) :: (11, .inl (bz_ic_ge 32)) :: (14, .inl (bz_iload 1 1)) :: (15, .inl (bz_iload 0 1)) :: (16, .inl (bz_ic_ne 21)) :: (19, .inl (bz_iload 2 1)) ::
  (20, .inr (.inr 1)) :: (21, .inl (bz_iload 1 1)) :: (22, .inr (.inl (mX11_next, 1, 0))) :: (25, .inl (bz_istore 1 1)) :: (26, .inl (bz_iinc 2 1)) :: (29, .inl (bz_goto 7)) ::
  (32, .inl (bz_push (.int (-6)) 2)) :: (34, .inr (.inr 1)) :: []
def bm_X11_stepsBack : bz_M := (RX11, yX11_stepsBack, cX11_stepsBack, 3, (some .int), 3, 70, bt_X11_stepsBack)
def bt_X11_alone : List bz_E := (0, .inl (bz_iload 1 1)) :: (1, .inr (.inl (mX11_isPlace, 1, 0))) :: (4, .inl (bz_if_ne 9)) :: (7, .inl (bz_push (.int (-1)) 1)) :: (8, .inr (.inr 1)) :: (9, .inl (bz_iload 2 1)) ::
  (10, .inl (bz_i2l)) :: (11, .inl (bz_push (.long 0) 1)) :: (12, .inl (bz_push (.long 7) 3)) :: (15, .inr (.inl (mX11_in, 3, 0))) :: (18, .inl (bz_if_eq 46)) :: (21, .inl (bz_iload 3 1)) ::
  (22, .inl (bz_i2l)) :: (23, .inl (bz_push (.long 0) 1)) :: (24, .inl (bz_push (.long 99999) 3)) :: (27, .inr (.inl (mX11_in, 3, 0))) :: (30, .inl (bz_if_eq 46)) :: (33, .inl (bz_iload 4 2)) ::
  (35, .inl (bz_i2l)) :: (36, .inl (bz_push (.long 0) 1)) :: (37, .inl (bz_push (.long 2) 3)) :: (40, .inr (.inl (mX11_in, 3, 0))) :: (43, .inl (bz_if_ne 49)) :: (46, .inl (bz_push (.int (-2)) 2)) ::
  (48, .inr (.inr 1)) :: (49, .inl (bz_push (.int 10) 2)) :: (51, .inl (bz_iload 1 1)) :: (52, .inl (bz_imul)) :: (53, .inl (bz_iload 2 1)) :: (54, .inl (bz_iadd)) ::
  (55, .inl (bz_istore 5 2)) :: (57, .inl (bz_iload 4 2)) :: (59, .inl (bz_if_ne 74)) :: (62, .inl (bz_iload 5 2)) :: (64, .inl (bz_iload 3 1)) :: (65, .inr (.inl (mX11_behindSteps, 2, 0))) ::
  (68, .inl (bz_push (.int 10) 2)) :: (70, .inl (bz_idiv)) :: (71, .inl (bz_goto 94)) :: (74, .inl (bz_iload 4 2)) :: (76, .inl (bz_push (.int 1) 1)) :: (77, .inl (bz_ic_ne 88)) ::
  (80, .inl (bz_iload 5 2)) :: (82, .inr (.inl (mX11_stepsBack, 1, 0))) :: (85, .inl (bz_goto 94)) :: (88, .inl (bz_aload 0 1)) :: (89, .inl (bz_iload 5 2)) :: (91, .inr (.inl (mX11_metMany, 2, 11))) ::
  (94, .inr (.inr 1)) :: []
def bm_X11_alone : bz_M := (RX11, yX11_alone, cX11_alone, 6, (some .int), 4, 94, bt_X11_alone)
def bt_X11_leadsTo : List bz_E := (0, .inl (bz_push (.int 10) 2)) :: (2, .inl (bz_iload 1 1)) :: (3, .inl (bz_imul)) :: (4, .inl (bz_iload 2 1)) :: (5, .inl (bz_iadd)) :: (6, .inl (bz_istore 4 2)) ::
  (8, .inl (bz_push (.int 0) 1)) :: (9, .inl (bz_istore 5 2)) :: (11, .inl (bz_push (.int 0) 1)) :: (12, .inl (bz_istore 6 2)) :: (14, .inl (bz_push (.int 1) 1)) :: (15, .inl (bz_istore 7 2)) ::
  (17, .inl (bz_iload 7 2)) :: (19, .inl (bz_push (.int 9) 2)) :: (21, .inl (bz_ic_gt 83)) :: (24, .inl (bz_iload 6 2)) :: (26, .inl (bz_if_ne 83)) :: (29, .inl (bz_iload 4 2)) ::
  (31, .inr (.inl (mX11_next, 1, 0))) :: (34, .inl (bz_istore 4 2)) :: (36, .inl (bz_iload 4 2)) :: (38, .inl (bz_push (.int 10) 2)) :: (40, .inl (bz_idiv)) :: (41, .inr (.inl (mX11_isPocket, 1, 0))) ::
  (44, .inl (bz_istore 6 2)) :: (46, .inl (bz_iload 5 2)) :: (48, .inl (bz_if_ne 70)) :: (51, .inl (bz_iload 6 2)) :: (53, .inl (bz_if_ne 74)) :: (56, .inl (bz_aload 0 1)) ::
  (57, .inl (bz_getR 10 31)) :: (60, .inl (bz_iload 4 2)) :: (62, .inl (bz_push (.int 10) 2)) :: (64, .inl (bz_idiv)) :: (65, .inl (bz_iald)) :: (66, .inl (bz_iload 3 1)) ::
  (67, .inl (bz_ic_ne 74)) :: (70, .inl (bz_push (.int 1) 1)) :: (71, .inl (bz_goto 75)) :: (74, .inl (bz_push (.int 0) 1)) :: (75, .inl (bz_istore 5 2)) :: (77, .inl (bz_iinc 7 1)) ::
  (80, .inl (bz_goto 17)) :: (83, .inl (bz_iload 5 2)) :: (85, .inr (.inr 3)) :: []
def bm_X11_leadsTo : bz_M := (RX11, yX11_leadsTo, cX11_leadsTo, 8, (some .boolean), 3, 70, bt_X11_leadsTo)
def bt_X11_wayTo : List bz_E := (0, .inl (bz_push (.int (-6)) 2)) :: (2, .inl (bz_istore 3 1)) :: (3, .inl (bz_push (.int 7) 2)) :: (5, .inl (bz_istore 4 2)) :: (7, .inl (bz_iload 4 2)) :: (9, .inl (bz_if_lt 36)) ::
  (12, .inl (bz_aload 0 1)) :: (13, .inl (bz_iload 1 1)) :: (14, .inl (bz_iload 4 2)) :: (16, .inl (bz_iload 2 1)) :: (17, .inr (.inl (mX11_leadsTo, 4, 11))) :: (20, .inl (bz_if_eq 28)) ::
  (23, .inl (bz_iload 4 2)) :: (25, .inl (bz_goto 29)) :: (28, .inl (bz_iload 3 1)) :: (29, .inl (bz_istore 3 1)) :: (30, .inl (bz_iinc 4 (-1))) :: (33, .inl (bz_goto 7)) ::
  (36, .inl (bz_iload 3 1)) :: (37, .inr (.inr 1)) :: []
def bm_X11_wayTo : bz_M := (RX11, yX11_wayTo, cX11_wayTo, 5, (some .int), 4, 97, bt_X11_wayTo)
def bt_X11_findFar : List bz_E := (0, .inl (bz_push (.int 0) 1)) :: (1, .inl (bz_istore 2 1)) :: (2, .inl (bz_push (.int 0) 1)) :: (3, .inl (bz_istore 3 1)) :: (4, .inl (bz_iload 3 1)) :: (5, .inl (bz_push (.int 45) 2)) ::
  (7, .inl (bz_ic_ge 86)) :: (10, .inl (bz_aload 0 1)) :: (11, .inl (bz_getR 10 31)) :: (14, .inl (bz_iload 3 1)) :: (15, .inl (bz_iald)) :: (16, .inl (bz_if_ge 41)) ::
  (19, .inl (bz_iload 3 1)) :: (20, .inr (.inl (mX11_isPocket, 1, 0))) :: (23, .inl (bz_if_ne 41)) :: (26, .inl (bz_aload 0 1)) :: (27, .inl (bz_iload 3 1)) :: (28, .inl (bz_iload 1 1)) ::
  (29, .inl (bz_push (.int 1) 1)) :: (30, .inl (bz_isub)) :: (31, .inr (.inl (mX11_wayTo, 3, 11))) :: (34, .inl (bz_if_lt 41)) :: (37, .inl (bz_push (.int 1) 1)) :: (38, .inl (bz_goto 42)) ::
  (41, .inl (bz_push (.int 0) 1)) :: (42, .inl (bz_istore 4 2)) :: (44, .inl (bz_aload 0 1)) :: (45, .inl (bz_getR 10 31)) :: (48, .inl (bz_iload 3 1)) :: (49, .inl (bz_iload 4 2)) ::
  (51, .inl (bz_if_eq 58)) :: (54, .inl (bz_iload 1 1)) :: (55, .inl (bz_goto 64)) :: (58, .inl (bz_aload 0 1)) :: (59, .inl (bz_getR 10 31)) :: (62, .inl (bz_iload 3 1)) ::
  (63, .inl (bz_iald)) :: (64, .inl (bz_iast)) :: (65, .inl (bz_iload 2 1)) :: (66, .inl (bz_if_ne 74)) :: (69, .inl (bz_iload 4 2)) :: (71, .inl (bz_if_eq 78)) ::
  (74, .inl (bz_push (.int 1) 1)) :: (75, .inl (bz_goto 79)) :: (78, .inl (bz_push (.int 0) 1)) :: (79, .inl (bz_istore 2 1)) :: (80, .inl (bz_iinc 3 1)) :: (83, .inl (bz_goto 4)) ::
  (86, .inl (bz_iload 2 1)) :: (87, .inr (.inr 3)) :: []
def bm_X11_findFar : bz_M := (RX11, yX11_findFar, cX11_findFar, 5, (some .boolean), 5, 121, bt_X11_findFar)
def bt_X11_strokes : List bz_E := (0, .inl (bz_iload 1 1)) :: (1, .inr (.inl (mX11_isPlace, 1, 0))) :: (4, .inl (bz_if_eq 14)) :: (7, .inl (bz_iload 2 1)) :: (8, .inr (.inl (mX11_isPlace, 1, 0))) :: (11, .inl (bz_if_ne 16)) ::
  (14, .inl (bz_push (.int (-1)) 1)) :: (15, .inr (.inr 1)) :: (16, .inl (bz_iload 3 1)) :: (17, .inl (bz_i2l)) :: (18, .inl (bz_push (.long 0) 1)) :: (19, .inl (bz_push (.long 1) 1)) ::
  (20, .inr (.inl (mX11_in, 3, 0))) :: (23, .inl (bz_if_ne 29)) :: (26, .inl (bz_push (.int (-2)) 2)) :: (28, .inr (.inr 1)) :: (29, .inl (bz_push (.int 0) 1)) :: (30, .inl (bz_istore 4 2)) ::
  (32, .inl (bz_iload 4 2)) :: (34, .inl (bz_push (.int 45) 2)) :: (36, .inl (bz_ic_ge 64)) :: (39, .inl (bz_aload 0 1)) :: (40, .inl (bz_getR 10 31)) :: (43, .inl (bz_iload 4 2)) ::
  (45, .inl (bz_iload 4 2)) :: (47, .inl (bz_iload 2 1)) :: (48, .inl (bz_ic_ne 55)) :: (51, .inl (bz_push (.int 0) 1)) :: (52, .inl (bz_goto 57)) :: (55, .inl (bz_push (.int (-6)) 2)) ::
  (57, .inl (bz_iast)) :: (58, .inl (bz_iinc 4 1)) :: (61, .inl (bz_goto 32)) :: (64, .inl (bz_push (.int 1) 1)) :: (65, .inl (bz_istore 4 2)) :: (67, .inl (bz_push (.int 1) 1)) ::
  (68, .inl (bz_istore 5 2)) :: (70, .inl (bz_iload 4 2)) :: (72, .inl (bz_if_eq 89)) :: (75, .inl (bz_aload 0 1)) :: (76, .inl (bz_iload 5 2)) :: (78, .inr (.inl (mX11_findFar, 2, 11))) ::
  (81, .inl (bz_istore 4 2)) :: (83, .inl (bz_iinc 5 1)) :: (86, .inl (bz_goto 70)) :: (89, .inl (bz_iload 3 1)) :: (90, .inl (bz_if_ne 102)) :: (93, .inl (bz_aload 0 1)) ::
  (94, .inl (bz_getR 10 31)) :: (97, .inl (bz_iload 1 1)) :: (98, .inl (bz_iald)) :: (99, .inl (bz_goto 130)) :: (102, .inl (bz_aload 0 1)) :: (103, .inl (bz_getR 10 31)) ::
  (106, .inl (bz_iload 1 1)) :: (107, .inl (bz_iald)) :: (108, .inl (bz_push (.int 1) 1)) :: (109, .inl (bz_ic_ge 117)) :: (112, .inl (bz_push (.int (-6)) 2)) :: (114, .inl (bz_goto 130)) ::
  (117, .inl (bz_aload 0 1)) :: (118, .inl (bz_iload 1 1)) :: (119, .inl (bz_aload 0 1)) :: (120, .inl (bz_getR 10 31)) :: (123, .inl (bz_iload 1 1)) :: (124, .inl (bz_iald)) ::
  (125, .inl (bz_push (.int 1) 1)) :: (126, .inl (bz_isub)) :: (127, .inr (.inl (mX11_wayTo, 3, 11))) :: (130, .inr (.inr 1)) :: []
def bm_X11_strokes : bz_M := (RX11, yX11_strokes, cX11_strokes, 6, (some .int), 6, 145, bt_X11_strokes)
def bt_X11_seen : List bz_E := (0, .inl (bz_iload 2 1)) :: (1, .inr (.inl (mX11_isCell, 1, 0))) :: (4, .inl (bz_if_ne 9)) :: (7, .inl (bz_push (.int (-1)) 1)) :: (8, .inr (.inr 1)) :: (9, .inl (bz_iload 1 1)) ::
  (10, .inl (bz_i2l)) :: (11, .inl (bz_push (.long 0) 1)) :: (12, .inl (bz_push (.long 60) 3)) :: (15, .inr (.inl (mX11_in, 3, 0))) :: (18, .inl (bz_if_ne 24)) :: (21, .inl (bz_push (.int (-2)) 2)) ::
  (23, .inr (.inr 1)) :: (24, .inl (bz_aload 0 1)) :: (25, .inl (bz_getI 10 6)) :: (28, .inl (bz_push (.int 8) 2)) :: (30, .inl (bz_ic_ne 36)) :: (33, .inl (bz_push (.int (-4)) 2)) ::
  (35, .inr (.inr 1)) :: (36, .inl (bz_aload 0 1)) :: (37, .inl (bz_getR 10 4)) :: (40, .inl (bz_aload 0 1)) :: (41, .inl (bz_getI 10 6)) :: (44, .inl (bz_iload 1 1)) ::
  (45, .inl (bz_iast)) :: (46, .inl (bz_aload 0 1)) :: (47, .inl (bz_getR 10 5)) :: (50, .inl (bz_aload 0 1)) :: (51, .inl (bz_getI 10 6)) :: (54, .inl (bz_iload 2 1)) ::
  (55, .inl (bz_iast)) :: (56, .inl (bz_aload 0 1)) :: (57, .inl (bz_dup)) :: (58, .inl (bz_getI 10 6)) :: (61, .inl (bz_push (.int 1) 1)) :: (62, .inl (bz_iadd)) ::
  (63, .inl (bz_putI 10 6)) :: (66, .inl (bz_aload 0 1)) :: (67, .inl (bz_getI 10 6)) :: (70, .inr (.inr 1)) :: []
def bm_X11_seen : bz_M := (RX11, yX11_seen, cX11_seen, 3, (some .int), 2, 45, bt_X11_seen)
def bt_X11_forget : List bz_E := (0, .inl (bz_aload 0 1)) :: (1, .inl (bz_getI 10 6)) :: (4, .inl (bz_istore 1 1)) :: (5, .inl (bz_aload 0 1)) :: (6, .inl (bz_push (.int 0) 1)) :: (7, .inl (bz_putI 10 6)) ::
  (10, .inl (bz_iload 1 1)) :: (11, .inr (.inr 1)) :: []
def bm_X11_forget : bz_M := (RX11, yX11_forget, cX11_forget, 2, (some .int), 0, 0, bt_X11_forget)
def bt_X11_isFit : List bz_E := (0, .inl (bz_iload 1 1)) :: (1, .inl (bz_push (.int 10) 2)) :: (3, .inl (bz_irem)) :: (4, .inl (bz_push (.int 8) 2)) :: (6, .inl (bz_ic_ge 23)) :: (9, .inl (bz_iload 1 1)) ::
  (10, .inl (bz_push (.int 10) 2)) :: (12, .inl (bz_idiv)) :: (13, .inr (.inl (mX11_isPocket, 1, 0))) :: (16, .inl (bz_if_ne 23)) :: (19, .inl (bz_push (.int 1) 1)) :: (20, .inl (bz_goto 24)) ::
  (23, .inl (bz_push (.int 0) 1)) :: (24, .inl (bz_istore 2 1)) :: (25, .inl (bz_push (.int 0) 1)) :: (26, .inl (bz_istore 3 1)) :: (27, .inl (bz_iload 3 1)) :: (28, .inl (bz_aload 0 1)) ::
  (29, .inl (bz_getI 10 6)) :: (32, .inl (bz_ic_ge 73)) :: (35, .inl (bz_iload 2 1)) :: (36, .inl (bz_if_eq 73)) :: (39, .inl (bz_iload 1 1)) :: (40, .inl (bz_aload 0 1)) ::
  (41, .inl (bz_getR 10 4)) :: (44, .inl (bz_iload 3 1)) :: (45, .inl (bz_iald)) :: (46, .inr (.inl (mX11_behindSteps, 2, 0))) :: (49, .inl (bz_push (.int 10) 2)) :: (51, .inl (bz_idiv)) ::
  (52, .inl (bz_aload 0 1)) :: (53, .inl (bz_getR 10 5)) :: (56, .inl (bz_iload 3 1)) :: (57, .inl (bz_iald)) :: (58, .inl (bz_ic_ne 65)) :: (61, .inl (bz_push (.int 1) 1)) ::
  (62, .inl (bz_goto 66)) :: (65, .inl (bz_push (.int 0) 1)) :: (66, .inl (bz_istore 2 1)) :: (67, .inl (bz_iinc 3 1)) :: (70, .inl (bz_goto 27)) :: (73, .inl (bz_iload 2 1)) ::
  (74, .inr (.inr 3)) :: []
def bm_X11_isFit : bz_M := (RX11, yX11_isFit, cX11_isFit, 4, (some .boolean), 4, 93, bt_X11_isFit)
def bt_X11_findFits : List bz_E := (0, .inl (bz_aload 0 1)) :: (1, .inl (bz_push (.int 0) 1)) :: (2, .inl (bz_putI 10 34)) :: (5, .inl (bz_push (.int 0) 1)) :: (6, .inl (bz_istore 1 1)) :: (7, .inl (bz_iload 1 1)) ::
  (8, .inl (bz_push (.int 450) 3)) :: (11, .inl (bz_ic_ge 58)) :: (14, .inl (bz_aload 0 1)) :: (15, .inl (bz_iload 1 1)) :: (16, .inr (.inl (mX11_isFit, 2, 11))) :: (19, .inl (bz_if_eq 52)) ::
  (22, .inl (bz_aload 0 1)) :: (23, .inl (bz_getR 10 32)) :: (26, .inl (bz_aload 0 1)) :: (27, .inl (bz_getI 10 34)) :: (30, .inl (bz_iload 1 1)) :: (31, .inl (bz_iast)) ::
  (32, .inl (bz_aload 0 1)) :: (33, .inl (bz_getR 10 33)) :: (36, .inl (bz_aload 0 1)) :: (37, .inl (bz_getI 10 34)) :: (40, .inl (bz_iload 1 1)) :: (41, .inl (bz_iast)) ::
  (42, .inl (bz_aload 0 1)) :: (43, .inl (bz_dup)) :: (44, .inl (bz_getI 10 34)) :: (47, .inl (bz_push (.int 1) 1)) :: (48, .inl (bz_iadd)) :: (49, .inl (bz_putI 10 34)) ::
  (52, .inl (bz_iinc 1 1)) :: (55, .inl (bz_goto 7)) :: (58, .inr (.inr 0)) :: []
def bm_X11_findFits : bz_M := (RX11, yX11_findFits, cX11_findFits, 2, none, 5, 116, bt_X11_findFits)
def bt_X11_sent : List bz_E := (0, .inl (bz_aload 0 1)) :: (1, .inr (.inl (mX11_findFits, 1, 11))) :: (4, .inl (bz_iload 1 1)) :: (5, .inl (bz_push (.int (-1)) 1)) :: (6, .inl (bz_ic_ne 16)) :: (9, .inl (bz_aload 0 1)) ::
  (10, .inl (bz_getI 10 34)) :: (13, .inl (bz_goto 43)) :: (16, .inl (bz_iload 1 1)) :: (17, .inl (bz_i2l)) :: (18, .inl (bz_push (.long 0) 1)) :: (19, .inl (bz_aload 0 1)) ::
  (20, .inl (bz_getI 10 34)) :: (23, .inl (bz_push (.int 1) 1)) :: (24, .inl (bz_isub)) :: (25, .inl (bz_i2l)) :: (26, .inr (.inl (mX11_in, 3, 0))) :: (29, .inl (bz_if_eq 41)) ::
  (32, .inl (bz_aload 0 1)) :: (33, .inl (bz_getR 10 32)) :: (36, .inl (bz_iload 1 1)) :: (37, .inl (bz_iald)) :: (38, .inl (bz_goto 43)) :: (41, .inl (bz_push (.int (-6)) 2)) ::
  (43, .inr (.inr 1)) :: []
def bm_X11_sent : bz_M := (RX11, yX11_sent, cX11_sent, 2, (some .int), 6, 137, bt_X11_sent)
def bt_X11_mostNow : List bz_E := (0, .inl (bz_push (.int 0) 1)) :: (1, .inl (bz_istore 1 1)) :: (2, .inl (bz_push (.int 0) 1)) :: (3, .inl (bz_istore 2 1)) :: (4, .inl (bz_iload 2 1)) :: (5, .inl (bz_push (.int 45) 2)) ::
  (7, .inl (bz_ic_ge 23)) :: (10, .inl (bz_aload 0 1)) :: (11, .inl (bz_getR 10 35)) :: (14, .inl (bz_iload 2 1)) :: (15, .inl (bz_push (.int 0) 1)) :: (16, .inl (bz_iast)) ::
  (17, .inl (bz_iinc 2 1)) :: (20, .inl (bz_goto 4)) :: (23, .inl (bz_push (.int 0) 1)) :: (24, .inl (bz_istore 2 1)) :: (25, .inl (bz_iload 2 1)) :: (26, .inl (bz_aload 0 1)) ::
  (27, .inl (bz_getI 10 34)) :: (30, .inl (bz_ic_ge 95)) :: (33, .inl (bz_aload 0 1)) :: (34, .inl (bz_getR 10 33)) :: (37, .inl (bz_iload 2 1)) :: (38, .inl (bz_iald)) ::
  (39, .inl (bz_push (.int 10) 2)) :: (41, .inl (bz_idiv)) :: (42, .inl (bz_istore 3 1)) :: (43, .inl (bz_aload 0 1)) :: (44, .inl (bz_getR 10 35)) :: (47, .inl (bz_iload 3 1)) ::
  (48, .inl (bz_dup2)) :: (49, .inl (bz_iald)) :: (50, .inl (bz_push (.int 1) 1)) :: (51, .inl (bz_iadd)) :: (52, .inl (bz_iast)) :: (53, .inl (bz_aload 0 1)) ::
  (54, .inl (bz_getR 10 35)) :: (57, .inl (bz_iload 3 1)) :: (58, .inl (bz_iald)) :: (59, .inl (bz_iload 1 1)) :: (60, .inl (bz_ic_le 72)) :: (63, .inl (bz_aload 0 1)) ::
  (64, .inl (bz_getR 10 35)) :: (67, .inl (bz_iload 3 1)) :: (68, .inl (bz_iald)) :: (69, .inl (bz_goto 73)) :: (72, .inl (bz_iload 1 1)) :: (73, .inl (bz_istore 1 1)) ::
  (74, .inl (bz_aload 0 1)) :: (75, .inl (bz_getR 10 33)) :: (78, .inl (bz_iload 2 1)) :: (79, .inl (bz_aload 0 1)) :: (80, .inl (bz_getR 10 33)) :: (83, .inl (bz_iload 2 1)) ::
  (84, .inl (bz_iald)) :: (85, .inr (.inl (mX11_next, 1, 0))) :: (88, .inl (bz_iast)) :: (89, .inl (bz_iinc 2 1)) :: (92, .inl (bz_goto 25)) :: (95, .inl (bz_iload 1 1)) ::
  (96, .inr (.inr 1)) :: []
def bm_X11_mostNow : bz_M := (RX11, yX11_mostNow, cX11_mostNow, 4, (some .int), 3, 70, bt_X11_mostNow)
def bt_X11_ask : List bz_E := (0, .inl (bz_iload 1 1)) :: (1, .inl (bz_i2l)) :: (2, .inl (bz_push (.long 0) 1)) :: (3, .inl (bz_push (.long 1) 1)) :: (4, .inr (.inl (mX11_in, 3, 0))) :: (7, .inl (bz_if_ne 13)) ::
  (10, .inl (bz_push (.int (-2)) 2)) :: (12, .inr (.inr 1)) :: (13, .inl (bz_aload 0 1)) :: (14, .inr (.inl (mX11_findFits, 1, 11))) :: (17, .inl (bz_push (.int (-6)) 2)) :: (19, .inl (bz_istore 2 1)) ::
  (20, .inl (bz_aload 0 1)) :: (21, .inl (bz_getI 10 34)) :: (24, .inl (bz_push (.int 1) 1)) :: (25, .inl (bz_iadd)) :: (26, .inl (bz_istore 3 1)) :: (27, .inl (bz_push (.int 0) 1)) ::
  (28, .inl (bz_istore 4 2)) :: (30, .inl (bz_iload 4 2)) :: (32, .inl (bz_push (.int 60) 2)) :: (34, .inl (bz_ic_gt 82)) :: (37, .inl (bz_aload 0 1)) :: (38, .inl (bz_getI 10 34)) ::
  (41, .inl (bz_if_le 82)) :: (44, .inl (bz_aload 0 1)) :: (45, .inr (.inl (mX11_mostNow, 1, 11))) :: (48, .inl (bz_istore 5 2)) :: (50, .inl (bz_iload 5 2)) :: (52, .inl (bz_iload 3 1)) ::
  (53, .inl (bz_ic_ge 61)) :: (56, .inl (bz_iload 4 2)) :: (58, .inl (bz_goto 62)) :: (61, .inl (bz_iload 2 1)) :: (62, .inl (bz_istore 2 1)) :: (63, .inl (bz_iload 5 2)) ::
  (65, .inl (bz_iload 3 1)) :: (66, .inl (bz_ic_ge 74)) :: (69, .inl (bz_iload 5 2)) :: (71, .inl (bz_goto 75)) :: (74, .inl (bz_iload 3 1)) :: (75, .inl (bz_istore 3 1)) ::
  (76, .inl (bz_iinc 4 1)) :: (79, .inl (bz_goto 30)) :: (82, .inl (bz_iload 2 1)) :: (83, .inl (bz_if_lt 90)) :: (86, .inl (bz_iload 1 1)) :: (87, .inl (bz_if_ne 94)) ::
  (90, .inl (bz_iload 2 1)) :: (91, .inl (bz_goto 95)) :: (94, .inl (bz_iload 3 1)) :: (95, .inr (.inr 1)) :: []
def bm_X11_ask : bz_M := (RX11, yX11_ask, cX11_ask, 6, (some .int), 6, 137, bt_X11_ask)
def bt_X11_digit : List bz_E := (0, .inl (bz_iload 1 1)) :: (1, .inl (bz_if_ne 11)) :: (4, .inl (bz_iload 0 1)) :: (5, .inl (bz_push (.int 100) 2)) :: (7, .inl (bz_idiv)) :: (8, .inl (bz_goto 30)) ::
  (11, .inl (bz_iload 1 1)) :: (12, .inl (bz_push (.int 1) 1)) :: (13, .inl (bz_ic_ne 26)) :: (16, .inl (bz_iload 0 1)) :: (17, .inl (bz_push (.int 10) 2)) :: (19, .inl (bz_idiv)) ::
  (20, .inl (bz_push (.int 10) 2)) :: (22, .inl (bz_irem)) :: (23, .inl (bz_goto 30)) :: (26, .inl (bz_iload 0 1)) :: (27, .inl (bz_push (.int 10) 2)) :: (29, .inl (bz_irem)) ::
  (30, .inr (.inr 1)) :: []
def bm_X11_digit : bz_M := (RX11, yX11_digit, cX11_digit, 2, (some .int), 0, 0, bt_X11_digit)
def bt_X11_tenTo : List bz_E := (0, .inl (bz_iload 0 1)) :: (1, .inl (bz_if_ne 9)) :: (4, .inl (bz_push (.int 100) 2)) :: (6, .inl (bz_goto 20)) :: (9, .inl (bz_iload 0 1)) :: (10, .inl (bz_push (.int 1) 1)) ::
  (11, .inl (bz_ic_ne 19)) :: (14, .inl (bz_push (.int 10) 2)) :: (16, .inl (bz_goto 20)) :: (19, .inl (bz_push (.int 1) 1)) :: (20, .inr (.inr 1)) :: []
def bm_X11_tenTo : bz_M := (RX11, yX11_tenTo, cX11_tenTo, 1, (some .int), 0, 0, bt_X11_tenTo)
def bt_X11_leastTake : List bz_E := (0, .inl (bz_iload 2 1)) :: (1, .inl (bz_push (.int 1) 1)) :: (2, .inl (bz_ic_ne 25)) :: (5, .inl (bz_iload 1 1)) :: (6, .inl (bz_if_le 25)) :: (9, .inl (bz_aload 0 1)) ::
  (10, .inl (bz_getR 10 36)) :: (13, .inl (bz_push (.int 2) 1)) :: (14, .inl (bz_iload 1 1)) :: (15, .inl (bz_imul)) :: (16, .inl (bz_zald)) :: (17, .inl (bz_if_ne 25)) ::
  (20, .inl (bz_push (.int 99) 2)) :: (22, .inl (bz_goto 27)) :: (25, .inl (bz_push (.int (-6)) 2)) :: (27, .inl (bz_istore 3 1)) :: (28, .inl (bz_push (.int 2) 1)) :: (29, .inl (bz_istore 4 2)) ::
  (31, .inl (bz_iload 4 2)) :: (33, .inl (bz_if_lt 100)) :: (36, .inl (bz_iload 1 1)) :: (37, .inl (bz_iload 4 2)) :: (39, .inr (.inl (mX11_digit, 2, 0))) :: (42, .inl (bz_istore 5 2)) ::
  (44, .inl (bz_iload 5 2)) :: (46, .inl (bz_if_le 94)) :: (49, .inl (bz_iload 1 1)) :: (50, .inl (bz_iload 5 2)) :: (52, .inl (bz_iload 4 2)) :: (54, .inr (.inl (mX11_tenTo, 1, 0))) ::
  (57, .inl (bz_imul)) :: (58, .inl (bz_isub)) :: (59, .inl (bz_istore 6 2)) :: (61, .inl (bz_aload 0 1)) :: (62, .inl (bz_getR 10 36)) :: (65, .inl (bz_push (.int 2) 1)) ::
  (66, .inl (bz_iload 6 2)) :: (68, .inl (bz_imul)) :: (69, .inl (bz_iload 2 1)) :: (70, .inl (bz_iadd)) :: (71, .inl (bz_zald)) :: (72, .inl (bz_if_eq 79)) ::
  (75, .inl (bz_iload 3 1)) :: (76, .inl (bz_goto 87)) :: (79, .inl (bz_push (.int 10) 2)) :: (81, .inl (bz_iload 4 2)) :: (83, .inl (bz_imul)) :: (84, .inl (bz_iload 5 2)) ::
  (86, .inl (bz_iadd)) :: (87, .inl (bz_istore 3 1)) :: (88, .inl (bz_iinc 5 (-1))) :: (91, .inl (bz_goto 44)) :: (94, .inl (bz_iinc 4 (-1))) :: (97, .inl (bz_goto 31)) ::
  (100, .inl (bz_iload 3 1)) :: (101, .inr (.inr 1)) :: []
def bm_X11_leastTake : bz_M := (RX11, yX11_leastTake, cX11_leastTake, 7, (some .int), 1, 21, bt_X11_leastTake)
def bt_X11_chalk : List bz_E := (0, .inl (bz_iload 1 1)) :: (1, .inl (bz_i2l)) :: (2, .inl (bz_push (.long 0) 1)) :: (3, .inl (bz_push (.long 999) 3)) :: (6, .inr (.inl (mX11_in, 3, 0))) :: (9, .inl (bz_if_eq 32)) ::
  (12, .inl (bz_iload 2 1)) :: (13, .inl (bz_i2l)) :: (14, .inl (bz_push (.long 0) 1)) :: (15, .inl (bz_push (.long 1) 1)) :: (16, .inr (.inl (mX11_in, 3, 0))) :: (19, .inl (bz_if_eq 32)) ::
  (22, .inl (bz_iload 3 1)) :: (23, .inl (bz_i2l)) :: (24, .inl (bz_push (.long 0) 1)) :: (25, .inl (bz_push (.long 1) 1)) :: (26, .inr (.inl (mX11_in, 3, 0))) :: (29, .inl (bz_if_ne 35)) ::
  (32, .inl (bz_push (.int (-2)) 2)) :: (34, .inr (.inr 1)) :: (35, .inl (bz_push (.int 0) 1)) :: (36, .inl (bz_istore 4 2)) :: (38, .inl (bz_iload 4 2)) :: (40, .inl (bz_iload 1 1)) ::
  (41, .inl (bz_ic_gt 100)) :: (44, .inl (bz_aload 0 1)) :: (45, .inl (bz_getR 10 36)) :: (48, .inl (bz_push (.int 2) 1)) :: (49, .inl (bz_iload 4 2)) :: (51, .inl (bz_imul)) ::
  (52, .inl (bz_aload 0 1)) :: (53, .inl (bz_iload 4 2)) :: (55, .inl (bz_push (.int 0) 1)) :: (56, .inr (.inl (mX11_leastTake, 3, 11))) :: (59, .inl (bz_if_lt 66)) :: (62, .inl (bz_push (.int 1) 1)) ::
  (63, .inl (bz_goto 67)) :: (66, .inl (bz_push (.int 0) 1)) :: (67, .inl (bz_zast)) :: (68, .inl (bz_aload 0 1)) :: (69, .inl (bz_getR 10 36)) :: (72, .inl (bz_push (.int 2) 1)) ::
  (73, .inl (bz_iload 4 2)) :: (75, .inl (bz_imul)) :: (76, .inl (bz_push (.int 1) 1)) :: (77, .inl (bz_iadd)) :: (78, .inl (bz_aload 0 1)) :: (79, .inl (bz_iload 4 2)) ::
  (81, .inl (bz_push (.int 1) 1)) :: (82, .inr (.inl (mX11_leastTake, 3, 11))) :: (85, .inl (bz_if_lt 92)) :: (88, .inl (bz_push (.int 1) 1)) :: (89, .inl (bz_goto 93)) :: (92, .inl (bz_push (.int 0) 1)) ::
  (93, .inl (bz_zast)) :: (94, .inl (bz_iinc 4 1)) :: (97, .inl (bz_goto 38)) :: (100, .inl (bz_aload 0 1)) :: (101, .inl (bz_iload 1 1)) :: (102, .inl (bz_iload 2 1)) ::
  (103, .inr (.inl (mX11_leastTake, 3, 11))) :: (106, .inl (bz_istore 4 2)) :: (108, .inl (bz_iload 3 1)) :: (109, .inl (bz_push (.int 1) 1)) :: (110, .inl (bz_ic_ne 118)) :: (113, .inl (bz_iload 4 2)) ::
  (115, .inl (bz_goto 128)) :: (118, .inl (bz_iload 4 2)) :: (120, .inl (bz_if_ge 127)) :: (123, .inl (bz_push (.int 0) 1)) :: (124, .inl (bz_goto 128)) :: (127, .inl (bz_push (.int 1) 1)) ::
  (128, .inr (.inr 1)) :: []
def bm_X11_chalk : bz_M := (RX11, yX11_chalk, cX11_chalk, 5, (some .int), 2, 47, bt_X11_chalk)
def bt_X11_lowest : List bz_E := (0, .inl (bz_lload 2 1)) :: (1, .inl (bz_lstore 5 2)) :: (3, .inl (bz_lload 0 1)) :: (4, .inl (bz_lstore 7 2)) :: (6, .inl (bz_lload 7 2)) :: (8, .inl (bz_push (.long 0) 1)) ::
  (9, .inl (bz_lcmp)) :: (10, .inl (bz_if_eq 31)) :: (13, .inl (bz_lload 5 2)) :: (15, .inl (bz_lload 7 2)) :: (17, .inl (bz_lrem)) :: (18, .inl (bz_lstore 9 2)) ::
  (20, .inl (bz_lload 7 2)) :: (22, .inl (bz_lstore 5 2)) :: (24, .inl (bz_lload 9 2)) :: (26, .inl (bz_lstore 7 2)) :: (28, .inl (bz_goto 6)) :: (31, .inl (bz_iload 4 2)) ::
  (33, .inl (bz_if_ne 43)) :: (36, .inl (bz_lload 0 1)) :: (37, .inl (bz_lload 5 2)) :: (39, .inl (bz_ldiv)) :: (40, .inl (bz_goto 47)) :: (43, .inl (bz_lload 2 1)) ::
  (44, .inl (bz_lload 5 2)) :: (46, .inl (bz_ldiv)) :: (47, .inr (.inr 2)) :: []
def bm_X11_lowest : bz_M := (RX11, yX11_lowest, cX11_lowest, 11, (some .long), 0, 0, bt_X11_lowest)
def bt_X11_power : List bz_E := (0, .inl (bz_push (.long 1) 1)) :: (1, .inl (bz_lstore 3 1)) :: (2, .inl (bz_push (.int 0) 1)) :: (3, .inl (bz_istore 5 2)) :: (5, .inl (bz_iload 5 2)) :: (7, .inl (bz_iload 2 1)) ::
  (8, .inl (bz_ic_ge 21)) :: (11, .inl (bz_lload 3 1)) :: (12, .inl (bz_lload 0 1)) :: (13, .inl (bz_lmul)) :: (14, .inl (bz_lstore 3 1)) :: (15, .inl (bz_iinc 5 1)) ::
  (18, .inl (bz_goto 5)) :: (21, .inl (bz_lload 3 1)) :: (22, .inr (.inr 2)) :: []
def bm_X11_power : bz_M := (RX11, yX11_power, cX11_power, 6, (some .long), 0, 0, bt_X11_power)
def bt_X11_findChance : List bz_E := (0, .inl (bz_push (.int 0) 1)) :: (1, .inl (bz_istore 5 2)) :: (3, .inl (bz_iload 5 2)) :: (5, .inl (bz_push (.int 81) 2)) :: (7, .inl (bz_ic_ge 40)) :: (10, .inl (bz_aload 0 1)) ::
  (11, .inl (bz_getR 10 37)) :: (14, .inl (bz_iload 5 2)) :: (16, .inl (bz_iload 5 2)) :: (18, .inl (bz_push (.int 9) 2)) :: (20, .inl (bz_iload 3 1)) :: (21, .inl (bz_imul)) ::
  (22, .inl (bz_iload 4 2)) :: (24, .inl (bz_iadd)) :: (25, .inl (bz_ic_ne 32)) :: (28, .inl (bz_push (.long 1) 1)) :: (29, .inl (bz_goto 33)) :: (32, .inl (bz_push (.long 0) 1)) ::
  (33, .inl (bz_last)) :: (34, .inl (bz_iinc 5 1)) :: (37, .inl (bz_goto 3)) :: (40, .inl (bz_iload 3 1)) :: (41, .inl (bz_istore 5 2)) :: (43, .inl (bz_iload 5 2)) ::
  (45, .inl (bz_iload 1 1)) :: (46, .inl (bz_ic_ge 143)) :: (49, .inl (bz_iload 4 2)) :: (51, .inl (bz_istore 6 2)) :: (53, .inl (bz_iload 6 2)) :: (55, .inl (bz_iload 1 1)) ::
  (56, .inl (bz_ic_ge 137)) :: (59, .inl (bz_aload 0 1)) :: (60, .inl (bz_getR 10 37)) :: (63, .inl (bz_push (.int 9) 2)) :: (65, .inl (bz_iload 5 2)) :: (67, .inl (bz_push (.int 1) 1)) ::
  (68, .inl (bz_iadd)) :: (69, .inl (bz_imul)) :: (70, .inl (bz_iload 6 2)) :: (72, .inl (bz_iadd)) :: (73, .inl (bz_dup2)) :: (74, .inl (bz_lald)) ::
  (75, .inl (bz_iload 2 1)) :: (76, .inl (bz_i2l)) :: (77, .inl (bz_aload 0 1)) :: (78, .inl (bz_getR 10 37)) :: (81, .inl (bz_push (.int 9) 2)) :: (83, .inl (bz_iload 5 2)) ::
  (85, .inl (bz_imul)) :: (86, .inl (bz_iload 6 2)) :: (88, .inl (bz_iadd)) :: (89, .inl (bz_lald)) :: (90, .inl (bz_lmul)) :: (91, .inl (bz_ladd)) ::
  (92, .inl (bz_last)) :: (93, .inl (bz_aload 0 1)) :: (94, .inl (bz_getR 10 37)) :: (97, .inl (bz_push (.int 9) 2)) :: (99, .inl (bz_iload 5 2)) :: (101, .inl (bz_imul)) ::
  (102, .inl (bz_iload 6 2)) :: (104, .inl (bz_iadd)) :: (105, .inl (bz_push (.int 1) 1)) :: (106, .inl (bz_iadd)) :: (107, .inl (bz_dup2)) :: (108, .inl (bz_lald)) ::
  (109, .inl (bz_push (.long 10) 3)) :: (112, .inl (bz_iload 2 1)) :: (113, .inl (bz_i2l)) :: (114, .inl (bz_lsub)) :: (115, .inl (bz_aload 0 1)) :: (116, .inl (bz_getR 10 37)) ::
  (119, .inl (bz_push (.int 9) 2)) :: (121, .inl (bz_iload 5 2)) :: (123, .inl (bz_imul)) :: (124, .inl (bz_iload 6 2)) :: (126, .inl (bz_iadd)) :: (127, .inl (bz_lald)) ::
  (128, .inl (bz_lmul)) :: (129, .inl (bz_ladd)) :: (130, .inl (bz_last)) :: (131, .inl (bz_iinc 6 1)) :: (134, .inl (bz_goto 53)) :: (137, .inl (bz_iinc 5 1)) ::
  (140, .inl (bz_goto 43)) :: (143, .inr (.inr 0)) :: []
def bm_X11_findChance : bz_M := (RX11, yX11_findChance, cX11_findChance, 7, none, 0, 0, bt_X11_findChance)
set_option maxRecDepth 100000 in
def bt_X11_match : List bz_E := (0, .inl (bz_iload 1 1)) :: (1, .inl (bz_i2l)) :: (2, .inl (bz_push (.long 1) 1)) :: (3, .inl (bz_push (.long 8) 3)) :: (6, .inr (.inl (mX11_in, 3, 0))) :: (9, .inl (bz_if_eq 73)) ::
  (12, .inl (bz_iload 2 1)) :: (13, .inl (bz_i2l)) :: (14, .inl (bz_push (.long 0) 1)) :: (15, .inl (bz_push (.long 10) 3)) :: (18, .inr (.inl (mX11_in, 3, 0))) :: (21, .inl (bz_if_eq 73)) ::
  (24, .inl (bz_iload 3 1)) :: (25, .inl (bz_i2l)) :: (26, .inl (bz_push (.long 0) 1)) :: (27, .inl (bz_iload 1 1)) :: (28, .inl (bz_push (.int 1) 1)) :: (29, .inl (bz_isub)) ::
  (30, .inl (bz_i2l)) :: (31, .inr (.inl (mX11_in, 3, 0))) :: (34, .inl (bz_if_eq 73)) :: (37, .inl (bz_iload 4 2)) :: (39, .inl (bz_i2l)) :: (40, .inl (bz_push (.long 0) 1)) ::
  (41, .inl (bz_iload 1 1)) :: (42, .inl (bz_push (.int 1) 1)) :: (43, .inl (bz_isub)) :: (44, .inl (bz_i2l)) :: (45, .inr (.inl (mX11_in, 3, 0))) :: (48, .inl (bz_if_eq 73)) ::
  (51, .inl (bz_iload 5 2)) :: (53, .inl (bz_i2l)) :: (54, .inl (bz_push (.long 0) 1)) :: (55, .inl (bz_push (.long 1) 1)) :: (56, .inr (.inl (mX11_in, 3, 0))) :: (59, .inl (bz_if_eq 73)) ::
  (62, .inl (bz_iload 6 2)) :: (64, .inl (bz_i2l)) :: (65, .inl (bz_push (.long 0) 1)) :: (66, .inl (bz_push (.long 1) 1)) :: (67, .inr (.inl (mX11_in, 3, 0))) :: (70, .inl (bz_if_ne 77)) ::
  (73, .inl (bz_push (.long (-1000000000000000002)) 3)) :: (76, .inr (.inr 2)) :: (77, .inl (bz_aload 0 1)) :: (78, .inl (bz_iload 1 1)) :: (79, .inl (bz_iload 2 1)) :: (80, .inl (bz_iload 3 1)) ::
  (81, .inl (bz_iload 4 2)) :: (83, .inr (.inl (mX11_findChance, 5, 11))) :: (86, .inl (bz_iload 1 1)) :: (87, .inl (bz_iload 3 1)) :: (88, .inl (bz_isub)) :: (89, .inl (bz_iload 1 1)) ::
  (90, .inl (bz_iadd)) :: (91, .inl (bz_iload 4 2)) :: (93, .inl (bz_isub)) :: (94, .inl (bz_push (.int 1) 1)) :: (95, .inl (bz_isub)) :: (96, .inl (bz_istore 7 2)) ::
  (98, .inl (bz_push (.long 0) 1)) :: (99, .inl (bz_lstore 8 2)) :: (101, .inl (bz_push (.long 0) 1)) :: (102, .inl (bz_lstore 10 2)) :: (104, .inl (bz_iload 4 2)) :: (106, .inl (bz_istore 12 2)) ::
  (108, .inl (bz_iload 12 2)) :: (110, .inl (bz_iload 1 1)) :: (111, .inl (bz_ic_ge 193)) :: (114, .inl (bz_iload 1 1)) :: (115, .inl (bz_iload 3 1)) :: (116, .inl (bz_isub)) ::
  (117, .inl (bz_iload 12 2)) :: (119, .inl (bz_iadd)) :: (120, .inl (bz_iload 4 2)) :: (122, .inl (bz_isub)) :: (123, .inl (bz_istore 13 2)) :: (125, .inl (bz_lload 8 2)) ::
  (127, .inl (bz_aload 0 1)) :: (128, .inl (bz_getR 10 37)) :: (131, .inl (bz_push (.int 9) 2)) :: (133, .inl (bz_iload 1 1)) :: (134, .inl (bz_imul)) :: (135, .inl (bz_iload 12 2)) ::
  (137, .inl (bz_iadd)) :: (138, .inl (bz_lald)) :: (139, .inl (bz_push (.long 10) 3)) :: (142, .inl (bz_iload 7 2)) :: (144, .inl (bz_iload 13 2)) :: (146, .inl (bz_isub)) ::
  (147, .inr (.inl (mX11_power, 2, 0))) :: (150, .inl (bz_lmul)) :: (151, .inl (bz_ladd)) :: (152, .inl (bz_lstore 8 2)) :: (154, .inl (bz_lload 10 2)) :: (156, .inl (bz_iload 13 2)) ::
  (158, .inl (bz_i2l)) :: (159, .inl (bz_aload 0 1)) :: (160, .inl (bz_getR 10 37)) :: (163, .inl (bz_push (.int 9) 2)) :: (165, .inl (bz_iload 1 1)) :: (166, .inl (bz_imul)) ::
  (167, .inl (bz_iload 12 2)) :: (169, .inl (bz_iadd)) :: (170, .inl (bz_lald)) :: (171, .inl (bz_lmul)) :: (172, .inl (bz_push (.long 10) 3)) :: (175, .inl (bz_iload 7 2)) ::
  (177, .inl (bz_iload 13 2)) :: (179, .inl (bz_isub)) :: (180, .inr (.inl (mX11_power, 2, 0))) :: (183, .inl (bz_lmul)) :: (184, .inl (bz_ladd)) :: (185, .inl (bz_lstore 10 2)) ::
  (187, .inl (bz_iinc 12 1)) :: (190, .inl (bz_goto 108)) :: (193, .inl (bz_iload 3 1)) :: (194, .inl (bz_istore 12 2)) :: (196, .inl (bz_iload 12 2)) :: (198, .inl (bz_iload 1 1)) ::
  (199, .inl (bz_ic_ge 252)) :: (202, .inl (bz_iload 12 2)) :: (204, .inl (bz_iload 3 1)) :: (205, .inl (bz_isub)) :: (206, .inl (bz_iload 1 1)) :: (207, .inl (bz_iadd)) ::
  (208, .inl (bz_iload 4 2)) :: (210, .inl (bz_isub)) :: (211, .inl (bz_istore 13 2)) :: (213, .inl (bz_lload 10 2)) :: (215, .inl (bz_iload 13 2)) :: (217, .inl (bz_i2l)) ::
  (218, .inl (bz_aload 0 1)) :: (219, .inl (bz_getR 10 37)) :: (222, .inl (bz_push (.int 9) 2)) :: (224, .inl (bz_iload 12 2)) :: (226, .inl (bz_imul)) :: (227, .inl (bz_iload 1 1)) ::
  (228, .inl (bz_iadd)) :: (229, .inl (bz_lald)) :: (230, .inl (bz_lmul)) :: (231, .inl (bz_push (.long 10) 3)) :: (234, .inl (bz_iload 7 2)) :: (236, .inl (bz_iload 13 2)) ::
  (238, .inl (bz_isub)) :: (239, .inr (.inl (mX11_power, 2, 0))) :: (242, .inl (bz_lmul)) :: (243, .inl (bz_ladd)) :: (244, .inl (bz_lstore 10 2)) :: (246, .inl (bz_iinc 12 1)) ::
  (249, .inl (bz_goto 196)) :: (252, .inl (bz_iload 5 2)) :: (254, .inl (bz_if_ne 262)) :: (257, .inl (bz_lload 8 2)) :: (259, .inl (bz_goto 264)) :: (262, .inl (bz_lload 10 2)) ::
  (264, .inl (bz_push (.long 10) 3)) :: (267, .inl (bz_iload 7 2)) :: (269, .inr (.inl (mX11_power, 2, 0))) :: (272, .inl (bz_iload 6 2)) :: (274, .inr (.inl (mX11_lowest, 3, 0))) :: (277, .inr (.inr 2)) :: []
def bm_X11_match : bz_M := (RX11, yX11_match, cX11_match, 14, (some .long), 1, 30, bt_X11_match)
def bt_X11_actBy : List bz_E := (0, .inl (bz_iload 0 1)) :: (1, .inl (bz_push (.int 5) 1)) :: (2, .inl (bz_ic_ge 9)) :: (5, .inl (bz_push (.int 0) 1)) :: (6, .inl (bz_goto 29)) :: (9, .inl (bz_iload 0 1)) ::
  (10, .inl (bz_push (.int 5) 1)) :: (11, .inl (bz_ic_ne 18)) :: (14, .inl (bz_push (.int 1) 1)) :: (15, .inl (bz_goto 29)) :: (18, .inl (bz_iload 0 1)) :: (19, .inl (bz_push (.int 6) 2)) ::
  (21, .inl (bz_ic_ne 28)) :: (24, .inl (bz_push (.int 2) 1)) :: (25, .inl (bz_goto 29)) :: (28, .inl (bz_push (.int 3) 1)) :: (29, .inr (.inr 1)) :: []
def bm_X11_actBy : bz_M := (RX11, yX11_actBy, cX11_actBy, 1, (some .int), 0, 0, bt_X11_actBy)
def bt_X11_season : List bz_E := (0, .inl (bz_iload 1 1)) :: (1, .inl (bz_i2l)) :: (2, .inl (bz_push (.long 0) 1)) :: (3, .inl (bz_push (.long 9999) 3)) :: (6, .inr (.inl (mX11_in, 3, 0))) :: (9, .inl (bz_if_eq 36)) ::
  (12, .inl (bz_iload 2 1)) :: (13, .inl (bz_i2l)) :: (14, .inl (bz_push (.long 1) 1)) :: (15, .inl (bz_push (.long 99) 3)) :: (18, .inr (.inl (mX11_in, 3, 0))) :: (21, .inl (bz_if_eq 36)) ::
  (24, .inl (bz_iload 3 1)) :: (25, .inl (bz_i2l)) :: (26, .inl (bz_push (.long 0) 1)) :: (27, .inl (bz_push (.long 2) 3)) :: (30, .inr (.inl (mX11_in, 3, 0))) :: (33, .inl (bz_if_ne 39)) ::
  (36, .inl (bz_push (.int (-2)) 2)) :: (38, .inr (.inr 1)) :: (39, .inl (bz_aload 0 1)) :: (40, .inr (.inl (mX11_keepNow, 1, 11))) :: (43, .inl (bz_iload 1 1)) :: (44, .inl (bz_istore 4 2)) ::
  (46, .inl (bz_push (.int 0) 1)) :: (47, .inl (bz_istore 5 2)) :: (49, .inl (bz_iload 5 2)) :: (51, .inl (bz_iload 2 1)) :: (52, .inl (bz_ic_ge 136)) :: (55, .inl (bz_push (.long 75) 3)) ::
  (58, .inl (bz_iload 4 2)) :: (60, .inl (bz_i2l)) :: (61, .inl (bz_lmul)) :: (62, .inl (bz_push (.long 74) 3)) :: (65, .inl (bz_ladd)) :: (66, .inl (bz_push (.long 65537) 3)) ::
  (69, .inl (bz_lrem)) :: (70, .inl (bz_l2i)) :: (71, .inl (bz_istore 4 2)) :: (73, .inl (bz_iload 4 2)) :: (75, .inl (bz_push (.int 3) 1)) :: (76, .inl (bz_idiv)) ::
  (77, .inl (bz_push (.int 8) 2)) :: (79, .inl (bz_irem)) :: (80, .inr (.inl (mX11_actBy, 1, 0))) :: (83, .inl (bz_istore 6 2)) :: (85, .inl (bz_iload 4 2)) :: (87, .inl (bz_push (.int 24) 2)) ::
  (89, .inl (bz_idiv)) :: (90, .inl (bz_istore 7 2)) :: (92, .inl (bz_aload 0 1)) :: (93, .inl (bz_iload 6 2)) :: (95, .inl (bz_iload 4 2)) :: (97, .inl (bz_push (.int 3) 1)) ::
  (98, .inl (bz_irem)) :: (99, .inr (.inl (mX11_whyNot, 3, 11))) :: (102, .inl (bz_if_ne 130)) :: (105, .inl (bz_aload 0 1)) :: (106, .inl (bz_iload 6 2)) :: (108, .inl (bz_iload 4 2)) ::
  (110, .inl (bz_push (.int 3) 1)) :: (111, .inl (bz_irem)) :: (112, .inl (bz_iload 7 2)) :: (114, .inl (bz_push (.int 8) 2)) :: (116, .inl (bz_irem)) :: (117, .inl (bz_push (.int 1) 1)) ::
  (118, .inl (bz_iload 7 2)) :: (120, .inl (bz_push (.int 8) 2)) :: (122, .inl (bz_idiv)) :: (123, .inl (bz_push (.int 9) 2)) :: (125, .inl (bz_irem)) :: (126, .inl (bz_iadd)) ::
  (127, .inr (.inl (mX11_happen, 5, 11))) :: (130, .inl (bz_iinc 5 1)) :: (133, .inl (bz_goto 49)) :: (136, .inl (bz_aload 0 1)) :: (137, .inl (bz_iload 3 1)) :: (138, .inl (bz_if_ne 148)) ::
  (141, .inl (bz_aload 0 1)) :: (142, .inl (bz_getI 10 1)) :: (145, .inl (bz_goto 164)) :: (148, .inl (bz_iload 3 1)) :: (149, .inl (bz_push (.int 1) 1)) :: (150, .inl (bz_ic_ne 160)) ::
  (153, .inl (bz_aload 0 1)) :: (154, .inl (bz_getI 10 2)) :: (157, .inl (bz_goto 164)) :: (160, .inl (bz_aload 0 1)) :: (161, .inr (.inl (mX11_downMany, 1, 11))) :: (164, .inr (.inl (mX11_back, 2, 11))) ::
  (167, .inr (.inr 1)) :: []
def bm_X11_season : bz_M := (RX11, yX11_season, cX11_season, 8, (some .int), 6, 143, bt_X11_season)
def bt_X11_pass : List bz_E := (0, .inl (bz_aload 0 1)) :: (1, .inl (bz_getI 10 41)) :: (4, .inl (bz_if_eq 11)) :: (7, .inl (bz_iload 1 1)) :: (8, .inl (bz_goto 20)) :: (11, .inl (bz_aload 0 1)) ::
  (12, .inl (bz_getR 10 38)) :: (15, .inl (bz_aload 0 1)) :: (16, .inl (bz_getI 10 40)) :: (19, .inl (bz_iald)) :: (20, .inl (bz_istore 2 1)) :: (21, .inl (bz_aload 0 1)) ::
  (22, .inl (bz_getR 10 38)) :: (25, .inl (bz_aload 0 1)) :: (26, .inl (bz_getI 10 40)) :: (29, .inl (bz_iload 2 1)) :: (30, .inl (bz_iast)) :: (31, .inl (bz_aload 0 1)) ::
  (32, .inl (bz_dup)) :: (33, .inl (bz_getI 10 40)) :: (36, .inl (bz_push (.int 1) 1)) :: (37, .inl (bz_iadd)) :: (38, .inl (bz_putI 10 40)) :: (41, .inl (bz_iload 2 1)) ::
  (42, .inr (.inr 1)) :: []
def bm_X11_pass : bz_M := (RX11, yX11_pass, cX11_pass, 3, (some .int), 0, 0, bt_X11_pass)
def bt_X11_passRow : List bz_E := (0, .inl (bz_push (.int 0) 1)) :: (1, .inl (bz_istore 3 1)) :: (2, .inl (bz_iload 3 1)) :: (3, .inl (bz_iload 2 1)) :: (4, .inl (bz_ic_ge 23)) :: (7, .inl (bz_aload 1 1)) ::
  (8, .inl (bz_iload 3 1)) :: (9, .inl (bz_aload 0 1)) :: (10, .inl (bz_aload 1 1)) :: (11, .inl (bz_iload 3 1)) :: (12, .inl (bz_iald)) :: (13, .inr (.inl (mX11_pass, 2, 11))) ::
  (16, .inl (bz_iast)) :: (17, .inl (bz_iinc 3 1)) :: (20, .inl (bz_goto 2)) :: (23, .inr (.inr 0)) :: []
def bm_X11_passRow : bz_M := (RX11, yX11_passRow, cX11_passRow, 4, none, 1, 22, bt_X11_passRow)
def bt_X11_passAll : List bz_E := (0, .inl (bz_aload 0 1)) :: (1, .inl (bz_aload 0 1)) :: (2, .inl (bz_aload 0 1)) :: (3, .inl (bz_getI 10 1)) :: (6, .inr (.inl (mX11_pass, 2, 11))) :: (9, .inl (bz_putI 10 1)) ::
  (12, .inl (bz_aload 0 1)) :: (13, .inl (bz_aload 0 1)) :: (14, .inl (bz_aload 0 1)) :: (15, .inl (bz_getI 10 2)) :: (18, .inr (.inl (mX11_pass, 2, 11))) :: (21, .inl (bz_putI 10 2)) ::
  (24, .inl (bz_aload 0 1)) :: (25, .inl (bz_aload 0 1)) :: (26, .inl (bz_aload 0 1)) :: (27, .inl (bz_getI 10 3)) :: (30, .inr (.inl (mX11_pass, 2, 11))) :: (33, .inl (bz_putI 10 3)) ::
  (36, .inl (bz_aload 0 1)) :: (37, .inl (bz_aload 0 1)) :: (38, .inl (bz_aload 0 1)) :: (39, .inl (bz_getI 10 6)) :: (42, .inr (.inl (mX11_pass, 2, 11))) :: (45, .inl (bz_putI 10 6)) ::
  (48, .inl (bz_aload 0 1)) :: (49, .inl (bz_aload 0 1)) :: (50, .inl (bz_getR 10 0)) :: (53, .inl (bz_push (.int 3) 1)) :: (54, .inr (.inl (mX11_passRow, 3, 11))) :: (57, .inl (bz_aload 0 1)) ::
  (58, .inl (bz_aload 0 1)) :: (59, .inl (bz_getR 10 4)) :: (62, .inl (bz_push (.int 8) 2)) :: (64, .inr (.inl (mX11_passRow, 3, 11))) :: (67, .inl (bz_aload 0 1)) :: (68, .inl (bz_aload 0 1)) ::
  (69, .inl (bz_getR 10 5)) :: (72, .inl (bz_push (.int 8) 2)) :: (74, .inr (.inl (mX11_passRow, 3, 11))) :: (77, .inr (.inr 0)) :: []
def bm_X11_passAll : bz_M := (RX11, yX11_passAll, cX11_passAll, 1, none, 2, 45, bt_X11_passAll)
def bt_X11_image : List bz_E := (0, .inl (bz_iload 1 1)) :: (1, .inl (bz_i2l)) :: (2, .inl (bz_push (.long 0) 1)) :: (3, .inl (bz_push (.long 1) 1)) :: (4, .inr (.inl (mX11_in, 3, 0))) :: (7, .inl (bz_if_ne 13)) ::
  (10, .inl (bz_push (.int (-2)) 2)) :: (12, .inr (.inr 1)) :: (13, .inl (bz_aload 0 1)) :: (14, .inl (bz_push (.int 30) 2)) :: (16, .inl (bz_iload 1 1)) :: (17, .inl (bz_imul)) ::
  (18, .inl (bz_putI 10 40)) :: (21, .inl (bz_aload 0 1)) :: (22, .inl (bz_push (.int 1) 1)) :: (23, .inl (bz_putZ 10 41)) :: (26, .inl (bz_aload 0 1)) :: (27, .inr (.inl (mX11_passAll, 1, 11))) ::
  (30, .inl (bz_aload 0 1)) :: (31, .inl (bz_getR 10 39)) :: (34, .inl (bz_iload 1 1)) :: (35, .inl (bz_push (.int 1) 1)) :: (36, .inl (bz_zast)) :: (37, .inl (bz_push (.int 1) 1)) ::
  (38, .inr (.inr 1)) :: []
def bm_X11_image : bz_M := (RX11, yX11_image, cX11_image, 2, (some .int), 3, 65, bt_X11_image)
def bt_X11_restore : List bz_E := (0, .inl (bz_iload 1 1)) :: (1, .inl (bz_i2l)) :: (2, .inl (bz_push (.long 0) 1)) :: (3, .inl (bz_push (.long 1) 1)) :: (4, .inr (.inl (mX11_in, 3, 0))) :: (7, .inl (bz_if_ne 13)) ::
  (10, .inl (bz_push (.int (-2)) 2)) :: (12, .inr (.inr 1)) :: (13, .inl (bz_aload 0 1)) :: (14, .inl (bz_getR 10 39)) :: (17, .inl (bz_iload 1 1)) :: (18, .inl (bz_zald)) ::
  (19, .inl (bz_if_ne 25)) :: (22, .inl (bz_push (.int (-3)) 2)) :: (24, .inr (.inr 1)) :: (25, .inl (bz_aload 0 1)) :: (26, .inl (bz_push (.int 30) 2)) :: (28, .inl (bz_iload 1 1)) ::
  (29, .inl (bz_imul)) :: (30, .inl (bz_putI 10 40)) :: (33, .inl (bz_aload 0 1)) :: (34, .inl (bz_push (.int 0) 1)) :: (35, .inl (bz_putZ 10 41)) :: (38, .inl (bz_aload 0 1)) ::
  (39, .inr (.inl (mX11_passAll, 1, 11))) :: (42, .inl (bz_push (.int 1) 1)) :: (43, .inr (.inr 1)) :: []
def bm_X11_restore : bz_M := (RX11, yX11_restore, cX11_restore, 2, (some .int), 3, 65, bt_X11_restore)
def bt_X11_told : List bz_E := (0, .inl (bz_iload 1 1)) :: (1, .inl (bz_i2l)) :: (2, .inl (bz_push (.long 10) 3)) :: (5, .inl (bz_push (.long 12) 3)) :: (8, .inr (.inl (mX11_in, 3, 0))) :: (11, .inl (bz_if_eq 24)) ::
  (14, .inl (bz_aload 0 1)) :: (15, .inl (bz_getR 10 0)) :: (18, .inl (bz_iload 1 1)) :: (19, .inl (bz_push (.int 10) 2)) :: (21, .inl (bz_isub)) :: (22, .inl (bz_iald)) ::
  (23, .inr (.inr 1)) :: (24, .inl (bz_iload 1 1)) :: (25, .inl (bz_switch (bz_mk 0 [60, 65, 70, 75, 80]) 85)) :: (60, .inl (bz_aload 0 1)) :: (61, .inl (bz_getI 10 8)) :: (64, .inr (.inr 1)) ::
  (65, .inl (bz_aload 0 1)) :: (66, .inl (bz_getI 10 1)) :: (69, .inr (.inr 1)) :: (70, .inl (bz_aload 0 1)) :: (71, .inl (bz_getI 10 2)) :: (74, .inr (.inr 1)) ::
  (75, .inl (bz_aload 0 1)) :: (76, .inl (bz_getI 10 3)) :: (79, .inr (.inr 1)) :: (80, .inl (bz_aload 0 1)) :: (81, .inl (bz_getI 10 6)) :: (84, .inr (.inr 1)) ::
  (85, .inl (bz_push (.int (-2)) 2)) :: (87, .inr (.inr 1)) :: []
def bm_X11_told : bz_M := (RX11, yX11_told, cX11_told, 2, (some .int), 1, 25, bt_X11_told)
set_option maxRecDepth 100000 in
def bt_L_law : List bz_E := (16, .inl (bz_push (.int 0) 1)) :: (17, .inl (bz_istore 3 1)) :: (18, .inl (bz_iload 3 1)) :: (19, .inl (bz_aload 0 1)) :: (20, .inl (bz_slen)) :: (21, .inl (bz_push (.int 7) 2)) ::
  (23, .inl (bz_isub)) :: (24, .inl (bz_ic_gt 838)) :: (27, .inl (bz_aload 0 1)) :: (28, .inl (bz_iload 3 1)) :: (29, .inl (bz_iald)) :: (30, .inl (bz_push (.int 31) 2)) ::
  (32, .inl (bz_iand)) :: (33, .inl (bz_switch (bz_mk 0 [140, 173, 206, 229, 242, 255, 278, 301, 324, 347, 360, 413, 466, 509, 542, 555, 578, 601, 644, 720, 763, 786, 809]) 832)) :: (140, .inl (bz_aload 1 1)) :: (141, .inl (bz_aload 0 1)) :: (142, .inl (bz_iload 3 1)) :: (143, .inl (bz_push (.int 1) 1)) ::
  (144, .inl (bz_iadd)) :: (145, .inl (bz_iald)) :: (146, .inl (bz_aload 0 1)) :: (147, .inl (bz_iload 3 1)) :: (148, .inl (bz_push (.int 2) 1)) :: (149, .inl (bz_iadd)) ::
  (150, .inl (bz_iald)) :: (151, .inr (.inl (mX10_ball, 3, 10))) :: (154, .inl (bz_aload 2 1)) :: (155, .inl (bz_aload 0 1)) :: (156, .inl (bz_iload 3 1)) :: (157, .inl (bz_push (.int 1) 1)) ::
  (158, .inl (bz_iadd)) :: (159, .inl (bz_iald)) :: (160, .inl (bz_aload 0 1)) :: (161, .inl (bz_iload 3 1)) :: (162, .inl (bz_push (.int 2) 1)) :: (163, .inl (bz_iadd)) ::
  (164, .inl (bz_iald)) :: (165, .inr (.inl (mX11_ball, 3, 11))) :: (168, .inl (bz_ic_eq 832)) :: (171, .inl (bz_push (.int 0) 1)) :: (172, .inr (.inr 3)) :: (173, .inl (bz_aload 1 1)) ::
  (174, .inl (bz_aload 0 1)) :: (175, .inl (bz_iload 3 1)) :: (176, .inl (bz_push (.int 1) 1)) :: (177, .inl (bz_iadd)) :: (178, .inl (bz_iald)) :: (179, .inl (bz_aload 0 1)) ::
  (180, .inl (bz_iload 3 1)) :: (181, .inl (bz_push (.int 2) 1)) :: (182, .inl (bz_iadd)) :: (183, .inl (bz_iald)) :: (184, .inr (.inl (mX10_score, 3, 10))) :: (187, .inl (bz_aload 2 1)) ::
  (188, .inl (bz_aload 0 1)) :: (189, .inl (bz_iload 3 1)) :: (190, .inl (bz_push (.int 1) 1)) :: (191, .inl (bz_iadd)) :: (192, .inl (bz_iald)) :: (193, .inl (bz_aload 0 1)) ::
  (194, .inl (bz_iload 3 1)) :: (195, .inl (bz_push (.int 2) 1)) :: (196, .inl (bz_iadd)) :: (197, .inl (bz_iald)) :: (198, .inr (.inl (mX11_score, 3, 11))) :: (201, .inl (bz_ic_eq 832)) ::
  (204, .inl (bz_push (.int 0) 1)) :: (205, .inr (.inr 3)) :: (206, .inl (bz_aload 1 1)) :: (207, .inl (bz_aload 0 1)) :: (208, .inl (bz_iload 3 1)) :: (209, .inl (bz_push (.int 1) 1)) ::
  (210, .inl (bz_iadd)) :: (211, .inl (bz_iald)) :: (212, .inr (.inl (mX10_say, 2, 10))) :: (215, .inl (bz_aload 2 1)) :: (216, .inl (bz_aload 0 1)) :: (217, .inl (bz_iload 3 1)) ::
  (218, .inl (bz_push (.int 1) 1)) :: (219, .inl (bz_iadd)) :: (220, .inl (bz_iald)) :: (221, .inr (.inl (mX11_say, 2, 11))) :: (224, .inl (bz_ic_eq 832)) :: (227, .inl (bz_push (.int 0) 1)) ::
  (228, .inr (.inr 3)) :: (229, .inl (bz_aload 1 1)) :: (230, .inr (.inl (mX10_wipe, 1, 10))) :: (233, .inl (bz_aload 2 1)) :: (234, .inr (.inl (mX11_wipe, 1, 11))) :: (237, .inl (bz_ic_eq 832)) ::
  (240, .inl (bz_push (.int 0) 1)) :: (241, .inr (.inr 3)) :: (242, .inl (bz_aload 1 1)) :: (243, .inr (.inl (mX10_fault, 1, 10))) :: (246, .inl (bz_aload 2 1)) :: (247, .inr (.inl (mX11_fault, 1, 11))) ::
  (250, .inl (bz_ic_eq 832)) :: (253, .inl (bz_push (.int 0) 1)) :: (254, .inr (.inr 3)) :: (255, .inl (bz_aload 1 1)) :: (256, .inl (bz_aload 0 1)) :: (257, .inl (bz_iload 3 1)) ::
  (258, .inl (bz_push (.int 1) 1)) :: (259, .inl (bz_iadd)) :: (260, .inl (bz_iald)) :: (261, .inr (.inl (mX10_judge, 2, 10))) :: (264, .inl (bz_aload 2 1)) :: (265, .inl (bz_aload 0 1)) ::
  (266, .inl (bz_iload 3 1)) :: (267, .inl (bz_push (.int 1) 1)) :: (268, .inl (bz_iadd)) :: (269, .inl (bz_iald)) :: (270, .inr (.inl (mX11_judge, 2, 11))) :: (273, .inl (bz_ic_eq 832)) ::
  (276, .inl (bz_push (.int 0) 1)) :: (277, .inr (.inr 3)) :: (278, .inl (bz_aload 1 1)) :: (279, .inl (bz_aload 0 1)) :: (280, .inl (bz_iload 3 1)) :: (281, .inl (bz_push (.int 1) 1)) ::
  (282, .inl (bz_iadd)) :: (283, .inl (bz_iald)) :: (284, .inr (.inl (mX10_behind, 2, 10))) :: (287, .inl (bz_aload 2 1)) :: (288, .inl (bz_aload 0 1)) :: (289, .inl (bz_iload 3 1)) ::
  (290, .inl (bz_push (.int 1) 1)) :: (291, .inl (bz_iadd)) :: (292, .inl (bz_iald)) :: (293, .inr (.inl (mX11_behind, 2, 11))) :: (296, .inl (bz_ic_eq 832)) :: (299, .inl (bz_push (.int 0) 1)) ::
  (300, .inr (.inr 3)) :: (301, .inl (bz_aload 1 1)) :: (302, .inl (bz_aload 0 1)) :: (303, .inl (bz_iload 3 1)) :: (304, .inl (bz_push (.int 1) 1)) :: (305, .inl (bz_iadd)) ::
  (306, .inl (bz_iald)) :: (307, .inr (.inl (mX10_table, 2, 10))) :: (310, .inl (bz_aload 2 1)) :: (311, .inl (bz_aload 0 1)) :: (312, .inl (bz_iload 3 1)) :: (313, .inl (bz_push (.int 1) 1)) ::
  (314, .inl (bz_iadd)) :: (315, .inl (bz_iald)) :: (316, .inr (.inl (mX11_table, 2, 11))) :: (319, .inl (bz_ic_eq 832)) :: (322, .inl (bz_push (.int 0) 1)) :: (323, .inr (.inr 3)) ::
  (324, .inl (bz_aload 1 1)) :: (325, .inl (bz_aload 0 1)) :: (326, .inl (bz_iload 3 1)) :: (327, .inl (bz_push (.int 1) 1)) :: (328, .inl (bz_iadd)) :: (329, .inl (bz_iald)) ::
  (330, .inr (.inl (mX10_candour, 2, 10))) :: (333, .inl (bz_aload 2 1)) :: (334, .inl (bz_aload 0 1)) :: (335, .inl (bz_iload 3 1)) :: (336, .inl (bz_push (.int 1) 1)) :: (337, .inl (bz_iadd)) ::
  (338, .inl (bz_iald)) :: (339, .inr (.inl (mX11_candour, 2, 11))) :: (342, .inl (bz_ic_eq 832)) :: (345, .inl (bz_push (.int 0) 1)) :: (346, .inr (.inr 3)) :: (347, .inl (bz_aload 1 1)) ::
  (348, .inr (.inl (mX10_done, 1, 10))) :: (351, .inl (bz_aload 2 1)) :: (352, .inr (.inl (mX11_done, 1, 11))) :: (355, .inl (bz_ic_eq 832)) :: (358, .inl (bz_push (.int 0) 1)) :: (359, .inr (.inr 3)) ::
  (360, .inl (bz_aload 1 1)) :: (361, .inl (bz_aload 0 1)) :: (362, .inl (bz_iload 3 1)) :: (363, .inl (bz_push (.int 1) 1)) :: (364, .inl (bz_iadd)) :: (365, .inl (bz_iald)) ::
  (366, .inl (bz_aload 0 1)) :: (367, .inl (bz_iload 3 1)) :: (368, .inl (bz_push (.int 2) 1)) :: (369, .inl (bz_iadd)) :: (370, .inl (bz_iald)) :: (371, .inl (bz_aload 0 1)) ::
  (372, .inl (bz_iload 3 1)) :: (373, .inl (bz_push (.int 3) 1)) :: (374, .inl (bz_iadd)) :: (375, .inl (bz_iald)) :: (376, .inl (bz_aload 0 1)) :: (377, .inl (bz_iload 3 1)) ::
  (378, .inl (bz_push (.int 4) 1)) :: (379, .inl (bz_iadd)) :: (380, .inl (bz_iald)) :: (381, .inr (.inl (mX10_hint, 5, 10))) :: (384, .inl (bz_aload 2 1)) :: (385, .inl (bz_aload 0 1)) ::
  (386, .inl (bz_iload 3 1)) :: (387, .inl (bz_push (.int 1) 1)) :: (388, .inl (bz_iadd)) :: (389, .inl (bz_iald)) :: (390, .inl (bz_aload 0 1)) :: (391, .inl (bz_iload 3 1)) ::
  (392, .inl (bz_push (.int 2) 1)) :: (393, .inl (bz_iadd)) :: (394, .inl (bz_iald)) :: (395, .inl (bz_aload 0 1)) :: (396, .inl (bz_iload 3 1)) :: (397, .inl (bz_push (.int 3) 1)) ::
  (398, .inl (bz_iadd)) :: (399, .inl (bz_iald)) :: (400, .inl (bz_aload 0 1)) :: (401, .inl (bz_iload 3 1)) :: (402, .inl (bz_push (.int 4) 1)) :: (403, .inl (bz_iadd)) ::
  (404, .inl (bz_iald)) :: (405, .inr (.inl (mX11_hint, 5, 11))) :: (408, .inl (bz_ic_eq 832)) :: (411, .inl (bz_push (.int 0) 1)) :: (412, .inr (.inr 3)) :: (413, .inl (bz_aload 1 1)) ::
  (414, .inl (bz_aload 0 1)) :: (415, .inl (bz_iload 3 1)) :: (416, .inl (bz_push (.int 1) 1)) :: (417, .inl (bz_iadd)) :: (418, .inl (bz_iald)) :: (419, .inl (bz_aload 0 1)) ::
  (420, .inl (bz_iload 3 1)) :: (421, .inl (bz_push (.int 2) 1)) :: (422, .inl (bz_iadd)) :: (423, .inl (bz_iald)) :: (424, .inl (bz_aload 0 1)) :: (425, .inl (bz_iload 3 1)) ::
  (426, .inl (bz_push (.int 3) 1)) :: (427, .inl (bz_iadd)) :: (428, .inl (bz_iald)) :: (429, .inl (bz_aload 0 1)) :: (430, .inl (bz_iload 3 1)) :: (431, .inl (bz_push (.int 4) 1)) ::
  (432, .inl (bz_iadd)) :: (433, .inl (bz_iald)) :: (434, .inr (.inl (mX10_alone, 5, 10))) :: (437, .inl (bz_aload 2 1)) :: (438, .inl (bz_aload 0 1)) :: (439, .inl (bz_iload 3 1)) ::
  (440, .inl (bz_push (.int 1) 1)) :: (441, .inl (bz_iadd)) :: (442, .inl (bz_iald)) :: (443, .inl (bz_aload 0 1)) :: (444, .inl (bz_iload 3 1)) :: (445, .inl (bz_push (.int 2) 1)) ::
  (446, .inl (bz_iadd)) :: (447, .inl (bz_iald)) :: (448, .inl (bz_aload 0 1)) :: (449, .inl (bz_iload 3 1)) :: (450, .inl (bz_push (.int 3) 1)) :: (451, .inl (bz_iadd)) ::
  (452, .inl (bz_iald)) :: (453, .inl (bz_aload 0 1)) :: (454, .inl (bz_iload 3 1)) :: (455, .inl (bz_push (.int 4) 1)) :: (456, .inl (bz_iadd)) :: (457, .inl (bz_iald)) ::
  (458, .inr (.inl (mX11_alone, 5, 11))) :: (461, .inl (bz_ic_eq 832)) :: (464, .inl (bz_push (.int 0) 1)) :: (465, .inr (.inr 3)) :: (466, .inl (bz_aload 1 1)) :: (467, .inl (bz_aload 0 1)) ::
  (468, .inl (bz_iload 3 1)) :: (469, .inl (bz_push (.int 1) 1)) :: (470, .inl (bz_iadd)) :: (471, .inl (bz_iald)) :: (472, .inl (bz_aload 0 1)) :: (473, .inl (bz_iload 3 1)) ::
  (474, .inl (bz_push (.int 2) 1)) :: (475, .inl (bz_iadd)) :: (476, .inl (bz_iald)) :: (477, .inl (bz_aload 0 1)) :: (478, .inl (bz_iload 3 1)) :: (479, .inl (bz_push (.int 3) 1)) ::
  (480, .inl (bz_iadd)) :: (481, .inl (bz_iald)) :: (482, .inr (.inl (mX10_strokes, 4, 10))) :: (485, .inl (bz_aload 2 1)) :: (486, .inl (bz_aload 0 1)) :: (487, .inl (bz_iload 3 1)) ::
  (488, .inl (bz_push (.int 1) 1)) :: (489, .inl (bz_iadd)) :: (490, .inl (bz_iald)) :: (491, .inl (bz_aload 0 1)) :: (492, .inl (bz_iload 3 1)) :: (493, .inl (bz_push (.int 2) 1)) ::
  (494, .inl (bz_iadd)) :: (495, .inl (bz_iald)) :: (496, .inl (bz_aload 0 1)) :: (497, .inl (bz_iload 3 1)) :: (498, .inl (bz_push (.int 3) 1)) :: (499, .inl (bz_iadd)) ::
  (500, .inl (bz_iald)) :: (501, .inr (.inl (mX11_strokes, 4, 11))) :: (504, .inl (bz_ic_eq 832)) :: (507, .inl (bz_push (.int 0) 1)) :: (508, .inr (.inr 3)) :: (509, .inl (bz_aload 1 1)) ::
  (510, .inl (bz_aload 0 1)) :: (511, .inl (bz_iload 3 1)) :: (512, .inl (bz_push (.int 1) 1)) :: (513, .inl (bz_iadd)) :: (514, .inl (bz_iald)) :: (515, .inl (bz_aload 0 1)) ::
  (516, .inl (bz_iload 3 1)) :: (517, .inl (bz_push (.int 2) 1)) :: (518, .inl (bz_iadd)) :: (519, .inl (bz_iald)) :: (520, .inr (.inl (mX10_seen, 3, 10))) :: (523, .inl (bz_aload 2 1)) ::
  (524, .inl (bz_aload 0 1)) :: (525, .inl (bz_iload 3 1)) :: (526, .inl (bz_push (.int 1) 1)) :: (527, .inl (bz_iadd)) :: (528, .inl (bz_iald)) :: (529, .inl (bz_aload 0 1)) ::
  (530, .inl (bz_iload 3 1)) :: (531, .inl (bz_push (.int 2) 1)) :: (532, .inl (bz_iadd)) :: (533, .inl (bz_iald)) :: (534, .inr (.inl (mX11_seen, 3, 11))) :: (537, .inl (bz_ic_eq 832)) ::
  (540, .inl (bz_push (.int 0) 1)) :: (541, .inr (.inr 3)) :: (542, .inl (bz_aload 1 1)) :: (543, .inr (.inl (mX10_forget, 1, 10))) :: (546, .inl (bz_aload 2 1)) :: (547, .inr (.inl (mX11_forget, 1, 11))) ::
  (550, .inl (bz_ic_eq 832)) :: (553, .inl (bz_push (.int 0) 1)) :: (554, .inr (.inr 3)) :: (555, .inl (bz_aload 1 1)) :: (556, .inl (bz_aload 0 1)) :: (557, .inl (bz_iload 3 1)) ::
  (558, .inl (bz_push (.int 1) 1)) :: (559, .inl (bz_iadd)) :: (560, .inl (bz_iald)) :: (561, .inr (.inl (mX10_sent, 2, 10))) :: (564, .inl (bz_aload 2 1)) :: (565, .inl (bz_aload 0 1)) ::
  (566, .inl (bz_iload 3 1)) :: (567, .inl (bz_push (.int 1) 1)) :: (568, .inl (bz_iadd)) :: (569, .inl (bz_iald)) :: (570, .inr (.inl (mX11_sent, 2, 11))) :: (573, .inl (bz_ic_eq 832)) ::
  (576, .inl (bz_push (.int 0) 1)) :: (577, .inr (.inr 3)) :: (578, .inl (bz_aload 1 1)) :: (579, .inl (bz_aload 0 1)) :: (580, .inl (bz_iload 3 1)) :: (581, .inl (bz_push (.int 1) 1)) ::
  (582, .inl (bz_iadd)) :: (583, .inl (bz_iald)) :: (584, .inr (.inl (mX10_ask, 2, 10))) :: (587, .inl (bz_aload 2 1)) :: (588, .inl (bz_aload 0 1)) :: (589, .inl (bz_iload 3 1)) ::
  (590, .inl (bz_push (.int 1) 1)) :: (591, .inl (bz_iadd)) :: (592, .inl (bz_iald)) :: (593, .inr (.inl (mX11_ask, 2, 11))) :: (596, .inl (bz_ic_eq 832)) :: (599, .inl (bz_push (.int 0) 1)) ::
  (600, .inr (.inr 3)) :: (601, .inl (bz_aload 1 1)) :: (602, .inl (bz_aload 0 1)) :: (603, .inl (bz_iload 3 1)) :: (604, .inl (bz_push (.int 1) 1)) :: (605, .inl (bz_iadd)) ::
  (606, .inl (bz_iald)) :: (607, .inl (bz_aload 0 1)) :: (608, .inl (bz_iload 3 1)) :: (609, .inl (bz_push (.int 2) 1)) :: (610, .inl (bz_iadd)) :: (611, .inl (bz_iald)) ::
  (612, .inl (bz_aload 0 1)) :: (613, .inl (bz_iload 3 1)) :: (614, .inl (bz_push (.int 3) 1)) :: (615, .inl (bz_iadd)) :: (616, .inl (bz_iald)) :: (617, .inr (.inl (mX10_chalk, 4, 10))) ::
  (620, .inl (bz_aload 2 1)) :: (621, .inl (bz_aload 0 1)) :: (622, .inl (bz_iload 3 1)) :: (623, .inl (bz_push (.int 1) 1)) :: (624, .inl (bz_iadd)) :: (625, .inl (bz_iald)) ::
  (626, .inl (bz_aload 0 1)) :: (627, .inl (bz_iload 3 1)) :: (628, .inl (bz_push (.int 2) 1)) :: (629, .inl (bz_iadd)) :: (630, .inl (bz_iald)) :: (631, .inl (bz_aload 0 1)) ::
  (632, .inl (bz_iload 3 1)) :: (633, .inl (bz_push (.int 3) 1)) :: (634, .inl (bz_iadd)) :: (635, .inl (bz_iald)) :: (636, .inr (.inl (mX11_chalk, 4, 11))) :: (639, .inl (bz_ic_eq 832)) ::
  (642, .inl (bz_push (.int 0) 1)) :: (643, .inr (.inr 3)) :: (644, .inl (bz_aload 1 1)) :: (645, .inl (bz_aload 0 1)) :: (646, .inl (bz_iload 3 1)) :: (647, .inl (bz_push (.int 1) 1)) ::
  (648, .inl (bz_iadd)) :: (649, .inl (bz_iald)) :: (650, .inl (bz_aload 0 1)) :: (651, .inl (bz_iload 3 1)) :: (652, .inl (bz_push (.int 2) 1)) :: (653, .inl (bz_iadd)) ::
  (654, .inl (bz_iald)) :: (655, .inl (bz_aload 0 1)) :: (656, .inl (bz_iload 3 1)) :: (657, .inl (bz_push (.int 3) 1)) :: (658, .inl (bz_iadd)) :: (659, .inl (bz_iald)) ::
  (660, .inl (bz_aload 0 1)) :: (661, .inl (bz_iload 3 1)) :: (662, .inl (bz_push (.int 4) 1)) :: (663, .inl (bz_iadd)) :: (664, .inl (bz_iald)) :: (665, .inl (bz_aload 0 1)) ::
  (666, .inl (bz_iload 3 1)) :: (667, .inl (bz_push (.int 5) 1)) :: (668, .inl (bz_iadd)) :: (669, .inl (bz_iald)) :: (670, .inl (bz_aload 0 1)) :: (671, .inl (bz_iload 3 1)) ::
  (672, .inl (bz_push (.int 6) 2)) :: (674, .inl (bz_iadd)) :: (675, .inl (bz_iald)) :: (676, .inr (.inl (mX10_match, 7, 10))) :: (679, .inl (bz_aload 2 1)) :: (680, .inl (bz_aload 0 1)) ::
  (681, .inl (bz_iload 3 1)) :: (682, .inl (bz_push (.int 1) 1)) :: (683, .inl (bz_iadd)) :: (684, .inl (bz_iald)) :: (685, .inl (bz_aload 0 1)) :: (686, .inl (bz_iload 3 1)) ::
  (687, .inl (bz_push (.int 2) 1)) :: (688, .inl (bz_iadd)) :: (689, .inl (bz_iald)) :: (690, .inl (bz_aload 0 1)) :: (691, .inl (bz_iload 3 1)) :: (692, .inl (bz_push (.int 3) 1)) ::
  (693, .inl (bz_iadd)) :: (694, .inl (bz_iald)) :: (695, .inl (bz_aload 0 1)) :: (696, .inl (bz_iload 3 1)) :: (697, .inl (bz_push (.int 4) 1)) :: (698, .inl (bz_iadd)) ::
  (699, .inl (bz_iald)) :: (700, .inl (bz_aload 0 1)) :: (701, .inl (bz_iload 3 1)) :: (702, .inl (bz_push (.int 5) 1)) :: (703, .inl (bz_iadd)) :: (704, .inl (bz_iald)) ::
  (705, .inl (bz_aload 0 1)) :: (706, .inl (bz_iload 3 1)) :: (707, .inl (bz_push (.int 6) 2)) :: (709, .inl (bz_iadd)) :: (710, .inl (bz_iald)) :: (711, .inr (.inl (mX11_match, 7, 11))) ::
  (714, .inl (bz_lcmp)) :: (715, .inl (bz_if_eq 832)) :: (718, .inl (bz_push (.int 0) 1)) :: (719, .inr (.inr 3)) :: (720, .inl (bz_aload 1 1)) :: (721, .inl (bz_aload 0 1)) ::
  (722, .inl (bz_iload 3 1)) :: (723, .inl (bz_push (.int 1) 1)) :: (724, .inl (bz_iadd)) :: (725, .inl (bz_iald)) :: (726, .inl (bz_aload 0 1)) :: (727, .inl (bz_iload 3 1)) ::
  (728, .inl (bz_push (.int 2) 1)) :: (729, .inl (bz_iadd)) :: (730, .inl (bz_iald)) :: (731, .inl (bz_aload 0 1)) :: (732, .inl (bz_iload 3 1)) :: (733, .inl (bz_push (.int 3) 1)) ::
  (734, .inl (bz_iadd)) :: (735, .inl (bz_iald)) :: (736, .inr (.inl (mX10_season, 4, 10))) :: (739, .inl (bz_aload 2 1)) :: (740, .inl (bz_aload 0 1)) :: (741, .inl (bz_iload 3 1)) ::
  (742, .inl (bz_push (.int 1) 1)) :: (743, .inl (bz_iadd)) :: (744, .inl (bz_iald)) :: (745, .inl (bz_aload 0 1)) :: (746, .inl (bz_iload 3 1)) :: (747, .inl (bz_push (.int 2) 1)) ::
  (748, .inl (bz_iadd)) :: (749, .inl (bz_iald)) :: (750, .inl (bz_aload 0 1)) :: (751, .inl (bz_iload 3 1)) :: (752, .inl (bz_push (.int 3) 1)) :: (753, .inl (bz_iadd)) ::
  (754, .inl (bz_iald)) :: (755, .inr (.inl (mX11_season, 4, 11))) :: (758, .inl (bz_ic_eq 832)) :: (761, .inl (bz_push (.int 0) 1)) :: (762, .inr (.inr 3)) :: (763, .inl (bz_aload 1 1)) ::
  (764, .inl (bz_aload 0 1)) :: (765, .inl (bz_iload 3 1)) :: (766, .inl (bz_push (.int 1) 1)) :: (767, .inl (bz_iadd)) :: (768, .inl (bz_iald)) :: (769, .inr (.inl (mX10_image, 2, 10))) ::
  (772, .inl (bz_aload 2 1)) :: (773, .inl (bz_aload 0 1)) :: (774, .inl (bz_iload 3 1)) :: (775, .inl (bz_push (.int 1) 1)) :: (776, .inl (bz_iadd)) :: (777, .inl (bz_iald)) ::
  (778, .inr (.inl (mX11_image, 2, 11))) :: (781, .inl (bz_ic_eq 832)) :: (784, .inl (bz_push (.int 0) 1)) :: (785, .inr (.inr 3)) :: (786, .inl (bz_aload 1 1)) :: (787, .inl (bz_aload 0 1)) ::
  (788, .inl (bz_iload 3 1)) :: (789, .inl (bz_push (.int 1) 1)) :: (790, .inl (bz_iadd)) :: (791, .inl (bz_iald)) :: (792, .inr (.inl (mX10_restore, 2, 10))) :: (795, .inl (bz_aload 2 1)) ::
  (796, .inl (bz_aload 0 1)) :: (797, .inl (bz_iload 3 1)) :: (798, .inl (bz_push (.int 1) 1)) :: (799, .inl (bz_iadd)) :: (800, .inl (bz_iald)) :: (801, .inr (.inl (mX11_restore, 2, 11))) ::
  (804, .inl (bz_ic_eq 832)) :: (807, .inl (bz_push (.int 0) 1)) :: (808, .inr (.inr 3)) :: (809, .inl (bz_aload 1 1)) :: (810, .inl (bz_aload 0 1)) :: (811, .inl (bz_iload 3 1)) ::
  (812, .inl (bz_push (.int 1) 1)) :: (813, .inl (bz_iadd)) :: (814, .inl (bz_iald)) :: (815, .inr (.inl (mX10_told, 2, 10))) :: (818, .inl (bz_aload 2 1)) :: (819, .inl (bz_aload 0 1)) ::
  (820, .inl (bz_iload 3 1)) :: (821, .inl (bz_push (.int 1) 1)) :: (822, .inl (bz_iadd)) :: (823, .inl (bz_iald)) :: (824, .inr (.inl (mX11_told, 2, 11))) :: (827, .inl (bz_ic_eq 832)) ::
  (830, .inl (bz_push (.int 0) 1)) :: (831, .inr (.inr 3)) :: (832, .inl (bz_iinc 3 7)) :: (835, .inl (bz_goto 18)) :: (838, .inl (bz_push (.int 1) 1)) :: (839, .inr (.inr 3)) :: []
def bm_L_law : bz_M := (RL, yL_law, cL_law, 4, (some .boolean), 9, 208, bt_L_law)
def bz_ms : List bz_M := [bm_X0_isLost, bm_X0_winsAtOnce, bm_X0_learn, bm_X0_winningMove, bm_X6_copy, bm_X4_copy, bm_X1_keep, bm_X2_choose, bm_X2_power, bm_X2_winning, bm_X2_games, bm_X2_commonDivisor, bm_X3_add, bm_X3_empty, bm_X10_isWithin, bm_X3_signAt, bm_X3_isLetter, bm_X3_canStand, bm_X3_isActAt, bm_X3_firstFault, bm_X3_actKind, bm_X3_actLength, bm_X4_add, bm_J9_floorMod_7cf53, bm_X7_cellBehind, bm_X4_allFit, bm_X5_begin, bm_X10_turned, bm_X10_next, bm_X6_lyingOn, bm_X5_touch, bm_X10_isPocket, bm_X5_run, bm_X5_pointsMore, bm_X5_foulsMore, bm_X10_isBall, bm_X6_isDown, bm_X6_cellOrNone, bm_X6_howManyDown, bm_X6_reasonAgainst, bm_X6_driftOne, bm_X6_drift, bm_X10_bit, bm_X7_walk, bm_X8_begin, bm_X8_play, bm_X8_tryAct, bm_X8_runText, bm_X8_runSeason, bm_X8_forceToTouch, bm_X10_isCell, bm_X10_isPlace, bm_X9_gather, bm_X9_countLeft, bm_J9_max_7cf53, bm_X9_mostLeftAt, bm_X9_chooseStep, bm_X10_ball, bm_X10_score, bm_X10_say, bm_X10_wipe, bm_X10_fault, bm_X10_tryText, bm_X10_judge, bm_X10_behind, bm_X10_table, bm_X10_candour, bm_X10_done, bm_X10_hint, bm_J13_bitCount_95d88, bm_X10_alone, bm_X10_reachOf, bm_X10_firstWayInto, bm_X10_withAllThatReach, bm_X10_strokes, bm_X10_seen, bm_X10_forget, bm_X10_sent, bm_X10_ask, bm_X10_chalk, bm_J9_max_f86c9, bm_X10_match, bm_X10_season, bm_X10_image, bm_X10_restore, bm_X10_told, bm_X11_in, bm_X11_isBall, bm_X11_isCell, bm_X11_isPocket, bm_X11_isPlace, bm_X11_home, bm_X11_downwards, bm_X11_across, bm_X11_turned, bm_X11_ahead, bm_X11_ballOn, bm_X11_ball, bm_X11_score, bm_X11_say, bm_X11_wipe, bm_X11_close, bm_X11_begin, bm_X11_deed, bm_X11_force, bm_X11_readOn, bm_X11_fault, bm_X11_touch, bm_X11_step, bm_X11_send, bm_X11_stroke, bm_X11_columnOf, bm_X11_drift, bm_X11_nap, bm_X11_whyNot, bm_X11_happen, bm_X11_keepNow, bm_X11_back, bm_X11_goCrises, bm_X11_refusal, bm_X11_judge, bm_X11_behind, bm_X11_downMany, bm_X11_table, bm_X11_candour, bm_X11_done, bm_X11_stepsBy, bm_X11_hint, bm_X11_next, bm_X11_behindSteps, bm_X11_metMany, bm_X11_stepsBack, bm_X11_alone, bm_X11_leadsTo, bm_X11_wayTo, bm_X11_findFar, bm_X11_strokes, bm_X11_seen, bm_X11_forget, bm_X11_isFit, bm_X11_findFits, bm_X11_sent, bm_X11_mostNow, bm_X11_ask, bm_X11_digit, bm_X11_tenTo, bm_X11_leastTake, bm_X11_chalk, bm_X11_lowest, bm_X11_power, bm_X11_findChance, bm_X11_match, bm_X11_actBy, bm_X11_season, bm_X11_pass, bm_X11_passRow, bm_X11_passAll, bm_X11_image, bm_X11_restore, bm_X11_told, bm_L_law]
def bz_P (k : Nat) : bz_M := bz_ms.getD k ("", yL_law, cL_law, 0, none, 0, 0, [])
theorem bp_X0_isLost : bz_P mX0_isLost = bm_X0_isLost := rfl
theorem bT_X0_isLost : (bz_P mX0_isLost).2.2.2.2.2.2.2 = bt_X0_isLost := rfl
theorem bp_X0_winsAtOnce : bz_P mX0_winsAtOnce = bm_X0_winsAtOnce := rfl
theorem bT_X0_winsAtOnce : (bz_P mX0_winsAtOnce).2.2.2.2.2.2.2 = bt_X0_winsAtOnce := rfl
theorem bp_X0_learn : bz_P mX0_learn = bm_X0_learn := rfl
theorem bT_X0_learn : (bz_P mX0_learn).2.2.2.2.2.2.2 = bt_X0_learn := rfl
theorem bp_X0_winningMove : bz_P mX0_winningMove = bm_X0_winningMove := rfl
theorem bT_X0_winningMove : (bz_P mX0_winningMove).2.2.2.2.2.2.2 = bt_X0_winningMove := rfl
theorem bp_X6_copy : bz_P mX6_copy = bm_X6_copy := rfl
theorem bT_X6_copy : (bz_P mX6_copy).2.2.2.2.2.2.2 = bt_X6_copy := rfl
theorem bp_X4_copy : bz_P mX4_copy = bm_X4_copy := rfl
theorem bT_X4_copy : (bz_P mX4_copy).2.2.2.2.2.2.2 = bt_X4_copy := rfl
theorem bp_X1_keep : bz_P mX1_keep = bm_X1_keep := rfl
theorem bT_X1_keep : (bz_P mX1_keep).2.2.2.2.2.2.2 = bt_X1_keep := rfl
theorem bp_X2_choose : bz_P mX2_choose = bm_X2_choose := rfl
theorem bT_X2_choose : (bz_P mX2_choose).2.2.2.2.2.2.2 = bt_X2_choose := rfl
theorem bp_X2_power : bz_P mX2_power = bm_X2_power := rfl
theorem bT_X2_power : (bz_P mX2_power).2.2.2.2.2.2.2 = bt_X2_power := rfl
theorem bp_X2_winning : bz_P mX2_winning = bm_X2_winning := rfl
theorem bT_X2_winning : (bz_P mX2_winning).2.2.2.2.2.2.2 = bt_X2_winning := rfl
theorem bp_X2_games : bz_P mX2_games = bm_X2_games := rfl
theorem bT_X2_games : (bz_P mX2_games).2.2.2.2.2.2.2 = bt_X2_games := rfl
theorem bp_X2_commonDivisor : bz_P mX2_commonDivisor = bm_X2_commonDivisor := rfl
theorem bT_X2_commonDivisor : (bz_P mX2_commonDivisor).2.2.2.2.2.2.2 = bt_X2_commonDivisor := rfl
theorem bp_X3_add : bz_P mX3_add = bm_X3_add := rfl
theorem bT_X3_add : (bz_P mX3_add).2.2.2.2.2.2.2 = bt_X3_add := rfl
theorem bp_X3_empty : bz_P mX3_empty = bm_X3_empty := rfl
theorem bT_X3_empty : (bz_P mX3_empty).2.2.2.2.2.2.2 = bt_X3_empty := rfl
theorem bp_X10_isWithin : bz_P mX10_isWithin = bm_X10_isWithin := rfl
theorem bT_X10_isWithin : (bz_P mX10_isWithin).2.2.2.2.2.2.2 = bt_X10_isWithin := rfl
theorem bp_X3_signAt : bz_P mX3_signAt = bm_X3_signAt := rfl
theorem bT_X3_signAt : (bz_P mX3_signAt).2.2.2.2.2.2.2 = bt_X3_signAt := rfl
theorem bp_X3_isLetter : bz_P mX3_isLetter = bm_X3_isLetter := rfl
theorem bT_X3_isLetter : (bz_P mX3_isLetter).2.2.2.2.2.2.2 = bt_X3_isLetter := rfl
theorem bp_X3_canStand : bz_P mX3_canStand = bm_X3_canStand := rfl
theorem bT_X3_canStand : (bz_P mX3_canStand).2.2.2.2.2.2.2 = bt_X3_canStand := rfl
theorem bp_X3_isActAt : bz_P mX3_isActAt = bm_X3_isActAt := rfl
theorem bT_X3_isActAt : (bz_P mX3_isActAt).2.2.2.2.2.2.2 = bt_X3_isActAt := rfl
theorem bp_X3_firstFault : bz_P mX3_firstFault = bm_X3_firstFault := rfl
theorem bT_X3_firstFault : (bz_P mX3_firstFault).2.2.2.2.2.2.2 = bt_X3_firstFault := rfl
theorem bp_X3_actKind : bz_P mX3_actKind = bm_X3_actKind := rfl
theorem bT_X3_actKind : (bz_P mX3_actKind).2.2.2.2.2.2.2 = bt_X3_actKind := rfl
theorem bp_X3_actLength : bz_P mX3_actLength = bm_X3_actLength := rfl
theorem bT_X3_actLength : (bz_P mX3_actLength).2.2.2.2.2.2.2 = bt_X3_actLength := rfl
theorem bp_X4_add : bz_P mX4_add = bm_X4_add := rfl
theorem bT_X4_add : (bz_P mX4_add).2.2.2.2.2.2.2 = bt_X4_add := rfl
theorem bp_J9_floorMod_7cf53 : bz_P mJ9_floorMod_7cf53 = bm_J9_floorMod_7cf53 := rfl
theorem bT_J9_floorMod_7cf53 : (bz_P mJ9_floorMod_7cf53).2.2.2.2.2.2.2 = bt_J9_floorMod_7cf53 := rfl
theorem bp_X7_cellBehind : bz_P mX7_cellBehind = bm_X7_cellBehind := rfl
theorem bT_X7_cellBehind : (bz_P mX7_cellBehind).2.2.2.2.2.2.2 = bt_X7_cellBehind := rfl
theorem bp_X4_allFit : bz_P mX4_allFit = bm_X4_allFit := rfl
theorem bT_X4_allFit : (bz_P mX4_allFit).2.2.2.2.2.2.2 = bt_X4_allFit := rfl
theorem bp_X5_begin : bz_P mX5_begin = bm_X5_begin := rfl
theorem bT_X5_begin : (bz_P mX5_begin).2.2.2.2.2.2.2 = bt_X5_begin := rfl
theorem bp_X10_turned : bz_P mX10_turned = bm_X10_turned := rfl
theorem bT_X10_turned : (bz_P mX10_turned).2.2.2.2.2.2.2 = bt_X10_turned := rfl
theorem bp_X10_next : bz_P mX10_next = bm_X10_next := rfl
theorem bT_X10_next : (bz_P mX10_next).2.2.2.2.2.2.2 = bt_X10_next := rfl
theorem bp_X6_lyingOn : bz_P mX6_lyingOn = bm_X6_lyingOn := rfl
theorem bT_X6_lyingOn : (bz_P mX6_lyingOn).2.2.2.2.2.2.2 = bt_X6_lyingOn := rfl
theorem bp_X5_touch : bz_P mX5_touch = bm_X5_touch := rfl
theorem bT_X5_touch : (bz_P mX5_touch).2.2.2.2.2.2.2 = bt_X5_touch := rfl
theorem bp_X10_isPocket : bz_P mX10_isPocket = bm_X10_isPocket := rfl
theorem bT_X10_isPocket : (bz_P mX10_isPocket).2.2.2.2.2.2.2 = bt_X10_isPocket := rfl
theorem bp_X5_run : bz_P mX5_run = bm_X5_run := rfl
theorem bT_X5_run : (bz_P mX5_run).2.2.2.2.2.2.2 = bt_X5_run := rfl
theorem bp_X5_pointsMore : bz_P mX5_pointsMore = bm_X5_pointsMore := rfl
theorem bT_X5_pointsMore : (bz_P mX5_pointsMore).2.2.2.2.2.2.2 = bt_X5_pointsMore := rfl
theorem bp_X5_foulsMore : bz_P mX5_foulsMore = bm_X5_foulsMore := rfl
theorem bT_X5_foulsMore : (bz_P mX5_foulsMore).2.2.2.2.2.2.2 = bt_X5_foulsMore := rfl
theorem bp_X10_isBall : bz_P mX10_isBall = bm_X10_isBall := rfl
theorem bT_X10_isBall : (bz_P mX10_isBall).2.2.2.2.2.2.2 = bt_X10_isBall := rfl
theorem bp_X6_isDown : bz_P mX6_isDown = bm_X6_isDown := rfl
theorem bT_X6_isDown : (bz_P mX6_isDown).2.2.2.2.2.2.2 = bt_X6_isDown := rfl
theorem bp_X6_cellOrNone : bz_P mX6_cellOrNone = bm_X6_cellOrNone := rfl
theorem bT_X6_cellOrNone : (bz_P mX6_cellOrNone).2.2.2.2.2.2.2 = bt_X6_cellOrNone := rfl
theorem bp_X6_howManyDown : bz_P mX6_howManyDown = bm_X6_howManyDown := rfl
theorem bT_X6_howManyDown : (bz_P mX6_howManyDown).2.2.2.2.2.2.2 = bt_X6_howManyDown := rfl
theorem bp_X6_reasonAgainst : bz_P mX6_reasonAgainst = bm_X6_reasonAgainst := rfl
theorem bT_X6_reasonAgainst : (bz_P mX6_reasonAgainst).2.2.2.2.2.2.2 = bt_X6_reasonAgainst := rfl
theorem bp_X6_driftOne : bz_P mX6_driftOne = bm_X6_driftOne := rfl
theorem bT_X6_driftOne : (bz_P mX6_driftOne).2.2.2.2.2.2.2 = bt_X6_driftOne := rfl
theorem bp_X6_drift : bz_P mX6_drift = bm_X6_drift := rfl
theorem bT_X6_drift : (bz_P mX6_drift).2.2.2.2.2.2.2 = bt_X6_drift := rfl
theorem bp_X10_bit : bz_P mX10_bit = bm_X10_bit := rfl
theorem bT_X10_bit : (bz_P mX10_bit).2.2.2.2.2.2.2 = bt_X10_bit := rfl
theorem bp_X7_walk : bz_P mX7_walk = bm_X7_walk := rfl
theorem bT_X7_walk : (bz_P mX7_walk).2.2.2.2.2.2.2 = bt_X7_walk := rfl
theorem bp_X8_begin : bz_P mX8_begin = bm_X8_begin := rfl
theorem bT_X8_begin : (bz_P mX8_begin).2.2.2.2.2.2.2 = bt_X8_begin := rfl
theorem bp_X8_play : bz_P mX8_play = bm_X8_play := rfl
theorem bT_X8_play : (bz_P mX8_play).2.2.2.2.2.2.2 = bt_X8_play := rfl
theorem bp_X8_tryAct : bz_P mX8_tryAct = bm_X8_tryAct := rfl
theorem bT_X8_tryAct : (bz_P mX8_tryAct).2.2.2.2.2.2.2 = bt_X8_tryAct := rfl
theorem bp_X8_runText : bz_P mX8_runText = bm_X8_runText := rfl
theorem bT_X8_runText : (bz_P mX8_runText).2.2.2.2.2.2.2 = bt_X8_runText := rfl
theorem bp_X8_runSeason : bz_P mX8_runSeason = bm_X8_runSeason := rfl
theorem bT_X8_runSeason : (bz_P mX8_runSeason).2.2.2.2.2.2.2 = bt_X8_runSeason := rfl
theorem bp_X8_forceToTouch : bz_P mX8_forceToTouch = bm_X8_forceToTouch := rfl
theorem bT_X8_forceToTouch : (bz_P mX8_forceToTouch).2.2.2.2.2.2.2 = bt_X8_forceToTouch := rfl
theorem bp_X10_isCell : bz_P mX10_isCell = bm_X10_isCell := rfl
theorem bT_X10_isCell : (bz_P mX10_isCell).2.2.2.2.2.2.2 = bt_X10_isCell := rfl
theorem bp_X10_isPlace : bz_P mX10_isPlace = bm_X10_isPlace := rfl
theorem bT_X10_isPlace : (bz_P mX10_isPlace).2.2.2.2.2.2.2 = bt_X10_isPlace := rfl
theorem bp_X9_gather : bz_P mX9_gather = bm_X9_gather := rfl
theorem bT_X9_gather : (bz_P mX9_gather).2.2.2.2.2.2.2 = bt_X9_gather := rfl
theorem bp_X9_countLeft : bz_P mX9_countLeft = bm_X9_countLeft := rfl
theorem bT_X9_countLeft : (bz_P mX9_countLeft).2.2.2.2.2.2.2 = bt_X9_countLeft := rfl
theorem bp_J9_max_7cf53 : bz_P mJ9_max_7cf53 = bm_J9_max_7cf53 := rfl
theorem bT_J9_max_7cf53 : (bz_P mJ9_max_7cf53).2.2.2.2.2.2.2 = bt_J9_max_7cf53 := rfl
theorem bp_X9_mostLeftAt : bz_P mX9_mostLeftAt = bm_X9_mostLeftAt := rfl
theorem bT_X9_mostLeftAt : (bz_P mX9_mostLeftAt).2.2.2.2.2.2.2 = bt_X9_mostLeftAt := rfl
theorem bp_X9_chooseStep : bz_P mX9_chooseStep = bm_X9_chooseStep := rfl
theorem bT_X9_chooseStep : (bz_P mX9_chooseStep).2.2.2.2.2.2.2 = bt_X9_chooseStep := rfl
theorem bp_X10_ball : bz_P mX10_ball = bm_X10_ball := rfl
theorem bT_X10_ball : (bz_P mX10_ball).2.2.2.2.2.2.2 = bt_X10_ball := rfl
theorem bp_X10_score : bz_P mX10_score = bm_X10_score := rfl
theorem bT_X10_score : (bz_P mX10_score).2.2.2.2.2.2.2 = bt_X10_score := rfl
theorem bp_X10_say : bz_P mX10_say = bm_X10_say := rfl
theorem bT_X10_say : (bz_P mX10_say).2.2.2.2.2.2.2 = bt_X10_say := rfl
theorem bp_X10_wipe : bz_P mX10_wipe = bm_X10_wipe := rfl
theorem bT_X10_wipe : (bz_P mX10_wipe).2.2.2.2.2.2.2 = bt_X10_wipe := rfl
theorem bp_X10_fault : bz_P mX10_fault = bm_X10_fault := rfl
theorem bT_X10_fault : (bz_P mX10_fault).2.2.2.2.2.2.2 = bt_X10_fault := rfl
theorem bp_X10_tryText : bz_P mX10_tryText = bm_X10_tryText := rfl
theorem bT_X10_tryText : (bz_P mX10_tryText).2.2.2.2.2.2.2 = bt_X10_tryText := rfl
theorem bp_X10_judge : bz_P mX10_judge = bm_X10_judge := rfl
theorem bT_X10_judge : (bz_P mX10_judge).2.2.2.2.2.2.2 = bt_X10_judge := rfl
theorem bp_X10_behind : bz_P mX10_behind = bm_X10_behind := rfl
theorem bT_X10_behind : (bz_P mX10_behind).2.2.2.2.2.2.2 = bt_X10_behind := rfl
theorem bp_X10_table : bz_P mX10_table = bm_X10_table := rfl
theorem bT_X10_table : (bz_P mX10_table).2.2.2.2.2.2.2 = bt_X10_table := rfl
theorem bp_X10_candour : bz_P mX10_candour = bm_X10_candour := rfl
theorem bT_X10_candour : (bz_P mX10_candour).2.2.2.2.2.2.2 = bt_X10_candour := rfl
theorem bp_X10_done : bz_P mX10_done = bm_X10_done := rfl
theorem bT_X10_done : (bz_P mX10_done).2.2.2.2.2.2.2 = bt_X10_done := rfl
theorem bp_X10_hint : bz_P mX10_hint = bm_X10_hint := rfl
theorem bT_X10_hint : (bz_P mX10_hint).2.2.2.2.2.2.2 = bt_X10_hint := rfl
theorem bp_J13_bitCount_95d88 : bz_P mJ13_bitCount_95d88 = bm_J13_bitCount_95d88 := rfl
theorem bT_J13_bitCount_95d88 : (bz_P mJ13_bitCount_95d88).2.2.2.2.2.2.2 = bt_J13_bitCount_95d88 := rfl
theorem bp_X10_alone : bz_P mX10_alone = bm_X10_alone := rfl
theorem bT_X10_alone : (bz_P mX10_alone).2.2.2.2.2.2.2 = bt_X10_alone := rfl
theorem bp_X10_reachOf : bz_P mX10_reachOf = bm_X10_reachOf := rfl
theorem bT_X10_reachOf : (bz_P mX10_reachOf).2.2.2.2.2.2.2 = bt_X10_reachOf := rfl
theorem bp_X10_firstWayInto : bz_P mX10_firstWayInto = bm_X10_firstWayInto := rfl
theorem bT_X10_firstWayInto : (bz_P mX10_firstWayInto).2.2.2.2.2.2.2 = bt_X10_firstWayInto := rfl
theorem bp_X10_withAllThatReach : bz_P mX10_withAllThatReach = bm_X10_withAllThatReach := rfl
theorem bT_X10_withAllThatReach : (bz_P mX10_withAllThatReach).2.2.2.2.2.2.2 = bt_X10_withAllThatReach := rfl
theorem bp_X10_strokes : bz_P mX10_strokes = bm_X10_strokes := rfl
theorem bT_X10_strokes : (bz_P mX10_strokes).2.2.2.2.2.2.2 = bt_X10_strokes := rfl
theorem bp_X10_seen : bz_P mX10_seen = bm_X10_seen := rfl
theorem bT_X10_seen : (bz_P mX10_seen).2.2.2.2.2.2.2 = bt_X10_seen := rfl
theorem bp_X10_forget : bz_P mX10_forget = bm_X10_forget := rfl
theorem bT_X10_forget : (bz_P mX10_forget).2.2.2.2.2.2.2 = bt_X10_forget := rfl
theorem bp_X10_sent : bz_P mX10_sent = bm_X10_sent := rfl
theorem bT_X10_sent : (bz_P mX10_sent).2.2.2.2.2.2.2 = bt_X10_sent := rfl
theorem bp_X10_ask : bz_P mX10_ask = bm_X10_ask := rfl
theorem bT_X10_ask : (bz_P mX10_ask).2.2.2.2.2.2.2 = bt_X10_ask := rfl
theorem bp_X10_chalk : bz_P mX10_chalk = bm_X10_chalk := rfl
theorem bT_X10_chalk : (bz_P mX10_chalk).2.2.2.2.2.2.2 = bt_X10_chalk := rfl
theorem bp_J9_max_f86c9 : bz_P mJ9_max_f86c9 = bm_J9_max_f86c9 := rfl
theorem bT_J9_max_f86c9 : (bz_P mJ9_max_f86c9).2.2.2.2.2.2.2 = bt_J9_max_f86c9 := rfl
theorem bp_X10_match : bz_P mX10_match = bm_X10_match := rfl
theorem bT_X10_match : (bz_P mX10_match).2.2.2.2.2.2.2 = bt_X10_match := rfl
theorem bp_X10_season : bz_P mX10_season = bm_X10_season := rfl
theorem bT_X10_season : (bz_P mX10_season).2.2.2.2.2.2.2 = bt_X10_season := rfl
theorem bp_X10_image : bz_P mX10_image = bm_X10_image := rfl
theorem bT_X10_image : (bz_P mX10_image).2.2.2.2.2.2.2 = bt_X10_image := rfl
theorem bp_X10_restore : bz_P mX10_restore = bm_X10_restore := rfl
theorem bT_X10_restore : (bz_P mX10_restore).2.2.2.2.2.2.2 = bt_X10_restore := rfl
theorem bp_X10_told : bz_P mX10_told = bm_X10_told := rfl
theorem bT_X10_told : (bz_P mX10_told).2.2.2.2.2.2.2 = bt_X10_told := rfl
theorem bp_X11_in : bz_P mX11_in = bm_X11_in := rfl
theorem bT_X11_in : (bz_P mX11_in).2.2.2.2.2.2.2 = bt_X11_in := rfl
theorem bp_X11_isBall : bz_P mX11_isBall = bm_X11_isBall := rfl
theorem bT_X11_isBall : (bz_P mX11_isBall).2.2.2.2.2.2.2 = bt_X11_isBall := rfl
theorem bp_X11_isCell : bz_P mX11_isCell = bm_X11_isCell := rfl
theorem bT_X11_isCell : (bz_P mX11_isCell).2.2.2.2.2.2.2 = bt_X11_isCell := rfl
theorem bp_X11_isPocket : bz_P mX11_isPocket = bm_X11_isPocket := rfl
theorem bT_X11_isPocket : (bz_P mX11_isPocket).2.2.2.2.2.2.2 = bt_X11_isPocket := rfl
theorem bp_X11_isPlace : bz_P mX11_isPlace = bm_X11_isPlace := rfl
theorem bT_X11_isPlace : (bz_P mX11_isPlace).2.2.2.2.2.2.2 = bt_X11_isPlace := rfl
theorem bp_X11_home : bz_P mX11_home = bm_X11_home := rfl
theorem bT_X11_home : (bz_P mX11_home).2.2.2.2.2.2.2 = bt_X11_home := rfl
theorem bp_X11_downwards : bz_P mX11_downwards = bm_X11_downwards := rfl
theorem bT_X11_downwards : (bz_P mX11_downwards).2.2.2.2.2.2.2 = bt_X11_downwards := rfl
theorem bp_X11_across : bz_P mX11_across = bm_X11_across := rfl
theorem bT_X11_across : (bz_P mX11_across).2.2.2.2.2.2.2 = bt_X11_across := rfl
theorem bp_X11_turned : bz_P mX11_turned = bm_X11_turned := rfl
theorem bT_X11_turned : (bz_P mX11_turned).2.2.2.2.2.2.2 = bt_X11_turned := rfl
theorem bp_X11_ahead : bz_P mX11_ahead = bm_X11_ahead := rfl
theorem bT_X11_ahead : (bz_P mX11_ahead).2.2.2.2.2.2.2 = bt_X11_ahead := rfl
theorem bp_X11_ballOn : bz_P mX11_ballOn = bm_X11_ballOn := rfl
theorem bT_X11_ballOn : (bz_P mX11_ballOn).2.2.2.2.2.2.2 = bt_X11_ballOn := rfl
theorem bp_X11_ball : bz_P mX11_ball = bm_X11_ball := rfl
theorem bT_X11_ball : (bz_P mX11_ball).2.2.2.2.2.2.2 = bt_X11_ball := rfl
theorem bp_X11_score : bz_P mX11_score = bm_X11_score := rfl
theorem bT_X11_score : (bz_P mX11_score).2.2.2.2.2.2.2 = bt_X11_score := rfl
theorem bp_X11_say : bz_P mX11_say = bm_X11_say := rfl
theorem bT_X11_say : (bz_P mX11_say).2.2.2.2.2.2.2 = bt_X11_say := rfl
theorem bp_X11_wipe : bz_P mX11_wipe = bm_X11_wipe := rfl
theorem bT_X11_wipe : (bz_P mX11_wipe).2.2.2.2.2.2.2 = bt_X11_wipe := rfl
theorem bp_X11_close : bz_P mX11_close = bm_X11_close := rfl
theorem bT_X11_close : (bz_P mX11_close).2.2.2.2.2.2.2 = bt_X11_close := rfl
theorem bp_X11_begin : bz_P mX11_begin = bm_X11_begin := rfl
theorem bT_X11_begin : (bz_P mX11_begin).2.2.2.2.2.2.2 = bt_X11_begin := rfl
theorem bp_X11_deed : bz_P mX11_deed = bm_X11_deed := rfl
theorem bT_X11_deed : (bz_P mX11_deed).2.2.2.2.2.2.2 = bt_X11_deed := rfl
theorem bp_X11_force : bz_P mX11_force = bm_X11_force := rfl
theorem bT_X11_force : (bz_P mX11_force).2.2.2.2.2.2.2 = bt_X11_force := rfl
theorem bp_X11_readOn : bz_P mX11_readOn = bm_X11_readOn := rfl
theorem bT_X11_readOn : (bz_P mX11_readOn).2.2.2.2.2.2.2 = bt_X11_readOn := rfl
theorem bp_X11_fault : bz_P mX11_fault = bm_X11_fault := rfl
theorem bT_X11_fault : (bz_P mX11_fault).2.2.2.2.2.2.2 = bt_X11_fault := rfl
theorem bp_X11_touch : bz_P mX11_touch = bm_X11_touch := rfl
theorem bT_X11_touch : (bz_P mX11_touch).2.2.2.2.2.2.2 = bt_X11_touch := rfl
theorem bp_X11_step : bz_P mX11_step = bm_X11_step := rfl
theorem bT_X11_step : (bz_P mX11_step).2.2.2.2.2.2.2 = bt_X11_step := rfl
theorem bp_X11_send : bz_P mX11_send = bm_X11_send := rfl
theorem bT_X11_send : (bz_P mX11_send).2.2.2.2.2.2.2 = bt_X11_send := rfl
theorem bp_X11_stroke : bz_P mX11_stroke = bm_X11_stroke := rfl
theorem bT_X11_stroke : (bz_P mX11_stroke).2.2.2.2.2.2.2 = bt_X11_stroke := rfl
theorem bp_X11_columnOf : bz_P mX11_columnOf = bm_X11_columnOf := rfl
theorem bT_X11_columnOf : (bz_P mX11_columnOf).2.2.2.2.2.2.2 = bt_X11_columnOf := rfl
theorem bp_X11_drift : bz_P mX11_drift = bm_X11_drift := rfl
theorem bT_X11_drift : (bz_P mX11_drift).2.2.2.2.2.2.2 = bt_X11_drift := rfl
theorem bp_X11_nap : bz_P mX11_nap = bm_X11_nap := rfl
theorem bT_X11_nap : (bz_P mX11_nap).2.2.2.2.2.2.2 = bt_X11_nap := rfl
theorem bp_X11_whyNot : bz_P mX11_whyNot = bm_X11_whyNot := rfl
theorem bT_X11_whyNot : (bz_P mX11_whyNot).2.2.2.2.2.2.2 = bt_X11_whyNot := rfl
theorem bp_X11_happen : bz_P mX11_happen = bm_X11_happen := rfl
theorem bT_X11_happen : (bz_P mX11_happen).2.2.2.2.2.2.2 = bt_X11_happen := rfl
theorem bp_X11_keepNow : bz_P mX11_keepNow = bm_X11_keepNow := rfl
theorem bT_X11_keepNow : (bz_P mX11_keepNow).2.2.2.2.2.2.2 = bt_X11_keepNow := rfl
theorem bp_X11_back : bz_P mX11_back = bm_X11_back := rfl
theorem bT_X11_back : (bz_P mX11_back).2.2.2.2.2.2.2 = bt_X11_back := rfl
theorem bp_X11_goCrises : bz_P mX11_goCrises = bm_X11_goCrises := rfl
theorem bT_X11_goCrises : (bz_P mX11_goCrises).2.2.2.2.2.2.2 = bt_X11_goCrises := rfl
theorem bp_X11_refusal : bz_P mX11_refusal = bm_X11_refusal := rfl
theorem bT_X11_refusal : (bz_P mX11_refusal).2.2.2.2.2.2.2 = bt_X11_refusal := rfl
theorem bp_X11_judge : bz_P mX11_judge = bm_X11_judge := rfl
theorem bT_X11_judge : (bz_P mX11_judge).2.2.2.2.2.2.2 = bt_X11_judge := rfl
theorem bp_X11_behind : bz_P mX11_behind = bm_X11_behind := rfl
theorem bT_X11_behind : (bz_P mX11_behind).2.2.2.2.2.2.2 = bt_X11_behind := rfl
theorem bp_X11_downMany : bz_P mX11_downMany = bm_X11_downMany := rfl
theorem bT_X11_downMany : (bz_P mX11_downMany).2.2.2.2.2.2.2 = bt_X11_downMany := rfl
theorem bp_X11_table : bz_P mX11_table = bm_X11_table := rfl
theorem bT_X11_table : (bz_P mX11_table).2.2.2.2.2.2.2 = bt_X11_table := rfl
theorem bp_X11_candour : bz_P mX11_candour = bm_X11_candour := rfl
theorem bT_X11_candour : (bz_P mX11_candour).2.2.2.2.2.2.2 = bt_X11_candour := rfl
theorem bp_X11_done : bz_P mX11_done = bm_X11_done := rfl
theorem bT_X11_done : (bz_P mX11_done).2.2.2.2.2.2.2 = bt_X11_done := rfl
theorem bp_X11_stepsBy : bz_P mX11_stepsBy = bm_X11_stepsBy := rfl
theorem bT_X11_stepsBy : (bz_P mX11_stepsBy).2.2.2.2.2.2.2 = bt_X11_stepsBy := rfl
theorem bp_X11_hint : bz_P mX11_hint = bm_X11_hint := rfl
theorem bT_X11_hint : (bz_P mX11_hint).2.2.2.2.2.2.2 = bt_X11_hint := rfl
theorem bp_X11_next : bz_P mX11_next = bm_X11_next := rfl
theorem bT_X11_next : (bz_P mX11_next).2.2.2.2.2.2.2 = bt_X11_next := rfl
theorem bp_X11_behindSteps : bz_P mX11_behindSteps = bm_X11_behindSteps := rfl
theorem bT_X11_behindSteps : (bz_P mX11_behindSteps).2.2.2.2.2.2.2 = bt_X11_behindSteps := rfl
theorem bp_X11_metMany : bz_P mX11_metMany = bm_X11_metMany := rfl
theorem bT_X11_metMany : (bz_P mX11_metMany).2.2.2.2.2.2.2 = bt_X11_metMany := rfl
theorem bp_X11_stepsBack : bz_P mX11_stepsBack = bm_X11_stepsBack := rfl
theorem bT_X11_stepsBack : (bz_P mX11_stepsBack).2.2.2.2.2.2.2 = bt_X11_stepsBack := rfl
theorem bp_X11_alone : bz_P mX11_alone = bm_X11_alone := rfl
theorem bT_X11_alone : (bz_P mX11_alone).2.2.2.2.2.2.2 = bt_X11_alone := rfl
theorem bp_X11_leadsTo : bz_P mX11_leadsTo = bm_X11_leadsTo := rfl
theorem bT_X11_leadsTo : (bz_P mX11_leadsTo).2.2.2.2.2.2.2 = bt_X11_leadsTo := rfl
theorem bp_X11_wayTo : bz_P mX11_wayTo = bm_X11_wayTo := rfl
theorem bT_X11_wayTo : (bz_P mX11_wayTo).2.2.2.2.2.2.2 = bt_X11_wayTo := rfl
theorem bp_X11_findFar : bz_P mX11_findFar = bm_X11_findFar := rfl
theorem bT_X11_findFar : (bz_P mX11_findFar).2.2.2.2.2.2.2 = bt_X11_findFar := rfl
theorem bp_X11_strokes : bz_P mX11_strokes = bm_X11_strokes := rfl
theorem bT_X11_strokes : (bz_P mX11_strokes).2.2.2.2.2.2.2 = bt_X11_strokes := rfl
theorem bp_X11_seen : bz_P mX11_seen = bm_X11_seen := rfl
theorem bT_X11_seen : (bz_P mX11_seen).2.2.2.2.2.2.2 = bt_X11_seen := rfl
theorem bp_X11_forget : bz_P mX11_forget = bm_X11_forget := rfl
theorem bT_X11_forget : (bz_P mX11_forget).2.2.2.2.2.2.2 = bt_X11_forget := rfl
theorem bp_X11_isFit : bz_P mX11_isFit = bm_X11_isFit := rfl
theorem bT_X11_isFit : (bz_P mX11_isFit).2.2.2.2.2.2.2 = bt_X11_isFit := rfl
theorem bp_X11_findFits : bz_P mX11_findFits = bm_X11_findFits := rfl
theorem bT_X11_findFits : (bz_P mX11_findFits).2.2.2.2.2.2.2 = bt_X11_findFits := rfl
theorem bp_X11_sent : bz_P mX11_sent = bm_X11_sent := rfl
theorem bT_X11_sent : (bz_P mX11_sent).2.2.2.2.2.2.2 = bt_X11_sent := rfl
theorem bp_X11_mostNow : bz_P mX11_mostNow = bm_X11_mostNow := rfl
theorem bT_X11_mostNow : (bz_P mX11_mostNow).2.2.2.2.2.2.2 = bt_X11_mostNow := rfl
theorem bp_X11_ask : bz_P mX11_ask = bm_X11_ask := rfl
theorem bT_X11_ask : (bz_P mX11_ask).2.2.2.2.2.2.2 = bt_X11_ask := rfl
theorem bp_X11_digit : bz_P mX11_digit = bm_X11_digit := rfl
theorem bT_X11_digit : (bz_P mX11_digit).2.2.2.2.2.2.2 = bt_X11_digit := rfl
theorem bp_X11_tenTo : bz_P mX11_tenTo = bm_X11_tenTo := rfl
theorem bT_X11_tenTo : (bz_P mX11_tenTo).2.2.2.2.2.2.2 = bt_X11_tenTo := rfl
theorem bp_X11_leastTake : bz_P mX11_leastTake = bm_X11_leastTake := rfl
theorem bT_X11_leastTake : (bz_P mX11_leastTake).2.2.2.2.2.2.2 = bt_X11_leastTake := rfl
theorem bp_X11_chalk : bz_P mX11_chalk = bm_X11_chalk := rfl
theorem bT_X11_chalk : (bz_P mX11_chalk).2.2.2.2.2.2.2 = bt_X11_chalk := rfl
theorem bp_X11_lowest : bz_P mX11_lowest = bm_X11_lowest := rfl
theorem bT_X11_lowest : (bz_P mX11_lowest).2.2.2.2.2.2.2 = bt_X11_lowest := rfl
theorem bp_X11_power : bz_P mX11_power = bm_X11_power := rfl
theorem bT_X11_power : (bz_P mX11_power).2.2.2.2.2.2.2 = bt_X11_power := rfl
theorem bp_X11_findChance : bz_P mX11_findChance = bm_X11_findChance := rfl
theorem bT_X11_findChance : (bz_P mX11_findChance).2.2.2.2.2.2.2 = bt_X11_findChance := rfl
theorem bp_X11_match : bz_P mX11_match = bm_X11_match := rfl
theorem bT_X11_match : (bz_P mX11_match).2.2.2.2.2.2.2 = bt_X11_match := rfl
theorem bp_X11_actBy : bz_P mX11_actBy = bm_X11_actBy := rfl
theorem bT_X11_actBy : (bz_P mX11_actBy).2.2.2.2.2.2.2 = bt_X11_actBy := rfl
theorem bp_X11_season : bz_P mX11_season = bm_X11_season := rfl
theorem bT_X11_season : (bz_P mX11_season).2.2.2.2.2.2.2 = bt_X11_season := rfl
theorem bp_X11_pass : bz_P mX11_pass = bm_X11_pass := rfl
theorem bT_X11_pass : (bz_P mX11_pass).2.2.2.2.2.2.2 = bt_X11_pass := rfl
theorem bp_X11_passRow : bz_P mX11_passRow = bm_X11_passRow := rfl
theorem bT_X11_passRow : (bz_P mX11_passRow).2.2.2.2.2.2.2 = bt_X11_passRow := rfl
theorem bp_X11_passAll : bz_P mX11_passAll = bm_X11_passAll := rfl
theorem bT_X11_passAll : (bz_P mX11_passAll).2.2.2.2.2.2.2 = bt_X11_passAll := rfl
theorem bp_X11_image : bz_P mX11_image = bm_X11_image := rfl
theorem bT_X11_image : (bz_P mX11_image).2.2.2.2.2.2.2 = bt_X11_image := rfl
theorem bp_X11_restore : bz_P mX11_restore = bm_X11_restore := rfl
theorem bT_X11_restore : (bz_P mX11_restore).2.2.2.2.2.2.2 = bt_X11_restore := rfl
theorem bp_X11_told : bz_P mX11_told = bm_X11_told := rfl
theorem bT_X11_told : (bz_P mX11_told).2.2.2.2.2.2.2 = bt_X11_told := rfl
theorem bp_L_law : bz_P mL_law = bm_L_law := rfl
theorem bT_L_law : (bz_P mL_law).2.2.2.2.2.2.2 = bt_L_law := rfl
