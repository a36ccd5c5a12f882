/-! ALL ROWS of the program are what the bytes say -/
theorem bz_allM (l : Launch) : ∀ M ∈ bz_ms, ∀ q ∈ M.2.2.2.2.2.2.2, bz_rw bz_P l M q := by
  refine bz_ac (bo_X0_isLost l) ?_
  refine bz_ac (bo_X0_winsAtOnce l) ?_
  refine bz_ac (bo_X0_learn l) ?_
  refine bz_ac (bo_X0_winningMove l) ?_
  refine bz_ac (bo_X6_copy l) ?_
  refine bz_ac (bo_X4_copy l) ?_
  refine bz_ac (bo_X1_keep l) ?_
  refine bz_ac (bo_X2_choose l) ?_
  refine bz_ac (bo_X2_power l) ?_
  refine bz_ac (bo_X2_winning l) ?_
  refine bz_ac (bo_X2_games l) ?_
  refine bz_ac (bo_X2_commonDivisor l) ?_
  refine bz_ac (bo_X3_add l) ?_
  refine bz_ac (bo_X3_empty l) ?_
  refine bz_ac (bo_X10_isWithin l) ?_
  refine bz_ac (bo_X3_signAt l) ?_
  refine bz_ac (bo_X3_isLetter l) ?_
  refine bz_ac (bo_X3_canStand l) ?_
  refine bz_ac (bo_X3_isActAt l) ?_
  refine bz_ac (bo_X3_firstFault l) ?_
  refine bz_ac (bo_X3_actKind l) ?_
  refine bz_ac (bo_X3_actLength l) ?_
  refine bz_ac (bo_X4_add l) ?_
  refine bz_ac (bo_J9_floorMod_7cf53 l) ?_
  refine bz_ac (bo_X7_cellBehind l) ?_
  refine bz_ac (bo_X4_allFit l) ?_
  refine bz_ac (bo_X5_begin l) ?_
  refine bz_ac (bo_X10_turned l) ?_
  refine bz_ac (bo_X10_next l) ?_
  refine bz_ac (bo_X6_lyingOn l) ?_
  refine bz_ac (bo_X5_touch l) ?_
  refine bz_ac (bo_X10_isPocket l) ?_
  refine bz_ac (bo_X5_run l) ?_
  refine bz_ac (bo_X5_pointsMore l) ?_
  refine bz_ac (bo_X5_foulsMore l) ?_
  refine bz_ac (bo_X10_isBall l) ?_
  refine bz_ac (bo_X6_isDown l) ?_
  refine bz_ac (bo_X6_cellOrNone l) ?_
  refine bz_ac (bo_X6_howManyDown l) ?_
  refine bz_ac (bo_X6_reasonAgainst l) ?_
  refine bz_ac (bo_X6_driftOne l) ?_
  refine bz_ac (bo_X6_drift l) ?_
  refine bz_ac (bo_X10_bit l) ?_
  refine bz_ac (bo_X7_walk l) ?_
  refine bz_ac (bo_X8_begin l) ?_
  refine bz_ac (bo_X8_play l) ?_
  refine bz_ac (bo_X8_tryAct l) ?_
  refine bz_ac (bo_X8_runText l) ?_
  refine bz_ac (bo_X8_runSeason l) ?_
  refine bz_ac (bo_X8_forceToTouch l) ?_
  refine bz_ac (bo_X10_isCell l) ?_
  refine bz_ac (bo_X10_isPlace l) ?_
  refine bz_ac (bo_X9_gather l) ?_
  refine bz_ac (bo_X9_countLeft l) ?_
  refine bz_ac (bo_J9_max_7cf53 l) ?_
  refine bz_ac (bo_X9_mostLeftAt l) ?_
  refine bz_ac (bo_X9_chooseStep l) ?_
  refine bz_ac (bo_X10_ball l) ?_
  refine bz_ac (bo_X10_score l) ?_
  refine bz_ac (bo_X10_say l) ?_
  refine bz_ac (bo_X10_wipe l) ?_
  refine bz_ac (bo_X10_fault l) ?_
  refine bz_ac (bo_X10_tryText l) ?_
  refine bz_ac (bo_X10_judge l) ?_
  refine bz_ac (bo_X10_behind l) ?_
  refine bz_ac (bo_X10_table l) ?_
  refine bz_ac (bo_X10_candour l) ?_
  refine bz_ac (bo_X10_done l) ?_
  refine bz_ac (bo_X10_hint l) ?_
  refine bz_ac (bo_J13_bitCount_95d88 l) ?_
  refine bz_ac (bo_X10_alone l) ?_
  refine bz_ac (bo_X10_reachOf l) ?_
  refine bz_ac (bo_X10_firstWayInto l) ?_
  refine bz_ac (bo_X10_withAllThatReach l) ?_
  refine bz_ac (bo_X10_strokes l) ?_
  refine bz_ac (bo_X10_seen l) ?_
  refine bz_ac (bo_X10_forget l) ?_
  refine bz_ac (bo_X10_sent l) ?_
  refine bz_ac (bo_X10_ask l) ?_
  refine bz_ac (bo_X10_chalk l) ?_
  refine bz_ac (bo_J9_max_f86c9 l) ?_
  refine bz_ac (bo_X10_match l) ?_
  refine bz_ac (bo_X10_season l) ?_
  refine bz_ac (bo_X10_image l) ?_
  refine bz_ac (bo_X10_restore l) ?_
  refine bz_ac (bo_X10_told l) ?_
  refine bz_ac (bo_X11_in l) ?_
  refine bz_ac (bo_X11_isBall l) ?_
  refine bz_ac (bo_X11_isCell l) ?_
  refine bz_ac (bo_X11_isPocket l) ?_
  refine bz_ac (bo_X11_isPlace l) ?_
  refine bz_ac (bo_X11_home l) ?_
  refine bz_ac (bo_X11_downwards l) ?_
  refine bz_ac (bo_X11_across l) ?_
  refine bz_ac (bo_X11_turned l) ?_
  refine bz_ac (bo_X11_ahead l) ?_
  refine bz_ac (bo_X11_ballOn l) ?_
  refine bz_ac (bo_X11_ball l) ?_
  refine bz_ac (bo_X11_score l) ?_
  refine bz_ac (bo_X11_say l) ?_
  refine bz_ac (bo_X11_wipe l) ?_
  refine bz_ac (bo_X11_close l) ?_
  refine bz_ac (bo_X11_begin l) ?_
  refine bz_ac (bo_X11_deed l) ?_
  refine bz_ac (bo_X11_force l) ?_
  refine bz_ac (bo_X11_readOn l) ?_
  refine bz_ac (bo_X11_fault l) ?_
  refine bz_ac (bo_X11_touch l) ?_
  refine bz_ac (bo_X11_step l) ?_
  refine bz_ac (bo_X11_send l) ?_
  refine bz_ac (bo_X11_stroke l) ?_
  refine bz_ac (bo_X11_columnOf l) ?_
  refine bz_ac (bo_X11_drift l) ?_
  refine bz_ac (bo_X11_nap l) ?_
  refine bz_ac (bo_X11_whyNot l) ?_
  refine bz_ac (bo_X11_happen l) ?_
  refine bz_ac (bo_X11_keepNow l) ?_
  refine bz_ac (bo_X11_back l) ?_
  refine bz_ac (bo_X11_goCrises l) ?_
  refine bz_ac (bo_X11_refusal l) ?_
  refine bz_ac (bo_X11_judge l) ?_
  refine bz_ac (bo_X11_behind l) ?_
  refine bz_ac (bo_X11_downMany l) ?_
  refine bz_ac (bo_X11_table l) ?_
  refine bz_ac (bo_X11_candour l) ?_
  refine bz_ac (bo_X11_done l) ?_
  refine bz_ac (bo_X11_stepsBy l) ?_
  refine bz_ac (bo_X11_hint l) ?_
  refine bz_ac (bo_X11_next l) ?_
  refine bz_ac (bo_X11_behindSteps l) ?_
  refine bz_ac (bo_X11_metMany l) ?_
  refine bz_ac (bo_X11_stepsBack l) ?_
  refine bz_ac (bo_X11_alone l) ?_
  refine bz_ac (bo_X11_leadsTo l) ?_
  refine bz_ac (bo_X11_wayTo l) ?_
  refine bz_ac (bo_X11_findFar l) ?_
  refine bz_ac (bo_X11_strokes l) ?_
  refine bz_ac (bo_X11_seen l) ?_
  refine bz_ac (bo_X11_forget l) ?_
  refine bz_ac (bo_X11_isFit l) ?_
  refine bz_ac (bo_X11_findFits l) ?_
  refine bz_ac (bo_X11_sent l) ?_
  refine bz_ac (bo_X11_mostNow l) ?_
  refine bz_ac (bo_X11_ask l) ?_
  refine bz_ac (bo_X11_digit l) ?_
  refine bz_ac (bo_X11_tenTo l) ?_
  refine bz_ac (bo_X11_leastTake l) ?_
  refine bz_ac (bo_X11_chalk l) ?_
  refine bz_ac (bo_X11_lowest l) ?_
  refine bz_ac (bo_X11_power l) ?_
  refine bz_ac (bo_X11_findChance l) ?_
  refine bz_ac (bo_X11_match l) ?_
  refine bz_ac (bo_X11_actBy l) ?_
  refine bz_ac (bo_X11_season l) ?_
  refine bz_ac (bo_X11_pass l) ?_
  refine bz_ac (bo_X11_passRow l) ?_
  refine bz_ac (bo_X11_passAll l) ?_
  refine bz_ac (bo_X11_image l) ?_
  refine bz_ac (bo_X11_restore l) ?_
  refine bz_ac (bo_X11_told l) ?_
  refine bz_ac (bo_L_law l) ?_
  exact bz_an
theorem bz_all (l : Launch) (k : Nat) : ∀ q ∈ (bz_P k).2.2.2.2.2.2.2, bz_rw bz_P l (bz_P k) q := by
  by_cases h : k < bz_ms.length
  · have e : bz_P k = bz_ms[k] := by
      unfold bz_P
      rw [List.getD_eq_getElem?_getD, List.getElem?_eq_getElem h]
      rfl
    rw [e]
    exact bz_allM l _ (List.getElem_mem h)
  · have e : bz_P k = ("", yL_law, cL_law, 0, none, 0, 0, []) := by
      unfold bz_P
      rw [List.getD_eq_getElem?_getD, List.getElem?_eq_none (by omega)]
      rfl
    rw [e]
    intro q hq
    exact absurd hq List.not_mem_nil
/-! THE START'S STORE, and that the two sides agree there -/
def cs_s : bz_S := (fun o k => bif Nat.beq o 2 || (Nat.beq o 10 || (Nat.beq o 22 || (Nat.beq o 28 || Nat.beq o 33))) then cn_first k else 0, fun _ _ => 0)
theorem cs_iv : iv_R hp_T cs_s cs_s := by
  have e0 : tb_E 0 := ⟨0, by omega, rfl⟩
  have ht : tb_R cn_first cn_first := by
    refine ⟨fun b hb => Or.inr ⟨rfl, ?_⟩, fun b b' hb hb' h => Or.inl ?_⟩
    · rcases (show b = 0 ∨ b = 1 ∨ b = 2 by omega) with rfl | rfl | rfl <;> decide
    · rcases (show b = 0 ∨ b = 1 ∨ b = 2 by omega) with rfl | rfl | rfl <;> rcases (show b' = 0 ∨ b' = 1 ∨ b' = 2 by omega) with rfl | rfl | rfl <;> first | rfl | exact absurd h (by decide)
  refine ⟨⟨ht, rfl, rfl, rfl, e0⟩, ⟨0, by omega, rfl, rfl, fun _ _ => rfl⟩, ⟨0, by omega, rfl, rfl, fun k hk => ⟨rfl, rfl, ⟨0, by omega, rfl⟩, ⟨0, by omega, rfl⟩⟩⟩, Or.inl rfl, Or.inl ⟨rfl, rfl⟩, Or.inl ⟨rfl, rfl⟩⟩
/-- where the stock lies: the class's objects at a and q, the model's at b and r, the tables and the script at t -/
def cs_ad (a : Nat) (q : Nat → Nat) (b : Nat) (r t : Nat → Nat) : Nat → Nat := fun o => bif Nat.blt o 32 then (bif Nat.beq o 0 then a else q o) else (bif Nat.blt o 1000 then (bif Nat.beq o 32 then b else r (o - 32)) else t (o - 1000))
abbrev cs_L (ca : Nat → ClassId) (a : Nat) (q : Nat → Nat) (b : Nat) (r t : Nat → Nat) : va_W := (([] ++ cw_Baize ca a q) ++ cw_Model ca b r).set 19 (q 19, .inl (ca 3, 2, .inr (.inr (.inr (.inr (fun k => some (cs_ad a q b r t ([2, 20, 26].getD (k + 1) 0))))))))
set_option maxRecDepth 100000 in
theorem cs_W0 (ca : Nat → ClassId) (a : Nat) (q : Nat → Nat) (b : Nat) (r t : Nat → Nat) : (cs_L ca a q b r t)[0]? = (bz_W (cs_ad a q b r t) ca cs_s)[0]? := by
  rw [bz_W_at (o := 0) (sh := (0, 9, [1, 3, 6, 8, 12, 14, 17, 19])) rfl]
  rfl
set_option maxRecDepth 100000 in
theorem cs_W1 (ca : Nat → ClassId) (a : Nat) (q : Nat → Nat) (b : Nat) (r t : Nat → Nat) : (cs_L ca a q b r t)[1]? = (bz_W (cs_ad a q b r t) ca cs_s)[1]? := by
  rw [bz_W_at (o := 1) (sh := (0, 5, [2])) rfl]
  rfl
set_option maxRecDepth 100000 in
theorem cs_W2 (ca : Nat → ClassId) (a : Nat) (q : Nat → Nat) (b : Nat) (r t : Nat → Nat) : (cs_L ca a q b r t)[2]? = (bz_W (cs_ad a q b r t) ca cs_s)[2]? := by
  rw [bz_W_at (o := 2) (sh := (1, 0, [3])) rfl]
  rfl
set_option maxRecDepth 100000 in
theorem cs_W3 (ca : Nat → ClassId) (a : Nat) (q : Nat → Nat) (b : Nat) (r t : Nat → Nat) : (cs_L ca a q b r t)[3]? = (bz_W (cs_ad a q b r t) ca cs_s)[3]? := by
  rw [bz_W_at (o := 3) (sh := (0, 3, [4, 5])) rfl]
  rfl
set_option maxRecDepth 100000 in
theorem cs_W4 (ca : Nat → ClassId) (a : Nat) (q : Nat → Nat) (b : Nat) (r t : Nat → Nat) : (cs_L ca a q b r t)[4]? = (bz_W (cs_ad a q b r t) ca cs_s)[4]? := by
  rw [bz_W_at (o := 4) (sh := (1, 0, [8])) rfl]
  rfl
set_option maxRecDepth 100000 in
theorem cs_W5 (ca : Nat → ClassId) (a : Nat) (q : Nat → Nat) (b : Nat) (r t : Nat → Nat) : (cs_L ca a q b r t)[5]? = (bz_W (cs_ad a q b r t) ca cs_s)[5]? := by
  rw [bz_W_at (o := 5) (sh := (1, 0, [8])) rfl]
  rfl
set_option maxRecDepth 100000 in
theorem cs_W6 (ca : Nat → ClassId) (a : Nat) (q : Nat → Nat) (b : Nat) (r t : Nat → Nat) : (cs_L ca a q b r t)[6]? = (bz_W (cs_ad a q b r t) ca cs_s)[6]? := by
  rw [bz_W_at (o := 6) (sh := (0, 2, [7])) rfl]
  rfl
set_option maxRecDepth 100000 in
theorem cs_W7 (ca : Nat → ClassId) (a : Nat) (q : Nat → Nat) (b : Nat) (r t : Nat → Nat) : (cs_L ca a q b r t)[7]? = (bz_W (cs_ad a q b r t) ca cs_s)[7]? := by
  rw [bz_W_at (o := 7) (sh := (1, 0, [60])) rfl]
  rfl
set_option maxRecDepth 100000 in
theorem cs_W8 (ca : Nat → ClassId) (a : Nat) (q : Nat → Nat) (b : Nat) (r t : Nat → Nat) : (cs_L ca a q b r t)[8]? = (bz_W (cs_ad a q b r t) ca cs_s)[8]? := by
  rw [bz_W_at (o := 8) (sh := (0, 7, [9, 11])) rfl]
  rfl
set_option maxRecDepth 100000 in
theorem cs_W9 (ca : Nat → ClassId) (a : Nat) (q : Nat → Nat) (b : Nat) (r t : Nat → Nat) : (cs_L ca a q b r t)[9]? = (bz_W (cs_ad a q b r t) ca cs_s)[9]? := by
  rw [bz_W_at (o := 9) (sh := (0, 5, [10])) rfl]
  rfl
set_option maxRecDepth 100000 in
theorem cs_W10 (ca : Nat → ClassId) (a : Nat) (q : Nat → Nat) (b : Nat) (r t : Nat → Nat) : (cs_L ca a q b r t)[10]? = (bz_W (cs_ad a q b r t) ca cs_s)[10]? := by
  rw [bz_W_at (o := 10) (sh := (1, 0, [3])) rfl]
  rfl
set_option maxRecDepth 100000 in
theorem cs_W11 (ca : Nat → ClassId) (a : Nat) (q : Nat → Nat) (b : Nat) (r t : Nat → Nat) : (cs_L ca a q b r t)[11]? = (bz_W (cs_ad a q b r t) ca cs_s)[11]? := by
  rw [bz_W_at (o := 11) (sh := (0, 4, [])) rfl]
  rfl
set_option maxRecDepth 100000 in
theorem cs_W12 (ca : Nat → ClassId) (a : Nat) (q : Nat → Nat) (b : Nat) (r t : Nat → Nat) : (cs_L ca a q b r t)[12]? = (bz_W (cs_ad a q b r t) ca cs_s)[12]? := by
  rw [bz_W_at (o := 12) (sh := (0, 6, [13])) rfl]
  rfl
set_option maxRecDepth 100000 in
theorem cs_W13 (ca : Nat → ClassId) (a : Nat) (q : Nat → Nat) (b : Nat) (r t : Nat → Nat) : (cs_L ca a q b r t)[13]? = (bz_W (cs_ad a q b r t) ca cs_s)[13]? := by
  rw [bz_W_at (o := 13) (sh := (1, 0, [16])) rfl]
  rfl
set_option maxRecDepth 100000 in
theorem cs_W14 (ca : Nat → ClassId) (a : Nat) (q : Nat → Nat) (b : Nat) (r t : Nat → Nat) : (cs_L ca a q b r t)[14]? = (bz_W (cs_ad a q b r t) ca cs_s)[14]? := by
  rw [bz_W_at (o := 14) (sh := (0, 8, [15, 0, 0, 0, 16])) rfl]
  rfl
set_option maxRecDepth 100000 in
theorem cs_W15 (ca : Nat → ClassId) (a : Nat) (q : Nat → Nat) (b : Nat) (r t : Nat → Nat) : (cs_L ca a q b r t)[15]? = (bz_W (cs_ad a q b r t) ca cs_s)[15]? := by
  rw [bz_W_at (o := 15) (sh := (1, 0, [360])) rfl]
  rfl
set_option maxRecDepth 100000 in
theorem cs_W16 (ca : Nat → ClassId) (a : Nat) (q : Nat → Nat) (b : Nat) (r t : Nat → Nat) : (cs_L ca a q b r t)[16]? = (bz_W (cs_ad a q b r t) ca cs_s)[16]? := by
  rw [bz_W_at (o := 16) (sh := (1, 0, [720])) rfl]
  rfl
set_option maxRecDepth 100000 in
theorem cs_W17 (ca : Nat → ClassId) (a : Nat) (q : Nat → Nat) (b : Nat) (r t : Nat → Nat) : (cs_L ca a q b r t)[17]? = (bz_W (cs_ad a q b r t) ca cs_s)[17]? := by
  rw [bz_W_at (o := 17) (sh := (0, 0, [18])) rfl]
  rfl
set_option maxRecDepth 100000 in
theorem cs_W18 (ca : Nat → ClassId) (a : Nat) (q : Nat → Nat) (b : Nat) (r t : Nat → Nat) : (cs_L ca a q b r t)[18]? = (bz_W (cs_ad a q b r t) ca cs_s)[18]? := by
  rw [bz_W_at (o := 18) (sh := (1, 0, [100])) rfl]
  rfl
set_option maxRecDepth 100000 in
theorem cs_W19 (ca : Nat → ClassId) (a : Nat) (q : Nat → Nat) (b : Nat) (r t : Nat → Nat) : (cs_L ca a q b r t)[19]? = (bz_W (cs_ad a q b r t) ca cs_s)[19]? := by
  rw [bz_W_at (o := 19) (sh := (1, 3, [2, 20, 26])) rfl]
  rfl
set_option maxRecDepth 100000 in
theorem cs_W20 (ca : Nat → ClassId) (a : Nat) (q : Nat → Nat) (b : Nat) (r t : Nat → Nat) : (cs_L ca a q b r t)[20]? = (bz_W (cs_ad a q b r t) ca cs_s)[20]? := by
  rw [bz_W_at (o := 20) (sh := (0, 1, [21, 23])) rfl]
  rfl
set_option maxRecDepth 100000 in
theorem cs_W21 (ca : Nat → ClassId) (a : Nat) (q : Nat → Nat) (b : Nat) (r t : Nat → Nat) : (cs_L ca a q b r t)[21]? = (bz_W (cs_ad a q b r t) ca cs_s)[21]? := by
  rw [bz_W_at (o := 21) (sh := (0, 5, [22])) rfl]
  rfl
set_option maxRecDepth 100000 in
theorem cs_W22 (ca : Nat → ClassId) (a : Nat) (q : Nat → Nat) (b : Nat) (r t : Nat → Nat) : (cs_L ca a q b r t)[22]? = (bz_W (cs_ad a q b r t) ca cs_s)[22]? := by
  rw [bz_W_at (o := 22) (sh := (1, 0, [3])) rfl]
  rfl
set_option maxRecDepth 100000 in
theorem cs_W23 (ca : Nat → ClassId) (a : Nat) (q : Nat → Nat) (b : Nat) (r t : Nat → Nat) : (cs_L ca a q b r t)[23]? = (bz_W (cs_ad a q b r t) ca cs_s)[23]? := by
  rw [bz_W_at (o := 23) (sh := (0, 3, [24, 25])) rfl]
  rfl
set_option maxRecDepth 100000 in
theorem cs_W24 (ca : Nat → ClassId) (a : Nat) (q : Nat → Nat) (b : Nat) (r t : Nat → Nat) : (cs_L ca a q b r t)[24]? = (bz_W (cs_ad a q b r t) ca cs_s)[24]? := by
  rw [bz_W_at (o := 24) (sh := (1, 0, [8])) rfl]
  rfl
set_option maxRecDepth 100000 in
theorem cs_W25 (ca : Nat → ClassId) (a : Nat) (q : Nat → Nat) (b : Nat) (r t : Nat → Nat) : (cs_L ca a q b r t)[25]? = (bz_W (cs_ad a q b r t) ca cs_s)[25]? := by
  rw [bz_W_at (o := 25) (sh := (1, 0, [8])) rfl]
  rfl
set_option maxRecDepth 100000 in
theorem cs_W26 (ca : Nat → ClassId) (a : Nat) (q : Nat → Nat) (b : Nat) (r t : Nat → Nat) : (cs_L ca a q b r t)[26]? = (bz_W (cs_ad a q b r t) ca cs_s)[26]? := by
  rw [bz_W_at (o := 26) (sh := (0, 1, [27, 29])) rfl]
  rfl
set_option maxRecDepth 100000 in
theorem cs_W27 (ca : Nat → ClassId) (a : Nat) (q : Nat → Nat) (b : Nat) (r t : Nat → Nat) : (cs_L ca a q b r t)[27]? = (bz_W (cs_ad a q b r t) ca cs_s)[27]? := by
  rw [bz_W_at (o := 27) (sh := (0, 5, [28])) rfl]
  rfl
set_option maxRecDepth 100000 in
theorem cs_W28 (ca : Nat → ClassId) (a : Nat) (q : Nat → Nat) (b : Nat) (r t : Nat → Nat) : (cs_L ca a q b r t)[28]? = (bz_W (cs_ad a q b r t) ca cs_s)[28]? := by
  rw [bz_W_at (o := 28) (sh := (1, 0, [3])) rfl]
  rfl
set_option maxRecDepth 100000 in
theorem cs_W29 (ca : Nat → ClassId) (a : Nat) (q : Nat → Nat) (b : Nat) (r t : Nat → Nat) : (cs_L ca a q b r t)[29]? = (bz_W (cs_ad a q b r t) ca cs_s)[29]? := by
  rw [bz_W_at (o := 29) (sh := (0, 3, [30, 31])) rfl]
  rfl
set_option maxRecDepth 100000 in
theorem cs_W30 (ca : Nat → ClassId) (a : Nat) (q : Nat → Nat) (b : Nat) (r t : Nat → Nat) : (cs_L ca a q b r t)[30]? = (bz_W (cs_ad a q b r t) ca cs_s)[30]? := by
  rw [bz_W_at (o := 30) (sh := (1, 0, [8])) rfl]
  rfl
set_option maxRecDepth 100000 in
theorem cs_W31 (ca : Nat → ClassId) (a : Nat) (q : Nat → Nat) (b : Nat) (r t : Nat → Nat) : (cs_L ca a q b r t)[31]? = (bz_W (cs_ad a q b r t) ca cs_s)[31]? := by
  rw [bz_W_at (o := 31) (sh := (1, 0, [8])) rfl]
  rfl
set_option maxRecDepth 100000 in
theorem cs_W32 (ca : Nat → ClassId) (a : Nat) (q : Nat → Nat) (b : Nat) (r t : Nat → Nat) : (cs_L ca a q b r t)[32]? = (bz_W (cs_ad a q b r t) ca cs_s)[32]? := by
  rw [bz_W_at (o := 32) (sh := (0, 10, [33, 0, 0, 0, 34, 35, 0, 36, 0, 37, 38, 39, 40, 0, 0, 0, 0, 0, 0, 0, 0, 0, 0, 0, 0, 41, 42, 0, 0, 0, 43, 44, 45, 46, 0, 47, 48, 49, 50, 51])) rfl]
  rfl
set_option maxRecDepth 100000 in
theorem cs_W33 (ca : Nat → ClassId) (a : Nat) (q : Nat → Nat) (b : Nat) (r t : Nat → Nat) : (cs_L ca a q b r t)[33]? = (bz_W (cs_ad a q b r t) ca cs_s)[33]? := by
  rw [bz_W_at (o := 33) (sh := (1, 0, [3])) rfl]
  rfl
set_option maxRecDepth 100000 in
theorem cs_W34 (ca : Nat → ClassId) (a : Nat) (q : Nat → Nat) (b : Nat) (r t : Nat → Nat) : (cs_L ca a q b r t)[34]? = (bz_W (cs_ad a q b r t) ca cs_s)[34]? := by
  rw [bz_W_at (o := 34) (sh := (1, 0, [8])) rfl]
  rfl
set_option maxRecDepth 100000 in
theorem cs_W35 (ca : Nat → ClassId) (a : Nat) (q : Nat → Nat) (b : Nat) (r t : Nat → Nat) : (cs_L ca a q b r t)[35]? = (bz_W (cs_ad a q b r t) ca cs_s)[35]? := by
  rw [bz_W_at (o := 35) (sh := (1, 0, [8])) rfl]
  rfl
set_option maxRecDepth 100000 in
theorem cs_W36 (ca : Nat → ClassId) (a : Nat) (q : Nat → Nat) (b : Nat) (r t : Nat → Nat) : (cs_L ca a q b r t)[36]? = (bz_W (cs_ad a q b r t) ca cs_s)[36]? := by
  rw [bz_W_at (o := 36) (sh := (1, 0, [60])) rfl]
  rfl
set_option maxRecDepth 100000 in
theorem cs_W37 (ca : Nat → ClassId) (a : Nat) (q : Nat → Nat) (b : Nat) (r t : Nat → Nat) : (cs_L ca a q b r t)[37]? = (bz_W (cs_ad a q b r t) ca cs_s)[37]? := by
  rw [bz_W_at (o := 37) (sh := (1, 0, [60])) rfl]
  rfl
set_option maxRecDepth 100000 in
theorem cs_W38 (ca : Nat → ClassId) (a : Nat) (q : Nat → Nat) (b : Nat) (r t : Nat → Nat) : (cs_L ca a q b r t)[38]? = (bz_W (cs_ad a q b r t) ca cs_s)[38]? := by
  rw [bz_W_at (o := 38) (sh := (1, 0, [60])) rfl]
  rfl
set_option maxRecDepth 100000 in
theorem cs_W39 (ca : Nat → ClassId) (a : Nat) (q : Nat → Nat) (b : Nat) (r t : Nat → Nat) : (cs_L ca a q b r t)[39]? = (bz_W (cs_ad a q b r t) ca cs_s)[39]? := by
  rw [bz_W_at (o := 39) (sh := (1, 0, [60])) rfl]
  rfl
set_option maxRecDepth 100000 in
theorem cs_W40 (ca : Nat → ClassId) (a : Nat) (q : Nat → Nat) (b : Nat) (r t : Nat → Nat) : (cs_L ca a q b r t)[40]? = (bz_W (cs_ad a q b r t) ca cs_s)[40]? := by
  rw [bz_W_at (o := 40) (sh := (1, 0, [60])) rfl]
  rfl
set_option maxRecDepth 100000 in
theorem cs_W41 (ca : Nat → ClassId) (a : Nat) (q : Nat → Nat) (b : Nat) (r t : Nat → Nat) : (cs_L ca a q b r t)[41]? = (bz_W (cs_ad a q b r t) ca cs_s)[41]? := by
  rw [bz_W_at (o := 41) (sh := (1, 0, [3])) rfl]
  rfl
set_option maxRecDepth 100000 in
theorem cs_W42 (ca : Nat → ClassId) (a : Nat) (q : Nat → Nat) (b : Nat) (r t : Nat → Nat) : (cs_L ca a q b r t)[42]? = (bz_W (cs_ad a q b r t) ca cs_s)[42]? := by
  rw [bz_W_at (o := 42) (sh := (1, 0, [6])) rfl]
  rfl
set_option maxRecDepth 100000 in
theorem cs_W43 (ca : Nat → ClassId) (a : Nat) (q : Nat → Nat) (b : Nat) (r t : Nat → Nat) : (cs_L ca a q b r t)[43]? = (bz_W (cs_ad a q b r t) ca cs_s)[43]? := by
  rw [bz_W_at (o := 43) (sh := (1, 2, [45])) rfl]
  rfl
set_option maxRecDepth 100000 in
theorem cs_W44 (ca : Nat → ClassId) (a : Nat) (q : Nat → Nat) (b : Nat) (r t : Nat → Nat) : (cs_L ca a q b r t)[44]? = (bz_W (cs_ad a q b r t) ca cs_s)[44]? := by
  rw [bz_W_at (o := 44) (sh := (1, 0, [45])) rfl]
  rfl
set_option maxRecDepth 100000 in
theorem cs_W45 (ca : Nat → ClassId) (a : Nat) (q : Nat → Nat) (b : Nat) (r t : Nat → Nat) : (cs_L ca a q b r t)[45]? = (bz_W (cs_ad a q b r t) ca cs_s)[45]? := by
  rw [bz_W_at (o := 45) (sh := (1, 0, [360])) rfl]
  rfl
set_option maxRecDepth 100000 in
theorem cs_W46 (ca : Nat → ClassId) (a : Nat) (q : Nat → Nat) (b : Nat) (r t : Nat → Nat) : (cs_L ca a q b r t)[46]? = (bz_W (cs_ad a q b r t) ca cs_s)[46]? := by
  rw [bz_W_at (o := 46) (sh := (1, 0, [360])) rfl]
  rfl
set_option maxRecDepth 100000 in
theorem cs_W47 (ca : Nat → ClassId) (a : Nat) (q : Nat → Nat) (b : Nat) (r t : Nat → Nat) : (cs_L ca a q b r t)[47]? = (bz_W (cs_ad a q b r t) ca cs_s)[47]? := by
  rw [bz_W_at (o := 47) (sh := (1, 0, [45])) rfl]
  rfl
set_option maxRecDepth 100000 in
theorem cs_W48 (ca : Nat → ClassId) (a : Nat) (q : Nat → Nat) (b : Nat) (r t : Nat → Nat) : (cs_L ca a q b r t)[48]? = (bz_W (cs_ad a q b r t) ca cs_s)[48]? := by
  rw [bz_W_at (o := 48) (sh := (1, 2, [2000])) rfl]
  rfl
set_option maxRecDepth 100000 in
theorem cs_W49 (ca : Nat → ClassId) (a : Nat) (q : Nat → Nat) (b : Nat) (r t : Nat → Nat) : (cs_L ca a q b r t)[49]? = (bz_W (cs_ad a q b r t) ca cs_s)[49]? := by
  rw [bz_W_at (o := 49) (sh := (1, 1, [81])) rfl]
  rfl
set_option maxRecDepth 100000 in
theorem cs_W50 (ca : Nat → ClassId) (a : Nat) (q : Nat → Nat) (b : Nat) (r t : Nat → Nat) : (cs_L ca a q b r t)[50]? = (bz_W (cs_ad a q b r t) ca cs_s)[50]? := by
  rw [bz_W_at (o := 50) (sh := (1, 0, [60])) rfl]
  rfl
set_option maxRecDepth 100000 in
theorem cs_W51 (ca : Nat → ClassId) (a : Nat) (q : Nat → Nat) (b : Nat) (r t : Nat → Nat) : (cs_L ca a q b r t)[51]? = (bz_W (cs_ad a q b r t) ca cs_s)[51]? := by
  rw [bz_W_at (o := 51) (sh := (1, 2, [2])) rfl]
  rfl
theorem cs_W (ca : Nat → ClassId) (a : Nat) (q : Nat → Nat) (b : Nat) (r t : Nat → Nat) : cs_L ca a q b r t = bz_W (cs_ad a q b r t) ca cs_s := by
  apply List.ext_getElem?
  intro k
  match k with
  | 0 => exact cs_W0 ca a q b r t
  | 1 => exact cs_W1 ca a q b r t
  | 2 => exact cs_W2 ca a q b r t
  | 3 => exact cs_W3 ca a q b r t
  | 4 => exact cs_W4 ca a q b r t
  | 5 => exact cs_W5 ca a q b r t
  | 6 => exact cs_W6 ca a q b r t
  | 7 => exact cs_W7 ca a q b r t
  | 8 => exact cs_W8 ca a q b r t
  | 9 => exact cs_W9 ca a q b r t
  | 10 => exact cs_W10 ca a q b r t
  | 11 => exact cs_W11 ca a q b r t
  | 12 => exact cs_W12 ca a q b r t
  | 13 => exact cs_W13 ca a q b r t
  | 14 => exact cs_W14 ca a q b r t
  | 15 => exact cs_W15 ca a q b r t
  | 16 => exact cs_W16 ca a q b r t
  | 17 => exact cs_W17 ca a q b r t
  | 18 => exact cs_W18 ca a q b r t
  | 19 => exact cs_W19 ca a q b r t
  | 20 => exact cs_W20 ca a q b r t
  | 21 => exact cs_W21 ca a q b r t
  | 22 => exact cs_W22 ca a q b r t
  | 23 => exact cs_W23 ca a q b r t
  | 24 => exact cs_W24 ca a q b r t
  | 25 => exact cs_W25 ca a q b r t
  | 26 => exact cs_W26 ca a q b r t
  | 27 => exact cs_W27 ca a q b r t
  | 28 => exact cs_W28 ca a q b r t
  | 29 => exact cs_W29 ca a q b r t
  | 30 => exact cs_W30 ca a q b r t
  | 31 => exact cs_W31 ca a q b r t
  | 32 => exact cs_W32 ca a q b r t
  | 33 => exact cs_W33 ca a q b r t
  | 34 => exact cs_W34 ca a q b r t
  | 35 => exact cs_W35 ca a q b r t
  | 36 => exact cs_W36 ca a q b r t
  | 37 => exact cs_W37 ca a q b r t
  | 38 => exact cs_W38 ca a q b r t
  | 39 => exact cs_W39 ca a q b r t
  | 40 => exact cs_W40 ca a q b r t
  | 41 => exact cs_W41 ca a q b r t
  | 42 => exact cs_W42 ca a q b r t
  | 43 => exact cs_W43 ca a q b r t
  | 44 => exact cs_W44 ca a q b r t
  | 45 => exact cs_W45 ca a q b r t
  | 46 => exact cs_W46 ca a q b r t
  | 47 => exact cs_W47 ca a q b r t
  | 48 => exact cs_W48 ca a q b r t
  | 49 => exact cs_W49 ca a q b r t
  | 50 => exact cs_W50 ca a q b r t
  | 51 => exact cs_W51 ca a q b r t
  | k + 52 => rw [List.getElem?_eq_none (by rw [show (cs_L ca a q b r t).length = 52 from rfl]; omega), List.getElem?_eq_none (by unfold bz_W; rw [List.length_mapIdx, show bz_sh.length = 52 from rfl]; omega)]
theorem cs_img {D : va_G} {cl : List vw_C} {A : Nat → Prop} {ws : va_W} {H : Heap} {i a n : Nat} {cA : ClassId} {f g : Nat → Option Nat} (hP : va_P D cl ws H) (hD : va_D A ws) (h : ws[i]? = some (a, .inl (cA, n, .inr (.inr (.inr (.inr f)))))) (e : ∀ k, k < n → f k = g k) : va_P D cl (ws.set i (a, .inl (cA, n, .inr (.inr (.inr (.inr g)))))) H ∧ va_D A (ws.set i (a, .inl (cA, n, .inr (.inr (.inr (.inr g)))))) := by
  refine ⟨hP.set hD h ?_ (fun _ _ => rfl), hD.set h⟩
  have h1 : H[a]? = some (vp_cell cA (n, .inr (.inr (.inr (.inr f))))) := hP i _ h
  show H[a]? = some (vp_cell cA (n, .inr (.inr (.inr (.inr g)))))
  rw [h1, vp_cell_q, vp_cell_q]
  congr 1
  unfold arrV
  congr 1
  apply Array.ext
  · simp
  · intro j hj1 hj2
    simp only [Array.size_ofFn] at hj1
    simp [e j hj1]
