def f_X10_tryText_0_a (σ : bz_S) (τ1 : bz_S) : Int32 × bz_S := if (τ1.1 8 3) = (-6) then (0, τ1) else ((-3), τ1)
def f_X10_tryText_0 (σ : bz_S)  : Int32 × bz_S := if (f_X3_firstFault_6 σ) = (-6) then (f_X10_tryText_0_a σ (f_X8_runText_8_6_1 σ)) else ((-5), σ)
set_option maxRecDepth 100000 in
theorem s_X10_tryText_0 {X : bz_X} (σ : bz_S) (hp : bz_pad σ) : bz_C bz_P X mX10_tryText [.ref 0] σ (bz_pi (f_X10_tryText_0 σ).1 (f_X10_tryText_0 σ).2) := by
  show bz_wp bz_P X mX10_tryText (bz_pi (f_X10_tryText_0 σ).1 (f_X10_tryText_0 σ).2) (0, [some (.ref 0)], [], σ)
  refine bz_wpn bT_X10_tryText 2 (b := (4, [some (.ref 0)], [.ref 6], σ)) (G := True) rfl trivial ?_
  refine bz_wci bT_X10_tryText [.ref 6] (pc' := 7) (rest := []) rfl rfl (Nat.le_of_ble_eq_true rfl) rfl (Nat.le_of_ble_eq_true rfl) rfl (s_X3_firstFault_6 σ hp) rfl ?_
  refine bz_wpb bT_X10_tryText 2 (b1 := (15, [some (.ref 0)], [], σ)) (b2 := (12, [some (.ref 0)], [], σ)) (C := (f_X3_firstFault_6 σ) = (-6)) (G := True) rfl trivial (fun h1 => ?_) (fun h1 => ?_)
  · skip
    refine bz_wpn bT_X10_tryText 6 (b := (27, [some (.ref 0)], [.ref 1, .ref 6, .ref 8], σ)) (G := True) rfl trivial ?_
    refine bz_wcv bT_X10_tryText [.ref 8, .ref 6, .ref 1] (pc' := 30) (rest := []) rfl rfl (Nat.le_of_ble_eq_true rfl) rfl (Nat.le_of_ble_eq_true rfl) rfl (s_X8_runText_8_6_1 σ hp h1) rfl ?_
    generalize hτ1 : f_X8_runText_8_6_1 σ = τ1
    refine bz_wpb bT_X10_tryText 5 (b1 := (46, [some (.ref 0)], [], τ1)) (b2 := (42, [some (.ref 0)], [], τ1)) (C := ¬ (τ1.1 8 3) = (-6)) (G := True) rfl trivial (fun h2 => ?_) (fun h2 => ?_)
    · skip
      refine bz_wpn bT_X10_tryText 1 (b := (48, [some (.ref 0)], [.int (-3)], τ1)) (G := True) rfl trivial ?_
      refine bz_wpr bT_X10_tryText rfl rfl trivial ?_
      have e9 : f_X10_tryText_0 σ = ((-3), τ1) := by rw [f_X10_tryText_0, if_pos (h1), hτ1, f_X10_tryText_0_a, if_neg (h2)]
      exact ⟨by rw [e9], by rw [e9]⟩
    · skip
      refine bz_wpn bT_X10_tryText 2 (b := (48, [some (.ref 0)], [.int 0], τ1)) (G := True) rfl trivial ?_
      refine bz_wpr bT_X10_tryText rfl rfl trivial ?_
      have e9 : f_X10_tryText_0 σ = (0, τ1) := by rw [f_X10_tryText_0, if_pos (h1), hτ1, f_X10_tryText_0_a, if_pos ((Decidable.not_not.mp h2))]
      exact ⟨by rw [e9], by rw [e9]⟩
  · skip
    refine bz_wpn bT_X10_tryText 1 (b := (14, [some (.ref 0)], [.int (-5)], σ)) (G := True) rfl trivial ?_
    refine bz_wpr bT_X10_tryText rfl rfl trivial ?_
    have e9 : f_X10_tryText_0 σ = ((-5), σ) := by rw [f_X10_tryText_0, if_neg (h1)]
    exact ⟨by rw [e9], by rw [e9]⟩
theorem rf_X10_tryText_0_a (σ : bz_S) (τ1 : bz_S) (fτ1 : bz_fr [8, 9, 10, 11] σ τ1) : bz_fr [8, 9, 10, 11] σ (f_X10_tryText_0_a σ τ1).2 := by
  unfold f_X10_tryText_0_a
  exact (bz_ite2 fτ1 fτ1)
theorem rf_X10_tryText_0 (σ : bz_S)  : bz_fr [8, 9, 10, 11] σ (f_X10_tryText_0 σ).2 := by
  unfold f_X10_tryText_0
  exact (bz_ite2 (rf_X10_tryText_0_a σ (f_X8_runText_8_6_1 σ) (bz_fr_mo (rf_X8_runText_8_6_1 σ) (by decide))) bz_fr_rf)

def f_X10_judge_0_a (σ : bz_S) (what : Int32) (τ1 : Int32 × bz_S) : Int32 × bz_S := if τ1.1 = (-5) then (τ1.1, τ1.2) else (if τ1.1 = (-3) then if what = 2 then (τ1.1, τ1.2) else (if what = 0 then ((τ1.2.1 8 3), τ1.2) else (if what = 1 then ((τ1.2.1 8 4), τ1.2) else ((τ1.2.1 8 5), τ1.2))) else (if what = 0 then ((τ1.2.1 8 3), τ1.2) else (if what = 1 then ((τ1.2.1 8 4), τ1.2) else ((τ1.2.1 8 5), τ1.2))))
def f_X10_judge_0 (σ : bz_S) (what : Int32) : Int32 × bz_S := if f_X10_isWithin what 0 2 = true then (f_X10_judge_0_a σ what (f_X10_tryText_0 σ)) else ((-2), σ)
set_option maxRecDepth 100000 in
theorem s_X10_judge_0 {X : bz_X} (σ : bz_S) (what : Int32) (hp : bz_pad σ) : bz_C bz_P X mX10_judge [.ref 0, .int what] σ (bz_pi (f_X10_judge_0 σ what).1 (f_X10_judge_0 σ what).2) := by
  show bz_wp bz_P X mX10_judge (bz_pi (f_X10_judge_0 σ what).1 (f_X10_judge_0 σ what).2) (0, [some (.ref 0), some (.int what), none], [], σ)
  refine bz_wpn bT_X10_judge 3 (b := (3, [some (.ref 0), some (.int what), none], [.int 2, .int 0, .int what], σ)) (G := True) rfl trivial ?_
  refine bz_wci bT_X10_judge [.int what, .int 0, .int 2] (pc' := 6) (rest := []) rfl rfl (Nat.le_of_ble_eq_true rfl) rfl (Nat.le_of_ble_eq_true rfl) rfl (s_X10_isWithin σ what 0 2) rfl ?_
  refine bz_wpb bT_X10_judge 1 (b1 := (12, [some (.ref 0), some (.int what), none], [], σ)) (b2 := (9, [some (.ref 0), some (.int what), none], [], σ)) (C := ¬ bz_b (f_X10_isWithin what 0 2) = 0) (G := True) rfl trivial (fun h1 => ?_) (fun h1 => ?_)
  · skip
    have h1 := bz_b1 h1
    refine bz_wpn bT_X10_judge 1 (b := (13, [some (.ref 0), some (.int what), none], [.ref 0], σ)) (G := True) rfl trivial ?_
    refine bz_wci bT_X10_judge [.ref 0] (pc' := 16) (rest := []) rfl rfl (Nat.le_of_ble_eq_true rfl) rfl (Nat.le_of_ble_eq_true rfl) rfl (s_X10_tryText_0 σ hp) rfl ?_
    generalize hτ1 : f_X10_tryText_0 σ = τ1
    refine bz_wpb bT_X10_judge 4 (b1 := (34, [some (.ref 0), some (.int what), some (.int τ1.1)], [], τ1.2)) (b2 := (23, [some (.ref 0), some (.int what), some (.int τ1.1)], [], τ1.2)) (C := τ1.1 = (-5)) (G := True) rfl trivial (fun h2 => ?_) (fun h2 => ?_)
    · skip
      refine bz_wpn bT_X10_judge 1 (b := (35, [some (.ref 0), some (.int what), some (.int τ1.1)], [.int τ1.1], τ1.2)) (G := True) rfl trivial ?_
      refine bz_wpr bT_X10_judge rfl rfl trivial ?_
      have e9 : f_X10_judge_0 σ what = (τ1.1, τ1.2) := by rw [f_X10_judge_0, if_pos (h1), hτ1, f_X10_judge_0_a, if_pos (h2)]
      exact ⟨by rw [e9], by rw [e9]⟩
    · skip
      refine bz_wpb bT_X10_judge 3 (b1 := (36, [some (.ref 0), some (.int what), some (.int τ1.1)], [], τ1.2)) (b2 := (29, [some (.ref 0), some (.int what), some (.int τ1.1)], [], τ1.2)) (C := ¬ τ1.1 = (-3)) (G := True) rfl trivial (fun h3 => ?_) (fun h3 => ?_)
      · skip
        refine bz_wpn bT_X10_judge 2 (b := (bz_sw (what).toInt [(0, 64), (1, 72)] 80, [some (.ref 0), some (.int what), some (.int τ1.1)], [], τ1.2)) (G := True) rfl trivial ?_
        by_cases w4 : what = 0
        · rw [show bz_sw (what).toInt [(0, 64), (1, 72)] 80 = 64 from by rw [w4]; decide]
          refine bz_wpn bT_X10_judge 3 (b := (71, [some (.ref 0), some (.int what), some (.int τ1.1)], [.int (τ1.2.1 8 3)], τ1.2)) (G := True) rfl trivial ?_
          refine bz_wpr bT_X10_judge rfl rfl trivial ?_
          have e9 : f_X10_judge_0 σ what = ((τ1.2.1 8 3), τ1.2) := by rw [f_X10_judge_0, if_pos (h1), hτ1, f_X10_judge_0_a, if_neg (h2), if_neg (h3), if_pos (w4)]
          exact ⟨by rw [e9], by rw [e9]⟩
        by_cases w5 : what = 1
        · rw [show bz_sw (what).toInt [(0, 64), (1, 72)] 80 = 72 from by rw [w5]; decide]
          refine bz_wpn bT_X10_judge 3 (b := (79, [some (.ref 0), some (.int what), some (.int τ1.1)], [.int (τ1.2.1 8 4)], τ1.2)) (G := True) rfl trivial ?_
          refine bz_wpr bT_X10_judge rfl rfl trivial ?_
          have e9 : f_X10_judge_0 σ what = ((τ1.2.1 8 4), τ1.2) := by rw [f_X10_judge_0, if_pos (h1), hτ1, f_X10_judge_0_a, if_neg (h2), if_neg (h3), if_neg (w4), if_pos (w5)]
          exact ⟨by rw [e9], by rw [e9]⟩
        · rw [show bz_sw (what).toInt [(0, 64), (1, 72)] 80 = 80 from by simp only [bz_mk, bz_sw]; rw [if_neg (lv_neT w4 (by decide)), if_neg (lv_neT w5 (by decide))]]
          refine bz_wpn bT_X10_judge 3 (b := (87, [some (.ref 0), some (.int what), some (.int τ1.1)], [.int (τ1.2.1 8 5)], τ1.2)) (G := True) rfl trivial ?_
          refine bz_wpr bT_X10_judge rfl rfl trivial ?_
          have e9 : f_X10_judge_0 σ what = ((τ1.2.1 8 5), τ1.2) := by rw [f_X10_judge_0, if_pos (h1), hτ1, f_X10_judge_0_a, if_neg (h2), if_neg (h3), if_neg (w4), if_neg (w5)]
          exact ⟨by rw [e9], by rw [e9]⟩
      · skip
        refine bz_wpb bT_X10_judge 3 (b1 := (36, [some (.ref 0), some (.int what), some (.int τ1.1)], [], τ1.2)) (b2 := (34, [some (.ref 0), some (.int what), some (.int τ1.1)], [], τ1.2)) (C := ¬ what = 2) (G := True) rfl trivial (fun h6 => ?_) (fun h6 => ?_)
        · skip
          refine bz_wpn bT_X10_judge 2 (b := (bz_sw (what).toInt [(0, 64), (1, 72)] 80, [some (.ref 0), some (.int what), some (.int τ1.1)], [], τ1.2)) (G := True) rfl trivial ?_
          by_cases w7 : what = 0
          · rw [show bz_sw (what).toInt [(0, 64), (1, 72)] 80 = 64 from by rw [w7]; decide]
            refine bz_wpn bT_X10_judge 3 (b := (71, [some (.ref 0), some (.int what), some (.int τ1.1)], [.int (τ1.2.1 8 3)], τ1.2)) (G := True) rfl trivial ?_
            refine bz_wpr bT_X10_judge rfl rfl trivial ?_
            have e9 : f_X10_judge_0 σ what = ((τ1.2.1 8 3), τ1.2) := by rw [f_X10_judge_0, if_pos (h1), hτ1, f_X10_judge_0_a, if_neg (h2), if_pos ((Decidable.not_not.mp h3)), if_neg (h6), if_pos (w7)]
            exact ⟨by rw [e9], by rw [e9]⟩
          by_cases w8 : what = 1
          · rw [show bz_sw (what).toInt [(0, 64), (1, 72)] 80 = 72 from by rw [w8]; decide]
            refine bz_wpn bT_X10_judge 3 (b := (79, [some (.ref 0), some (.int what), some (.int τ1.1)], [.int (τ1.2.1 8 4)], τ1.2)) (G := True) rfl trivial ?_
            refine bz_wpr bT_X10_judge rfl rfl trivial ?_
            have e9 : f_X10_judge_0 σ what = ((τ1.2.1 8 4), τ1.2) := by rw [f_X10_judge_0, if_pos (h1), hτ1, f_X10_judge_0_a, if_neg (h2), if_pos ((Decidable.not_not.mp h3)), if_neg (h6), if_neg (w7), if_pos (w8)]
            exact ⟨by rw [e9], by rw [e9]⟩
          · rw [show bz_sw (what).toInt [(0, 64), (1, 72)] 80 = 80 from by simp only [bz_mk, bz_sw]; rw [if_neg (lv_neT w7 (by decide)), if_neg (lv_neT w8 (by decide))]]
            refine bz_wpn bT_X10_judge 3 (b := (87, [some (.ref 0), some (.int what), some (.int τ1.1)], [.int (τ1.2.1 8 5)], τ1.2)) (G := True) rfl trivial ?_
            refine bz_wpr bT_X10_judge rfl rfl trivial ?_
            have e9 : f_X10_judge_0 σ what = ((τ1.2.1 8 5), τ1.2) := by rw [f_X10_judge_0, if_pos (h1), hτ1, f_X10_judge_0_a, if_neg (h2), if_pos ((Decidable.not_not.mp h3)), if_neg (h6), if_neg (w7), if_neg (w8)]
            exact ⟨by rw [e9], by rw [e9]⟩
        · skip
          refine bz_wpn bT_X10_judge 1 (b := (35, [some (.ref 0), some (.int what), some (.int τ1.1)], [.int τ1.1], τ1.2)) (G := True) rfl trivial ?_
          refine bz_wpr bT_X10_judge rfl rfl trivial ?_
          have e9 : f_X10_judge_0 σ what = (τ1.1, τ1.2) := by rw [f_X10_judge_0, if_pos (h1), hτ1, f_X10_judge_0_a, if_neg (h2), if_pos ((Decidable.not_not.mp h3)), if_pos ((Decidable.not_not.mp h6))]
          exact ⟨by rw [e9], by rw [e9]⟩
  · skip
    have h1 := bz_b0 (Decidable.not_not.mp h1)
    refine bz_wpn bT_X10_judge 1 (b := (11, [some (.ref 0), some (.int what), none], [.int (-2)], σ)) (G := True) rfl trivial ?_
    refine bz_wpr bT_X10_judge rfl rfl trivial ?_
    have e9 : f_X10_judge_0 σ what = ((-2), σ) := by rw [f_X10_judge_0, if_neg (bz_ff h1)]
    exact ⟨by rw [e9], by rw [e9]⟩
theorem rf_X10_judge_0_a (σ : bz_S) (what : Int32) (τ1 : Int32 × bz_S) (fτ1 : bz_fr [8, 9, 10, 11] σ τ1.2) : bz_fr [8, 9, 10, 11] σ (f_X10_judge_0_a σ what τ1).2 := by
  unfold f_X10_judge_0_a
  exact (bz_ite2 fτ1 (bz_ite2 (bz_ite2 fτ1 (bz_ite2 fτ1 (bz_ite2 fτ1 fτ1))) (bz_ite2 fτ1 (bz_ite2 fτ1 fτ1))))
theorem rf_X10_judge_0 (σ : bz_S) (what : Int32) : bz_fr [8, 9, 10, 11] σ (f_X10_judge_0 σ what).2 := by
  unfold f_X10_judge_0
  exact (bz_ite2 (rf_X10_judge_0_a σ what (f_X10_tryText_0 σ) (bz_fr_mo (rf_X10_tryText_0 σ) (by decide))) bz_fr_rf)

def f_X10_table_0_a (σ : bz_S) (what : Int32) (τ1 : Int32 × bz_S) : Int32 × bz_S := if τ1.1 = 0 then if what = 0 then ((τ1.2.1 9 1), τ1.2) else (if what = 1 then ((τ1.2.1 9 2), τ1.2) else (if what = 2 then ((f_X6_howManyDown_9 τ1.2), τ1.2) else ((τ1.2.1 9 3), τ1.2))) else (τ1.1, τ1.2)
def f_X10_table_0 (σ : bz_S) (what : Int32) : Int32 × bz_S := if f_X10_isWithin what 0 3 = true then (f_X10_table_0_a σ what (f_X10_tryText_0 σ)) else ((-2), σ)
set_option maxRecDepth 100000 in
theorem s_X10_table_0 {X : bz_X} (σ : bz_S) (what : Int32) (hp : bz_pad σ) : bz_C bz_P X mX10_table [.ref 0, .int what] σ (bz_pi (f_X10_table_0 σ what).1 (f_X10_table_0 σ what).2) := by
  show bz_wp bz_P X mX10_table (bz_pi (f_X10_table_0 σ what).1 (f_X10_table_0 σ what).2) (0, [some (.ref 0), some (.int what), none], [], σ)
  refine bz_wpn bT_X10_table 3 (b := (3, [some (.ref 0), some (.int what), none], [.int 3, .int 0, .int what], σ)) (G := True) rfl trivial ?_
  refine bz_wci bT_X10_table [.int what, .int 0, .int 3] (pc' := 6) (rest := []) rfl rfl (Nat.le_of_ble_eq_true rfl) rfl (Nat.le_of_ble_eq_true rfl) rfl (s_X10_isWithin σ what 0 3) rfl ?_
  refine bz_wpb bT_X10_table 1 (b1 := (12, [some (.ref 0), some (.int what), none], [], σ)) (b2 := (9, [some (.ref 0), some (.int what), none], [], σ)) (C := ¬ bz_b (f_X10_isWithin what 0 3) = 0) (G := True) rfl trivial (fun h1 => ?_) (fun h1 => ?_)
  · skip
    have h1 := bz_b1 h1
    refine bz_wpn bT_X10_table 1 (b := (13, [some (.ref 0), some (.int what), none], [.ref 0], σ)) (G := True) rfl trivial ?_
    refine bz_wci bT_X10_table [.ref 0] (pc' := 16) (rest := []) rfl rfl (Nat.le_of_ble_eq_true rfl) rfl (Nat.le_of_ble_eq_true rfl) rfl (s_X10_tryText_0 σ hp) rfl ?_
    generalize hτ1 : f_X10_tryText_0 σ = τ1
    refine bz_wpb bT_X10_table 3 (b1 := (23, [some (.ref 0), some (.int what), some (.int τ1.1)], [], τ1.2)) (b2 := (21, [some (.ref 0), some (.int what), some (.int τ1.1)], [], τ1.2)) (C := τ1.1 = 0) (G := True) rfl trivial (fun h2 => ?_) (fun h2 => ?_)
    · skip
      refine bz_wpn bT_X10_table 2 (b := (bz_sw (what).toInt (bz_mk 0 [52, 63, 74]) 85, [some (.ref 0), some (.int what), some (.int τ1.1)], [], τ1.2)) (G := True) rfl trivial ?_
      by_cases w3 : what = 0
      · rw [show bz_sw (what).toInt (bz_mk 0 [52, 63, 74]) 85 = 52 from by rw [w3]; decide]
        refine bz_wpn bT_X10_table 4 (b := (62, [some (.ref 0), some (.int what), some (.int τ1.1)], [.int (τ1.2.1 9 1)], τ1.2)) (G := True) rfl trivial ?_
        refine bz_wpr bT_X10_table rfl rfl trivial ?_
        have e9 : f_X10_table_0 σ what = ((τ1.2.1 9 1), τ1.2) := by rw [f_X10_table_0, if_pos (h1), hτ1, f_X10_table_0_a, if_pos (h2), if_pos (w3)]
        exact ⟨by rw [e9], by rw [e9]⟩
      by_cases w4 : what = 1
      · rw [show bz_sw (what).toInt (bz_mk 0 [52, 63, 74]) 85 = 63 from by rw [w4]; decide]
        refine bz_wpn bT_X10_table 4 (b := (73, [some (.ref 0), some (.int what), some (.int τ1.1)], [.int (τ1.2.1 9 2)], τ1.2)) (G := True) rfl trivial ?_
        refine bz_wpr bT_X10_table rfl rfl trivial ?_
        have e9 : f_X10_table_0 σ what = ((τ1.2.1 9 2), τ1.2) := by rw [f_X10_table_0, if_pos (h1), hτ1, f_X10_table_0_a, if_pos (h2), if_neg (w3), if_pos (w4)]
        exact ⟨by rw [e9], by rw [e9]⟩
      by_cases w5 : what = 2
      · rw [show bz_sw (what).toInt (bz_mk 0 [52, 63, 74]) 85 = 74 from by rw [w5]; decide]
        refine bz_wpn bT_X10_table 3 (b := (81, [some (.ref 0), some (.int what), some (.int τ1.1)], [.ref 9], τ1.2)) (G := True) rfl trivial ?_
        refine bz_wci bT_X10_table [.ref 9] (pc' := 84) (rest := []) rfl rfl (Nat.le_of_ble_eq_true rfl) rfl (Nat.le_of_ble_eq_true rfl) rfl (s_X6_howManyDown_9 τ1.2) rfl ?_
        refine bz_wpr bT_X10_table rfl rfl trivial ?_
        have e9 : f_X10_table_0 σ what = ((f_X6_howManyDown_9 τ1.2), τ1.2) := by rw [f_X10_table_0, if_pos (h1), hτ1, f_X10_table_0_a, if_pos (h2), if_neg (w3), if_neg (w4), if_pos (w5)]
        exact ⟨by rw [e9], by rw [e9]⟩
      · rw [show bz_sw (what).toInt (bz_mk 0 [52, 63, 74]) 85 = 85 from by simp only [bz_mk, bz_sw]; rw [if_neg (lv_neT w3 (by decide)), if_neg (lv_neT w4 (by decide)), if_neg (lv_neT w5 (by decide))]]
        refine bz_wpn bT_X10_table 4 (b := (95, [some (.ref 0), some (.int what), some (.int τ1.1)], [.int (τ1.2.1 9 3)], τ1.2)) (G := True) rfl trivial ?_
        refine bz_wpr bT_X10_table rfl rfl trivial ?_
        have e9 : f_X10_table_0 σ what = ((τ1.2.1 9 3), τ1.2) := by rw [f_X10_table_0, if_pos (h1), hτ1, f_X10_table_0_a, if_pos (h2), if_neg (w3), if_neg (w4), if_neg (w5)]
        exact ⟨by rw [e9], by rw [e9]⟩
    · skip
      refine bz_wpn bT_X10_table 1 (b := (22, [some (.ref 0), some (.int what), some (.int τ1.1)], [.int τ1.1], τ1.2)) (G := True) rfl trivial ?_
      refine bz_wpr bT_X10_table rfl rfl trivial ?_
      have e9 : f_X10_table_0 σ what = (τ1.1, τ1.2) := by rw [f_X10_table_0, if_pos (h1), hτ1, f_X10_table_0_a, if_neg (h2)]
      exact ⟨by rw [e9], by rw [e9]⟩
  · skip
    have h1 := bz_b0 (Decidable.not_not.mp h1)
    refine bz_wpn bT_X10_table 1 (b := (11, [some (.ref 0), some (.int what), none], [.int (-2)], σ)) (G := True) rfl trivial ?_
    refine bz_wpr bT_X10_table rfl rfl trivial ?_
    have e9 : f_X10_table_0 σ what = ((-2), σ) := by rw [f_X10_table_0, if_neg (bz_ff h1)]
    exact ⟨by rw [e9], by rw [e9]⟩
theorem rf_X10_table_0_a (σ : bz_S) (what : Int32) (τ1 : Int32 × bz_S) (fτ1 : bz_fr [8, 9, 10, 11] σ τ1.2) : bz_fr [8, 9, 10, 11] σ (f_X10_table_0_a σ what τ1).2 := by
  unfold f_X10_table_0_a
  exact (bz_ite2 (bz_ite2 fτ1 (bz_ite2 fτ1 (bz_ite2 fτ1 fτ1))) fτ1)
theorem rf_X10_table_0 (σ : bz_S) (what : Int32) : bz_fr [8, 9, 10, 11] σ (f_X10_table_0 σ what).2 := by
  unfold f_X10_table_0
  exact (bz_ite2 (rf_X10_table_0_a σ what (f_X10_tryText_0 σ) (bz_fr_mo (rf_X10_tryText_0 σ) (by decide))) bz_fr_rf)

def f_X10_candour_0_a (σ : bz_S) (what : Int32) (τ1 : Int32 × bz_S) : Int32 × bz_S := if τ1.1 = 0 then if what = 0 then ((τ1.2.1 8 7), τ1.2) else ((τ1.2.1 8 6), τ1.2) else (τ1.1, τ1.2)
def f_X10_candour_0 (σ : bz_S) (what : Int32) : Int32 × bz_S := if f_X10_isWithin what 0 1 = true then (f_X10_candour_0_a σ what (f_X10_tryText_0 σ)) else ((-2), σ)
set_option maxRecDepth 100000 in
theorem s_X10_candour_0 {X : bz_X} (σ : bz_S) (what : Int32) (hp : bz_pad σ) : bz_C bz_P X mX10_candour [.ref 0, .int what] σ (bz_pi (f_X10_candour_0 σ what).1 (f_X10_candour_0 σ what).2) := by
  show bz_wp bz_P X mX10_candour (bz_pi (f_X10_candour_0 σ what).1 (f_X10_candour_0 σ what).2) (0, [some (.ref 0), some (.int what), none], [], σ)
  refine bz_wpn bT_X10_candour 3 (b := (3, [some (.ref 0), some (.int what), none], [.int 1, .int 0, .int what], σ)) (G := True) rfl trivial ?_
  refine bz_wci bT_X10_candour [.int what, .int 0, .int 1] (pc' := 6) (rest := []) rfl rfl (Nat.le_of_ble_eq_true rfl) rfl (Nat.le_of_ble_eq_true rfl) rfl (s_X10_isWithin σ what 0 1) rfl ?_
  refine bz_wpb bT_X10_candour 1 (b1 := (12, [some (.ref 0), some (.int what), none], [], σ)) (b2 := (9, [some (.ref 0), some (.int what), none], [], σ)) (C := ¬ bz_b (f_X10_isWithin what 0 1) = 0) (G := True) rfl trivial (fun h1 => ?_) (fun h1 => ?_)
  · skip
    have h1 := bz_b1 h1
    refine bz_wpn bT_X10_candour 1 (b := (13, [some (.ref 0), some (.int what), none], [.ref 0], σ)) (G := True) rfl trivial ?_
    refine bz_wci bT_X10_candour [.ref 0] (pc' := 16) (rest := []) rfl rfl (Nat.le_of_ble_eq_true rfl) rfl (Nat.le_of_ble_eq_true rfl) rfl (s_X10_tryText_0 σ hp) rfl ?_
    generalize hτ1 : f_X10_tryText_0 σ = τ1
    refine bz_wpb bT_X10_candour 3 (b1 := (23, [some (.ref 0), some (.int what), some (.int τ1.1)], [], τ1.2)) (b2 := (21, [some (.ref 0), some (.int what), some (.int τ1.1)], [], τ1.2)) (C := τ1.1 = 0) (G := True) rfl trivial (fun h2 => ?_) (fun h2 => ?_)
    · skip
      refine bz_wpb bT_X10_candour 2 (b1 := (37, [some (.ref 0), some (.int what), some (.int τ1.1)], [], τ1.2)) (b2 := (27, [some (.ref 0), some (.int what), some (.int τ1.1)], [], τ1.2)) (C := ¬ what = 0) (G := True) rfl trivial (fun h3 => ?_) (fun h3 => ?_)
      · skip
        refine bz_wpn bT_X10_candour 3 (b := (44, [some (.ref 0), some (.int what), some (.int τ1.1)], [.int (τ1.2.1 8 6)], τ1.2)) (G := True) rfl trivial ?_
        refine bz_wpr bT_X10_candour rfl rfl trivial ?_
        have e9 : f_X10_candour_0 σ what = ((τ1.2.1 8 6), τ1.2) := by rw [f_X10_candour_0, if_pos (h1), hτ1, f_X10_candour_0_a, if_pos (h2), if_neg (h3)]
        exact ⟨by rw [e9], by rw [e9]⟩
      · skip
        refine bz_wpn bT_X10_candour 4 (b := (44, [some (.ref 0), some (.int what), some (.int τ1.1)], [.int (τ1.2.1 8 7)], τ1.2)) (G := True) rfl trivial ?_
        refine bz_wpr bT_X10_candour rfl rfl trivial ?_
        have e9 : f_X10_candour_0 σ what = ((τ1.2.1 8 7), τ1.2) := by rw [f_X10_candour_0, if_pos (h1), hτ1, f_X10_candour_0_a, if_pos (h2), if_pos ((Decidable.not_not.mp h3))]
        exact ⟨by rw [e9], by rw [e9]⟩
    · skip
      refine bz_wpn bT_X10_candour 1 (b := (22, [some (.ref 0), some (.int what), some (.int τ1.1)], [.int τ1.1], τ1.2)) (G := True) rfl trivial ?_
      refine bz_wpr bT_X10_candour rfl rfl trivial ?_
      have e9 : f_X10_candour_0 σ what = (τ1.1, τ1.2) := by rw [f_X10_candour_0, if_pos (h1), hτ1, f_X10_candour_0_a, if_neg (h2)]
      exact ⟨by rw [e9], by rw [e9]⟩
  · skip
    have h1 := bz_b0 (Decidable.not_not.mp h1)
    refine bz_wpn bT_X10_candour 1 (b := (11, [some (.ref 0), some (.int what), none], [.int (-2)], σ)) (G := True) rfl trivial ?_
    refine bz_wpr bT_X10_candour rfl rfl trivial ?_
    have e9 : f_X10_candour_0 σ what = ((-2), σ) := by rw [f_X10_candour_0, if_neg (bz_ff h1)]
    exact ⟨by rw [e9], by rw [e9]⟩
theorem rf_X10_candour_0_a (σ : bz_S) (what : Int32) (τ1 : Int32 × bz_S) (fτ1 : bz_fr [8, 9, 10, 11] σ τ1.2) : bz_fr [8, 9, 10, 11] σ (f_X10_candour_0_a σ what τ1).2 := by
  unfold f_X10_candour_0_a
  exact (bz_ite2 (bz_ite2 fτ1 fτ1) fτ1)
theorem rf_X10_candour_0 (σ : bz_S) (what : Int32) : bz_fr [8, 9, 10, 11] σ (f_X10_candour_0 σ what).2 := by
  unfold f_X10_candour_0
  exact (bz_ite2 (rf_X10_candour_0_a σ what (f_X10_tryText_0 σ) (bz_fr_mo (rf_X10_tryText_0 σ) (by decide))) bz_fr_rf)

def f_X10_behind_0_a (σ : bz_S) (ball : Int32) (τ1 : Int32 × bz_S) : Int32 × bz_S := if τ1.1 = 0 then ((f_X6_cellOrNone_9 τ1.2 ball), τ1.2) else (τ1.1, τ1.2)
def f_X10_behind_0 (σ : bz_S) (ball : Int32) : Int32 × bz_S := if f_X10_isBall ball = true then (f_X10_behind_0_a σ ball (f_X10_tryText_0 σ)) else ((-1), σ)
set_option maxRecDepth 100000 in
theorem s_X10_behind_0 {X : bz_X} (σ : bz_S) (ball : Int32) (hp : bz_pad σ) : bz_C bz_P X mX10_behind [.ref 0, .int ball] σ (bz_pi (f_X10_behind_0 σ ball).1 (f_X10_behind_0 σ ball).2) := by
  show bz_wp bz_P X mX10_behind (bz_pi (f_X10_behind_0 σ ball).1 (f_X10_behind_0 σ ball).2) (0, [some (.ref 0), some (.int ball), none], [], σ)
  refine bz_wpn bT_X10_behind 1 (b := (1, [some (.ref 0), some (.int ball), none], [.int ball], σ)) (G := True) rfl trivial ?_
  refine bz_wci bT_X10_behind [.int ball] (pc' := 4) (rest := []) rfl rfl (Nat.le_of_ble_eq_true rfl) rfl (Nat.le_of_ble_eq_true rfl) rfl (s_X10_isBall σ ball) rfl ?_
  refine bz_wpb bT_X10_behind 1 (b1 := (9, [some (.ref 0), some (.int ball), none], [], σ)) (b2 := (7, [some (.ref 0), some (.int ball), none], [], σ)) (C := ¬ bz_b (f_X10_isBall ball) = 0) (G := True) rfl trivial (fun h1 => ?_) (fun h1 => ?_)
  · skip
    have h1 := bz_b1 h1
    refine bz_wpn bT_X10_behind 1 (b := (10, [some (.ref 0), some (.int ball), none], [.ref 0], σ)) (G := True) rfl trivial ?_
    refine bz_wci bT_X10_behind [.ref 0] (pc' := 13) (rest := []) rfl rfl (Nat.le_of_ble_eq_true rfl) rfl (Nat.le_of_ble_eq_true rfl) rfl (s_X10_tryText_0 σ hp) rfl ?_
    generalize hτ1 : f_X10_tryText_0 σ = τ1
    refine bz_wpb bT_X10_behind 3 (b1 := (22, [some (.ref 0), some (.int ball), some (.int τ1.1)], [], τ1.2)) (b2 := (18, [some (.ref 0), some (.int ball), some (.int τ1.1)], [], τ1.2)) (C := τ1.1 = 0) (G := True) rfl trivial (fun h2 => ?_) (fun h2 => ?_)
    · skip
      refine bz_wpn bT_X10_behind 4 (b := (30, [some (.ref 0), some (.int ball), some (.int τ1.1)], [.int ball, .ref 9], τ1.2)) (G := True) rfl trivial ?_
      refine bz_wci bT_X10_behind [.ref 9, .int ball] (pc' := 33) (rest := []) rfl rfl (Nat.le_of_ble_eq_true rfl) rfl (Nat.le_of_ble_eq_true rfl) rfl (s_X6_cellOrNone_9 τ1.2 ball) rfl ?_
      refine bz_wpr bT_X10_behind rfl rfl trivial ?_
      have e9 : f_X10_behind_0 σ ball = ((f_X6_cellOrNone_9 τ1.2 ball), τ1.2) := by rw [f_X10_behind_0, if_pos (h1), hτ1, f_X10_behind_0_a, if_pos (h2)]
      exact ⟨by rw [e9], by rw [e9]⟩
    · skip
      refine bz_wpn bT_X10_behind 2 (b := (33, [some (.ref 0), some (.int ball), some (.int τ1.1)], [.int τ1.1], τ1.2)) (G := True) rfl trivial ?_
      refine bz_wpr bT_X10_behind rfl rfl trivial ?_
      have e9 : f_X10_behind_0 σ ball = (τ1.1, τ1.2) := by rw [f_X10_behind_0, if_pos (h1), hτ1, f_X10_behind_0_a, if_neg (h2)]
      exact ⟨by rw [e9], by rw [e9]⟩
  · skip
    have h1 := bz_b0 (Decidable.not_not.mp h1)
    refine bz_wpn bT_X10_behind 1 (b := (8, [some (.ref 0), some (.int ball), none], [.int (-1)], σ)) (G := True) rfl trivial ?_
    refine bz_wpr bT_X10_behind rfl rfl trivial ?_
    have e9 : f_X10_behind_0 σ ball = ((-1), σ) := by rw [f_X10_behind_0, if_neg (bz_ff h1)]
    exact ⟨by rw [e9], by rw [e9]⟩
theorem rf_X10_behind_0_a (σ : bz_S) (ball : Int32) (τ1 : Int32 × bz_S) (fτ1 : bz_fr [8, 9, 10, 11] σ τ1.2) : bz_fr [8, 9, 10, 11] σ (f_X10_behind_0_a σ ball τ1).2 := by
  unfold f_X10_behind_0_a
  exact (bz_ite2 fτ1 fτ1)
theorem rf_X10_behind_0 (σ : bz_S) (ball : Int32) : bz_fr [8, 9, 10, 11] σ (f_X10_behind_0 σ ball).2 := by
  unfold f_X10_behind_0
  exact (bz_ite2 (rf_X10_behind_0_a σ ball (f_X10_tryText_0 σ) (bz_fr_mo (rf_X10_tryText_0 σ) (by decide))) bz_fr_rf)

def f_X10_done_0_c (σ : bz_S) (τ1 : Int32 × bz_S) (τ2 : bz_S) (τ3 : Int32 × bz_S) : Int32 × bz_S := ((τ3.2.1 8 2), τ3.2)
def f_X10_done_0_b (σ : bz_S) (τ1 : Int32 × bz_S) (τ2 : bz_S) : Int32 × bz_S := (f_X10_done_0_c σ τ1 τ2 (f_X3_empty_6 τ2))
def f_X10_done_0_a (σ : bz_S) (τ1 : Int32 × bz_S) : Int32 × bz_S := if τ1.1 = 0 then (f_X10_done_0_b σ τ1 (f_X6_copy_1_9 τ1.2)) else (τ1.1, τ1.2)
def f_X10_done_0 (σ : bz_S)  : Int32 × bz_S := (f_X10_done_0_a σ (f_X10_tryText_0 σ))
set_option maxRecDepth 100000 in
theorem s_X10_done_0 {X : bz_X} (σ : bz_S) (hp : bz_pad σ) : bz_C bz_P X mX10_done [.ref 0] σ (bz_pi (f_X10_done_0 σ).1 (f_X10_done_0 σ).2) := by
  show bz_wp bz_P X mX10_done (bz_pi (f_X10_done_0 σ).1 (f_X10_done_0 σ).2) (0, [some (.ref 0), none], [], σ)
  refine bz_wpn bT_X10_done 1 (b := (1, [some (.ref 0), none], [.ref 0], σ)) (G := True) rfl trivial ?_
  refine bz_wci bT_X10_done [.ref 0] (pc' := 4) (rest := []) rfl rfl (Nat.le_of_ble_eq_true rfl) rfl (Nat.le_of_ble_eq_true rfl) rfl (s_X10_tryText_0 σ hp) rfl ?_
  generalize hτ1 : f_X10_tryText_0 σ = τ1
  refine bz_wpb bT_X10_done 3 (b1 := (11, [some (.ref 0), some (.int τ1.1)], [], τ1.2)) (b2 := (9, [some (.ref 0), some (.int τ1.1)], [], τ1.2)) (C := τ1.1 = 0) (G := True) rfl trivial (fun h1 => ?_) (fun h1 => ?_)
  · skip
    refine bz_wpn bT_X10_done 5 (b := (22, [some (.ref 0), some (.int τ1.1)], [.ref 9, .ref 1], τ1.2)) (G := True) rfl trivial ?_
    refine bz_wcv bT_X10_done [.ref 1, .ref 9] (pc' := 25) (rest := []) rfl rfl (Nat.le_of_ble_eq_true rfl) rfl (Nat.le_of_ble_eq_true rfl) rfl (s_X6_copy_1_9 τ1.2) rfl ?_
    generalize hτ2 : f_X6_copy_1_9 τ1.2 = τ2
    refine bz_wpn bT_X10_done 2 (b := (29, [some (.ref 0), some (.int τ1.1)], [.ref 6], τ2)) (G := True) rfl trivial ?_
    refine bz_wci bT_X10_done [.ref 6] (pc' := 32) (rest := []) rfl rfl (Nat.le_of_ble_eq_true rfl) rfl (Nat.le_of_ble_eq_true rfl) rfl (s_X3_empty_6 τ2) rfl ?_
    generalize hτ3 : f_X3_empty_6 τ2 = τ3
    refine bz_wpn bT_X10_done 4 (b := (40, [some (.ref 0), some (.int τ1.1)], [.int (τ3.2.1 8 2)], τ3.2)) (G := True) rfl trivial ?_
    refine bz_wpr bT_X10_done rfl rfl trivial ?_
    have e9 : f_X10_done_0 σ = ((τ3.2.1 8 2), τ3.2) := by rw [f_X10_done_0, hτ1, f_X10_done_0_a, if_pos (h1), hτ2, f_X10_done_0_b, hτ3, f_X10_done_0_c]
    exact ⟨by rw [e9], by rw [e9]⟩
  · skip
    refine bz_wpn bT_X10_done 1 (b := (10, [some (.ref 0), some (.int τ1.1)], [.int τ1.1], τ1.2)) (G := True) rfl trivial ?_
    refine bz_wpr bT_X10_done rfl rfl trivial ?_
    have e9 : f_X10_done_0 σ = (τ1.1, τ1.2) := by rw [f_X10_done_0, hτ1, f_X10_done_0_a, if_neg (h1)]
    exact ⟨by rw [e9], by rw [e9]⟩
theorem rf_X10_done_0_c (σ : bz_S) (τ1 : Int32 × bz_S) (τ2 : bz_S) (τ3 : Int32 × bz_S) (fτ1 : bz_fr [1, 2, 6, 8, 9, 10, 11] σ τ1.2) (fτ2 : bz_fr [1, 2, 6, 8, 9, 10, 11] σ τ2) (fτ3 : bz_fr [1, 2, 6, 8, 9, 10, 11] σ τ3.2) : bz_fr [1, 2, 6, 8, 9, 10, 11] σ (f_X10_done_0_c σ τ1 τ2 τ3).2 := by
  unfold f_X10_done_0_c
  exact fτ3
theorem rf_X10_done_0_b (σ : bz_S) (τ1 : Int32 × bz_S) (τ2 : bz_S) (fτ1 : bz_fr [1, 2, 6, 8, 9, 10, 11] σ τ1.2) (fτ2 : bz_fr [1, 2, 6, 8, 9, 10, 11] σ τ2) : bz_fr [1, 2, 6, 8, 9, 10, 11] σ (f_X10_done_0_b σ τ1 τ2).2 := by
  unfold f_X10_done_0_b
  exact (rf_X10_done_0_c σ τ1 τ2 (f_X3_empty_6 τ2) fτ1 fτ2 (bz_fr_tr (τ := τ2) fτ2 (bz_fr_mo (rf_X3_empty_6 τ2) (by decide))))
theorem rf_X10_done_0_a (σ : bz_S) (τ1 : Int32 × bz_S) (fτ1 : bz_fr [1, 2, 6, 8, 9, 10, 11] σ τ1.2) : bz_fr [1, 2, 6, 8, 9, 10, 11] σ (f_X10_done_0_a σ τ1).2 := by
  unfold f_X10_done_0_a
  exact (bz_ite2 (rf_X10_done_0_b σ τ1 (f_X6_copy_1_9 τ1.2) fτ1 (bz_fr_tr (τ := τ1.2) fτ1 (bz_fr_mo (rf_X6_copy_1_9 τ1.2) (by decide)))) fτ1)
theorem rf_X10_done_0 (σ : bz_S)  : bz_fr [1, 2, 6, 8, 9, 10, 11] σ (f_X10_done_0 σ).2 := by
  unfold f_X10_done_0
  exact (rf_X10_done_0_a σ (f_X10_tryText_0 σ) (bz_fr_mo (rf_X10_tryText_0 σ) (by decide)))

def f_X10_ball_0 (σ : bz_S) (b : Int32) (c : Int32) : Int32 × bz_S := if f_X10_isBall b = true then if c = (-1) then if c = (-1) then ((f_X6_cellOrNone_1 σ b), ((bz_up σ.1 2 b.toNatClampNeg c), σ.2)) else (if (f_X6_lyingOn_1 σ c) = (-1) then ((f_X6_cellOrNone_1 σ b), ((bz_up σ.1 2 b.toNatClampNeg c), σ.2)) else (if (f_X6_lyingOn_1 σ c) = b then ((f_X6_cellOrNone_1 σ b), ((bz_up σ.1 2 b.toNatClampNeg c), σ.2)) else ((-3), σ))) else (if f_X10_isPlace c = true then if c = (-1) then ((f_X6_cellOrNone_1 σ b), ((bz_up σ.1 2 b.toNatClampNeg c), σ.2)) else (if (f_X6_lyingOn_1 σ c) = (-1) then ((f_X6_cellOrNone_1 σ b), ((bz_up σ.1 2 b.toNatClampNeg c), σ.2)) else (if (f_X6_lyingOn_1 σ c) = b then ((f_X6_cellOrNone_1 σ b), ((bz_up σ.1 2 b.toNatClampNeg c), σ.2)) else ((-3), σ))) else ((-1), σ)) else ((-1), σ)
set_option maxRecDepth 100000 in
theorem s_X10_ball_0 {X : bz_X} (σ : bz_S) (b : Int32) (c : Int32) : bz_C bz_P X mX10_ball [.ref 0, .int b, .int c] σ (bz_pi (f_X10_ball_0 σ b c).1 (f_X10_ball_0 σ b c).2) := by
  show bz_wp bz_P X mX10_ball (bz_pi (f_X10_ball_0 σ b c).1 (f_X10_ball_0 σ b c).2) (0, [some (.ref 0), some (.int b), some (.int c), none, none], [], σ)
  refine bz_wpn bT_X10_ball 1 (b := (1, [some (.ref 0), some (.int b), some (.int c), none, none], [.int b], σ)) (G := True) rfl trivial ?_
  refine bz_wci bT_X10_ball [.int b] (pc' := 4) (rest := []) rfl rfl (Nat.le_of_ble_eq_true rfl) rfl (Nat.le_of_ble_eq_true rfl) rfl (s_X10_isBall σ b) rfl ?_
  refine bz_wpb bT_X10_ball 1 (b1 := (19, [some (.ref 0), some (.int b), some (.int c), none, none], [], σ)) (b2 := (7, [some (.ref 0), some (.int b), some (.int c), none, none], [], σ)) (C := bz_b (f_X10_isBall b) = 0) (G := True) rfl trivial (fun h1 => ?_) (fun h1 => ?_)
  · skip
    have h1 := bz_b0 h1
    refine bz_wpn bT_X10_ball 1 (b := (20, [some (.ref 0), some (.int b), some (.int c), none, none], [.int (-1)], σ)) (G := True) rfl trivial ?_
    refine bz_wpr bT_X10_ball rfl rfl trivial ?_
    have e9 : f_X10_ball_0 σ b c = ((-1), σ) := by rw [f_X10_ball_0, if_neg (bz_ff h1)]
    exact ⟨by rw [e9], by rw [e9]⟩
  · skip
    have h1 := bz_b1 h1
    refine bz_wpb bT_X10_ball 3 (b1 := (21, [some (.ref 0), some (.int b), some (.int c), none, none], [], σ)) (b2 := (12, [some (.ref 0), some (.int b), some (.int c), none, none], [], σ)) (C := c = (-1)) (G := True) rfl trivial (fun h2 => ?_) (fun h2 => ?_)
    · skip
      refine bz_wpn bT_X10_ball 3 (b := (26, [some (.ref 0), some (.int b), some (.int c), none, none], [.int c, .ref 1], σ)) (G := True) rfl trivial ?_
      refine bz_wci bT_X10_ball [.ref 1, .int c] (pc' := 29) (rest := []) rfl rfl (Nat.le_of_ble_eq_true rfl) rfl (Nat.le_of_ble_eq_true rfl) rfl (s_X6_lyingOn_1 σ c) rfl ?_
      refine bz_wpb bT_X10_ball 4 (b1 := (48, [some (.ref 0), some (.int b), some (.int c), some (.int (f_X6_lyingOn_1 σ c)), none], [], σ)) (b2 := (35, [some (.ref 0), some (.int b), some (.int c), some (.int (f_X6_lyingOn_1 σ c)), none], [], σ)) (C := c = (-1)) (G := True) rfl trivial (fun h3 => ?_) (fun h3 => ?_)
      · skip
        refine bz_wpn bT_X10_ball 3 (b := (53, [some (.ref 0), some (.int b), some (.int c), some (.int (f_X6_lyingOn_1 σ c)), none], [.int b, .ref 1], σ)) (G := True) rfl trivial ?_
        refine bz_wci bT_X10_ball [.ref 1, .int b] (pc' := 56) (rest := []) rfl rfl (Nat.le_of_ble_eq_true rfl) rfl (Nat.le_of_ble_eq_true rfl) rfl (s_X6_cellOrNone_1 σ b) rfl ?_
        refine bz_wpn bT_X10_ball 8 (b := (70, [some (.ref 0), some (.int b), some (.int c), some (.int (f_X6_lyingOn_1 σ c)), some (.int (f_X6_cellOrNone_1 σ b))], [.int (f_X6_cellOrNone_1 σ b)], ((bz_up σ.1 2 b.toNatClampNeg c), σ.2))) (G := vp_in b 3 ∧ True) rfl ⟨(bz_ball (by assumption)), trivial⟩ ?_
        refine bz_wpr bT_X10_ball rfl rfl trivial ?_
        have e9 : f_X10_ball_0 σ b c = ((f_X6_cellOrNone_1 σ b), ((bz_up σ.1 2 b.toNatClampNeg c), σ.2)) := by rw [f_X10_ball_0, if_pos (h1), if_pos (h2), if_pos (h3)]
        exact ⟨by rw [e9], by rw [e9]⟩
      · skip
        refine bz_wpb bT_X10_ball 3 (b1 := (48, [some (.ref 0), some (.int b), some (.int c), some (.int (f_X6_lyingOn_1 σ c)), none], [], σ)) (b2 := (40, [some (.ref 0), some (.int b), some (.int c), some (.int (f_X6_lyingOn_1 σ c)), none], [], σ)) (C := (f_X6_lyingOn_1 σ c) = (-1)) (G := True) rfl trivial (fun h4 => ?_) (fun h4 => ?_)
        · skip
          refine bz_wpn bT_X10_ball 3 (b := (53, [some (.ref 0), some (.int b), some (.int c), some (.int (f_X6_lyingOn_1 σ c)), none], [.int b, .ref 1], σ)) (G := True) rfl trivial ?_
          refine bz_wci bT_X10_ball [.ref 1, .int b] (pc' := 56) (rest := []) rfl rfl (Nat.le_of_ble_eq_true rfl) rfl (Nat.le_of_ble_eq_true rfl) rfl (s_X6_cellOrNone_1 σ b) rfl ?_
          refine bz_wpn bT_X10_ball 8 (b := (70, [some (.ref 0), some (.int b), some (.int c), some (.int (f_X6_lyingOn_1 σ c)), some (.int (f_X6_cellOrNone_1 σ b))], [.int (f_X6_cellOrNone_1 σ b)], ((bz_up σ.1 2 b.toNatClampNeg c), σ.2))) (G := vp_in b 3 ∧ True) rfl ⟨(bz_ball (by assumption)), trivial⟩ ?_
          refine bz_wpr bT_X10_ball rfl rfl trivial ?_
          have e9 : f_X10_ball_0 σ b c = ((f_X6_cellOrNone_1 σ b), ((bz_up σ.1 2 b.toNatClampNeg c), σ.2)) := by rw [f_X10_ball_0, if_pos (h1), if_pos (h2), if_neg (h3), if_pos (h4)]
          exact ⟨by rw [e9], by rw [e9]⟩
        · skip
          refine bz_wpb bT_X10_ball 3 (b1 := (48, [some (.ref 0), some (.int b), some (.int c), some (.int (f_X6_lyingOn_1 σ c)), none], [], σ)) (b2 := (45, [some (.ref 0), some (.int b), some (.int c), some (.int (f_X6_lyingOn_1 σ c)), none], [], σ)) (C := (f_X6_lyingOn_1 σ c) = b) (G := True) rfl trivial (fun h5 => ?_) (fun h5 => ?_)
          · skip
            refine bz_wpn bT_X10_ball 3 (b := (53, [some (.ref 0), some (.int b), some (.int c), some (.int (f_X6_lyingOn_1 σ c)), none], [.int b, .ref 1], σ)) (G := True) rfl trivial ?_
            refine bz_wci bT_X10_ball [.ref 1, .int b] (pc' := 56) (rest := []) rfl rfl (Nat.le_of_ble_eq_true rfl) rfl (Nat.le_of_ble_eq_true rfl) rfl (s_X6_cellOrNone_1 σ b) rfl ?_
            refine bz_wpn bT_X10_ball 8 (b := (70, [some (.ref 0), some (.int b), some (.int c), some (.int (f_X6_lyingOn_1 σ c)), some (.int (f_X6_cellOrNone_1 σ b))], [.int (f_X6_cellOrNone_1 σ b)], ((bz_up σ.1 2 b.toNatClampNeg c), σ.2))) (G := vp_in b 3 ∧ True) rfl ⟨(bz_ball (by assumption)), trivial⟩ ?_
            refine bz_wpr bT_X10_ball rfl rfl trivial ?_
            have e9 : f_X10_ball_0 σ b c = ((f_X6_cellOrNone_1 σ b), ((bz_up σ.1 2 b.toNatClampNeg c), σ.2)) := by rw [f_X10_ball_0, if_pos (h1), if_pos (h2), if_neg (h3), if_neg (h4), if_pos (h5)]
            exact ⟨by rw [e9], by rw [e9]⟩
          · skip
            refine bz_wpn bT_X10_ball 1 (b := (47, [some (.ref 0), some (.int b), some (.int c), some (.int (f_X6_lyingOn_1 σ c)), none], [.int (-3)], σ)) (G := True) rfl trivial ?_
            refine bz_wpr bT_X10_ball rfl rfl trivial ?_
            have e9 : f_X10_ball_0 σ b c = ((-3), σ) := by rw [f_X10_ball_0, if_pos (h1), if_pos (h2), if_neg (h3), if_neg (h4), if_neg (h5)]
            exact ⟨by rw [e9], by rw [e9]⟩
    · skip
      refine bz_wpn bT_X10_ball 1 (b := (13, [some (.ref 0), some (.int b), some (.int c), none, none], [.int c], σ)) (G := True) rfl trivial ?_
      refine bz_wci bT_X10_ball [.int c] (pc' := 16) (rest := []) rfl rfl (Nat.le_of_ble_eq_true rfl) rfl (Nat.le_of_ble_eq_true rfl) rfl (s_X10_isPlace σ c) rfl ?_
      refine bz_wpb bT_X10_ball 1 (b1 := (21, [some (.ref 0), some (.int b), some (.int c), none, none], [], σ)) (b2 := (19, [some (.ref 0), some (.int b), some (.int c), none, none], [], σ)) (C := ¬ bz_b (f_X10_isPlace c) = 0) (G := True) rfl trivial (fun h6 => ?_) (fun h6 => ?_)
      · skip
        have h6 := bz_b1 h6
        refine bz_wpn bT_X10_ball 3 (b := (26, [some (.ref 0), some (.int b), some (.int c), none, none], [.int c, .ref 1], σ)) (G := True) rfl trivial ?_
        refine bz_wci bT_X10_ball [.ref 1, .int c] (pc' := 29) (rest := []) rfl rfl (Nat.le_of_ble_eq_true rfl) rfl (Nat.le_of_ble_eq_true rfl) rfl (s_X6_lyingOn_1 σ c) rfl ?_
        refine bz_wpb bT_X10_ball 4 (b1 := (48, [some (.ref 0), some (.int b), some (.int c), some (.int (f_X6_lyingOn_1 σ c)), none], [], σ)) (b2 := (35, [some (.ref 0), some (.int b), some (.int c), some (.int (f_X6_lyingOn_1 σ c)), none], [], σ)) (C := c = (-1)) (G := True) rfl trivial (fun h7 => ?_) (fun h7 => ?_)
        · skip
          refine bz_wpn bT_X10_ball 3 (b := (53, [some (.ref 0), some (.int b), some (.int c), some (.int (f_X6_lyingOn_1 σ c)), none], [.int b, .ref 1], σ)) (G := True) rfl trivial ?_
          refine bz_wci bT_X10_ball [.ref 1, .int b] (pc' := 56) (rest := []) rfl rfl (Nat.le_of_ble_eq_true rfl) rfl (Nat.le_of_ble_eq_true rfl) rfl (s_X6_cellOrNone_1 σ b) rfl ?_
          refine bz_wpn bT_X10_ball 8 (b := (70, [some (.ref 0), some (.int b), some (.int c), some (.int (f_X6_lyingOn_1 σ c)), some (.int (f_X6_cellOrNone_1 σ b))], [.int (f_X6_cellOrNone_1 σ b)], ((bz_up σ.1 2 b.toNatClampNeg c), σ.2))) (G := vp_in b 3 ∧ True) rfl ⟨(bz_ball (by assumption)), trivial⟩ ?_
          refine bz_wpr bT_X10_ball rfl rfl trivial ?_
          have e9 : f_X10_ball_0 σ b c = ((f_X6_cellOrNone_1 σ b), ((bz_up σ.1 2 b.toNatClampNeg c), σ.2)) := by rw [f_X10_ball_0, if_pos (h1), if_neg (h2), if_pos (h6), if_pos (h7)]
          exact ⟨by rw [e9], by rw [e9]⟩
        · skip
          refine bz_wpb bT_X10_ball 3 (b1 := (48, [some (.ref 0), some (.int b), some (.int c), some (.int (f_X6_lyingOn_1 σ c)), none], [], σ)) (b2 := (40, [some (.ref 0), some (.int b), some (.int c), some (.int (f_X6_lyingOn_1 σ c)), none], [], σ)) (C := (f_X6_lyingOn_1 σ c) = (-1)) (G := True) rfl trivial (fun h8 => ?_) (fun h8 => ?_)
          · skip
            refine bz_wpn bT_X10_ball 3 (b := (53, [some (.ref 0), some (.int b), some (.int c), some (.int (f_X6_lyingOn_1 σ c)), none], [.int b, .ref 1], σ)) (G := True) rfl trivial ?_
            refine bz_wci bT_X10_ball [.ref 1, .int b] (pc' := 56) (rest := []) rfl rfl (Nat.le_of_ble_eq_true rfl) rfl (Nat.le_of_ble_eq_true rfl) rfl (s_X6_cellOrNone_1 σ b) rfl ?_
            refine bz_wpn bT_X10_ball 8 (b := (70, [some (.ref 0), some (.int b), some (.int c), some (.int (f_X6_lyingOn_1 σ c)), some (.int (f_X6_cellOrNone_1 σ b))], [.int (f_X6_cellOrNone_1 σ b)], ((bz_up σ.1 2 b.toNatClampNeg c), σ.2))) (G := vp_in b 3 ∧ True) rfl ⟨(bz_ball (by assumption)), trivial⟩ ?_
            refine bz_wpr bT_X10_ball rfl rfl trivial ?_
            have e9 : f_X10_ball_0 σ b c = ((f_X6_cellOrNone_1 σ b), ((bz_up σ.1 2 b.toNatClampNeg c), σ.2)) := by rw [f_X10_ball_0, if_pos (h1), if_neg (h2), if_pos (h6), if_neg (h7), if_pos (h8)]
            exact ⟨by rw [e9], by rw [e9]⟩
          · skip
            refine bz_wpb bT_X10_ball 3 (b1 := (48, [some (.ref 0), some (.int b), some (.int c), some (.int (f_X6_lyingOn_1 σ c)), none], [], σ)) (b2 := (45, [some (.ref 0), some (.int b), some (.int c), some (.int (f_X6_lyingOn_1 σ c)), none], [], σ)) (C := (f_X6_lyingOn_1 σ c) = b) (G := True) rfl trivial (fun h9 => ?_) (fun h9 => ?_)
            · skip
              refine bz_wpn bT_X10_ball 3 (b := (53, [some (.ref 0), some (.int b), some (.int c), some (.int (f_X6_lyingOn_1 σ c)), none], [.int b, .ref 1], σ)) (G := True) rfl trivial ?_
              refine bz_wci bT_X10_ball [.ref 1, .int b] (pc' := 56) (rest := []) rfl rfl (Nat.le_of_ble_eq_true rfl) rfl (Nat.le_of_ble_eq_true rfl) rfl (s_X6_cellOrNone_1 σ b) rfl ?_
              refine bz_wpn bT_X10_ball 8 (b := (70, [some (.ref 0), some (.int b), some (.int c), some (.int (f_X6_lyingOn_1 σ c)), some (.int (f_X6_cellOrNone_1 σ b))], [.int (f_X6_cellOrNone_1 σ b)], ((bz_up σ.1 2 b.toNatClampNeg c), σ.2))) (G := vp_in b 3 ∧ True) rfl ⟨(bz_ball (by assumption)), trivial⟩ ?_
              refine bz_wpr bT_X10_ball rfl rfl trivial ?_
              have e9 : f_X10_ball_0 σ b c = ((f_X6_cellOrNone_1 σ b), ((bz_up σ.1 2 b.toNatClampNeg c), σ.2)) := by rw [f_X10_ball_0, if_pos (h1), if_neg (h2), if_pos (h6), if_neg (h7), if_neg (h8), if_pos (h9)]
              exact ⟨by rw [e9], by rw [e9]⟩
            · skip
              refine bz_wpn bT_X10_ball 1 (b := (47, [some (.ref 0), some (.int b), some (.int c), some (.int (f_X6_lyingOn_1 σ c)), none], [.int (-3)], σ)) (G := True) rfl trivial ?_
              refine bz_wpr bT_X10_ball rfl rfl trivial ?_
              have e9 : f_X10_ball_0 σ b c = ((-3), σ) := by rw [f_X10_ball_0, if_pos (h1), if_neg (h2), if_pos (h6), if_neg (h7), if_neg (h8), if_neg (h9)]
              exact ⟨by rw [e9], by rw [e9]⟩
      · skip
        have h6 := bz_b0 (Decidable.not_not.mp h6)
        refine bz_wpn bT_X10_ball 1 (b := (20, [some (.ref 0), some (.int b), some (.int c), none, none], [.int (-1)], σ)) (G := True) rfl trivial ?_
        refine bz_wpr bT_X10_ball rfl rfl trivial ?_
        have e9 : f_X10_ball_0 σ b c = ((-1), σ) := by rw [f_X10_ball_0, if_pos (h1), if_neg (h2), if_neg (bz_ff h6)]
        exact ⟨by rw [e9], by rw [e9]⟩
theorem rf_X10_ball_0 (σ : bz_S) (b : Int32) (c : Int32) : bz_fr [2] σ (f_X10_ball_0 σ b c).2 := by
  unfold f_X10_ball_0
  exact (bz_ite2 (bz_ite2 (bz_ite2 ⟨(bz_f1_up (bz_fr_rf).1 (by decide)), (bz_fr_rf).2⟩ (bz_ite2 ⟨(bz_f1_up (bz_fr_rf).1 (by decide)), (bz_fr_rf).2⟩ (bz_ite2 ⟨(bz_f1_up (bz_fr_rf).1 (by decide)), (bz_fr_rf).2⟩ bz_fr_rf))) (bz_ite2 (bz_ite2 ⟨(bz_f1_up (bz_fr_rf).1 (by decide)), (bz_fr_rf).2⟩ (bz_ite2 ⟨(bz_f1_up (bz_fr_rf).1 (by decide)), (bz_fr_rf).2⟩ (bz_ite2 ⟨(bz_f1_up (bz_fr_rf).1 (by decide)), (bz_fr_rf).2⟩ bz_fr_rf))) bz_fr_rf)) bz_fr_rf)

def f_X10_score_0 (σ : bz_S) (pt : Int32) (fl : Int32) : Int32 × bz_S := if f_X10_isWithin pt 0 99 = true then if f_X10_isWithin fl 0 99 = true then (((100 * (σ.1 1 1)) + (σ.1 1 2)), ((bz_up (bz_up σ.1 1 1 pt) 1 2 fl), σ.2)) else ((-2), σ) else ((-2), σ)
set_option maxRecDepth 100000 in
theorem s_X10_score_0 {X : bz_X} (σ : bz_S) (pt : Int32) (fl : Int32) : bz_C bz_P X mX10_score [.ref 0, .int pt, .int fl] σ (bz_pi (f_X10_score_0 σ pt fl).1 (f_X10_score_0 σ pt fl).2) := by
  show bz_wp bz_P X mX10_score (bz_pi (f_X10_score_0 σ pt fl).1 (f_X10_score_0 σ pt fl).2) (0, [some (.ref 0), some (.int pt), some (.int fl), none], [], σ)
  refine bz_wpn bT_X10_score 3 (b := (4, [some (.ref 0), some (.int pt), some (.int fl), none], [.int 99, .int 0, .int pt], σ)) (G := True) rfl trivial ?_
  refine bz_wci bT_X10_score [.int pt, .int 0, .int 99] (pc' := 7) (rest := []) rfl rfl (Nat.le_of_ble_eq_true rfl) rfl (Nat.le_of_ble_eq_true rfl) rfl (s_X10_isWithin σ pt 0 99) rfl ?_
  refine bz_wpb bT_X10_score 1 (b1 := (20, [some (.ref 0), some (.int pt), some (.int fl), none], [], σ)) (b2 := (10, [some (.ref 0), some (.int pt), some (.int fl), none], [], σ)) (C := bz_b (f_X10_isWithin pt 0 99) = 0) (G := True) rfl trivial (fun h1 => ?_) (fun h1 => ?_)
  · skip
    have h1 := bz_b0 h1
    refine bz_wpn bT_X10_score 1 (b := (22, [some (.ref 0), some (.int pt), some (.int fl), none], [.int (-2)], σ)) (G := True) rfl trivial ?_
    refine bz_wpr bT_X10_score rfl rfl trivial ?_
    have e9 : f_X10_score_0 σ pt fl = ((-2), σ) := by rw [f_X10_score_0, if_neg (bz_ff h1)]
    exact ⟨by rw [e9], by rw [e9]⟩
  · skip
    have h1 := bz_b1 h1
    refine bz_wpn bT_X10_score 3 (b := (14, [some (.ref 0), some (.int pt), some (.int fl), none], [.int 99, .int 0, .int fl], σ)) (G := True) rfl trivial ?_
    refine bz_wci bT_X10_score [.int fl, .int 0, .int 99] (pc' := 17) (rest := []) rfl rfl (Nat.le_of_ble_eq_true rfl) rfl (Nat.le_of_ble_eq_true rfl) rfl (s_X10_isWithin σ fl 0 99) rfl ?_
    refine bz_wpb bT_X10_score 1 (b1 := (23, [some (.ref 0), some (.int pt), some (.int fl), none], [], σ)) (b2 := (20, [some (.ref 0), some (.int pt), some (.int fl), none], [], σ)) (C := ¬ bz_b (f_X10_isWithin fl 0 99) = 0) (G := True) rfl trivial (fun h2 => ?_) (fun h2 => ?_)
    · skip
      have h2 := bz_b1 h2
      refine bz_wpn bT_X10_score 19 (b := (59, [some (.ref 0), some (.int pt), some (.int fl), some (.int ((100 * (σ.1 1 1)) + (σ.1 1 2)))], [.int ((100 * (σ.1 1 1)) + (σ.1 1 2))], ((bz_up (bz_up σ.1 1 1 pt) 1 2 fl), σ.2))) (G := True) rfl trivial ?_
      refine bz_wpr bT_X10_score rfl rfl trivial ?_
      have e9 : f_X10_score_0 σ pt fl = (((100 * (σ.1 1 1)) + (σ.1 1 2)), ((bz_up (bz_up σ.1 1 1 pt) 1 2 fl), σ.2)) := by rw [f_X10_score_0, if_pos (h1), if_pos (h2)]
      exact ⟨by rw [e9], by rw [e9]⟩
    · skip
      have h2 := bz_b0 (Decidable.not_not.mp h2)
      refine bz_wpn bT_X10_score 1 (b := (22, [some (.ref 0), some (.int pt), some (.int fl), none], [.int (-2)], σ)) (G := True) rfl trivial ?_
      refine bz_wpr bT_X10_score rfl rfl trivial ?_
      have e9 : f_X10_score_0 σ pt fl = ((-2), σ) := by rw [f_X10_score_0, if_pos (h1), if_neg (bz_ff h2)]
      exact ⟨by rw [e9], by rw [e9]⟩
theorem rf_X10_score_0 (σ : bz_S) (pt : Int32) (fl : Int32) : bz_fr [1] σ (f_X10_score_0 σ pt fl).2 := by
  unfold f_X10_score_0
  exact (bz_ite2 (bz_ite2 ⟨(bz_f1_up (bz_f1_up (bz_fr_rf).1 (by decide)) (by decide)), (bz_fr_rf).2⟩ bz_fr_rf) bz_fr_rf)

theorem bz_pad_n {σ : bz_S} (hp : bz_pad σ) : ¬ σ.1 6 1 < 0 := by
  obtain ⟨N, h60, hN⟩ := hp
  rw [hN]
  exact nI_pos (by omega)
def bz_sgh (σ : bz_S) : Prop := ∃ N, N ≤ 8 ∧ σ.1 3 2 = nI N
theorem bz_sgh_n {σ : bz_S} (hp : bz_sgh σ) : ¬ σ.1 3 2 < 0 := by
  obtain ⟨N, h60, hN⟩ := hp
  rw [hN]
  exact nI_pos (by omega)
theorem bz_w01 {k : Int32} (h : f_X10_isWithin k 0 1 = true) : k = 0 ∨ k = 1 := by
  obtain ⟨h1, h2⟩ := bz_int (m := 0) (n := 1) (by decide) (by decide) h
  have h3 : k.toInt = 0 ∨ k.toInt = 1 := by omega
  rcases h3 with h3 | h3
  · exact Or.inl (Int32.toInt_inj.mp (by rw [h3]; decide))
  · exact Or.inr (Int32.toInt_inj.mp (by rw [h3]; decide))

def f_X10_say_0_a (σ : bz_S) (c : Int32) (τ1 : Bool × bz_S) : Int32 × bz_S := if τ1.1 = true then ((τ1.2.1 6 1), τ1.2) else ((-4), τ1.2)
def f_X10_say_0 (σ : bz_S) (c : Int32) : Int32 × bz_S := if f_X10_isWithin c 33 126 = true then (f_X10_say_0_a σ c (f_X3_add_6 σ c)) else ((-2), σ)
set_option maxRecDepth 100000 in
theorem s_X10_say_0 {X : bz_X} (σ : bz_S) (c : Int32) (hp : bz_pad σ) : bz_C bz_P X mX10_say [.ref 0, .int c] σ (bz_pi (f_X10_say_0 σ c).1 (f_X10_say_0 σ c).2) := by
  show bz_wp bz_P X mX10_say (bz_pi (f_X10_say_0 σ c).1 (f_X10_say_0 σ c).2) (0, [some (.ref 0), some (.int c)], [], σ)
  refine bz_wpn bT_X10_say 3 (b := (5, [some (.ref 0), some (.int c)], [.int 126, .int 33, .int c], σ)) (G := True) rfl trivial ?_
  refine bz_wci bT_X10_say [.int c, .int 33, .int 126] (pc' := 8) (rest := []) rfl rfl (Nat.le_of_ble_eq_true rfl) rfl (Nat.le_of_ble_eq_true rfl) rfl (s_X10_isWithin σ c 33 126) rfl ?_
  refine bz_wpb bT_X10_say 1 (b1 := (14, [some (.ref 0), some (.int c)], [], σ)) (b2 := (11, [some (.ref 0), some (.int c)], [], σ)) (C := ¬ bz_b (f_X10_isWithin c 33 126) = 0) (G := True) rfl trivial (fun h1 => ?_) (fun h1 => ?_)
  · skip
    have h1 := bz_b1 h1
    refine bz_wpn bT_X10_say 3 (b := (19, [some (.ref 0), some (.int c)], [.int c, .ref 6], σ)) (G := True) rfl trivial ?_
    refine bz_wci bT_X10_say [.ref 6, .int c] (pc' := 22) (rest := []) rfl rfl (Nat.le_of_ble_eq_true rfl) rfl (Nat.le_of_ble_eq_true rfl) rfl (s_X3_add_6 σ c (bz_pad_n hp)) rfl ?_
    generalize hτ1 : f_X3_add_6 σ c = τ1
    refine bz_wpb bT_X10_say 1 (b1 := (35, [some (.ref 0), some (.int c)], [], τ1.2)) (b2 := (25, [some (.ref 0), some (.int c)], [], τ1.2)) (C := bz_b (τ1.1) = 0) (G := True) rfl trivial (fun h2 => ?_) (fun h2 => ?_)
    · skip
      have h2 := bz_b0 h2
      refine bz_wpn bT_X10_say 1 (b := (37, [some (.ref 0), some (.int c)], [.int (-4)], τ1.2)) (G := True) rfl trivial ?_
      refine bz_wpr bT_X10_say rfl rfl trivial ?_
      have e9 : f_X10_say_0 σ c = ((-4), τ1.2) := by rw [f_X10_say_0, if_pos (h1), hτ1, f_X10_say_0_a, if_neg (bz_ff h2)]
      exact ⟨by rw [e9], by rw [e9]⟩
    · skip
      have h2 := bz_b1 h2
      refine bz_wpn bT_X10_say 4 (b := (37, [some (.ref 0), some (.int c)], [.int (τ1.2.1 6 1)], τ1.2)) (G := True) rfl trivial ?_
      refine bz_wpr bT_X10_say rfl rfl trivial ?_
      have e9 : f_X10_say_0 σ c = ((τ1.2.1 6 1), τ1.2) := by rw [f_X10_say_0, if_pos (h1), hτ1, f_X10_say_0_a, if_pos (h2)]
      exact ⟨by rw [e9], by rw [e9]⟩
  · skip
    have h1 := bz_b0 (Decidable.not_not.mp h1)
    refine bz_wpn bT_X10_say 1 (b := (13, [some (.ref 0), some (.int c)], [.int (-2)], σ)) (G := True) rfl trivial ?_
    refine bz_wpr bT_X10_say rfl rfl trivial ?_
    have e9 : f_X10_say_0 σ c = ((-2), σ) := by rw [f_X10_say_0, if_neg (bz_ff h1)]
    exact ⟨by rw [e9], by rw [e9]⟩
theorem rf_X10_say_0_a (σ : bz_S) (c : Int32) (τ1 : Bool × bz_S) (fτ1 : bz_fr [6, 7] σ τ1.2) : bz_fr [6, 7] σ (f_X10_say_0_a σ c τ1).2 := by
  unfold f_X10_say_0_a
  exact (bz_ite2 fτ1 fτ1)
theorem rf_X10_say_0 (σ : bz_S) (c : Int32) : bz_fr [6, 7] σ (f_X10_say_0 σ c).2 := by
  unfold f_X10_say_0
  exact (bz_ite2 (rf_X10_say_0_a σ c (f_X3_add_6 σ c) (bz_fr_mo (rf_X3_add_6 σ c) (by decide))) bz_fr_rf)

def f_X10_wipe_0_a (σ : bz_S) (τ1 : Int32 × bz_S) : Int32 × bz_S := (τ1.1, τ1.2)
def f_X10_wipe_0 (σ : bz_S)  : Int32 × bz_S := (f_X10_wipe_0_a σ (f_X3_empty_6 σ))
set_option maxRecDepth 100000 in
theorem s_X10_wipe_0 {X : bz_X} (σ : bz_S) : bz_C bz_P X mX10_wipe [.ref 0] σ (bz_pi (f_X10_wipe_0 σ).1 (f_X10_wipe_0 σ).2) := by
  show bz_wp bz_P X mX10_wipe (bz_pi (f_X10_wipe_0 σ).1 (f_X10_wipe_0 σ).2) (0, [some (.ref 0)], [], σ)
  refine bz_wpn bT_X10_wipe 2 (b := (4, [some (.ref 0)], [.ref 6], σ)) (G := True) rfl trivial ?_
  refine bz_wci bT_X10_wipe [.ref 6] (pc' := 7) (rest := []) rfl rfl (Nat.le_of_ble_eq_true rfl) rfl (Nat.le_of_ble_eq_true rfl) rfl (s_X3_empty_6 σ) rfl ?_
  generalize hτ1 : f_X3_empty_6 σ = τ1
  refine bz_wpr bT_X10_wipe rfl rfl trivial ?_
  have e9 : f_X10_wipe_0 σ = (τ1.1, τ1.2) := by rw [f_X10_wipe_0, hτ1, f_X10_wipe_0_a]
  exact ⟨by rw [e9], by rw [e9]⟩
theorem rf_X10_wipe_0_a (σ : bz_S) (τ1 : Int32 × bz_S) (fτ1 : bz_fr [6] σ τ1.2) : bz_fr [6] σ (f_X10_wipe_0_a σ τ1).2 := by
  unfold f_X10_wipe_0_a
  exact fτ1
theorem rf_X10_wipe_0 (σ : bz_S)  : bz_fr [6] σ (f_X10_wipe_0 σ).2 := by
  unfold f_X10_wipe_0
  exact (rf_X10_wipe_0_a σ (f_X3_empty_6 σ) (bz_fr_mo (rf_X3_empty_6 σ) (by decide)))

def f_X10_fault_0 (σ : bz_S)  : Int32 := (f_X3_firstFault_6 σ)
set_option maxRecDepth 100000 in
theorem s_X10_fault_0 {X : bz_X} (σ : bz_S) (hp : bz_pad σ) : bz_C bz_P X mX10_fault [.ref 0] σ (bz_pi (f_X10_fault_0 σ) σ) := by
  show bz_wp bz_P X mX10_fault (bz_pi (f_X10_fault_0 σ) σ) (0, [some (.ref 0)], [], σ)
  refine bz_wpn bT_X10_fault 2 (b := (4, [some (.ref 0)], [.ref 6], σ)) (G := True) rfl trivial ?_
  refine bz_wci bT_X10_fault [.ref 6] (pc' := 7) (rest := []) rfl rfl (Nat.le_of_ble_eq_true rfl) rfl (Nat.le_of_ble_eq_true rfl) rfl (s_X3_firstFault_6 σ hp) rfl ?_
  refine bz_wpr bT_X10_fault rfl rfl trivial ?_
  have e9 : f_X10_fault_0 σ = (f_X3_firstFault_6 σ) := by rw [f_X10_fault_0]
  exact ⟨by rw [e9], rfl⟩

def f_X10_seen_0_a (σ : bz_S) (st : Int32) (c : Int32) (τ1 : Bool × bz_S) : Int32 × bz_S := if τ1.1 = true then ((τ1.2.1 3 2), τ1.2) else ((-4), τ1.2)
def f_X10_seen_0 (σ : bz_S) (st : Int32) (c : Int32) : Int32 × bz_S := if f_X10_isCell c = true then if f_X10_isWithin st 0 60 = true then (f_X10_seen_0_a σ st c (f_X4_add_3 σ st c)) else ((-2), σ) else ((-1), σ)
set_option maxRecDepth 100000 in
theorem s_X10_seen_0 {X : bz_X} (σ : bz_S) (st : Int32) (c : Int32) (hs : bz_sgh σ) : bz_C bz_P X mX10_seen [.ref 0, .int st, .int c] σ (bz_pi (f_X10_seen_0 σ st c).1 (f_X10_seen_0 σ st c).2) := by
  show bz_wp bz_P X mX10_seen (bz_pi (f_X10_seen_0 σ st c).1 (f_X10_seen_0 σ st c).2) (0, [some (.ref 0), some (.int st), some (.int c)], [], σ)
  refine bz_wpn bT_X10_seen 1 (b := (1, [some (.ref 0), some (.int st), some (.int c)], [.int c], σ)) (G := True) rfl trivial ?_
  refine bz_wci bT_X10_seen [.int c] (pc' := 4) (rest := []) rfl rfl (Nat.le_of_ble_eq_true rfl) rfl (Nat.le_of_ble_eq_true rfl) rfl (s_X10_isCell σ c) rfl ?_
  refine bz_wpb bT_X10_seen 1 (b1 := (9, [some (.ref 0), some (.int st), some (.int c)], [], σ)) (b2 := (7, [some (.ref 0), some (.int st), some (.int c)], [], σ)) (C := ¬ bz_b (f_X10_isCell c) = 0) (G := True) rfl trivial (fun h1 => ?_) (fun h1 => ?_)
  · skip
    have h1 := bz_b1 h1
    refine bz_wpn bT_X10_seen 3 (b := (13, [some (.ref 0), some (.int st), some (.int c)], [.int 60, .int 0, .int st], σ)) (G := True) rfl trivial ?_
    refine bz_wci bT_X10_seen [.int st, .int 0, .int 60] (pc' := 16) (rest := []) rfl rfl (Nat.le_of_ble_eq_true rfl) rfl (Nat.le_of_ble_eq_true rfl) rfl (s_X10_isWithin σ st 0 60) rfl ?_
    refine bz_wpb bT_X10_seen 1 (b1 := (22, [some (.ref 0), some (.int st), some (.int c)], [], σ)) (b2 := (19, [some (.ref 0), some (.int st), some (.int c)], [], σ)) (C := ¬ bz_b (f_X10_isWithin st 0 60) = 0) (G := True) rfl trivial (fun h2 => ?_) (fun h2 => ?_)
    · skip
      have h2 := bz_b1 h2
      refine bz_wpn bT_X10_seen 4 (b := (28, [some (.ref 0), some (.int st), some (.int c)], [.int c, .int st, .ref 3], σ)) (G := True) rfl trivial ?_
      refine bz_wci bT_X10_seen [.ref 3, .int st, .int c] (pc' := 31) (rest := []) rfl rfl (Nat.le_of_ble_eq_true rfl) rfl (Nat.le_of_ble_eq_true rfl) rfl (s_X4_add_3 σ st c (bz_sgh_n hs)) rfl ?_
      generalize hτ1 : f_X4_add_3 σ st c = τ1
      refine bz_wpb bT_X10_seen 1 (b1 := (44, [some (.ref 0), some (.int st), some (.int c)], [], τ1.2)) (b2 := (34, [some (.ref 0), some (.int st), some (.int c)], [], τ1.2)) (C := bz_b (τ1.1) = 0) (G := True) rfl trivial (fun h3 => ?_) (fun h3 => ?_)
      · skip
        have h3 := bz_b0 h3
        refine bz_wpn bT_X10_seen 1 (b := (46, [some (.ref 0), some (.int st), some (.int c)], [.int (-4)], τ1.2)) (G := True) rfl trivial ?_
        refine bz_wpr bT_X10_seen rfl rfl trivial ?_
        have e9 : f_X10_seen_0 σ st c = ((-4), τ1.2) := by rw [f_X10_seen_0, if_pos (h1), if_pos (h2), hτ1, f_X10_seen_0_a, if_neg (bz_ff h3)]
        exact ⟨by rw [e9], by rw [e9]⟩
      · skip
        have h3 := bz_b1 h3
        refine bz_wpn bT_X10_seen 4 (b := (46, [some (.ref 0), some (.int st), some (.int c)], [.int (τ1.2.1 3 2)], τ1.2)) (G := True) rfl trivial ?_
        refine bz_wpr bT_X10_seen rfl rfl trivial ?_
        have e9 : f_X10_seen_0 σ st c = ((τ1.2.1 3 2), τ1.2) := by rw [f_X10_seen_0, if_pos (h1), if_pos (h2), hτ1, f_X10_seen_0_a, if_pos (h3)]
        exact ⟨by rw [e9], by rw [e9]⟩
    · skip
      have h2 := bz_b0 (Decidable.not_not.mp h2)
      refine bz_wpn bT_X10_seen 1 (b := (21, [some (.ref 0), some (.int st), some (.int c)], [.int (-2)], σ)) (G := True) rfl trivial ?_
      refine bz_wpr bT_X10_seen rfl rfl trivial ?_
      have e9 : f_X10_seen_0 σ st c = ((-2), σ) := by rw [f_X10_seen_0, if_pos (h1), if_neg (bz_ff h2)]
      exact ⟨by rw [e9], by rw [e9]⟩
  · skip
    have h1 := bz_b0 (Decidable.not_not.mp h1)
    refine bz_wpn bT_X10_seen 1 (b := (8, [some (.ref 0), some (.int st), some (.int c)], [.int (-1)], σ)) (G := True) rfl trivial ?_
    refine bz_wpr bT_X10_seen rfl rfl trivial ?_
    have e9 : f_X10_seen_0 σ st c = ((-1), σ) := by rw [f_X10_seen_0, if_neg (bz_ff h1)]
    exact ⟨by rw [e9], by rw [e9]⟩
theorem rf_X10_seen_0_a (σ : bz_S) (st : Int32) (c : Int32) (τ1 : Bool × bz_S) (fτ1 : bz_fr [3, 4, 5] σ τ1.2) : bz_fr [3, 4, 5] σ (f_X10_seen_0_a σ st c τ1).2 := by
  unfold f_X10_seen_0_a
  exact (bz_ite2 fτ1 fτ1)
theorem rf_X10_seen_0 (σ : bz_S) (st : Int32) (c : Int32) : bz_fr [3, 4, 5] σ (f_X10_seen_0 σ st c).2 := by
  unfold f_X10_seen_0
  exact (bz_ite2 (bz_ite2 (rf_X10_seen_0_a σ st c (f_X4_add_3 σ st c) (bz_fr_mo (rf_X4_add_3 σ st c) (by decide))) bz_fr_rf) bz_fr_rf)

def f_X10_forget_0 (σ : bz_S)  : Int32 × bz_S := ((σ.1 3 2), ((bz_up σ.1 3 2 0), σ.2))
set_option maxRecDepth 100000 in
theorem s_X10_forget_0 {X : bz_X} (σ : bz_S) : bz_C bz_P X mX10_forget [.ref 0] σ (bz_pi (f_X10_forget_0 σ).1 (f_X10_forget_0 σ).2) := by
  show bz_wp bz_P X mX10_forget (bz_pi (f_X10_forget_0 σ).1 (f_X10_forget_0 σ).2) (0, [some (.ref 0), none], [], σ)
  refine bz_wpn bT_X10_forget 9 (b := (17, [some (.ref 0), some (.int (σ.1 3 2))], [.int (σ.1 3 2)], ((bz_up σ.1 3 2 0), σ.2))) (G := True) rfl trivial ?_
  refine bz_wpr bT_X10_forget rfl rfl trivial ?_
  have e9 : f_X10_forget_0 σ = ((σ.1 3 2), ((bz_up σ.1 3 2 0), σ.2)) := by rw [f_X10_forget_0]
  exact ⟨by rw [e9], by rw [e9]⟩
theorem rf_X10_forget_0 (σ : bz_S)  : bz_fr [3] σ (f_X10_forget_0 σ).2 := by
  unfold f_X10_forget_0
  exact ⟨(bz_f1_up (bz_fr_rf).1 (by decide)), (bz_fr_rf).2⟩

def f_X10_told_0 (σ : bz_S) (what : Int32) : Int32 := if what = 0 then (σ.1 6 1) else (if what = 1 then (σ.1 1 1) else (if what = 2 then (σ.1 1 2) else (if what = 3 then (σ.1 1 3) else (if what = 4 then (σ.1 3 2) else (if f_X10_isWithin what 10 12 = true then (f_X6_cellOrNone_1 σ (what - 10)) else (-2))))))
set_option maxRecDepth 100000 in
theorem s_X10_told_0 {X : bz_X} (σ : bz_S) (what : Int32) : bz_C bz_P X mX10_told [.ref 0, .int what] σ (bz_pi (f_X10_told_0 σ what) σ) := by
  show bz_wp bz_P X mX10_told (bz_pi (f_X10_told_0 σ what) σ) (0, [some (.ref 0), some (.int what)], [], σ)
  refine bz_wpn bT_X10_told 2 (b := (bz_sw (what).toInt (bz_mk 0 [36, 44, 52, 60, 68]) 76, [some (.ref 0), some (.int what)], [], σ)) (G := True) rfl trivial ?_
  by_cases w1 : what = 0
  · rw [show bz_sw (what).toInt (bz_mk 0 [36, 44, 52, 60, 68]) 76 = 36 from by rw [w1]; decide]
    refine bz_wpn bT_X10_told 3 (b := (43, [some (.ref 0), some (.int what)], [.int (σ.1 6 1)], σ)) (G := True) rfl trivial ?_
    refine bz_wpr bT_X10_told rfl rfl trivial ?_
    have e9 : f_X10_told_0 σ what = (σ.1 6 1) := by rw [f_X10_told_0, if_pos (w1)]
    exact ⟨by rw [e9], rfl⟩
  by_cases w2 : what = 1
  · rw [show bz_sw (what).toInt (bz_mk 0 [36, 44, 52, 60, 68]) 76 = 44 from by rw [w2]; decide]
    refine bz_wpn bT_X10_told 3 (b := (51, [some (.ref 0), some (.int what)], [.int (σ.1 1 1)], σ)) (G := True) rfl trivial ?_
    refine bz_wpr bT_X10_told rfl rfl trivial ?_
    have e9 : f_X10_told_0 σ what = (σ.1 1 1) := by rw [f_X10_told_0, if_neg (w1), if_pos (w2)]
    exact ⟨by rw [e9], rfl⟩
  by_cases w3 : what = 2
  · rw [show bz_sw (what).toInt (bz_mk 0 [36, 44, 52, 60, 68]) 76 = 52 from by rw [w3]; decide]
    refine bz_wpn bT_X10_told 3 (b := (59, [some (.ref 0), some (.int what)], [.int (σ.1 1 2)], σ)) (G := True) rfl trivial ?_
    refine bz_wpr bT_X10_told rfl rfl trivial ?_
    have e9 : f_X10_told_0 σ what = (σ.1 1 2) := by rw [f_X10_told_0, if_neg (w1), if_neg (w2), if_pos (w3)]
    exact ⟨by rw [e9], rfl⟩
  by_cases w4 : what = 3
  · rw [show bz_sw (what).toInt (bz_mk 0 [36, 44, 52, 60, 68]) 76 = 60 from by rw [w4]; decide]
    refine bz_wpn bT_X10_told 3 (b := (67, [some (.ref 0), some (.int what)], [.int (σ.1 1 3)], σ)) (G := True) rfl trivial ?_
    refine bz_wpr bT_X10_told rfl rfl trivial ?_
    have e9 : f_X10_told_0 σ what = (σ.1 1 3) := by rw [f_X10_told_0, if_neg (w1), if_neg (w2), if_neg (w3), if_pos (w4)]
    exact ⟨by rw [e9], rfl⟩
  by_cases w5 : what = 4
  · rw [show bz_sw (what).toInt (bz_mk 0 [36, 44, 52, 60, 68]) 76 = 68 from by rw [w5]; decide]
    refine bz_wpn bT_X10_told 3 (b := (75, [some (.ref 0), some (.int what)], [.int (σ.1 3 2)], σ)) (G := True) rfl trivial ?_
    refine bz_wpr bT_X10_told rfl rfl trivial ?_
    have e9 : f_X10_told_0 σ what = (σ.1 3 2) := by rw [f_X10_told_0, if_neg (w1), if_neg (w2), if_neg (w3), if_neg (w4), if_pos (w5)]
    exact ⟨by rw [e9], rfl⟩
  · rw [show bz_sw (what).toInt (bz_mk 0 [36, 44, 52, 60, 68]) 76 = 76 from by simp only [bz_mk, bz_sw]; rw [if_neg (lv_neT w1 (by decide)), if_neg (lv_neT w2 (by decide)), if_neg (lv_neT w3 (by decide)), if_neg (lv_neT w4 (by decide)), if_neg (lv_neT w5 (by decide))]]
    refine bz_wpn bT_X10_told 3 (b := (81, [some (.ref 0), some (.int what)], [.int 12, .int 10, .int what], σ)) (G := True) rfl trivial ?_
    refine bz_wci bT_X10_told [.int what, .int 10, .int 12] (pc' := 84) (rest := []) rfl rfl (Nat.le_of_ble_eq_true rfl) rfl (Nat.le_of_ble_eq_true rfl) rfl (s_X10_isWithin σ what 10 12) rfl ?_
    refine bz_wpb bT_X10_told 1 (b1 := (101, [some (.ref 0), some (.int what)], [], σ)) (b2 := (87, [some (.ref 0), some (.int what)], [], σ)) (C := bz_b (f_X10_isWithin what 10 12) = 0) (G := True) rfl trivial (fun h6 => ?_) (fun h6 => ?_)
    · skip
      have h6 := bz_b0 h6
      refine bz_wpn bT_X10_told 1 (b := (103, [some (.ref 0), some (.int what)], [.int (-2)], σ)) (G := True) rfl trivial ?_
      refine bz_wpr bT_X10_told rfl rfl trivial ?_
      have e9 : f_X10_told_0 σ what = (-2) := by rw [f_X10_told_0, if_neg (w1), if_neg (w2), if_neg (w3), if_neg (w4), if_neg (w5), if_neg (bz_ff h6)]
      exact ⟨by rw [e9], rfl⟩
    · skip
      have h6 := bz_b1 h6
      refine bz_wpn bT_X10_told 5 (b := (95, [some (.ref 0), some (.int what)], [.int (what - 10), .ref 1], σ)) (G := True) rfl trivial ?_
      refine bz_wci bT_X10_told [.ref 1, .int (what - 10)] (pc' := 98) (rest := []) rfl rfl (Nat.le_of_ble_eq_true rfl) rfl (Nat.le_of_ble_eq_true rfl) rfl (s_X6_cellOrNone_1 σ (what - 10)) rfl ?_
      refine bz_wpn bT_X10_told 1 (b := (103, [some (.ref 0), some (.int what)], [.int (f_X6_cellOrNone_1 σ (what - 10))], σ)) (G := True) rfl trivial ?_
      refine bz_wpr bT_X10_told rfl rfl trivial ?_
      have e9 : f_X10_told_0 σ what = (f_X6_cellOrNone_1 σ (what - 10)) := by rw [f_X10_told_0, if_neg (w1), if_neg (w2), if_neg (w3), if_neg (w4), if_neg (w5), if_pos (h6)]
      exact ⟨by rw [e9], rfl⟩

def f_X10_image_0_b (σ : bz_S) (k : Int32) (τ2 : bz_S) : Int32 × bz_S := (1, τ2)
def f_X10_image_0_a (σ : bz_S) (k : Int32) (τ1 : bz_S) : Int32 × bz_S := (1, τ1)
def f_X10_image_0 (σ : bz_S) (k : Int32) : Int32 × bz_S := if f_X10_isWithin k 0 1 = true then if k = 0 then (f_X10_image_0_a σ k (f_X1_keep_20_1_3 σ)) else (f_X10_image_0_b σ k (f_X1_keep_26_1_3 σ)) else ((-2), σ)
set_option maxRecDepth 100000 in
theorem s_X10_image_0 {X : bz_X} (σ : bz_S) (k : Int32) : bz_C bz_P X mX10_image [.ref 0, .int k] σ (bz_pi (f_X10_image_0 σ k).1 (f_X10_image_0 σ k).2) := by
  show bz_wp bz_P X mX10_image (bz_pi (f_X10_image_0 σ k).1 (f_X10_image_0 σ k).2) (0, [some (.ref 0), some (.int k)], [], σ)
  refine bz_wpn bT_X10_image 3 (b := (3, [some (.ref 0), some (.int k)], [.int 1, .int 0, .int k], σ)) (G := True) rfl trivial ?_
  refine bz_wci bT_X10_image [.int k, .int 0, .int 1] (pc' := 6) (rest := []) rfl rfl (Nat.le_of_ble_eq_true rfl) rfl (Nat.le_of_ble_eq_true rfl) rfl (s_X10_isWithin σ k 0 1) rfl ?_
  refine bz_wpb bT_X10_image 1 (b1 := (12, [some (.ref 0), some (.int k)], [], σ)) (b2 := (9, [some (.ref 0), some (.int k)], [], σ)) (C := ¬ bz_b (f_X10_isWithin k 0 1) = 0) (G := True) rfl trivial (fun h1 => ?_) (fun h1 => ?_)
  · skip
    have h1 := bz_b1 h1
    refine bz_wpn bT_X10_image 3 (b := (17, [some (.ref 0), some (.int k)], [.int k, .ref 19], σ)) (G := True) rfl trivial ?_
    rcases bz_w01 (by assumption) with rfl | rfl
    · skip
      refine bz_wpn bT_X10_image 5 (b := (26, [some (.ref 0), some (.int 0)], [.ref 3, .ref 1, .ref 20], σ)) (G := vp_in 0 2 ∧ True) rfl ⟨(bz_lit (by decide)), trivial⟩ ?_
      refine bz_wcv bT_X10_image [.ref 20, .ref 1, .ref 3] (pc' := 29) (rest := []) rfl rfl (Nat.le_of_ble_eq_true rfl) rfl (Nat.le_of_ble_eq_true rfl) rfl (s_X1_keep_20_1_3 σ) rfl ?_
      generalize hτ1 : f_X1_keep_20_1_3 σ = τ1
      refine bz_wpn bT_X10_image 1 (b := (30, [some (.ref 0), some (.int 0)], [.int 1], τ1)) (G := True) rfl trivial ?_
      refine bz_wpr bT_X10_image rfl rfl trivial ?_
      have e9 : f_X10_image_0 σ 0 = (1, τ1) := by rw [f_X10_image_0, if_pos (h1), if_pos (rfl), hτ1, f_X10_image_0_a]
      exact ⟨by rw [e9], by rw [e9]⟩
    · skip
      refine bz_wpn bT_X10_image 5 (b := (26, [some (.ref 0), some (.int 1)], [.ref 3, .ref 1, .ref 26], σ)) (G := vp_in 1 2 ∧ True) rfl ⟨(bz_lit (by decide)), trivial⟩ ?_
      refine bz_wcv bT_X10_image [.ref 26, .ref 1, .ref 3] (pc' := 29) (rest := []) rfl rfl (Nat.le_of_ble_eq_true rfl) rfl (Nat.le_of_ble_eq_true rfl) rfl (s_X1_keep_26_1_3 σ) rfl ?_
      generalize hτ2 : f_X1_keep_26_1_3 σ = τ2
      refine bz_wpn bT_X10_image 1 (b := (30, [some (.ref 0), some (.int 1)], [.int 1], τ2)) (G := True) rfl trivial ?_
      refine bz_wpr bT_X10_image rfl rfl trivial ?_
      have e9 : f_X10_image_0 σ 1 = (1, τ2) := by rw [f_X10_image_0, if_pos (h1), if_neg (by decide), hτ2, f_X10_image_0_b]
      exact ⟨by rw [e9], by rw [e9]⟩
  · skip
    have h1 := bz_b0 (Decidable.not_not.mp h1)
    refine bz_wpn bT_X10_image 1 (b := (11, [some (.ref 0), some (.int k)], [.int (-2)], σ)) (G := True) rfl trivial ?_
    refine bz_wpr bT_X10_image rfl rfl trivial ?_
    have e9 : f_X10_image_0 σ k = ((-2), σ) := by rw [f_X10_image_0, if_neg (bz_ff h1)]
    exact ⟨by rw [e9], by rw [e9]⟩
theorem rf_X10_image_0_a (σ : bz_S) (k : Int32) (τ1 : bz_S) (fτ1 : bz_fr [20, 21, 22, 23, 24, 25, 26, 27, 28, 29, 30, 31] σ τ1) : bz_fr [20, 21, 22, 23, 24, 25, 26, 27, 28, 29, 30, 31] σ (f_X10_image_0_a σ k τ1).2 := by
  unfold f_X10_image_0_a
  exact fτ1
theorem rf_X10_image_0_b (σ : bz_S) (k : Int32) (τ2 : bz_S) (fτ2 : bz_fr [20, 21, 22, 23, 24, 25, 26, 27, 28, 29, 30, 31] σ τ2) : bz_fr [20, 21, 22, 23, 24, 25, 26, 27, 28, 29, 30, 31] σ (f_X10_image_0_b σ k τ2).2 := by
  unfold f_X10_image_0_b
  exact fτ2
theorem rf_X10_image_0 (σ : bz_S) (k : Int32) : bz_fr [20, 21, 22, 23, 24, 25, 26, 27, 28, 29, 30, 31] σ (f_X10_image_0 σ k).2 := by
  unfold f_X10_image_0
  exact (bz_ite2 (bz_ite2 (rf_X10_image_0_a σ k (f_X1_keep_20_1_3 σ) (bz_fr_mo (rf_X1_keep_20_1_3 σ) (by decide))) (rf_X10_image_0_b σ k (f_X1_keep_26_1_3 σ) (bz_fr_mo (rf_X1_keep_26_1_3 σ) (by decide)))) bz_fr_rf)

def f_X10_restore_0_d (σ : bz_S) (k : Int32) (τ3 : bz_S) (τ4 : bz_S) : Int32 × bz_S := (1, τ4)
def f_X10_restore_0_c (σ : bz_S) (k : Int32) (τ3 : bz_S) : Int32 × bz_S := (f_X10_restore_0_d σ k τ3 (f_X4_copy_3_29 τ3))
def f_X10_restore_0_b (σ : bz_S) (k : Int32) (τ1 : bz_S) (τ2 : bz_S) : Int32 × bz_S := (1, τ2)
def f_X10_restore_0_a (σ : bz_S) (k : Int32) (τ1 : bz_S) : Int32 × bz_S := (f_X10_restore_0_b σ k τ1 (f_X4_copy_3_23 τ1))
def f_X10_restore_0 (σ : bz_S) (k : Int32) : Int32 × bz_S := if f_X10_isWithin k 0 1 = true then if k = 0 then if (σ.1 20 2) = 0 then ((-3), σ) else (f_X10_restore_0_a σ k (f_X6_copy_1_21 σ)) else (if (σ.1 26 2) = 0 then ((-3), σ) else (f_X10_restore_0_c σ k (f_X6_copy_1_27 σ))) else ((-2), σ)
set_option maxRecDepth 100000 in
theorem s_X10_restore_0 {X : bz_X} (σ : bz_S) (k : Int32) : bz_C bz_P X mX10_restore [.ref 0, .int k] σ (bz_pi (f_X10_restore_0 σ k).1 (f_X10_restore_0 σ k).2) := by
  show bz_wp bz_P X mX10_restore (bz_pi (f_X10_restore_0 σ k).1 (f_X10_restore_0 σ k).2) (0, [some (.ref 0), some (.int k)], [], σ)
  refine bz_wpn bT_X10_restore 3 (b := (3, [some (.ref 0), some (.int k)], [.int 1, .int 0, .int k], σ)) (G := True) rfl trivial ?_
  refine bz_wci bT_X10_restore [.int k, .int 0, .int 1] (pc' := 6) (rest := []) rfl rfl (Nat.le_of_ble_eq_true rfl) rfl (Nat.le_of_ble_eq_true rfl) rfl (s_X10_isWithin σ k 0 1) rfl ?_
  refine bz_wpb bT_X10_restore 1 (b1 := (12, [some (.ref 0), some (.int k)], [], σ)) (b2 := (9, [some (.ref 0), some (.int k)], [], σ)) (C := ¬ bz_b (f_X10_isWithin k 0 1) = 0) (G := True) rfl trivial (fun h1 => ?_) (fun h1 => ?_)
  · skip
    have h1 := bz_b1 h1
    refine bz_wpn bT_X10_restore 3 (b := (17, [some (.ref 0), some (.int k)], [.int k, .ref 19], σ)) (G := True) rfl trivial ?_
    rcases bz_w01 (by assumption) with rfl | rfl
    · skip
      refine bz_wpb bT_X10_restore 3 (b1 := (27, [some (.ref 0), some (.int 0)], [], σ)) (b2 := (24, [some (.ref 0), some (.int 0)], [], σ)) (C := ¬ (σ.1 20 2) = 0) (G := vp_in 0 2 ∧ True) rfl ⟨(bz_lit (by decide)), trivial⟩ (fun h2 => ?_) (fun h2 => ?_)
      · skip
        refine bz_wpn bT_X10_restore 7 (b := (40, [some (.ref 0), some (.int 0)], [.ref 21, .ref 1], σ)) (G := vp_in 0 2 ∧ True) rfl ⟨(bz_lit (by decide)), trivial⟩ ?_
        refine bz_wcv bT_X10_restore [.ref 1, .ref 21] (pc' := 43) (rest := []) rfl rfl (Nat.le_of_ble_eq_true rfl) rfl (Nat.le_of_ble_eq_true rfl) rfl (s_X6_copy_1_21 σ) rfl ?_
        generalize hτ1 : f_X6_copy_1_21 σ = τ1
        refine bz_wpn bT_X10_restore 7 (b := (56, [some (.ref 0), some (.int 0)], [.ref 23, .ref 3], τ1)) (G := vp_in 0 2 ∧ True) rfl ⟨(bz_lit (by decide)), trivial⟩ ?_
        refine bz_wcv bT_X10_restore [.ref 3, .ref 23] (pc' := 59) (rest := []) rfl rfl (Nat.le_of_ble_eq_true rfl) rfl (Nat.le_of_ble_eq_true rfl) rfl (s_X4_copy_3_23 τ1) rfl ?_
        generalize hτ2 : f_X4_copy_3_23 τ1 = τ2
        refine bz_wpn bT_X10_restore 1 (b := (60, [some (.ref 0), some (.int 0)], [.int 1], τ2)) (G := True) rfl trivial ?_
        refine bz_wpr bT_X10_restore rfl rfl trivial ?_
        have e9 : f_X10_restore_0 σ 0 = (1, τ2) := by rw [f_X10_restore_0, if_pos (h1), if_pos (rfl), if_neg (h2), hτ1, f_X10_restore_0_a, hτ2, f_X10_restore_0_b]
        exact ⟨by rw [e9], by rw [e9]⟩
      · skip
        refine bz_wpn bT_X10_restore 1 (b := (26, [some (.ref 0), some (.int 0)], [.int (-3)], σ)) (G := True) rfl trivial ?_
        refine bz_wpr bT_X10_restore rfl rfl trivial ?_
        have e9 : f_X10_restore_0 σ 0 = ((-3), σ) := by rw [f_X10_restore_0, if_pos (h1), if_pos (rfl), if_pos ((Decidable.not_not.mp h2))]
        exact ⟨by rw [e9], by rw [e9]⟩
    · skip
      refine bz_wpb bT_X10_restore 3 (b1 := (27, [some (.ref 0), some (.int 1)], [], σ)) (b2 := (24, [some (.ref 0), some (.int 1)], [], σ)) (C := ¬ (σ.1 26 2) = 0) (G := vp_in 1 2 ∧ True) rfl ⟨(bz_lit (by decide)), trivial⟩ (fun h3 => ?_) (fun h3 => ?_)
      · skip
        refine bz_wpn bT_X10_restore 7 (b := (40, [some (.ref 0), some (.int 1)], [.ref 27, .ref 1], σ)) (G := vp_in 1 2 ∧ True) rfl ⟨(bz_lit (by decide)), trivial⟩ ?_
        refine bz_wcv bT_X10_restore [.ref 1, .ref 27] (pc' := 43) (rest := []) rfl rfl (Nat.le_of_ble_eq_true rfl) rfl (Nat.le_of_ble_eq_true rfl) rfl (s_X6_copy_1_27 σ) rfl ?_
        generalize hτ3 : f_X6_copy_1_27 σ = τ3
        refine bz_wpn bT_X10_restore 7 (b := (56, [some (.ref 0), some (.int 1)], [.ref 29, .ref 3], τ3)) (G := vp_in 1 2 ∧ True) rfl ⟨(bz_lit (by decide)), trivial⟩ ?_
        refine bz_wcv bT_X10_restore [.ref 3, .ref 29] (pc' := 59) (rest := []) rfl rfl (Nat.le_of_ble_eq_true rfl) rfl (Nat.le_of_ble_eq_true rfl) rfl (s_X4_copy_3_29 τ3) rfl ?_
        generalize hτ4 : f_X4_copy_3_29 τ3 = τ4
        refine bz_wpn bT_X10_restore 1 (b := (60, [some (.ref 0), some (.int 1)], [.int 1], τ4)) (G := True) rfl trivial ?_
        refine bz_wpr bT_X10_restore rfl rfl trivial ?_
        have e9 : f_X10_restore_0 σ 1 = (1, τ4) := by rw [f_X10_restore_0, if_pos (h1), if_neg (by decide), if_neg (h3), hτ3, f_X10_restore_0_c, hτ4, f_X10_restore_0_d]
        exact ⟨by rw [e9], by rw [e9]⟩
      · skip
        refine bz_wpn bT_X10_restore 1 (b := (26, [some (.ref 0), some (.int 1)], [.int (-3)], σ)) (G := True) rfl trivial ?_
        refine bz_wpr bT_X10_restore rfl rfl trivial ?_
        have e9 : f_X10_restore_0 σ 1 = ((-3), σ) := by rw [f_X10_restore_0, if_pos (h1), if_neg (by decide), if_pos ((Decidable.not_not.mp h3))]
        exact ⟨by rw [e9], by rw [e9]⟩
  · skip
    have h1 := bz_b0 (Decidable.not_not.mp h1)
    refine bz_wpn bT_X10_restore 1 (b := (11, [some (.ref 0), some (.int k)], [.int (-2)], σ)) (G := True) rfl trivial ?_
    refine bz_wpr bT_X10_restore rfl rfl trivial ?_
    have e9 : f_X10_restore_0 σ k = ((-2), σ) := by rw [f_X10_restore_0, if_neg (bz_ff h1)]
    exact ⟨by rw [e9], by rw [e9]⟩
theorem rf_X10_restore_0_b (σ : bz_S) (k : Int32) (τ1 : bz_S) (τ2 : bz_S) (fτ1 : bz_fr [1, 2, 3, 4, 5] σ τ1) (fτ2 : bz_fr [1, 2, 3, 4, 5] σ τ2) : bz_fr [1, 2, 3, 4, 5] σ (f_X10_restore_0_b σ k τ1 τ2).2 := by
  unfold f_X10_restore_0_b
  exact fτ2
theorem rf_X10_restore_0_a (σ : bz_S) (k : Int32) (τ1 : bz_S) (fτ1 : bz_fr [1, 2, 3, 4, 5] σ τ1) : bz_fr [1, 2, 3, 4, 5] σ (f_X10_restore_0_a σ k τ1).2 := by
  unfold f_X10_restore_0_a
  exact (rf_X10_restore_0_b σ k τ1 (f_X4_copy_3_23 τ1) fτ1 (bz_fr_tr (τ := τ1) fτ1 (bz_fr_mo (rf_X4_copy_3_23 τ1) (by decide))))
theorem rf_X10_restore_0_d (σ : bz_S) (k : Int32) (τ3 : bz_S) (τ4 : bz_S) (fτ3 : bz_fr [1, 2, 3, 4, 5] σ τ3) (fτ4 : bz_fr [1, 2, 3, 4, 5] σ τ4) : bz_fr [1, 2, 3, 4, 5] σ (f_X10_restore_0_d σ k τ3 τ4).2 := by
  unfold f_X10_restore_0_d
  exact fτ4
theorem rf_X10_restore_0_c (σ : bz_S) (k : Int32) (τ3 : bz_S) (fτ3 : bz_fr [1, 2, 3, 4, 5] σ τ3) : bz_fr [1, 2, 3, 4, 5] σ (f_X10_restore_0_c σ k τ3).2 := by
  unfold f_X10_restore_0_c
  exact (rf_X10_restore_0_d σ k τ3 (f_X4_copy_3_29 τ3) fτ3 (bz_fr_tr (τ := τ3) fτ3 (bz_fr_mo (rf_X4_copy_3_29 τ3) (by decide))))
theorem rf_X10_restore_0 (σ : bz_S) (k : Int32) : bz_fr [1, 2, 3, 4, 5] σ (f_X10_restore_0 σ k).2 := by
  unfold f_X10_restore_0
  exact (bz_ite2 (bz_ite2 (bz_ite2 bz_fr_rf (rf_X10_restore_0_a σ k (f_X6_copy_1_21 σ) (bz_fr_mo (rf_X6_copy_1_21 σ) (by decide)))) (bz_ite2 bz_fr_rf (rf_X10_restore_0_c σ k (f_X6_copy_1_27 σ) (bz_fr_mo (rf_X6_copy_1_27 σ) (by decide))))) bz_fr_rf)

def f_J13_bitCount_95d88 (x : Int64) : Int32 := ((Int64.toInt32 ((((((((x - ((bz_lushr_f x 1) &&& 6148914691236517205)) &&& 3689348814741910323) + ((bz_lushr_f (x - ((bz_lushr_f x 1) &&& 6148914691236517205)) 2) &&& 3689348814741910323)) + (bz_lushr_f (((x - ((bz_lushr_f x 1) &&& 6148914691236517205)) &&& 3689348814741910323) + ((bz_lushr_f (x - ((bz_lushr_f x 1) &&& 6148914691236517205)) 2) &&& 3689348814741910323)) 4)) &&& 1085102592571150095) + (bz_lushr_f (((((x - ((bz_lushr_f x 1) &&& 6148914691236517205)) &&& 3689348814741910323) + ((bz_lushr_f (x - ((bz_lushr_f x 1) &&& 6148914691236517205)) 2) &&& 3689348814741910323)) + (bz_lushr_f (((x - ((bz_lushr_f x 1) &&& 6148914691236517205)) &&& 3689348814741910323) + ((bz_lushr_f (x - ((bz_lushr_f x 1) &&& 6148914691236517205)) 2) &&& 3689348814741910323)) 4)) &&& 1085102592571150095) 8)) + (bz_lushr_f ((((((x - ((bz_lushr_f x 1) &&& 6148914691236517205)) &&& 3689348814741910323) + ((bz_lushr_f (x - ((bz_lushr_f x 1) &&& 6148914691236517205)) 2) &&& 3689348814741910323)) + (bz_lushr_f (((x - ((bz_lushr_f x 1) &&& 6148914691236517205)) &&& 3689348814741910323) + ((bz_lushr_f (x - ((bz_lushr_f x 1) &&& 6148914691236517205)) 2) &&& 3689348814741910323)) 4)) &&& 1085102592571150095) + (bz_lushr_f (((((x - ((bz_lushr_f x 1) &&& 6148914691236517205)) &&& 3689348814741910323) + ((bz_lushr_f (x - ((bz_lushr_f x 1) &&& 6148914691236517205)) 2) &&& 3689348814741910323)) + (bz_lushr_f (((x - ((bz_lushr_f x 1) &&& 6148914691236517205)) &&& 3689348814741910323) + ((bz_lushr_f (x - ((bz_lushr_f x 1) &&& 6148914691236517205)) 2) &&& 3689348814741910323)) 4)) &&& 1085102592571150095) 8)) 16)) + (bz_lushr_f (((((((x - ((bz_lushr_f x 1) &&& 6148914691236517205)) &&& 3689348814741910323) + ((bz_lushr_f (x - ((bz_lushr_f x 1) &&& 6148914691236517205)) 2) &&& 3689348814741910323)) + (bz_lushr_f (((x - ((bz_lushr_f x 1) &&& 6148914691236517205)) &&& 3689348814741910323) + ((bz_lushr_f (x - ((bz_lushr_f x 1) &&& 6148914691236517205)) 2) &&& 3689348814741910323)) 4)) &&& 1085102592571150095) + (bz_lushr_f (((((x - ((bz_lushr_f x 1) &&& 6148914691236517205)) &&& 3689348814741910323) + ((bz_lushr_f (x - ((bz_lushr_f x 1) &&& 6148914691236517205)) 2) &&& 3689348814741910323)) + (bz_lushr_f (((x - ((bz_lushr_f x 1) &&& 6148914691236517205)) &&& 3689348814741910323) + ((bz_lushr_f (x - ((bz_lushr_f x 1) &&& 6148914691236517205)) 2) &&& 3689348814741910323)) 4)) &&& 1085102592571150095) 8)) + (bz_lushr_f ((((((x - ((bz_lushr_f x 1) &&& 6148914691236517205)) &&& 3689348814741910323) + ((bz_lushr_f (x - ((bz_lushr_f x 1) &&& 6148914691236517205)) 2) &&& 3689348814741910323)) + (bz_lushr_f (((x - ((bz_lushr_f x 1) &&& 6148914691236517205)) &&& 3689348814741910323) + ((bz_lushr_f (x - ((bz_lushr_f x 1) &&& 6148914691236517205)) 2) &&& 3689348814741910323)) 4)) &&& 1085102592571150095) + (bz_lushr_f (((((x - ((bz_lushr_f x 1) &&& 6148914691236517205)) &&& 3689348814741910323) + ((bz_lushr_f (x - ((bz_lushr_f x 1) &&& 6148914691236517205)) 2) &&& 3689348814741910323)) + (bz_lushr_f (((x - ((bz_lushr_f x 1) &&& 6148914691236517205)) &&& 3689348814741910323) + ((bz_lushr_f (x - ((bz_lushr_f x 1) &&& 6148914691236517205)) 2) &&& 3689348814741910323)) 4)) &&& 1085102592571150095) 8)) 16)) 32))) &&& 127)
set_option maxRecDepth 100000 in
theorem s_J13_bitCount_95d88 {X : bz_X} (σ : bz_S) (x : Int64) : bz_C bz_P X mJ13_bitCount_95d88 [.long x] σ (bz_pi (f_J13_bitCount_95d88 x) σ) := by
  show bz_wp bz_P X mJ13_bitCount_95d88 (bz_pi (f_J13_bitCount_95d88 x) σ) (0, [some (.long x), none], [], σ)
  refine bz_wpn bT_J13_bitCount_95d88 48 (b := (60, [some (.long ((((((((x - ((bz_lushr_f x 1) &&& 6148914691236517205)) &&& 3689348814741910323) + ((bz_lushr_f (x - ((bz_lushr_f x 1) &&& 6148914691236517205)) 2) &&& 3689348814741910323)) + (bz_lushr_f (((x - ((bz_lushr_f x 1) &&& 6148914691236517205)) &&& 3689348814741910323) + ((bz_lushr_f (x - ((bz_lushr_f x 1) &&& 6148914691236517205)) 2) &&& 3689348814741910323)) 4)) &&& 1085102592571150095) + (bz_lushr_f (((((x - ((bz_lushr_f x 1) &&& 6148914691236517205)) &&& 3689348814741910323) + ((bz_lushr_f (x - ((bz_lushr_f x 1) &&& 6148914691236517205)) 2) &&& 3689348814741910323)) + (bz_lushr_f (((x - ((bz_lushr_f x 1) &&& 6148914691236517205)) &&& 3689348814741910323) + ((bz_lushr_f (x - ((bz_lushr_f x 1) &&& 6148914691236517205)) 2) &&& 3689348814741910323)) 4)) &&& 1085102592571150095) 8)) + (bz_lushr_f ((((((x - ((bz_lushr_f x 1) &&& 6148914691236517205)) &&& 3689348814741910323) + ((bz_lushr_f (x - ((bz_lushr_f x 1) &&& 6148914691236517205)) 2) &&& 3689348814741910323)) + (bz_lushr_f (((x - ((bz_lushr_f x 1) &&& 6148914691236517205)) &&& 3689348814741910323) + ((bz_lushr_f (x - ((bz_lushr_f x 1) &&& 6148914691236517205)) 2) &&& 3689348814741910323)) 4)) &&& 1085102592571150095) + (bz_lushr_f (((((x - ((bz_lushr_f x 1) &&& 6148914691236517205)) &&& 3689348814741910323) + ((bz_lushr_f (x - ((bz_lushr_f x 1) &&& 6148914691236517205)) 2) &&& 3689348814741910323)) + (bz_lushr_f (((x - ((bz_lushr_f x 1) &&& 6148914691236517205)) &&& 3689348814741910323) + ((bz_lushr_f (x - ((bz_lushr_f x 1) &&& 6148914691236517205)) 2) &&& 3689348814741910323)) 4)) &&& 1085102592571150095) 8)) 16)) + (bz_lushr_f (((((((x - ((bz_lushr_f x 1) &&& 6148914691236517205)) &&& 3689348814741910323) + ((bz_lushr_f (x - ((bz_lushr_f x 1) &&& 6148914691236517205)) 2) &&& 3689348814741910323)) + (bz_lushr_f (((x - ((bz_lushr_f x 1) &&& 6148914691236517205)) &&& 3689348814741910323) + ((bz_lushr_f (x - ((bz_lushr_f x 1) &&& 6148914691236517205)) 2) &&& 3689348814741910323)) 4)) &&& 1085102592571150095) + (bz_lushr_f (((((x - ((bz_lushr_f x 1) &&& 6148914691236517205)) &&& 3689348814741910323) + ((bz_lushr_f (x - ((bz_lushr_f x 1) &&& 6148914691236517205)) 2) &&& 3689348814741910323)) + (bz_lushr_f (((x - ((bz_lushr_f x 1) &&& 6148914691236517205)) &&& 3689348814741910323) + ((bz_lushr_f (x - ((bz_lushr_f x 1) &&& 6148914691236517205)) 2) &&& 3689348814741910323)) 4)) &&& 1085102592571150095) 8)) + (bz_lushr_f ((((((x - ((bz_lushr_f x 1) &&& 6148914691236517205)) &&& 3689348814741910323) + ((bz_lushr_f (x - ((bz_lushr_f x 1) &&& 6148914691236517205)) 2) &&& 3689348814741910323)) + (bz_lushr_f (((x - ((bz_lushr_f x 1) &&& 6148914691236517205)) &&& 3689348814741910323) + ((bz_lushr_f (x - ((bz_lushr_f x 1) &&& 6148914691236517205)) 2) &&& 3689348814741910323)) 4)) &&& 1085102592571150095) + (bz_lushr_f (((((x - ((bz_lushr_f x 1) &&& 6148914691236517205)) &&& 3689348814741910323) + ((bz_lushr_f (x - ((bz_lushr_f x 1) &&& 6148914691236517205)) 2) &&& 3689348814741910323)) + (bz_lushr_f (((x - ((bz_lushr_f x 1) &&& 6148914691236517205)) &&& 3689348814741910323) + ((bz_lushr_f (x - ((bz_lushr_f x 1) &&& 6148914691236517205)) 2) &&& 3689348814741910323)) 4)) &&& 1085102592571150095) 8)) 16)) 32))), none], [.int ((Int64.toInt32 ((((((((x - ((bz_lushr_f x 1) &&& 6148914691236517205)) &&& 3689348814741910323) + ((bz_lushr_f (x - ((bz_lushr_f x 1) &&& 6148914691236517205)) 2) &&& 3689348814741910323)) + (bz_lushr_f (((x - ((bz_lushr_f x 1) &&& 6148914691236517205)) &&& 3689348814741910323) + ((bz_lushr_f (x - ((bz_lushr_f x 1) &&& 6148914691236517205)) 2) &&& 3689348814741910323)) 4)) &&& 1085102592571150095) + (bz_lushr_f (((((x - ((bz_lushr_f x 1) &&& 6148914691236517205)) &&& 3689348814741910323) + ((bz_lushr_f (x - ((bz_lushr_f x 1) &&& 6148914691236517205)) 2) &&& 3689348814741910323)) + (bz_lushr_f (((x - ((bz_lushr_f x 1) &&& 6148914691236517205)) &&& 3689348814741910323) + ((bz_lushr_f (x - ((bz_lushr_f x 1) &&& 6148914691236517205)) 2) &&& 3689348814741910323)) 4)) &&& 1085102592571150095) 8)) + (bz_lushr_f ((((((x - ((bz_lushr_f x 1) &&& 6148914691236517205)) &&& 3689348814741910323) + ((bz_lushr_f (x - ((bz_lushr_f x 1) &&& 6148914691236517205)) 2) &&& 3689348814741910323)) + (bz_lushr_f (((x - ((bz_lushr_f x 1) &&& 6148914691236517205)) &&& 3689348814741910323) + ((bz_lushr_f (x - ((bz_lushr_f x 1) &&& 6148914691236517205)) 2) &&& 3689348814741910323)) 4)) &&& 1085102592571150095) + (bz_lushr_f (((((x - ((bz_lushr_f x 1) &&& 6148914691236517205)) &&& 3689348814741910323) + ((bz_lushr_f (x - ((bz_lushr_f x 1) &&& 6148914691236517205)) 2) &&& 3689348814741910323)) + (bz_lushr_f (((x - ((bz_lushr_f x 1) &&& 6148914691236517205)) &&& 3689348814741910323) + ((bz_lushr_f (x - ((bz_lushr_f x 1) &&& 6148914691236517205)) 2) &&& 3689348814741910323)) 4)) &&& 1085102592571150095) 8)) 16)) + (bz_lushr_f (((((((x - ((bz_lushr_f x 1) &&& 6148914691236517205)) &&& 3689348814741910323) + ((bz_lushr_f (x - ((bz_lushr_f x 1) &&& 6148914691236517205)) 2) &&& 3689348814741910323)) + (bz_lushr_f (((x - ((bz_lushr_f x 1) &&& 6148914691236517205)) &&& 3689348814741910323) + ((bz_lushr_f (x - ((bz_lushr_f x 1) &&& 6148914691236517205)) 2) &&& 3689348814741910323)) 4)) &&& 1085102592571150095) + (bz_lushr_f (((((x - ((bz_lushr_f x 1) &&& 6148914691236517205)) &&& 3689348814741910323) + ((bz_lushr_f (x - ((bz_lushr_f x 1) &&& 6148914691236517205)) 2) &&& 3689348814741910323)) + (bz_lushr_f (((x - ((bz_lushr_f x 1) &&& 6148914691236517205)) &&& 3689348814741910323) + ((bz_lushr_f (x - ((bz_lushr_f x 1) &&& 6148914691236517205)) 2) &&& 3689348814741910323)) 4)) &&& 1085102592571150095) 8)) + (bz_lushr_f ((((((x - ((bz_lushr_f x 1) &&& 6148914691236517205)) &&& 3689348814741910323) + ((bz_lushr_f (x - ((bz_lushr_f x 1) &&& 6148914691236517205)) 2) &&& 3689348814741910323)) + (bz_lushr_f (((x - ((bz_lushr_f x 1) &&& 6148914691236517205)) &&& 3689348814741910323) + ((bz_lushr_f (x - ((bz_lushr_f x 1) &&& 6148914691236517205)) 2) &&& 3689348814741910323)) 4)) &&& 1085102592571150095) + (bz_lushr_f (((((x - ((bz_lushr_f x 1) &&& 6148914691236517205)) &&& 3689348814741910323) + ((bz_lushr_f (x - ((bz_lushr_f x 1) &&& 6148914691236517205)) 2) &&& 3689348814741910323)) + (bz_lushr_f (((x - ((bz_lushr_f x 1) &&& 6148914691236517205)) &&& 3689348814741910323) + ((bz_lushr_f (x - ((bz_lushr_f x 1) &&& 6148914691236517205)) 2) &&& 3689348814741910323)) 4)) &&& 1085102592571150095) 8)) 16)) 32))) &&& 127)], σ)) (G := True) rfl trivial ?_
  refine bz_wpr bT_J13_bitCount_95d88 rfl rfl trivial ?_
  have e9 : f_J13_bitCount_95d88 x = ((Int64.toInt32 ((((((((x - ((bz_lushr_f x 1) &&& 6148914691236517205)) &&& 3689348814741910323) + ((bz_lushr_f (x - ((bz_lushr_f x 1) &&& 6148914691236517205)) 2) &&& 3689348814741910323)) + (bz_lushr_f (((x - ((bz_lushr_f x 1) &&& 6148914691236517205)) &&& 3689348814741910323) + ((bz_lushr_f (x - ((bz_lushr_f x 1) &&& 6148914691236517205)) 2) &&& 3689348814741910323)) 4)) &&& 1085102592571150095) + (bz_lushr_f (((((x - ((bz_lushr_f x 1) &&& 6148914691236517205)) &&& 3689348814741910323) + ((bz_lushr_f (x - ((bz_lushr_f x 1) &&& 6148914691236517205)) 2) &&& 3689348814741910323)) + (bz_lushr_f (((x - ((bz_lushr_f x 1) &&& 6148914691236517205)) &&& 3689348814741910323) + ((bz_lushr_f (x - ((bz_lushr_f x 1) &&& 6148914691236517205)) 2) &&& 3689348814741910323)) 4)) &&& 1085102592571150095) 8)) + (bz_lushr_f ((((((x - ((bz_lushr_f x 1) &&& 6148914691236517205)) &&& 3689348814741910323) + ((bz_lushr_f (x - ((bz_lushr_f x 1) &&& 6148914691236517205)) 2) &&& 3689348814741910323)) + (bz_lushr_f (((x - ((bz_lushr_f x 1) &&& 6148914691236517205)) &&& 3689348814741910323) + ((bz_lushr_f (x - ((bz_lushr_f x 1) &&& 6148914691236517205)) 2) &&& 3689348814741910323)) 4)) &&& 1085102592571150095) + (bz_lushr_f (((((x - ((bz_lushr_f x 1) &&& 6148914691236517205)) &&& 3689348814741910323) + ((bz_lushr_f (x - ((bz_lushr_f x 1) &&& 6148914691236517205)) 2) &&& 3689348814741910323)) + (bz_lushr_f (((x - ((bz_lushr_f x 1) &&& 6148914691236517205)) &&& 3689348814741910323) + ((bz_lushr_f (x - ((bz_lushr_f x 1) &&& 6148914691236517205)) 2) &&& 3689348814741910323)) 4)) &&& 1085102592571150095) 8)) 16)) + (bz_lushr_f (((((((x - ((bz_lushr_f x 1) &&& 6148914691236517205)) &&& 3689348814741910323) + ((bz_lushr_f (x - ((bz_lushr_f x 1) &&& 6148914691236517205)) 2) &&& 3689348814741910323)) + (bz_lushr_f (((x - ((bz_lushr_f x 1) &&& 6148914691236517205)) &&& 3689348814741910323) + ((bz_lushr_f (x - ((bz_lushr_f x 1) &&& 6148914691236517205)) 2) &&& 3689348814741910323)) 4)) &&& 1085102592571150095) + (bz_lushr_f (((((x - ((bz_lushr_f x 1) &&& 6148914691236517205)) &&& 3689348814741910323) + ((bz_lushr_f (x - ((bz_lushr_f x 1) &&& 6148914691236517205)) 2) &&& 3689348814741910323)) + (bz_lushr_f (((x - ((bz_lushr_f x 1) &&& 6148914691236517205)) &&& 3689348814741910323) + ((bz_lushr_f (x - ((bz_lushr_f x 1) &&& 6148914691236517205)) 2) &&& 3689348814741910323)) 4)) &&& 1085102592571150095) 8)) + (bz_lushr_f ((((((x - ((bz_lushr_f x 1) &&& 6148914691236517205)) &&& 3689348814741910323) + ((bz_lushr_f (x - ((bz_lushr_f x 1) &&& 6148914691236517205)) 2) &&& 3689348814741910323)) + (bz_lushr_f (((x - ((bz_lushr_f x 1) &&& 6148914691236517205)) &&& 3689348814741910323) + ((bz_lushr_f (x - ((bz_lushr_f x 1) &&& 6148914691236517205)) 2) &&& 3689348814741910323)) 4)) &&& 1085102592571150095) + (bz_lushr_f (((((x - ((bz_lushr_f x 1) &&& 6148914691236517205)) &&& 3689348814741910323) + ((bz_lushr_f (x - ((bz_lushr_f x 1) &&& 6148914691236517205)) 2) &&& 3689348814741910323)) + (bz_lushr_f (((x - ((bz_lushr_f x 1) &&& 6148914691236517205)) &&& 3689348814741910323) + ((bz_lushr_f (x - ((bz_lushr_f x 1) &&& 6148914691236517205)) 2) &&& 3689348814741910323)) 4)) &&& 1085102592571150095) 8)) 16)) 32))) &&& 127) := by rw [f_J13_bitCount_95d88]
  exact ⟨by rw [e9], rfl⟩

def f_X10_alone_0_a (σ : bz_S) (cell : Int32) (way : Int32) (n : Int32) (what : Int32) (τ1 : bz_S) : Int32 × bz_S := if what = 0 then ((f_X7_cellBehind_12 τ1 n), τ1) else (if what = 1 then ((τ1.1 12 1), τ1) else ((f_J13_bitCount_95d88 (τ1.2 12 2)), τ1))
def f_X10_alone_0 (σ : bz_S) (cell : Int32) (way : Int32) (n : Int32) (what : Int32) : Int32 × bz_S := if f_X10_isPlace cell = true then if f_X10_isWithin way 0 7 = true then if f_X10_isWithin n 0 99999 = true then if f_X10_isWithin what 0 2 = true then (f_X10_alone_0_a σ cell way n what (f_X7_walk_12 σ cell way)) else ((-2), σ) else ((-2), σ) else ((-2), σ) else ((-1), σ)
set_option maxRecDepth 100000 in
theorem s_X10_alone_0 {X : bz_X} (σ : bz_S) (cell : Int32) (way : Int32) (n : Int32) (what : Int32) : bz_C bz_P X mX10_alone [.ref 0, .int cell, .int way, .int n, .int what] σ (bz_pi (f_X10_alone_0 σ cell way n what).1 (f_X10_alone_0 σ cell way n what).2) := by
  show bz_wp bz_P X mX10_alone (bz_pi (f_X10_alone_0 σ cell way n what).1 (f_X10_alone_0 σ cell way n what).2) (0, [some (.ref 0), some (.int cell), some (.int way), some (.int n), some (.int what)], [], σ)
  refine bz_wpn bT_X10_alone 1 (b := (1, [some (.ref 0), some (.int cell), some (.int way), some (.int n), some (.int what)], [.int cell], σ)) (G := True) rfl trivial ?_
  refine bz_wci bT_X10_alone [.int cell] (pc' := 4) (rest := []) rfl rfl (Nat.le_of_ble_eq_true rfl) rfl (Nat.le_of_ble_eq_true rfl) rfl (s_X10_isPlace σ cell) rfl ?_
  refine bz_wpb bT_X10_alone 1 (b1 := (9, [some (.ref 0), some (.int cell), some (.int way), some (.int n), some (.int what)], [], σ)) (b2 := (7, [some (.ref 0), some (.int cell), some (.int way), some (.int n), some (.int what)], [], σ)) (C := ¬ bz_b (f_X10_isPlace cell) = 0) (G := True) rfl trivial (fun h1 => ?_) (fun h1 => ?_)
  · skip
    have h1 := bz_b1 h1
    refine bz_wpn bT_X10_alone 3 (b := (13, [some (.ref 0), some (.int cell), some (.int way), some (.int n), some (.int what)], [.int 7, .int 0, .int way], σ)) (G := True) rfl trivial ?_
    refine bz_wci bT_X10_alone [.int way, .int 0, .int 7] (pc' := 16) (rest := []) rfl rfl (Nat.le_of_ble_eq_true rfl) rfl (Nat.le_of_ble_eq_true rfl) rfl (s_X10_isWithin σ way 0 7) rfl ?_
    refine bz_wpb bT_X10_alone 1 (b1 := (39, [some (.ref 0), some (.int cell), some (.int way), some (.int n), some (.int what)], [], σ)) (b2 := (19, [some (.ref 0), some (.int cell), some (.int way), some (.int n), some (.int what)], [], σ)) (C := bz_b (f_X10_isWithin way 0 7) = 0) (G := True) rfl trivial (fun h2 => ?_) (fun h2 => ?_)
    · skip
      have h2 := bz_b0 h2
      refine bz_wpn bT_X10_alone 1 (b := (41, [some (.ref 0), some (.int cell), some (.int way), some (.int n), some (.int what)], [.int (-2)], σ)) (G := True) rfl trivial ?_
      refine bz_wpr bT_X10_alone rfl rfl trivial ?_
      have e9 : f_X10_alone_0 σ cell way n what = ((-2), σ) := by rw [f_X10_alone_0, if_pos (h1), if_neg (bz_ff h2)]
      exact ⟨by rw [e9], by rw [e9]⟩
    · skip
      have h2 := bz_b1 h2
      refine bz_wpn bT_X10_alone 3 (b := (23, [some (.ref 0), some (.int cell), some (.int way), some (.int n), some (.int what)], [.int 99999, .int 0, .int n], σ)) (G := True) rfl trivial ?_
      refine bz_wci bT_X10_alone [.int n, .int 0, .int 99999] (pc' := 26) (rest := []) rfl rfl (Nat.le_of_ble_eq_true rfl) rfl (Nat.le_of_ble_eq_true rfl) rfl (s_X10_isWithin σ n 0 99999) rfl ?_
      refine bz_wpb bT_X10_alone 1 (b1 := (39, [some (.ref 0), some (.int cell), some (.int way), some (.int n), some (.int what)], [], σ)) (b2 := (29, [some (.ref 0), some (.int cell), some (.int way), some (.int n), some (.int what)], [], σ)) (C := bz_b (f_X10_isWithin n 0 99999) = 0) (G := True) rfl trivial (fun h3 => ?_) (fun h3 => ?_)
      · skip
        have h3 := bz_b0 h3
        refine bz_wpn bT_X10_alone 1 (b := (41, [some (.ref 0), some (.int cell), some (.int way), some (.int n), some (.int what)], [.int (-2)], σ)) (G := True) rfl trivial ?_
        refine bz_wpr bT_X10_alone rfl rfl trivial ?_
        have e9 : f_X10_alone_0 σ cell way n what = ((-2), σ) := by rw [f_X10_alone_0, if_pos (h1), if_pos (h2), if_neg (bz_ff h3)]
        exact ⟨by rw [e9], by rw [e9]⟩
      · skip
        have h3 := bz_b1 h3
        refine bz_wpn bT_X10_alone 3 (b := (33, [some (.ref 0), some (.int cell), some (.int way), some (.int n), some (.int what)], [.int 2, .int 0, .int what], σ)) (G := True) rfl trivial ?_
        refine bz_wci bT_X10_alone [.int what, .int 0, .int 2] (pc' := 36) (rest := []) rfl rfl (Nat.le_of_ble_eq_true rfl) rfl (Nat.le_of_ble_eq_true rfl) rfl (s_X10_isWithin σ what 0 2) rfl ?_
        refine bz_wpb bT_X10_alone 1 (b1 := (42, [some (.ref 0), some (.int cell), some (.int way), some (.int n), some (.int what)], [], σ)) (b2 := (39, [some (.ref 0), some (.int cell), some (.int way), some (.int n), some (.int what)], [], σ)) (C := ¬ bz_b (f_X10_isWithin what 0 2) = 0) (G := True) rfl trivial (fun h4 => ?_) (fun h4 => ?_)
        · skip
          have h4 := bz_b1 h4
          refine bz_wpn bT_X10_alone 4 (b := (48, [some (.ref 0), some (.int cell), some (.int way), some (.int n), some (.int what)], [.int way, .int cell, .ref 12], σ)) (G := True) rfl trivial ?_
          refine bz_wcv bT_X10_alone [.ref 12, .int cell, .int way] (pc' := 51) (rest := []) rfl rfl (Nat.le_of_ble_eq_true rfl) rfl (Nat.le_of_ble_eq_true rfl) rfl (s_X7_walk_12 σ cell way) rfl ?_
          generalize hτ1 : f_X7_walk_12 σ cell way = τ1
          refine bz_wpn bT_X10_alone 2 (b := (bz_sw (what).toInt [(0, 80), (1, 89)] 97, [some (.ref 0), some (.int cell), some (.int way), some (.int n), some (.int what)], [], τ1)) (G := True) rfl trivial ?_
          by_cases w5 : what = 0
          · rw [show bz_sw (what).toInt [(0, 80), (1, 89)] 97 = 80 from by rw [w5]; decide]
            refine bz_wpn bT_X10_alone 3 (b := (85, [some (.ref 0), some (.int cell), some (.int way), some (.int n), some (.int what)], [.int n, .ref 12], τ1)) (G := True) rfl trivial ?_
            refine bz_wci bT_X10_alone [.ref 12, .int n] (pc' := 88) (rest := []) rfl rfl (Nat.le_of_ble_eq_true rfl) rfl (Nat.le_of_ble_eq_true rfl) rfl (s_X7_cellBehind_12 τ1 n) rfl ?_
            refine bz_wpr bT_X10_alone rfl rfl trivial ?_
            have e9 : f_X10_alone_0 σ cell way n what = ((f_X7_cellBehind_12 τ1 n), τ1) := by rw [f_X10_alone_0, if_pos (h1), if_pos (h2), if_pos (h3), if_pos (h4), hτ1, f_X10_alone_0_a, if_pos (w5)]
            exact ⟨by rw [e9], by rw [e9]⟩
          by_cases w6 : what = 1
          · rw [show bz_sw (what).toInt [(0, 80), (1, 89)] 97 = 89 from by rw [w6]; decide]
            refine bz_wpn bT_X10_alone 3 (b := (96, [some (.ref 0), some (.int cell), some (.int way), some (.int n), some (.int what)], [.int (τ1.1 12 1)], τ1)) (G := True) rfl trivial ?_
            refine bz_wpr bT_X10_alone rfl rfl trivial ?_
            have e9 : f_X10_alone_0 σ cell way n what = ((τ1.1 12 1), τ1) := by rw [f_X10_alone_0, if_pos (h1), if_pos (h2), if_pos (h3), if_pos (h4), hτ1, f_X10_alone_0_a, if_neg (w5), if_pos (w6)]
            exact ⟨by rw [e9], by rw [e9]⟩
          · rw [show bz_sw (what).toInt [(0, 80), (1, 89)] 97 = 97 from by simp only [bz_mk, bz_sw]; rw [if_neg (lv_neT w5 (by decide)), if_neg (lv_neT w6 (by decide))]]
            refine bz_wpn bT_X10_alone 3 (b := (104, [some (.ref 0), some (.int cell), some (.int way), some (.int n), some (.int what)], [.long (τ1.2 12 2)], τ1)) (G := True) rfl trivial ?_
            refine bz_wci bT_X10_alone [.long (τ1.2 12 2)] (pc' := 107) (rest := []) rfl rfl (Nat.le_of_ble_eq_true rfl) rfl (Nat.le_of_ble_eq_true rfl) rfl (s_J13_bitCount_95d88 τ1 (τ1.2 12 2)) rfl ?_
            refine bz_wpr bT_X10_alone rfl rfl trivial ?_
            have e9 : f_X10_alone_0 σ cell way n what = ((f_J13_bitCount_95d88 (τ1.2 12 2)), τ1) := by rw [f_X10_alone_0, if_pos (h1), if_pos (h2), if_pos (h3), if_pos (h4), hτ1, f_X10_alone_0_a, if_neg (w5), if_neg (w6)]
            exact ⟨by rw [e9], by rw [e9]⟩
        · skip
          have h4 := bz_b0 (Decidable.not_not.mp h4)
          refine bz_wpn bT_X10_alone 1 (b := (41, [some (.ref 0), some (.int cell), some (.int way), some (.int n), some (.int what)], [.int (-2)], σ)) (G := True) rfl trivial ?_
          refine bz_wpr bT_X10_alone rfl rfl trivial ?_
          have e9 : f_X10_alone_0 σ cell way n what = ((-2), σ) := by rw [f_X10_alone_0, if_pos (h1), if_pos (h2), if_pos (h3), if_neg (bz_ff h4)]
          exact ⟨by rw [e9], by rw [e9]⟩
  · skip
    have h1 := bz_b0 (Decidable.not_not.mp h1)
    refine bz_wpn bT_X10_alone 1 (b := (8, [some (.ref 0), some (.int cell), some (.int way), some (.int n), some (.int what)], [.int (-1)], σ)) (G := True) rfl trivial ?_
    refine bz_wpr bT_X10_alone rfl rfl trivial ?_
    have e9 : f_X10_alone_0 σ cell way n what = ((-1), σ) := by rw [f_X10_alone_0, if_neg (bz_ff h1)]
    exact ⟨by rw [e9], by rw [e9]⟩
theorem rf_X10_alone_0_a (σ : bz_S) (cell : Int32) (way : Int32) (n : Int32) (what : Int32) (τ1 : bz_S) (fτ1 : bz_fr [12, 13] σ τ1) : bz_fr [12, 13] σ (f_X10_alone_0_a σ cell way n what τ1).2 := by
  unfold f_X10_alone_0_a
  exact (bz_ite2 fτ1 (bz_ite2 fτ1 fτ1))
theorem rf_X10_alone_0 (σ : bz_S) (cell : Int32) (way : Int32) (n : Int32) (what : Int32) : bz_fr [12, 13] σ (f_X10_alone_0 σ cell way n what).2 := by
  unfold f_X10_alone_0
  exact (bz_ite2 (bz_ite2 (bz_ite2 (bz_ite2 (rf_X10_alone_0_a σ cell way n what (f_X7_walk_12 σ cell way) (bz_fr_mo (rf_X7_walk_12 σ cell way) (by decide))) bz_fr_rf) bz_fr_rf) bz_fr_rf) bz_fr_rf)
