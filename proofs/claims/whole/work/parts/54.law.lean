/-! THE LAW'S WALK in the small machine -/
section LW
variable {T : Nat → Int32} {σ σ' τ τ' : bz_S} {X : bz_X} {i : Int32}
abbrev wk_L (i : Int32) : List (Option Value) := [some (.ref 1003), some (.ref 0), some (.ref 32), some (.int i)]
abbrev wk_a (X : bz_X) (i k : Int32) : Int32 := X.1 (i + k).toNatClampNeg
def wk_R : bz_Q := fun v _ => v = some (.int 1)
theorem iv_m (h : iv_R T σ τ) (f : ∀ o, 32 ≤ o → τ'.1 o = τ.1 o) : iv_R T σ τ' := by
  obtain ⟨q1, q2, q3, q4, q5, q6⟩ := h
  exact ⟨tr_R_c q1 (fun _ _ => rfl) (fun _ _ => rfl) (fun b _ => congrFun (f 33 (by decide)) b) (fun k _ _ => congrFun (f 32 (by decide)) k), pd_R_c q2 rfl rfl (congrFun (f 32 (by decide)) 8) (f 36 (by decide)), sg_R_c q3 rfl rfl rfl (congrFun (f 32 (by decide)) 6) (f 34 (by decide)) (f 35 (by decide)), q4, im_R_c q5 (fun _ _ => rfl) (f 50 (by decide)) (f 51 (by decide)), im_R_c q6 (fun _ _ => rfl) (f 50 (by decide)) (f 51 (by decide))⟩
theorem iv_cl (h : iv_R T σ τ) (f : ∀ o, o < 32 → σ'.1 o = σ.1 o) : iv_R T σ' τ := by
  obtain ⟨q1, q2, q3, q4, q5, q6⟩ := h
  exact ⟨tr_R_c q1 (fun b _ => congrFun (f 2 (by decide)) b) (fun k _ => congrFun (f 1 (by decide)) k) (fun _ _ => rfl) (fun _ _ _ => rfl), pd_R_c q2 (f 6 (by decide)) (f 7 (by decide)) rfl rfl, sg_R_c q3 (f 3 (by decide)) (f 4 (by decide)) (f 5 (by decide)) rfl rfl rfl, hp_R_c q4 (f 17 (by decide)) (f 18 (by decide)), im_R_c q5 (fun q hq => f _ (by omega)) rfl rfl, im_R_c q6 (fun q hq => f _ (by omega)) rfl rfl⟩
theorem iv_m1 {S : List Nat} {τ' : bz_S} (h : iv_R T σ τ) (f : bz_fr S τ τ') (hs : ∀ x ∈ S, x < 32) : iv_R T σ τ' := iv_m h (fun o ho => bz_fr_at f o (fun z => absurd (hs o z) (by omega)))
theorem iv_c1 {S : List Nat} {σ' : bz_S} (h : iv_R T σ τ) (f : bz_fr S σ σ') (hs : ∀ x ∈ S, 32 ≤ x) : iv_R T σ' τ := iv_cl h (fun o ho => bz_fr_at f o (fun z => absurd (hs o z) (by omega)))
set_option maxRecDepth 100000 in
theorem wk_ballA (i : Int32) (σ : bz_S) : bz_run X bt_L_law 11 (140, wk_L i, [], σ) = some (vp_in (i + 1) X.2 ∧ vp_in (i + 2) X.2 ∧ True, (151, wk_L i, [.int (wk_a X i 2), .int (wk_a X i 1), .ref 0], σ)) := rfl
set_option maxRecDepth 100000 in
theorem wk_ballB (i : Int32) (σ : bz_S) (r : Int32) : bz_run X bt_L_law 11 (154, wk_L i, [.int r], σ) = some (vp_in (i + 1) X.2 ∧ vp_in (i + 2) X.2 ∧ True, (165, wk_L i, [.int (wk_a X i 2), .int (wk_a X i 1), .ref 32, .int r], σ)) := rfl
set_option maxRecDepth 100000 in
theorem wk_ball (h : iv_R hp_T σ σ) (h1 : vp_in (i + 1) X.2) (h2 : vp_in (i + 2) X.2) (kk : ∀ σ9, iv_R hp_T σ9 σ9 → bz_wp bz_P X mL_law wk_R (832, wk_L i, [], σ9)) : bz_wp bz_P X mL_law wk_R (140, wk_L i, [], σ) := by
  have hA : iv_R hp_T σ (f_X10_ball_0 σ (wk_a X i 1) (wk_a X i 2)).2 := iv_m1 h (rf_X10_ball_0 σ (wk_a X i 1) (wk_a X i 2)) (by decide)
  obtain ⟨e, hB⟩ := e_ball hA (wk_a X i 1) (wk_a X i 2)
  refine bz_wpn bT_L_law 11 (wk_ballA i σ) ⟨h1, h2, trivial⟩ ?_
  refine bz_wci bT_L_law [.ref 0, .int (wk_a X i 1), .int (wk_a X i 2)] (r := (f_X10_ball_0 σ (wk_a X i 1) (wk_a X i 2)).1) (σ1 := (f_X10_ball_0 σ (wk_a X i 1) (wk_a X i 2)).2) (pc' := 154) (rest := []) rfl rfl (Nat.le_of_ble_eq_true rfl) rfl (Nat.le_of_ble_eq_true rfl) rfl (s_X10_ball_0 σ (wk_a X i 1) (wk_a X i 2)) rfl ?_
  have hC := iv_c1 hB (rf_X11_ball_32 (f_X10_ball_0 σ (wk_a X i 1) (wk_a X i 2)).2 (wk_a X i 1) (wk_a X i 2)) (by decide)
  generalize (f_X10_ball_0 σ (wk_a X i 1) (wk_a X i 2)).2 = σ1 at *
  generalize (f_X10_ball_0 σ (wk_a X i 1) (wk_a X i 2)).1 = r at *
  refine bz_wpn bT_L_law 11 (wk_ballB i σ1 r) ⟨h1, h2, trivial⟩ ?_
  refine bz_wci bT_L_law [.ref 32, .int (wk_a X i 1), .int (wk_a X i 2)] (r := (f_X11_ball_32 σ1 (wk_a X i 1) (wk_a X i 2)).1) (σ1 := (f_X11_ball_32 σ1 (wk_a X i 1) (wk_a X i 2)).2) (pc' := 168) (rest := [.int r]) rfl rfl (Nat.le_of_ble_eq_true rfl) rfl (Nat.le_of_ble_eq_true rfl) rfl (s_X11_ball_32 σ1 (wk_a X i 1) (wk_a X i 2)) rfl ?_
  rw [e]
  generalize (f_X11_ball_32 σ1 (wk_a X i 1) (wk_a X i 2)).2 = σ2 at *
  refine bz_wpb bT_L_law 1 (b1 := (832, wk_L i, [], σ2)) (b2 := (171, wk_L i, [], σ2)) (C := r = r) (G := True) rfl trivial (fun _ => kk _ hC) (fun z => absurd rfl z)
set_option maxRecDepth 100000 in
theorem wk_scoreA (i : Int32) (σ : bz_S) : bz_run X bt_L_law 11 (173, wk_L i, [], σ) = some (vp_in (i + 1) X.2 ∧ vp_in (i + 2) X.2 ∧ True, (184, wk_L i, [.int (wk_a X i 2), .int (wk_a X i 1), .ref 0], σ)) := rfl
set_option maxRecDepth 100000 in
theorem wk_scoreB (i : Int32) (σ : bz_S) (r : Int32) : bz_run X bt_L_law 11 (187, wk_L i, [.int r], σ) = some (vp_in (i + 1) X.2 ∧ vp_in (i + 2) X.2 ∧ True, (198, wk_L i, [.int (wk_a X i 2), .int (wk_a X i 1), .ref 32, .int r], σ)) := rfl
set_option maxRecDepth 100000 in
theorem wk_score (h : iv_R hp_T σ σ) (h1 : vp_in (i + 1) X.2) (h2 : vp_in (i + 2) X.2) (kk : ∀ σ9, iv_R hp_T σ9 σ9 → bz_wp bz_P X mL_law wk_R (832, wk_L i, [], σ9)) : bz_wp bz_P X mL_law wk_R (173, wk_L i, [], σ) := by
  have hA : iv_R hp_T σ (f_X10_score_0 σ (wk_a X i 1) (wk_a X i 2)).2 := iv_m1 h (rf_X10_score_0 σ (wk_a X i 1) (wk_a X i 2)) (by decide)
  obtain ⟨e, hB⟩ := e_score hA (wk_a X i 1) (wk_a X i 2)
  refine bz_wpn bT_L_law 11 (wk_scoreA i σ) ⟨h1, h2, trivial⟩ ?_
  refine bz_wci bT_L_law [.ref 0, .int (wk_a X i 1), .int (wk_a X i 2)] (r := (f_X10_score_0 σ (wk_a X i 1) (wk_a X i 2)).1) (σ1 := (f_X10_score_0 σ (wk_a X i 1) (wk_a X i 2)).2) (pc' := 187) (rest := []) rfl rfl (Nat.le_of_ble_eq_true rfl) rfl (Nat.le_of_ble_eq_true rfl) rfl (s_X10_score_0 σ (wk_a X i 1) (wk_a X i 2)) rfl ?_
  have hC := iv_c1 hB (rf_X11_score_32 (f_X10_score_0 σ (wk_a X i 1) (wk_a X i 2)).2 (wk_a X i 1) (wk_a X i 2)) (by decide)
  generalize (f_X10_score_0 σ (wk_a X i 1) (wk_a X i 2)).2 = σ1 at *
  generalize (f_X10_score_0 σ (wk_a X i 1) (wk_a X i 2)).1 = r at *
  refine bz_wpn bT_L_law 11 (wk_scoreB i σ1 r) ⟨h1, h2, trivial⟩ ?_
  refine bz_wci bT_L_law [.ref 32, .int (wk_a X i 1), .int (wk_a X i 2)] (r := (f_X11_score_32 σ1 (wk_a X i 1) (wk_a X i 2)).1) (σ1 := (f_X11_score_32 σ1 (wk_a X i 1) (wk_a X i 2)).2) (pc' := 201) (rest := [.int r]) rfl rfl (Nat.le_of_ble_eq_true rfl) rfl (Nat.le_of_ble_eq_true rfl) rfl (s_X11_score_32 σ1 (wk_a X i 1) (wk_a X i 2)) rfl ?_
  rw [e]
  generalize (f_X11_score_32 σ1 (wk_a X i 1) (wk_a X i 2)).2 = σ2 at *
  refine bz_wpb bT_L_law 1 (b1 := (832, wk_L i, [], σ2)) (b2 := (204, wk_L i, [], σ2)) (C := r = r) (G := True) rfl trivial (fun _ => kk _ hC) (fun z => absurd rfl z)
set_option maxRecDepth 100000 in
theorem wk_sayA (i : Int32) (σ : bz_S) : bz_run X bt_L_law 6 (206, wk_L i, [], σ) = some (vp_in (i + 1) X.2 ∧ True, (212, wk_L i, [.int (wk_a X i 1), .ref 0], σ)) := rfl
set_option maxRecDepth 100000 in
theorem wk_sayB (i : Int32) (σ : bz_S) (r : Int32) : bz_run X bt_L_law 6 (215, wk_L i, [.int r], σ) = some (vp_in (i + 1) X.2 ∧ True, (221, wk_L i, [.int (wk_a X i 1), .ref 32, .int r], σ)) := rfl
set_option maxRecDepth 100000 in
theorem wk_say (h : iv_R hp_T σ σ) (h1 : vp_in (i + 1) X.2) (kk : ∀ σ9, iv_R hp_T σ9 σ9 → bz_wp bz_P X mL_law wk_R (832, wk_L i, [], σ9)) : bz_wp bz_P X mL_law wk_R (206, wk_L i, [], σ) := by
  have hA : iv_R hp_T σ (f_X10_say_0 σ (wk_a X i 1)).2 := iv_m1 h (rf_X10_say_0 σ (wk_a X i 1)) (by decide)
  obtain ⟨e, hB⟩ := e_say hA (wk_a X i 1)
  refine bz_wpn bT_L_law 6 (wk_sayA i σ) ⟨h1, trivial⟩ ?_
  refine bz_wci bT_L_law [.ref 0, .int (wk_a X i 1)] (r := (f_X10_say_0 σ (wk_a X i 1)).1) (σ1 := (f_X10_say_0 σ (wk_a X i 1)).2) (pc' := 215) (rest := []) rfl rfl (Nat.le_of_ble_eq_true rfl) rfl (Nat.le_of_ble_eq_true rfl) rfl (s_X10_say_0 σ (wk_a X i 1) (iv_pad h).1) rfl ?_
  have hC := iv_c1 hB (rf_X11_say_32 (f_X10_say_0 σ (wk_a X i 1)).2 (wk_a X i 1)) (by decide)
  generalize (f_X10_say_0 σ (wk_a X i 1)).2 = σ1 at *
  generalize (f_X10_say_0 σ (wk_a X i 1)).1 = r at *
  refine bz_wpn bT_L_law 6 (wk_sayB i σ1 r) ⟨h1, trivial⟩ ?_
  refine bz_wci bT_L_law [.ref 32, .int (wk_a X i 1)] (r := (f_X11_say_32 σ1 (wk_a X i 1)).1) (σ1 := (f_X11_say_32 σ1 (wk_a X i 1)).2) (pc' := 224) (rest := [.int r]) rfl rfl (Nat.le_of_ble_eq_true rfl) rfl (Nat.le_of_ble_eq_true rfl) rfl (s_X11_say_32 σ1 (wk_a X i 1) (iv_pad hA).2) rfl ?_
  rw [e]
  generalize (f_X11_say_32 σ1 (wk_a X i 1)).2 = σ2 at *
  refine bz_wpb bT_L_law 1 (b1 := (832, wk_L i, [], σ2)) (b2 := (227, wk_L i, [], σ2)) (C := r = r) (G := True) rfl trivial (fun _ => kk _ hC) (fun z => absurd rfl z)
set_option maxRecDepth 100000 in
theorem wk_wipeA (i : Int32) (σ : bz_S) : bz_run X bt_L_law 1 (229, wk_L i, [], σ) = some (True, (230, wk_L i, [.ref 0], σ)) := rfl
set_option maxRecDepth 100000 in
theorem wk_wipeB (i : Int32) (σ : bz_S) (r : Int32) : bz_run X bt_L_law 1 (233, wk_L i, [.int r], σ) = some (True, (234, wk_L i, [.ref 32, .int r], σ)) := rfl
set_option maxRecDepth 100000 in
theorem wk_wipe (h : iv_R hp_T σ σ)  (kk : ∀ σ9, iv_R hp_T σ9 σ9 → bz_wp bz_P X mL_law wk_R (832, wk_L i, [], σ9)) : bz_wp bz_P X mL_law wk_R (229, wk_L i, [], σ) := by
  have hA : iv_R hp_T σ (f_X10_wipe_0 σ).2 := iv_m1 h (rf_X10_wipe_0 σ) (by decide)
  obtain ⟨e, hB⟩ := e_wipe hA
  refine bz_wpn bT_L_law 1 (wk_wipeA i σ) trivial ?_
  refine bz_wci bT_L_law [.ref 0] (r := (f_X10_wipe_0 σ).1) (σ1 := (f_X10_wipe_0 σ).2) (pc' := 233) (rest := []) rfl rfl (Nat.le_of_ble_eq_true rfl) rfl (Nat.le_of_ble_eq_true rfl) rfl (s_X10_wipe_0 σ) rfl ?_
  have hC := iv_c1 hB (rf_X11_wipe_32 (f_X10_wipe_0 σ).2) (by decide)
  generalize (f_X10_wipe_0 σ).2 = σ1 at *
  generalize (f_X10_wipe_0 σ).1 = r at *
  refine bz_wpn bT_L_law 1 (wk_wipeB i σ1 r) trivial ?_
  refine bz_wci bT_L_law [.ref 32] (r := (f_X11_wipe_32 σ1).1) (σ1 := (f_X11_wipe_32 σ1).2) (pc' := 237) (rest := [.int r]) rfl rfl (Nat.le_of_ble_eq_true rfl) rfl (Nat.le_of_ble_eq_true rfl) rfl (s_X11_wipe_32 σ1) rfl ?_
  rw [e]
  generalize (f_X11_wipe_32 σ1).2 = σ2 at *
  refine bz_wpb bT_L_law 1 (b1 := (832, wk_L i, [], σ2)) (b2 := (240, wk_L i, [], σ2)) (C := r = r) (G := True) rfl trivial (fun _ => kk _ hC) (fun z => absurd rfl z)
set_option maxRecDepth 100000 in
theorem wk_faultA (i : Int32) (σ : bz_S) : bz_run X bt_L_law 1 (242, wk_L i, [], σ) = some (True, (243, wk_L i, [.ref 0], σ)) := rfl
set_option maxRecDepth 100000 in
theorem wk_faultB (i : Int32) (σ : bz_S) (r : Int32) : bz_run X bt_L_law 1 (246, wk_L i, [.int r], σ) = some (True, (247, wk_L i, [.ref 32, .int r], σ)) := rfl
set_option maxRecDepth 100000 in
theorem wk_fault (h : iv_R hp_T σ σ)  (kk : ∀ σ9, iv_R hp_T σ9 σ9 → bz_wp bz_P X mL_law wk_R (832, wk_L i, [], σ9)) : bz_wp bz_P X mL_law wk_R (242, wk_L i, [], σ) := by
  have e := (e_fault h).1
  have hB := e_faultI h
  refine bz_wpn bT_L_law 1 (wk_faultA i σ) trivial ?_
  refine bz_wci bT_L_law [.ref 0] (r := (f_X10_fault_0 σ)) (σ1 := σ) (pc' := 246) (rest := []) rfl rfl (Nat.le_of_ble_eq_true rfl) rfl (Nat.le_of_ble_eq_true rfl) rfl (s_X10_fault_0 σ (iv_pad h).1) rfl ?_
  have hC := iv_c1 hB (rf_X11_fault_32 σ) (by decide)
  generalize (f_X10_fault_0 σ) = r at *
  refine bz_wpn bT_L_law 1 (wk_faultB i σ r) trivial ?_
  refine bz_wci bT_L_law [.ref 32] (r := (f_X11_fault_32 σ).1) (σ1 := (f_X11_fault_32 σ).2) (pc' := 250) (rest := [.int r]) rfl rfl (Nat.le_of_ble_eq_true rfl) rfl (Nat.le_of_ble_eq_true rfl) rfl (s_X11_fault_32 σ (iv_pad h).2) rfl ?_
  rw [e]
  generalize (f_X11_fault_32 σ).2 = σ2 at *
  refine bz_wpb bT_L_law 1 (b1 := (832, wk_L i, [], σ2)) (b2 := (253, wk_L i, [], σ2)) (C := r = r) (G := True) rfl trivial (fun _ => kk _ hC) (fun z => absurd rfl z)
set_option maxRecDepth 100000 in
theorem wk_judgeA (i : Int32) (σ : bz_S) : bz_run X bt_L_law 6 (255, wk_L i, [], σ) = some (vp_in (i + 1) X.2 ∧ True, (261, wk_L i, [.int (wk_a X i 1), .ref 0], σ)) := rfl
set_option maxRecDepth 100000 in
theorem wk_judgeB (i : Int32) (σ : bz_S) (r : Int32) : bz_run X bt_L_law 6 (264, wk_L i, [.int r], σ) = some (vp_in (i + 1) X.2 ∧ True, (270, wk_L i, [.int (wk_a X i 1), .ref 32, .int r], σ)) := rfl
set_option maxRecDepth 100000 in
theorem wk_judge (h : iv_R hp_T σ σ) (h1 : vp_in (i + 1) X.2) (kk : ∀ σ9, iv_R hp_T σ9 σ9 → bz_wp bz_P X mL_law wk_R (832, wk_L i, [], σ9)) : bz_wp bz_P X mL_law wk_R (255, wk_L i, [], σ) := by
  have hA : iv_R hp_T σ (f_X10_judge_0 σ (wk_a X i 1)).2 := iv_m1 h (rf_X10_judge_0 σ (wk_a X i 1)) (by decide)
  obtain ⟨e, hB⟩ := e_judge hA (wk_a X i 1)
  refine bz_wpn bT_L_law 6 (wk_judgeA i σ) ⟨h1, trivial⟩ ?_
  refine bz_wci bT_L_law [.ref 0, .int (wk_a X i 1)] (r := (f_X10_judge_0 σ (wk_a X i 1)).1) (σ1 := (f_X10_judge_0 σ (wk_a X i 1)).2) (pc' := 264) (rest := []) rfl rfl (Nat.le_of_ble_eq_true rfl) rfl (Nat.le_of_ble_eq_true rfl) rfl (s_X10_judge_0 σ (wk_a X i 1) (iv_pad h).1) rfl ?_
  have hC := iv_c1 hB (rf_X11_judge_32 (f_X10_judge_0 σ (wk_a X i 1)).2 (wk_a X i 1)) (by decide)
  generalize (f_X10_judge_0 σ (wk_a X i 1)).2 = σ1 at *
  generalize (f_X10_judge_0 σ (wk_a X i 1)).1 = r at *
  refine bz_wpn bT_L_law 6 (wk_judgeB i σ1 r) ⟨h1, trivial⟩ ?_
  refine bz_wci bT_L_law [.ref 32, .int (wk_a X i 1)] (r := (f_X11_judge_32 σ1 (wk_a X i 1)).1) (σ1 := (f_X11_judge_32 σ1 (wk_a X i 1)).2) (pc' := 273) (rest := [.int r]) rfl rfl (Nat.le_of_ble_eq_true rfl) rfl (Nat.le_of_ble_eq_true rfl) rfl (s_X11_judge_32 σ1 (wk_a X i 1) (iv_pad hA).2) rfl ?_
  rw [e]
  generalize (f_X11_judge_32 σ1 (wk_a X i 1)).2 = σ2 at *
  refine bz_wpb bT_L_law 1 (b1 := (832, wk_L i, [], σ2)) (b2 := (276, wk_L i, [], σ2)) (C := r = r) (G := True) rfl trivial (fun _ => kk _ hC) (fun z => absurd rfl z)
set_option maxRecDepth 100000 in
theorem wk_behindA (i : Int32) (σ : bz_S) : bz_run X bt_L_law 6 (278, wk_L i, [], σ) = some (vp_in (i + 1) X.2 ∧ True, (284, wk_L i, [.int (wk_a X i 1), .ref 0], σ)) := rfl
set_option maxRecDepth 100000 in
theorem wk_behindB (i : Int32) (σ : bz_S) (r : Int32) : bz_run X bt_L_law 6 (287, wk_L i, [.int r], σ) = some (vp_in (i + 1) X.2 ∧ True, (293, wk_L i, [.int (wk_a X i 1), .ref 32, .int r], σ)) := rfl
set_option maxRecDepth 100000 in
theorem wk_behind (h : iv_R hp_T σ σ) (h1 : vp_in (i + 1) X.2) (kk : ∀ σ9, iv_R hp_T σ9 σ9 → bz_wp bz_P X mL_law wk_R (832, wk_L i, [], σ9)) : bz_wp bz_P X mL_law wk_R (278, wk_L i, [], σ) := by
  have hA : iv_R hp_T σ (f_X10_behind_0 σ (wk_a X i 1)).2 := iv_m1 h (rf_X10_behind_0 σ (wk_a X i 1)) (by decide)
  obtain ⟨e, hB⟩ := e_behind hA (wk_a X i 1)
  refine bz_wpn bT_L_law 6 (wk_behindA i σ) ⟨h1, trivial⟩ ?_
  refine bz_wci bT_L_law [.ref 0, .int (wk_a X i 1)] (r := (f_X10_behind_0 σ (wk_a X i 1)).1) (σ1 := (f_X10_behind_0 σ (wk_a X i 1)).2) (pc' := 287) (rest := []) rfl rfl (Nat.le_of_ble_eq_true rfl) rfl (Nat.le_of_ble_eq_true rfl) rfl (s_X10_behind_0 σ (wk_a X i 1) (iv_pad h).1) rfl ?_
  have hC := iv_c1 hB (rf_X11_behind_32 (f_X10_behind_0 σ (wk_a X i 1)).2 (wk_a X i 1)) (by decide)
  generalize (f_X10_behind_0 σ (wk_a X i 1)).2 = σ1 at *
  generalize (f_X10_behind_0 σ (wk_a X i 1)).1 = r at *
  refine bz_wpn bT_L_law 6 (wk_behindB i σ1 r) ⟨h1, trivial⟩ ?_
  refine bz_wci bT_L_law [.ref 32, .int (wk_a X i 1)] (r := (f_X11_behind_32 σ1 (wk_a X i 1)).1) (σ1 := (f_X11_behind_32 σ1 (wk_a X i 1)).2) (pc' := 296) (rest := [.int r]) rfl rfl (Nat.le_of_ble_eq_true rfl) rfl (Nat.le_of_ble_eq_true rfl) rfl (s_X11_behind_32 σ1 (wk_a X i 1) (iv_pad hA).2) rfl ?_
  rw [e]
  generalize (f_X11_behind_32 σ1 (wk_a X i 1)).2 = σ2 at *
  refine bz_wpb bT_L_law 1 (b1 := (832, wk_L i, [], σ2)) (b2 := (299, wk_L i, [], σ2)) (C := r = r) (G := True) rfl trivial (fun _ => kk _ hC) (fun z => absurd rfl z)
set_option maxRecDepth 100000 in
theorem wk_tableA (i : Int32) (σ : bz_S) : bz_run X bt_L_law 6 (301, wk_L i, [], σ) = some (vp_in (i + 1) X.2 ∧ True, (307, wk_L i, [.int (wk_a X i 1), .ref 0], σ)) := rfl
set_option maxRecDepth 100000 in
theorem wk_tableB (i : Int32) (σ : bz_S) (r : Int32) : bz_run X bt_L_law 6 (310, wk_L i, [.int r], σ) = some (vp_in (i + 1) X.2 ∧ True, (316, wk_L i, [.int (wk_a X i 1), .ref 32, .int r], σ)) := rfl
set_option maxRecDepth 100000 in
theorem wk_table (h : iv_R hp_T σ σ) (h1 : vp_in (i + 1) X.2) (kk : ∀ σ9, iv_R hp_T σ9 σ9 → bz_wp bz_P X mL_law wk_R (832, wk_L i, [], σ9)) : bz_wp bz_P X mL_law wk_R (301, wk_L i, [], σ) := by
  have hA : iv_R hp_T σ (f_X10_table_0 σ (wk_a X i 1)).2 := iv_m1 h (rf_X10_table_0 σ (wk_a X i 1)) (by decide)
  obtain ⟨e, hB⟩ := e_table hA (wk_a X i 1)
  refine bz_wpn bT_L_law 6 (wk_tableA i σ) ⟨h1, trivial⟩ ?_
  refine bz_wci bT_L_law [.ref 0, .int (wk_a X i 1)] (r := (f_X10_table_0 σ (wk_a X i 1)).1) (σ1 := (f_X10_table_0 σ (wk_a X i 1)).2) (pc' := 310) (rest := []) rfl rfl (Nat.le_of_ble_eq_true rfl) rfl (Nat.le_of_ble_eq_true rfl) rfl (s_X10_table_0 σ (wk_a X i 1) (iv_pad h).1) rfl ?_
  have hC := iv_c1 hB (rf_X11_table_32 (f_X10_table_0 σ (wk_a X i 1)).2 (wk_a X i 1)) (by decide)
  generalize (f_X10_table_0 σ (wk_a X i 1)).2 = σ1 at *
  generalize (f_X10_table_0 σ (wk_a X i 1)).1 = r at *
  refine bz_wpn bT_L_law 6 (wk_tableB i σ1 r) ⟨h1, trivial⟩ ?_
  refine bz_wci bT_L_law [.ref 32, .int (wk_a X i 1)] (r := (f_X11_table_32 σ1 (wk_a X i 1)).1) (σ1 := (f_X11_table_32 σ1 (wk_a X i 1)).2) (pc' := 319) (rest := [.int r]) rfl rfl (Nat.le_of_ble_eq_true rfl) rfl (Nat.le_of_ble_eq_true rfl) rfl (s_X11_table_32 σ1 (wk_a X i 1) (iv_pad hA).2) rfl ?_
  rw [e]
  generalize (f_X11_table_32 σ1 (wk_a X i 1)).2 = σ2 at *
  refine bz_wpb bT_L_law 1 (b1 := (832, wk_L i, [], σ2)) (b2 := (322, wk_L i, [], σ2)) (C := r = r) (G := True) rfl trivial (fun _ => kk _ hC) (fun z => absurd rfl z)
set_option maxRecDepth 100000 in
theorem wk_candourA (i : Int32) (σ : bz_S) : bz_run X bt_L_law 6 (324, wk_L i, [], σ) = some (vp_in (i + 1) X.2 ∧ True, (330, wk_L i, [.int (wk_a X i 1), .ref 0], σ)) := rfl
set_option maxRecDepth 100000 in
theorem wk_candourB (i : Int32) (σ : bz_S) (r : Int32) : bz_run X bt_L_law 6 (333, wk_L i, [.int r], σ) = some (vp_in (i + 1) X.2 ∧ True, (339, wk_L i, [.int (wk_a X i 1), .ref 32, .int r], σ)) := rfl
set_option maxRecDepth 100000 in
theorem wk_candour (h : iv_R hp_T σ σ) (h1 : vp_in (i + 1) X.2) (kk : ∀ σ9, iv_R hp_T σ9 σ9 → bz_wp bz_P X mL_law wk_R (832, wk_L i, [], σ9)) : bz_wp bz_P X mL_law wk_R (324, wk_L i, [], σ) := by
  have hA : iv_R hp_T σ (f_X10_candour_0 σ (wk_a X i 1)).2 := iv_m1 h (rf_X10_candour_0 σ (wk_a X i 1)) (by decide)
  obtain ⟨e, hB⟩ := e_candour hA (wk_a X i 1)
  refine bz_wpn bT_L_law 6 (wk_candourA i σ) ⟨h1, trivial⟩ ?_
  refine bz_wci bT_L_law [.ref 0, .int (wk_a X i 1)] (r := (f_X10_candour_0 σ (wk_a X i 1)).1) (σ1 := (f_X10_candour_0 σ (wk_a X i 1)).2) (pc' := 333) (rest := []) rfl rfl (Nat.le_of_ble_eq_true rfl) rfl (Nat.le_of_ble_eq_true rfl) rfl (s_X10_candour_0 σ (wk_a X i 1) (iv_pad h).1) rfl ?_
  have hC := iv_c1 hB (rf_X11_candour_32 (f_X10_candour_0 σ (wk_a X i 1)).2 (wk_a X i 1)) (by decide)
  generalize (f_X10_candour_0 σ (wk_a X i 1)).2 = σ1 at *
  generalize (f_X10_candour_0 σ (wk_a X i 1)).1 = r at *
  refine bz_wpn bT_L_law 6 (wk_candourB i σ1 r) ⟨h1, trivial⟩ ?_
  refine bz_wci bT_L_law [.ref 32, .int (wk_a X i 1)] (r := (f_X11_candour_32 σ1 (wk_a X i 1)).1) (σ1 := (f_X11_candour_32 σ1 (wk_a X i 1)).2) (pc' := 342) (rest := [.int r]) rfl rfl (Nat.le_of_ble_eq_true rfl) rfl (Nat.le_of_ble_eq_true rfl) rfl (s_X11_candour_32 σ1 (wk_a X i 1) (iv_pad hA).2) rfl ?_
  rw [e]
  generalize (f_X11_candour_32 σ1 (wk_a X i 1)).2 = σ2 at *
  refine bz_wpb bT_L_law 1 (b1 := (832, wk_L i, [], σ2)) (b2 := (345, wk_L i, [], σ2)) (C := r = r) (G := True) rfl trivial (fun _ => kk _ hC) (fun z => absurd rfl z)
set_option maxRecDepth 100000 in
theorem wk_doneA (i : Int32) (σ : bz_S) : bz_run X bt_L_law 1 (347, wk_L i, [], σ) = some (True, (348, wk_L i, [.ref 0], σ)) := rfl
set_option maxRecDepth 100000 in
theorem wk_doneB (i : Int32) (σ : bz_S) (r : Int32) : bz_run X bt_L_law 1 (351, wk_L i, [.int r], σ) = some (True, (352, wk_L i, [.ref 32, .int r], σ)) := rfl
set_option maxRecDepth 100000 in
theorem wk_done (h : iv_R hp_T σ σ)  (kk : ∀ σ9, iv_R hp_T σ9 σ9 → bz_wp bz_P X mL_law wk_R (832, wk_L i, [], σ9)) : bz_wp bz_P X mL_law wk_R (347, wk_L i, [], σ) := by
  have hA : iv_R hp_T σ (f_X10_done_0 σ).2 := iv_m1 h (rf_X10_done_0 σ) (by decide)
  obtain ⟨e, hB⟩ := e_done hA
  refine bz_wpn bT_L_law 1 (wk_doneA i σ) trivial ?_
  refine bz_wci bT_L_law [.ref 0] (r := (f_X10_done_0 σ).1) (σ1 := (f_X10_done_0 σ).2) (pc' := 351) (rest := []) rfl rfl (Nat.le_of_ble_eq_true rfl) rfl (Nat.le_of_ble_eq_true rfl) rfl (s_X10_done_0 σ (iv_pad h).1) rfl ?_
  have hC := iv_c1 hB (rf_X11_done_32 (f_X10_done_0 σ).2) (by decide)
  generalize (f_X10_done_0 σ).2 = σ1 at *
  generalize (f_X10_done_0 σ).1 = r at *
  refine bz_wpn bT_L_law 1 (wk_doneB i σ1 r) trivial ?_
  refine bz_wci bT_L_law [.ref 32] (r := (f_X11_done_32 σ1).1) (σ1 := (f_X11_done_32 σ1).2) (pc' := 355) (rest := [.int r]) rfl rfl (Nat.le_of_ble_eq_true rfl) rfl (Nat.le_of_ble_eq_true rfl) rfl (s_X11_done_32 σ1 (iv_pad hA).2) rfl ?_
  rw [e]
  generalize (f_X11_done_32 σ1).2 = σ2 at *
  refine bz_wpb bT_L_law 1 (b1 := (832, wk_L i, [], σ2)) (b2 := (358, wk_L i, [], σ2)) (C := r = r) (G := True) rfl trivial (fun _ => kk _ hC) (fun z => absurd rfl z)
set_option maxRecDepth 100000 in
theorem wk_hintA (i : Int32) (σ : bz_S) : bz_run X bt_L_law 21 (360, wk_L i, [], σ) = some (vp_in (i + 1) X.2 ∧ vp_in (i + 2) X.2 ∧ vp_in (i + 3) X.2 ∧ vp_in (i + 4) X.2 ∧ True, (381, wk_L i, [.int (wk_a X i 4), .int (wk_a X i 3), .int (wk_a X i 2), .int (wk_a X i 1), .ref 0], σ)) := rfl
set_option maxRecDepth 100000 in
theorem wk_hintB (i : Int32) (σ : bz_S) (r : Int32) : bz_run X bt_L_law 21 (384, wk_L i, [.int r], σ) = some (vp_in (i + 1) X.2 ∧ vp_in (i + 2) X.2 ∧ vp_in (i + 3) X.2 ∧ vp_in (i + 4) X.2 ∧ True, (405, wk_L i, [.int (wk_a X i 4), .int (wk_a X i 3), .int (wk_a X i 2), .int (wk_a X i 1), .ref 32, .int r], σ)) := rfl
set_option maxRecDepth 100000 in
theorem wk_hint (h : iv_R hp_T σ σ) (h1 : vp_in (i + 1) X.2) (h2 : vp_in (i + 2) X.2) (h3 : vp_in (i + 3) X.2) (h4 : vp_in (i + 4) X.2) (kk : ∀ σ9, iv_R hp_T σ9 σ9 → bz_wp bz_P X mL_law wk_R (832, wk_L i, [], σ9)) : bz_wp bz_P X mL_law wk_R (360, wk_L i, [], σ) := by
  have hA : iv_R hp_T σ (f_X10_hint_0 σ (wk_a X i 1) (wk_a X i 2) (wk_a X i 3) (wk_a X i 4)).2 := iv_m1 h (rf_X10_hint_0 σ (wk_a X i 1) (wk_a X i 2) (wk_a X i 3) (wk_a X i 4)) (by decide)
  obtain ⟨e, hB⟩ := e_hint hA (wk_a X i 1) (wk_a X i 2) (wk_a X i 3) (wk_a X i 4)
  refine bz_wpn bT_L_law 21 (wk_hintA i σ) ⟨h1, h2, h3, h4, trivial⟩ ?_
  refine bz_wci bT_L_law [.ref 0, .int (wk_a X i 1), .int (wk_a X i 2), .int (wk_a X i 3), .int (wk_a X i 4)] (r := (f_X10_hint_0 σ (wk_a X i 1) (wk_a X i 2) (wk_a X i 3) (wk_a X i 4)).1) (σ1 := (f_X10_hint_0 σ (wk_a X i 1) (wk_a X i 2) (wk_a X i 3) (wk_a X i 4)).2) (pc' := 384) (rest := []) rfl rfl (Nat.le_of_ble_eq_true rfl) rfl (Nat.le_of_ble_eq_true rfl) rfl (s_X10_hint_0 σ (wk_a X i 1) (wk_a X i 2) (wk_a X i 3) (wk_a X i 4)) rfl ?_
  have hC := iv_c1 hB (rf_X11_hint_32 (f_X10_hint_0 σ (wk_a X i 1) (wk_a X i 2) (wk_a X i 3) (wk_a X i 4)).2 (wk_a X i 1) (wk_a X i 2) (wk_a X i 3) (wk_a X i 4)) (by decide)
  generalize (f_X10_hint_0 σ (wk_a X i 1) (wk_a X i 2) (wk_a X i 3) (wk_a X i 4)).2 = σ1 at *
  generalize (f_X10_hint_0 σ (wk_a X i 1) (wk_a X i 2) (wk_a X i 3) (wk_a X i 4)).1 = r at *
  refine bz_wpn bT_L_law 21 (wk_hintB i σ1 r) ⟨h1, h2, h3, h4, trivial⟩ ?_
  refine bz_wci bT_L_law [.ref 32, .int (wk_a X i 1), .int (wk_a X i 2), .int (wk_a X i 3), .int (wk_a X i 4)] (r := (f_X11_hint_32 σ1 (wk_a X i 1) (wk_a X i 2) (wk_a X i 3) (wk_a X i 4)).1) (σ1 := (f_X11_hint_32 σ1 (wk_a X i 1) (wk_a X i 2) (wk_a X i 3) (wk_a X i 4)).2) (pc' := 408) (rest := [.int r]) rfl rfl (Nat.le_of_ble_eq_true rfl) rfl (Nat.le_of_ble_eq_true rfl) rfl (s_X11_hint_32 σ1 (wk_a X i 1) (wk_a X i 2) (wk_a X i 3) (wk_a X i 4)) rfl ?_
  rw [e]
  generalize (f_X11_hint_32 σ1 (wk_a X i 1) (wk_a X i 2) (wk_a X i 3) (wk_a X i 4)).2 = σ2 at *
  refine bz_wpb bT_L_law 1 (b1 := (832, wk_L i, [], σ2)) (b2 := (411, wk_L i, [], σ2)) (C := r = r) (G := True) rfl trivial (fun _ => kk _ hC) (fun z => absurd rfl z)
set_option maxRecDepth 100000 in
theorem wk_aloneA (i : Int32) (σ : bz_S) : bz_run X bt_L_law 21 (413, wk_L i, [], σ) = some (vp_in (i + 1) X.2 ∧ vp_in (i + 2) X.2 ∧ vp_in (i + 3) X.2 ∧ vp_in (i + 4) X.2 ∧ True, (434, wk_L i, [.int (wk_a X i 4), .int (wk_a X i 3), .int (wk_a X i 2), .int (wk_a X i 1), .ref 0], σ)) := rfl
set_option maxRecDepth 100000 in
theorem wk_aloneB (i : Int32) (σ : bz_S) (r : Int32) : bz_run X bt_L_law 21 (437, wk_L i, [.int r], σ) = some (vp_in (i + 1) X.2 ∧ vp_in (i + 2) X.2 ∧ vp_in (i + 3) X.2 ∧ vp_in (i + 4) X.2 ∧ True, (458, wk_L i, [.int (wk_a X i 4), .int (wk_a X i 3), .int (wk_a X i 2), .int (wk_a X i 1), .ref 32, .int r], σ)) := rfl
set_option maxRecDepth 100000 in
theorem wk_alone (h : iv_R hp_T σ σ) (h1 : vp_in (i + 1) X.2) (h2 : vp_in (i + 2) X.2) (h3 : vp_in (i + 3) X.2) (h4 : vp_in (i + 4) X.2) (kk : ∀ σ9, iv_R hp_T σ9 σ9 → bz_wp bz_P X mL_law wk_R (832, wk_L i, [], σ9)) : bz_wp bz_P X mL_law wk_R (413, wk_L i, [], σ) := by
  have hA : iv_R hp_T σ (f_X10_alone_0 σ (wk_a X i 1) (wk_a X i 2) (wk_a X i 3) (wk_a X i 4)).2 := iv_m1 h (rf_X10_alone_0 σ (wk_a X i 1) (wk_a X i 2) (wk_a X i 3) (wk_a X i 4)) (by decide)
  obtain ⟨e, hB⟩ := e_alone hA (wk_a X i 1) (wk_a X i 2) (wk_a X i 3) (wk_a X i 4)
  refine bz_wpn bT_L_law 21 (wk_aloneA i σ) ⟨h1, h2, h3, h4, trivial⟩ ?_
  refine bz_wci bT_L_law [.ref 0, .int (wk_a X i 1), .int (wk_a X i 2), .int (wk_a X i 3), .int (wk_a X i 4)] (r := (f_X10_alone_0 σ (wk_a X i 1) (wk_a X i 2) (wk_a X i 3) (wk_a X i 4)).1) (σ1 := (f_X10_alone_0 σ (wk_a X i 1) (wk_a X i 2) (wk_a X i 3) (wk_a X i 4)).2) (pc' := 437) (rest := []) rfl rfl (Nat.le_of_ble_eq_true rfl) rfl (Nat.le_of_ble_eq_true rfl) rfl (s_X10_alone_0 σ (wk_a X i 1) (wk_a X i 2) (wk_a X i 3) (wk_a X i 4)) rfl ?_
  have hC := iv_c1 hB (rf_X11_alone_32 (f_X10_alone_0 σ (wk_a X i 1) (wk_a X i 2) (wk_a X i 3) (wk_a X i 4)).2 (wk_a X i 1) (wk_a X i 2) (wk_a X i 3) (wk_a X i 4)) (by decide)
  generalize (f_X10_alone_0 σ (wk_a X i 1) (wk_a X i 2) (wk_a X i 3) (wk_a X i 4)).2 = σ1 at *
  generalize (f_X10_alone_0 σ (wk_a X i 1) (wk_a X i 2) (wk_a X i 3) (wk_a X i 4)).1 = r at *
  refine bz_wpn bT_L_law 21 (wk_aloneB i σ1 r) ⟨h1, h2, h3, h4, trivial⟩ ?_
  refine bz_wci bT_L_law [.ref 32, .int (wk_a X i 1), .int (wk_a X i 2), .int (wk_a X i 3), .int (wk_a X i 4)] (r := (f_X11_alone_32 σ1 (wk_a X i 1) (wk_a X i 2) (wk_a X i 3) (wk_a X i 4)).1) (σ1 := (f_X11_alone_32 σ1 (wk_a X i 1) (wk_a X i 2) (wk_a X i 3) (wk_a X i 4)).2) (pc' := 461) (rest := [.int r]) rfl rfl (Nat.le_of_ble_eq_true rfl) rfl (Nat.le_of_ble_eq_true rfl) rfl (s_X11_alone_32 σ1 (wk_a X i 1) (wk_a X i 2) (wk_a X i 3) (wk_a X i 4)) rfl ?_
  rw [e]
  generalize (f_X11_alone_32 σ1 (wk_a X i 1) (wk_a X i 2) (wk_a X i 3) (wk_a X i 4)).2 = σ2 at *
  refine bz_wpb bT_L_law 1 (b1 := (832, wk_L i, [], σ2)) (b2 := (464, wk_L i, [], σ2)) (C := r = r) (G := True) rfl trivial (fun _ => kk _ hC) (fun z => absurd rfl z)
set_option maxRecDepth 100000 in
theorem wk_strokesA (i : Int32) (σ : bz_S) : bz_run X bt_L_law 16 (466, wk_L i, [], σ) = some (vp_in (i + 1) X.2 ∧ vp_in (i + 2) X.2 ∧ vp_in (i + 3) X.2 ∧ True, (482, wk_L i, [.int (wk_a X i 3), .int (wk_a X i 2), .int (wk_a X i 1), .ref 0], σ)) := rfl
set_option maxRecDepth 100000 in
theorem wk_strokesB (i : Int32) (σ : bz_S) (r : Int32) : bz_run X bt_L_law 16 (485, wk_L i, [.int r], σ) = some (vp_in (i + 1) X.2 ∧ vp_in (i + 2) X.2 ∧ vp_in (i + 3) X.2 ∧ True, (501, wk_L i, [.int (wk_a X i 3), .int (wk_a X i 2), .int (wk_a X i 1), .ref 32, .int r], σ)) := rfl
set_option maxRecDepth 100000 in
theorem wk_strokes (h : iv_R hp_T σ σ) (h1 : vp_in (i + 1) X.2) (h2 : vp_in (i + 2) X.2) (h3 : vp_in (i + 3) X.2) (kk : ∀ σ9, iv_R hp_T σ9 σ9 → bz_wp bz_P X mL_law wk_R (832, wk_L i, [], σ9)) : bz_wp bz_P X mL_law wk_R (466, wk_L i, [], σ) := by
  obtain ⟨e, hB⟩ := e_strokes h (wk_a X i 1) (wk_a X i 2) (wk_a X i 3)
  refine bz_wpn bT_L_law 16 (wk_strokesA i σ) ⟨h1, h2, h3, trivial⟩ ?_
  refine bz_wci bT_L_law [.ref 0, .int (wk_a X i 1), .int (wk_a X i 2), .int (wk_a X i 3)] (r := (f_X10_strokes_0 (wk_a X i 1) (wk_a X i 2) (wk_a X i 3))) (σ1 := σ) (pc' := 485) (rest := []) rfl rfl (Nat.le_of_ble_eq_true rfl) rfl (Nat.le_of_ble_eq_true rfl) rfl (s_X10_strokes_0 σ (wk_a X i 1) (wk_a X i 2) (wk_a X i 3)) rfl ?_
  have hC := iv_c1 hB (rf_X11_strokes_32 σ (wk_a X i 1) (wk_a X i 2) (wk_a X i 3)) (by decide)
  generalize (f_X10_strokes_0 (wk_a X i 1) (wk_a X i 2) (wk_a X i 3)) = r at *
  refine bz_wpn bT_L_law 16 (wk_strokesB i σ r) ⟨h1, h2, h3, trivial⟩ ?_
  refine bz_wci bT_L_law [.ref 32, .int (wk_a X i 1), .int (wk_a X i 2), .int (wk_a X i 3)] (r := (f_X11_strokes_32 σ (wk_a X i 1) (wk_a X i 2) (wk_a X i 3)).1) (σ1 := (f_X11_strokes_32 σ (wk_a X i 1) (wk_a X i 2) (wk_a X i 3)).2) (pc' := 504) (rest := [.int r]) rfl rfl (Nat.le_of_ble_eq_true rfl) rfl (Nat.le_of_ble_eq_true rfl) rfl (s_X11_strokes_32 σ (wk_a X i 1) (wk_a X i 2) (wk_a X i 3)) rfl ?_
  rw [e]
  generalize (f_X11_strokes_32 σ (wk_a X i 1) (wk_a X i 2) (wk_a X i 3)).2 = σ2 at *
  refine bz_wpb bT_L_law 1 (b1 := (832, wk_L i, [], σ2)) (b2 := (507, wk_L i, [], σ2)) (C := r = r) (G := True) rfl trivial (fun _ => kk _ hC) (fun z => absurd rfl z)
set_option maxRecDepth 100000 in
theorem wk_seenA (i : Int32) (σ : bz_S) : bz_run X bt_L_law 11 (509, wk_L i, [], σ) = some (vp_in (i + 1) X.2 ∧ vp_in (i + 2) X.2 ∧ True, (520, wk_L i, [.int (wk_a X i 2), .int (wk_a X i 1), .ref 0], σ)) := rfl
set_option maxRecDepth 100000 in
theorem wk_seenB (i : Int32) (σ : bz_S) (r : Int32) : bz_run X bt_L_law 11 (523, wk_L i, [.int r], σ) = some (vp_in (i + 1) X.2 ∧ vp_in (i + 2) X.2 ∧ True, (534, wk_L i, [.int (wk_a X i 2), .int (wk_a X i 1), .ref 32, .int r], σ)) := rfl
set_option maxRecDepth 100000 in
theorem wk_seen (h : iv_R hp_T σ σ) (h1 : vp_in (i + 1) X.2) (h2 : vp_in (i + 2) X.2) (kk : ∀ σ9, iv_R hp_T σ9 σ9 → bz_wp bz_P X mL_law wk_R (832, wk_L i, [], σ9)) : bz_wp bz_P X mL_law wk_R (509, wk_L i, [], σ) := by
  have hA : iv_R hp_T σ (f_X10_seen_0 σ (wk_a X i 1) (wk_a X i 2)).2 := iv_m1 h (rf_X10_seen_0 σ (wk_a X i 1) (wk_a X i 2)) (by decide)
  obtain ⟨e, hB⟩ := e_seen hA (wk_a X i 1) (wk_a X i 2)
  refine bz_wpn bT_L_law 11 (wk_seenA i σ) ⟨h1, h2, trivial⟩ ?_
  refine bz_wci bT_L_law [.ref 0, .int (wk_a X i 1), .int (wk_a X i 2)] (r := (f_X10_seen_0 σ (wk_a X i 1) (wk_a X i 2)).1) (σ1 := (f_X10_seen_0 σ (wk_a X i 1) (wk_a X i 2)).2) (pc' := 523) (rest := []) rfl rfl (Nat.le_of_ble_eq_true rfl) rfl (Nat.le_of_ble_eq_true rfl) rfl (s_X10_seen_0 σ (wk_a X i 1) (wk_a X i 2) (iv_sgh h).1) rfl ?_
  have hC := iv_c1 hB (rf_X11_seen_32 (f_X10_seen_0 σ (wk_a X i 1) (wk_a X i 2)).2 (wk_a X i 1) (wk_a X i 2)) (by decide)
  generalize (f_X10_seen_0 σ (wk_a X i 1) (wk_a X i 2)).2 = σ1 at *
  generalize (f_X10_seen_0 σ (wk_a X i 1) (wk_a X i 2)).1 = r at *
  refine bz_wpn bT_L_law 11 (wk_seenB i σ1 r) ⟨h1, h2, trivial⟩ ?_
  refine bz_wci bT_L_law [.ref 32, .int (wk_a X i 1), .int (wk_a X i 2)] (r := (f_X11_seen_32 σ1 (wk_a X i 1) (wk_a X i 2)).1) (σ1 := (f_X11_seen_32 σ1 (wk_a X i 1) (wk_a X i 2)).2) (pc' := 537) (rest := [.int r]) rfl rfl (Nat.le_of_ble_eq_true rfl) rfl (Nat.le_of_ble_eq_true rfl) rfl (s_X11_seen_32 σ1 (wk_a X i 1) (wk_a X i 2) (iv_sgh hA).2.1) rfl ?_
  rw [e]
  generalize (f_X11_seen_32 σ1 (wk_a X i 1) (wk_a X i 2)).2 = σ2 at *
  refine bz_wpb bT_L_law 1 (b1 := (832, wk_L i, [], σ2)) (b2 := (540, wk_L i, [], σ2)) (C := r = r) (G := True) rfl trivial (fun _ => kk _ hC) (fun z => absurd rfl z)
set_option maxRecDepth 100000 in
theorem wk_forgetA (i : Int32) (σ : bz_S) : bz_run X bt_L_law 1 (542, wk_L i, [], σ) = some (True, (543, wk_L i, [.ref 0], σ)) := rfl
set_option maxRecDepth 100000 in
theorem wk_forgetB (i : Int32) (σ : bz_S) (r : Int32) : bz_run X bt_L_law 1 (546, wk_L i, [.int r], σ) = some (True, (547, wk_L i, [.ref 32, .int r], σ)) := rfl
set_option maxRecDepth 100000 in
theorem wk_forget (h : iv_R hp_T σ σ)  (kk : ∀ σ9, iv_R hp_T σ9 σ9 → bz_wp bz_P X mL_law wk_R (832, wk_L i, [], σ9)) : bz_wp bz_P X mL_law wk_R (542, wk_L i, [], σ) := by
  have hA : iv_R hp_T σ (f_X10_forget_0 σ).2 := iv_m1 h (rf_X10_forget_0 σ) (by decide)
  obtain ⟨e, hB⟩ := e_forget hA
  refine bz_wpn bT_L_law 1 (wk_forgetA i σ) trivial ?_
  refine bz_wci bT_L_law [.ref 0] (r := (f_X10_forget_0 σ).1) (σ1 := (f_X10_forget_0 σ).2) (pc' := 546) (rest := []) rfl rfl (Nat.le_of_ble_eq_true rfl) rfl (Nat.le_of_ble_eq_true rfl) rfl (s_X10_forget_0 σ) rfl ?_
  have hC := iv_c1 hB (rf_X11_forget_32 (f_X10_forget_0 σ).2) (by decide)
  generalize (f_X10_forget_0 σ).2 = σ1 at *
  generalize (f_X10_forget_0 σ).1 = r at *
  refine bz_wpn bT_L_law 1 (wk_forgetB i σ1 r) trivial ?_
  refine bz_wci bT_L_law [.ref 32] (r := (f_X11_forget_32 σ1).1) (σ1 := (f_X11_forget_32 σ1).2) (pc' := 550) (rest := [.int r]) rfl rfl (Nat.le_of_ble_eq_true rfl) rfl (Nat.le_of_ble_eq_true rfl) rfl (s_X11_forget_32 σ1) rfl ?_
  rw [e]
  generalize (f_X11_forget_32 σ1).2 = σ2 at *
  refine bz_wpb bT_L_law 1 (b1 := (832, wk_L i, [], σ2)) (b2 := (553, wk_L i, [], σ2)) (C := r = r) (G := True) rfl trivial (fun _ => kk _ hC) (fun z => absurd rfl z)
set_option maxRecDepth 100000 in
theorem wk_sentA (i : Int32) (σ : bz_S) : bz_run X bt_L_law 6 (555, wk_L i, [], σ) = some (vp_in (i + 1) X.2 ∧ True, (561, wk_L i, [.int (wk_a X i 1), .ref 0], σ)) := rfl
set_option maxRecDepth 100000 in
theorem wk_sentB (i : Int32) (σ : bz_S) (r : Int32) : bz_run X bt_L_law 6 (564, wk_L i, [.int r], σ) = some (vp_in (i + 1) X.2 ∧ True, (570, wk_L i, [.int (wk_a X i 1), .ref 32, .int r], σ)) := rfl
set_option maxRecDepth 100000 in
theorem wk_sent (h : iv_R hp_T σ σ) (h1 : vp_in (i + 1) X.2) (kk : ∀ σ9, iv_R hp_T σ9 σ9 → bz_wp bz_P X mL_law wk_R (832, wk_L i, [], σ9)) : bz_wp bz_P X mL_law wk_R (555, wk_L i, [], σ) := by
  have hA : iv_R hp_T σ (f_X10_sent_0 σ (wk_a X i 1)).2 := iv_m1 h (rf_X10_sent_0 σ (wk_a X i 1)) (by decide)
  obtain ⟨e, hB⟩ := e_sent hA (wk_a X i 1)
  refine bz_wpn bT_L_law 6 (wk_sentA i σ) ⟨h1, trivial⟩ ?_
  refine bz_wci bT_L_law [.ref 0, .int (wk_a X i 1)] (r := (f_X10_sent_0 σ (wk_a X i 1)).1) (σ1 := (f_X10_sent_0 σ (wk_a X i 1)).2) (pc' := 564) (rest := []) rfl rfl (Nat.le_of_ble_eq_true rfl) rfl (Nat.le_of_ble_eq_true rfl) rfl (s_X10_sent_0 σ (wk_a X i 1) (iv_sgh h).1) rfl ?_
  have hC := iv_c1 hB (rf_X11_sent_32 (f_X10_sent_0 σ (wk_a X i 1)).2 (wk_a X i 1)) (by decide)
  generalize (f_X10_sent_0 σ (wk_a X i 1)).2 = σ1 at *
  generalize (f_X10_sent_0 σ (wk_a X i 1)).1 = r at *
  refine bz_wpn bT_L_law 6 (wk_sentB i σ1 r) ⟨h1, trivial⟩ ?_
  refine bz_wci bT_L_law [.ref 32, .int (wk_a X i 1)] (r := (f_X11_sent_32 σ1 (wk_a X i 1)).1) (σ1 := (f_X11_sent_32 σ1 (wk_a X i 1)).2) (pc' := 573) (rest := [.int r]) rfl rfl (Nat.le_of_ble_eq_true rfl) rfl (Nat.le_of_ble_eq_true rfl) rfl (s_X11_sent_32 σ1 (wk_a X i 1) (iv_sgh hA).2.1 (iv_sgh hA).2.2) rfl ?_
  rw [e]
  generalize (f_X11_sent_32 σ1 (wk_a X i 1)).2 = σ2 at *
  refine bz_wpb bT_L_law 1 (b1 := (832, wk_L i, [], σ2)) (b2 := (576, wk_L i, [], σ2)) (C := r = r) (G := True) rfl trivial (fun _ => kk _ hC) (fun z => absurd rfl z)
set_option maxRecDepth 100000 in
theorem wk_askA (i : Int32) (σ : bz_S) : bz_run X bt_L_law 6 (578, wk_L i, [], σ) = some (vp_in (i + 1) X.2 ∧ True, (584, wk_L i, [.int (wk_a X i 1), .ref 0], σ)) := rfl
set_option maxRecDepth 100000 in
theorem wk_askB (i : Int32) (σ : bz_S) (r : Int32) : bz_run X bt_L_law 6 (587, wk_L i, [.int r], σ) = some (vp_in (i + 1) X.2 ∧ True, (593, wk_L i, [.int (wk_a X i 1), .ref 32, .int r], σ)) := rfl
set_option maxRecDepth 100000 in
theorem wk_ask (h : iv_R hp_T σ σ) (h1 : vp_in (i + 1) X.2) (kk : ∀ σ9, iv_R hp_T σ9 σ9 → bz_wp bz_P X mL_law wk_R (832, wk_L i, [], σ9)) : bz_wp bz_P X mL_law wk_R (578, wk_L i, [], σ) := by
  have hA : iv_R hp_T σ (f_X10_ask_0 σ (wk_a X i 1)).2 := iv_m1 h (rf_X10_ask_0 σ (wk_a X i 1)) (by decide)
  obtain ⟨e, hB⟩ := e_ask hA (wk_a X i 1)
  refine bz_wpn bT_L_law 6 (wk_askA i σ) ⟨h1, trivial⟩ ?_
  refine bz_wci bT_L_law [.ref 0, .int (wk_a X i 1)] (r := (f_X10_ask_0 σ (wk_a X i 1)).1) (σ1 := (f_X10_ask_0 σ (wk_a X i 1)).2) (pc' := 587) (rest := []) rfl rfl (Nat.le_of_ble_eq_true rfl) rfl (Nat.le_of_ble_eq_true rfl) rfl (s_X10_ask_0 σ (wk_a X i 1) (iv_sgh h).1) rfl ?_
  have hC := iv_c1 hB (rf_X11_ask_32 (f_X10_ask_0 σ (wk_a X i 1)).2 (wk_a X i 1)) (by decide)
  generalize (f_X10_ask_0 σ (wk_a X i 1)).2 = σ1 at *
  generalize (f_X10_ask_0 σ (wk_a X i 1)).1 = r at *
  refine bz_wpn bT_L_law 6 (wk_askB i σ1 r) ⟨h1, trivial⟩ ?_
  refine bz_wci bT_L_law [.ref 32, .int (wk_a X i 1)] (r := (f_X11_ask_32 σ1 (wk_a X i 1)).1) (σ1 := (f_X11_ask_32 σ1 (wk_a X i 1)).2) (pc' := 596) (rest := [.int r]) rfl rfl (Nat.le_of_ble_eq_true rfl) rfl (Nat.le_of_ble_eq_true rfl) rfl (s_X11_ask_32 σ1 (wk_a X i 1) (iv_sgh hA).2.1 (iv_sgh hA).2.2) rfl ?_
  rw [e]
  generalize (f_X11_ask_32 σ1 (wk_a X i 1)).2 = σ2 at *
  refine bz_wpb bT_L_law 1 (b1 := (832, wk_L i, [], σ2)) (b2 := (599, wk_L i, [], σ2)) (C := r = r) (G := True) rfl trivial (fun _ => kk _ hC) (fun z => absurd rfl z)
set_option maxRecDepth 100000 in
theorem wk_chalkA (i : Int32) (σ : bz_S) : bz_run X bt_L_law 16 (601, wk_L i, [], σ) = some (vp_in (i + 1) X.2 ∧ vp_in (i + 2) X.2 ∧ vp_in (i + 3) X.2 ∧ True, (617, wk_L i, [.int (wk_a X i 3), .int (wk_a X i 2), .int (wk_a X i 1), .ref 0], σ)) := rfl
set_option maxRecDepth 100000 in
theorem wk_chalkB (i : Int32) (σ : bz_S) (r : Int32) : bz_run X bt_L_law 16 (620, wk_L i, [.int r], σ) = some (vp_in (i + 1) X.2 ∧ vp_in (i + 2) X.2 ∧ vp_in (i + 3) X.2 ∧ True, (636, wk_L i, [.int (wk_a X i 3), .int (wk_a X i 2), .int (wk_a X i 1), .ref 32, .int r], σ)) := rfl
set_option maxRecDepth 100000 in
theorem wk_chalk (h : iv_R hp_T σ σ) (h1 : vp_in (i + 1) X.2) (h2 : vp_in (i + 2) X.2) (h3 : vp_in (i + 3) X.2) (kk : ∀ σ9, iv_R hp_T σ9 σ9 → bz_wp bz_P X mL_law wk_R (832, wk_L i, [], σ9)) : bz_wp bz_P X mL_law wk_R (601, wk_L i, [], σ) := by
  have hA : iv_R hp_T σ (f_X10_chalk_0 σ (wk_a X i 1) (wk_a X i 2) (wk_a X i 3)).2 := iv_m1 h (rf_X10_chalk_0 σ (wk_a X i 1) (wk_a X i 2) (wk_a X i 3)) (by decide)
  obtain ⟨e, hB⟩ := e_chalk hA (wk_a X i 1) (wk_a X i 2) (wk_a X i 3)
  refine bz_wpn bT_L_law 16 (wk_chalkA i σ) ⟨h1, h2, h3, trivial⟩ ?_
  refine bz_wci bT_L_law [.ref 0, .int (wk_a X i 1), .int (wk_a X i 2), .int (wk_a X i 3)] (r := (f_X10_chalk_0 σ (wk_a X i 1) (wk_a X i 2) (wk_a X i 3)).1) (σ1 := (f_X10_chalk_0 σ (wk_a X i 1) (wk_a X i 2) (wk_a X i 3)).2) (pc' := 620) (rest := []) rfl rfl (Nat.le_of_ble_eq_true rfl) rfl (Nat.le_of_ble_eq_true rfl) rfl (s_X10_chalk_0 σ (wk_a X i 1) (wk_a X i 2) (wk_a X i 3)) rfl ?_
  have hC := iv_c1 hB (rf_X11_chalk_32 (f_X10_chalk_0 σ (wk_a X i 1) (wk_a X i 2) (wk_a X i 3)).2 (wk_a X i 1) (wk_a X i 2) (wk_a X i 3)) (by decide)
  generalize (f_X10_chalk_0 σ (wk_a X i 1) (wk_a X i 2) (wk_a X i 3)).2 = σ1 at *
  generalize (f_X10_chalk_0 σ (wk_a X i 1) (wk_a X i 2) (wk_a X i 3)).1 = r at *
  refine bz_wpn bT_L_law 16 (wk_chalkB i σ1 r) ⟨h1, h2, h3, trivial⟩ ?_
  refine bz_wci bT_L_law [.ref 32, .int (wk_a X i 1), .int (wk_a X i 2), .int (wk_a X i 3)] (r := (f_X11_chalk_32 σ1 (wk_a X i 1) (wk_a X i 2) (wk_a X i 3)).1) (σ1 := (f_X11_chalk_32 σ1 (wk_a X i 1) (wk_a X i 2) (wk_a X i 3)).2) (pc' := 639) (rest := [.int r]) rfl rfl (Nat.le_of_ble_eq_true rfl) rfl (Nat.le_of_ble_eq_true rfl) rfl (s_X11_chalk_32 σ1 (wk_a X i 1) (wk_a X i 2) (wk_a X i 3)) rfl ?_
  rw [e]
  generalize (f_X11_chalk_32 σ1 (wk_a X i 1) (wk_a X i 2) (wk_a X i 3)).2 = σ2 at *
  refine bz_wpb bT_L_law 1 (b1 := (832, wk_L i, [], σ2)) (b2 := (642, wk_L i, [], σ2)) (C := r = r) (G := True) rfl trivial (fun _ => kk _ hC) (fun z => absurd rfl z)
set_option maxRecDepth 100000 in
theorem wk_matchA (i : Int32) (σ : bz_S) : bz_run X bt_L_law 31 (644, wk_L i, [], σ) = some (vp_in (i + 1) X.2 ∧ vp_in (i + 2) X.2 ∧ vp_in (i + 3) X.2 ∧ vp_in (i + 4) X.2 ∧ vp_in (i + 5) X.2 ∧ vp_in (i + 6) X.2 ∧ True, (676, wk_L i, [.int (wk_a X i 6), .int (wk_a X i 5), .int (wk_a X i 4), .int (wk_a X i 3), .int (wk_a X i 2), .int (wk_a X i 1), .ref 0], σ)) := rfl
set_option maxRecDepth 100000 in
theorem wk_matchB (i : Int32) (σ : bz_S) (r : Int64) : bz_run X bt_L_law 31 (679, wk_L i, [.long r], σ) = some (vp_in (i + 1) X.2 ∧ vp_in (i + 2) X.2 ∧ vp_in (i + 3) X.2 ∧ vp_in (i + 4) X.2 ∧ vp_in (i + 5) X.2 ∧ vp_in (i + 6) X.2 ∧ True, (711, wk_L i, [.int (wk_a X i 6), .int (wk_a X i 5), .int (wk_a X i 4), .int (wk_a X i 3), .int (wk_a X i 2), .int (wk_a X i 1), .ref 32, .long r], σ)) := rfl
theorem wk_cmp (r : Int64) : lg_cmp r r = 0 := by
  unfold lg_cmp
  simp
set_option maxRecDepth 100000 in
theorem wk_match (h : iv_R hp_T σ σ) (h1 : vp_in (i + 1) X.2) (h2 : vp_in (i + 2) X.2) (h3 : vp_in (i + 3) X.2) (h4 : vp_in (i + 4) X.2) (h5 : vp_in (i + 5) X.2) (h6 : vp_in (i + 6) X.2) (kk : ∀ σ9, iv_R hp_T σ9 σ9 → bz_wp bz_P X mL_law wk_R (832, wk_L i, [], σ9)) : bz_wp bz_P X mL_law wk_R (644, wk_L i, [], σ) := by
  obtain ⟨e, hB⟩ := e_match h (wk_a X i 1) (wk_a X i 2) (wk_a X i 3) (wk_a X i 4) (wk_a X i 5) (wk_a X i 6)
  refine bz_wpn bT_L_law 31 (wk_matchA i σ) ⟨h1, h2, h3, h4, h5, h6, trivial⟩ ?_
  refine bz_wcl bT_L_law [.ref 0, .int (wk_a X i 1), .int (wk_a X i 2), .int (wk_a X i 3), .int (wk_a X i 4), .int (wk_a X i 5), .int (wk_a X i 6)] (r := (f_X10_match_0 (wk_a X i 1) (wk_a X i 2) (wk_a X i 3) (wk_a X i 4) (wk_a X i 5) (wk_a X i 6))) (σ1 := σ) (pc' := 679) (rest := []) rfl rfl (Nat.le_of_ble_eq_true rfl) rfl (Nat.le_of_ble_eq_true rfl) rfl (s_X10_match_0 σ (wk_a X i 1) (wk_a X i 2) (wk_a X i 3) (wk_a X i 4) (wk_a X i 5) (wk_a X i 6)) rfl ?_
  have hC := iv_c1 hB (rf_X11_match_32 σ (wk_a X i 1) (wk_a X i 2) (wk_a X i 3) (wk_a X i 4) (wk_a X i 5) (wk_a X i 6)) (by decide)
  generalize (f_X10_match_0 (wk_a X i 1) (wk_a X i 2) (wk_a X i 3) (wk_a X i 4) (wk_a X i 5) (wk_a X i 6)) = r at *
  refine bz_wpn bT_L_law 31 (wk_matchB i σ r) ⟨h1, h2, h3, h4, h5, h6, trivial⟩ ?_
  refine bz_wcl bT_L_law [.ref 32, .int (wk_a X i 1), .int (wk_a X i 2), .int (wk_a X i 3), .int (wk_a X i 4), .int (wk_a X i 5), .int (wk_a X i 6)] (r := (f_X11_match_32 σ (wk_a X i 1) (wk_a X i 2) (wk_a X i 3) (wk_a X i 4) (wk_a X i 5) (wk_a X i 6)).1) (σ1 := (f_X11_match_32 σ (wk_a X i 1) (wk_a X i 2) (wk_a X i 3) (wk_a X i 4) (wk_a X i 5) (wk_a X i 6)).2) (pc' := 714) (rest := [.long r]) rfl rfl (Nat.le_of_ble_eq_true rfl) rfl (Nat.le_of_ble_eq_true rfl) rfl (s_X11_match_32 σ (wk_a X i 1) (wk_a X i 2) (wk_a X i 3) (wk_a X i 4) (wk_a X i 5) (wk_a X i 6)) rfl ?_
  rw [e]
  generalize (f_X11_match_32 σ (wk_a X i 1) (wk_a X i 2) (wk_a X i 3) (wk_a X i 4) (wk_a X i 5) (wk_a X i 6)).2 = σ2 at *
  refine bz_wpb bT_L_law 2 (b1 := (832, wk_L i, [], σ2)) (b2 := (718, wk_L i, [], σ2)) (C := lg_cmp r r = 0) (G := True) rfl trivial (fun _ => kk _ hC) (fun z => absurd (wk_cmp r) z)
set_option maxRecDepth 100000 in
theorem wk_seasonA (i : Int32) (σ : bz_S) : bz_run X bt_L_law 16 (720, wk_L i, [], σ) = some (vp_in (i + 1) X.2 ∧ vp_in (i + 2) X.2 ∧ vp_in (i + 3) X.2 ∧ True, (736, wk_L i, [.int (wk_a X i 3), .int (wk_a X i 2), .int (wk_a X i 1), .ref 0], σ)) := rfl
set_option maxRecDepth 100000 in
theorem wk_seasonB (i : Int32) (σ : bz_S) (r : Int32) : bz_run X bt_L_law 16 (739, wk_L i, [.int r], σ) = some (vp_in (i + 1) X.2 ∧ vp_in (i + 2) X.2 ∧ vp_in (i + 3) X.2 ∧ True, (755, wk_L i, [.int (wk_a X i 3), .int (wk_a X i 2), .int (wk_a X i 1), .ref 32, .int r], σ)) := rfl
set_option maxRecDepth 100000 in
theorem wk_season (h : iv_R hp_T σ σ) (h1 : vp_in (i + 1) X.2) (h2 : vp_in (i + 2) X.2) (h3 : vp_in (i + 3) X.2) (kk : ∀ σ9, iv_R hp_T σ9 σ9 → bz_wp bz_P X mL_law wk_R (832, wk_L i, [], σ9)) : bz_wp bz_P X mL_law wk_R (720, wk_L i, [], σ) := by
  have hA : iv_R hp_T σ (f_X10_season_0 σ (wk_a X i 1) (wk_a X i 2) (wk_a X i 3)).2 := iv_m1 h (rf_X10_season_0 σ (wk_a X i 1) (wk_a X i 2) (wk_a X i 3)) (by decide)
  obtain ⟨e, hB⟩ := e_season hA (wk_a X i 1) (wk_a X i 2) (wk_a X i 3)
  refine bz_wpn bT_L_law 16 (wk_seasonA i σ) ⟨h1, h2, h3, trivial⟩ ?_
  refine bz_wci bT_L_law [.ref 0, .int (wk_a X i 1), .int (wk_a X i 2), .int (wk_a X i 3)] (r := (f_X10_season_0 σ (wk_a X i 1) (wk_a X i 2) (wk_a X i 3)).1) (σ1 := (f_X10_season_0 σ (wk_a X i 1) (wk_a X i 2) (wk_a X i 3)).2) (pc' := 739) (rest := []) rfl rfl (Nat.le_of_ble_eq_true rfl) rfl (Nat.le_of_ble_eq_true rfl) rfl (s_X10_season_0 σ (wk_a X i 1) (wk_a X i 2) (wk_a X i 3)) rfl ?_
  have hC := iv_c1 hB (rf_X11_season_32 (f_X10_season_0 σ (wk_a X i 1) (wk_a X i 2) (wk_a X i 3)).2 (wk_a X i 1) (wk_a X i 2) (wk_a X i 3)) (by decide)
  generalize (f_X10_season_0 σ (wk_a X i 1) (wk_a X i 2) (wk_a X i 3)).2 = σ1 at *
  generalize (f_X10_season_0 σ (wk_a X i 1) (wk_a X i 2) (wk_a X i 3)).1 = r at *
  refine bz_wpn bT_L_law 16 (wk_seasonB i σ1 r) ⟨h1, h2, h3, trivial⟩ ?_
  refine bz_wci bT_L_law [.ref 32, .int (wk_a X i 1), .int (wk_a X i 2), .int (wk_a X i 3)] (r := (f_X11_season_32 σ1 (wk_a X i 1) (wk_a X i 2) (wk_a X i 3)).1) (σ1 := (f_X11_season_32 σ1 (wk_a X i 1) (wk_a X i 2) (wk_a X i 3)).2) (pc' := 758) (rest := [.int r]) rfl rfl (Nat.le_of_ble_eq_true rfl) rfl (Nat.le_of_ble_eq_true rfl) rfl (s_X11_season_32 σ1 (wk_a X i 1) (wk_a X i 2) (wk_a X i 3)) rfl ?_
  rw [e]
  generalize (f_X11_season_32 σ1 (wk_a X i 1) (wk_a X i 2) (wk_a X i 3)).2 = σ2 at *
  refine bz_wpb bT_L_law 1 (b1 := (832, wk_L i, [], σ2)) (b2 := (761, wk_L i, [], σ2)) (C := r = r) (G := True) rfl trivial (fun _ => kk _ hC) (fun z => absurd rfl z)
set_option maxRecDepth 100000 in
theorem wk_imageA (i : Int32) (σ : bz_S) : bz_run X bt_L_law 6 (763, wk_L i, [], σ) = some (vp_in (i + 1) X.2 ∧ True, (769, wk_L i, [.int (wk_a X i 1), .ref 0], σ)) := rfl
set_option maxRecDepth 100000 in
theorem wk_imageB (i : Int32) (σ : bz_S) (r : Int32) : bz_run X bt_L_law 6 (772, wk_L i, [.int r], σ) = some (vp_in (i + 1) X.2 ∧ True, (778, wk_L i, [.int (wk_a X i 1), .ref 32, .int r], σ)) := rfl
set_option maxRecDepth 100000 in
theorem wk_image (h : iv_R hp_T σ σ) (h1 : vp_in (i + 1) X.2) (kk : ∀ σ9, iv_R hp_T σ9 σ9 → bz_wp bz_P X mL_law wk_R (832, wk_L i, [], σ9)) : bz_wp bz_P X mL_law wk_R (763, wk_L i, [], σ) := by
  have hA : iv_R hp_T σ (f_X10_image_0 σ (wk_a X i 1)).2 := iv_m1 h (rf_X10_image_0 σ (wk_a X i 1)) (by decide)
  obtain ⟨e, hB⟩ := e_image hA (wk_a X i 1)
  refine bz_wpn bT_L_law 6 (wk_imageA i σ) ⟨h1, trivial⟩ ?_
  refine bz_wci bT_L_law [.ref 0, .int (wk_a X i 1)] (r := (f_X10_image_0 σ (wk_a X i 1)).1) (σ1 := (f_X10_image_0 σ (wk_a X i 1)).2) (pc' := 772) (rest := []) rfl rfl (Nat.le_of_ble_eq_true rfl) rfl (Nat.le_of_ble_eq_true rfl) rfl (s_X10_image_0 σ (wk_a X i 1)) rfl ?_
  have hC := iv_c1 hB (rf_X11_image_32 (f_X10_image_0 σ (wk_a X i 1)).2 (wk_a X i 1)) (by decide)
  generalize (f_X10_image_0 σ (wk_a X i 1)).2 = σ1 at *
  generalize (f_X10_image_0 σ (wk_a X i 1)).1 = r at *
  refine bz_wpn bT_L_law 6 (wk_imageB i σ1 r) ⟨h1, trivial⟩ ?_
  refine bz_wci bT_L_law [.ref 32, .int (wk_a X i 1)] (r := (f_X11_image_32 σ1 (wk_a X i 1)).1) (σ1 := (f_X11_image_32 σ1 (wk_a X i 1)).2) (pc' := 781) (rest := [.int r]) rfl rfl (Nat.le_of_ble_eq_true rfl) rfl (Nat.le_of_ble_eq_true rfl) rfl (s_X11_image_32 σ1 (wk_a X i 1)) rfl ?_
  rw [e]
  generalize (f_X11_image_32 σ1 (wk_a X i 1)).2 = σ2 at *
  refine bz_wpb bT_L_law 1 (b1 := (832, wk_L i, [], σ2)) (b2 := (784, wk_L i, [], σ2)) (C := r = r) (G := True) rfl trivial (fun _ => kk _ hC) (fun z => absurd rfl z)
set_option maxRecDepth 100000 in
theorem wk_restoreA (i : Int32) (σ : bz_S) : bz_run X bt_L_law 6 (786, wk_L i, [], σ) = some (vp_in (i + 1) X.2 ∧ True, (792, wk_L i, [.int (wk_a X i 1), .ref 0], σ)) := rfl
set_option maxRecDepth 100000 in
theorem wk_restoreB (i : Int32) (σ : bz_S) (r : Int32) : bz_run X bt_L_law 6 (795, wk_L i, [.int r], σ) = some (vp_in (i + 1) X.2 ∧ True, (801, wk_L i, [.int (wk_a X i 1), .ref 32, .int r], σ)) := rfl
set_option maxRecDepth 100000 in
theorem wk_restore (h : iv_R hp_T σ σ) (h1 : vp_in (i + 1) X.2) (kk : ∀ σ9, iv_R hp_T σ9 σ9 → bz_wp bz_P X mL_law wk_R (832, wk_L i, [], σ9)) : bz_wp bz_P X mL_law wk_R (786, wk_L i, [], σ) := by
  have hA : iv_R hp_T σ (f_X10_restore_0 σ (wk_a X i 1)).2 := iv_m1 h (rf_X10_restore_0 σ (wk_a X i 1)) (by decide)
  obtain ⟨e, hB⟩ := e_restore hA (wk_a X i 1)
  refine bz_wpn bT_L_law 6 (wk_restoreA i σ) ⟨h1, trivial⟩ ?_
  refine bz_wci bT_L_law [.ref 0, .int (wk_a X i 1)] (r := (f_X10_restore_0 σ (wk_a X i 1)).1) (σ1 := (f_X10_restore_0 σ (wk_a X i 1)).2) (pc' := 795) (rest := []) rfl rfl (Nat.le_of_ble_eq_true rfl) rfl (Nat.le_of_ble_eq_true rfl) rfl (s_X10_restore_0 σ (wk_a X i 1)) rfl ?_
  have hC := iv_c1 hB (rf_X11_restore_32 (f_X10_restore_0 σ (wk_a X i 1)).2 (wk_a X i 1)) (by decide)
  generalize (f_X10_restore_0 σ (wk_a X i 1)).2 = σ1 at *
  generalize (f_X10_restore_0 σ (wk_a X i 1)).1 = r at *
  refine bz_wpn bT_L_law 6 (wk_restoreB i σ1 r) ⟨h1, trivial⟩ ?_
  refine bz_wci bT_L_law [.ref 32, .int (wk_a X i 1)] (r := (f_X11_restore_32 σ1 (wk_a X i 1)).1) (σ1 := (f_X11_restore_32 σ1 (wk_a X i 1)).2) (pc' := 804) (rest := [.int r]) rfl rfl (Nat.le_of_ble_eq_true rfl) rfl (Nat.le_of_ble_eq_true rfl) rfl (s_X11_restore_32 σ1 (wk_a X i 1)) rfl ?_
  rw [e]
  generalize (f_X11_restore_32 σ1 (wk_a X i 1)).2 = σ2 at *
  refine bz_wpb bT_L_law 1 (b1 := (832, wk_L i, [], σ2)) (b2 := (807, wk_L i, [], σ2)) (C := r = r) (G := True) rfl trivial (fun _ => kk _ hC) (fun z => absurd rfl z)
set_option maxRecDepth 100000 in
theorem wk_toldA (i : Int32) (σ : bz_S) : bz_run X bt_L_law 6 (809, wk_L i, [], σ) = some (vp_in (i + 1) X.2 ∧ True, (815, wk_L i, [.int (wk_a X i 1), .ref 0], σ)) := rfl
set_option maxRecDepth 100000 in
theorem wk_toldB (i : Int32) (σ : bz_S) (r : Int32) : bz_run X bt_L_law 6 (818, wk_L i, [.int r], σ) = some (vp_in (i + 1) X.2 ∧ True, (824, wk_L i, [.int (wk_a X i 1), .ref 32, .int r], σ)) := rfl
set_option maxRecDepth 100000 in
theorem wk_told (h : iv_R hp_T σ σ) (h1 : vp_in (i + 1) X.2) (kk : ∀ σ9, iv_R hp_T σ9 σ9 → bz_wp bz_P X mL_law wk_R (832, wk_L i, [], σ9)) : bz_wp bz_P X mL_law wk_R (809, wk_L i, [], σ) := by
  have e := e_told h (wk_a X i 1)
  refine bz_wpn bT_L_law 6 (wk_toldA i σ) ⟨h1, trivial⟩ ?_
  refine bz_wci bT_L_law [.ref 0, .int (wk_a X i 1)] (r := (f_X10_told_0 σ (wk_a X i 1))) (σ1 := σ) (pc' := 818) (rest := []) rfl rfl (Nat.le_of_ble_eq_true rfl) rfl (Nat.le_of_ble_eq_true rfl) rfl (s_X10_told_0 σ (wk_a X i 1)) rfl ?_
  generalize (f_X10_told_0 σ (wk_a X i 1)) = r at *
  refine bz_wpn bT_L_law 6 (wk_toldB i σ r) ⟨h1, trivial⟩ ?_
  refine bz_wci bT_L_law [.ref 32, .int (wk_a X i 1)] (r := (f_X11_told_32 σ (wk_a X i 1))) (σ1 := σ) (pc' := 827) (rest := [.int r]) rfl rfl (Nat.le_of_ble_eq_true rfl) rfl (Nat.le_of_ble_eq_true rfl) rfl (s_X11_told_32 σ (wk_a X i 1)) rfl ?_
  rw [e]
  refine bz_wpb bT_L_law 1 (b1 := (832, wk_L i, [], σ)) (b2 := (830, wk_L i, [], σ)) (C := r = r) (G := True) rfl trivial (fun _ => kk _ h) (fun z => absurd rfl z)
/-- what the switch leads to -/
theorem wk_sw (x : Int) : ∀ (cs : List (Int × Nat)) (d : Nat), bz_sw x cs d = d ∨ ∃ q ∈ cs, bz_sw x cs d = q.2
  | [], d => Or.inl rfl
  | (k, t) :: r, d => by
    unfold bz_sw
    split
    · exact Or.inr ⟨(k, t), List.mem_cons_self, rfl⟩
    · rcases wk_sw x r d with h | ⟨q, h1, h2⟩
      · exact Or.inl h
      · exact Or.inr ⟨q, List.mem_cons_of_mem _ h1, h2⟩
theorem wk_mem : ∀ (ts : List Nat) (lo : Int) (q : Int × Nat), q ∈ bz_mk lo ts → q.2 ∈ ts
  | [], _, q, h => by cases h
  | t :: r, lo, q, h => by
    rcases List.mem_cons.mp h with rfl | h
    · exact List.mem_cons_self
    · exact List.mem_cons_of_mem _ (wk_mem r _ q h)
abbrev wk_ts : List Nat := [140, 173, 206, 229, 242, 255, 278, 301, 324, 347, 360, 413, 466, 509, 542, 555, 578, 601, 644, 720, 763, 786, 809]
set_option maxRecDepth 100000 in
theorem wk_h1 (i : Int32) (σ : bz_S) : bz_run X bt_L_law 6 (18, wk_L i, [], σ) = some (True, if i > nI X.2 - 7 then (838, wk_L i, [], σ) else (27, wk_L i, [], σ)) := rfl
set_option maxRecDepth 100000 in
theorem wk_h2 (i : Int32) (σ : bz_S) : bz_run X bt_L_law 6 (27, wk_L i, [], σ) = some (vp_in i X.2 ∧ True, (bz_sw (X.1 i.toNatClampNeg &&& 31).toInt (bz_mk 0 wk_ts) 832, wk_L i, [], σ)) := rfl
set_option maxRecDepth 100000 in
theorem wk_h3 (i : Int32) (σ : bz_S) : bz_run X bt_L_law 2 (832, wk_L i, [], σ) = some (True, (18, wk_L (i + 7), [], σ)) := rfl
theorem wk_in {I N k : Nat} (h : I + k < N) (hN : N < 2 ^ 31) : vp_in (nI I + nI k) N := by
  rw [nI_add]
  exact nI_in h hN
theorem wk_cases (hX : X.2 < 2 ^ 31) {I : Nat} (hI : I + 7 ≤ X.2) (h : iv_R hp_T σ σ) (kk : ∀ σ9, iv_R hp_T σ9 σ9 → bz_wp bz_P X mL_law wk_R (832, wk_L (nI I), [], σ9)) (pc : Nat) (hp : pc = 832 ∨ pc ∈ wk_ts) : bz_wp bz_P X mL_law wk_R (pc, wk_L (nI I), [], σ) := by
  have h1 : vp_in (nI I + 1) X.2 := wk_in (k := 1) (by omega) hX
  have h2 : vp_in (nI I + 2) X.2 := wk_in (k := 2) (by omega) hX
  have h3 : vp_in (nI I + 3) X.2 := wk_in (k := 3) (by omega) hX
  have h4 : vp_in (nI I + 4) X.2 := wk_in (k := 4) (by omega) hX
  have h5 : vp_in (nI I + 5) X.2 := wk_in (k := 5) (by omega) hX
  have h6 : vp_in (nI I + 6) X.2 := wk_in (k := 6) (by omega) hX
  simp only [List.mem_cons, List.not_mem_nil, or_false] at hp
  rcases hp with rfl | rfl | rfl | rfl | rfl | rfl | rfl | rfl | rfl | rfl | rfl | rfl | rfl | rfl | rfl | rfl | rfl | rfl | rfl | rfl | rfl | rfl | rfl | rfl
  · exact kk _ h
  · exact wk_ball h h1 h2 kk
  · exact wk_score h h1 h2 kk
  · exact wk_say h h1 kk
  · exact wk_wipe h  kk
  · exact wk_fault h  kk
  · exact wk_judge h h1 kk
  · exact wk_behind h h1 kk
  · exact wk_table h h1 kk
  · exact wk_candour h h1 kk
  · exact wk_done h  kk
  · exact wk_hint h h1 h2 h3 h4 kk
  · exact wk_alone h h1 h2 h3 h4 kk
  · exact wk_strokes h h1 h2 h3 kk
  · exact wk_seen h h1 h2 kk
  · exact wk_forget h  kk
  · exact wk_sent h h1 kk
  · exact wk_ask h h1 kk
  · exact wk_chalk h h1 h2 h3 kk
  · exact wk_match h h1 h2 h3 h4 h5 h6 kk
  · exact wk_season h h1 h2 h3 kk
  · exact wk_image h h1 kk
  · exact wk_restore h h1 kk
  · exact wk_told h h1 kk
set_option maxRecDepth 100000 in
theorem wk_loop (hX : X.2 < 2 ^ 31) : ∀ (n I : Nat), I ≤ X.2 → X.2 < I + n → ∀ σ, iv_R hp_T σ σ → bz_wp bz_P X mL_law wk_R (18, wk_L (nI I), [], σ) := by
  intro n
  induction n with
  | zero => intro I h1 h2; omega
  | succ n ih =>
    intro I h1 h2 σ h
    refine bz_wpb bT_L_law 6 (wk_h1 (nI I) σ) trivial (fun _ => ?_) (fun hc => ?_)
    · refine bz_wpn bT_L_law 1 (b := (839, wk_L (nI I), [.int 1], σ)) (G := True) rfl trivial ?_
      exact bz_wpr bT_L_law rfl rfl (Or.inr rfl) rfl
    · have hI : I + 7 ≤ X.2 := by
        have c1 : ¬ (nI X.2 - 7 < nI I) := hc
        have e7 : (7 : Int32).toInt = 7 := by decide
        rw [Int32.lt_iff_toInt_lt, Int32.toInt_sub, nI_toInt hX, nI_toInt (n := I) (by omega), e7, Int.bmod_eq_of_le_mul_two (by omega) (by omega)] at c1
        omega
      refine bz_wpn bT_L_law 6 (wk_h2 (nI I) σ) ⟨nI_in (by omega) hX, trivial⟩ ?_
      refine wk_cases hX hI h (fun σ9 h9 => ?_) _ ?_
      · refine bz_wpn bT_L_law 2 (wk_h3 (nI I) σ9) trivial ?_
        have e := nI_add I 7
        rw [show nI I + 7 = nI (I + 7) from e]
        exact ih (I + 7) hI (by omega) σ9 h9
      · rcases wk_sw (X.1 (nI I).toNatClampNeg &&& 31).toInt (bz_mk 0 wk_ts) 832 with z | ⟨q, z1, z2⟩
        · exact Or.inl z
        · exact Or.inr (by rw [z2]; exact wk_mem wk_ts 0 q z1)
set_option maxRecDepth 100000 in
theorem wk_walk (hX : X.2 < 2 ^ 31) (h : iv_R hp_T σ σ) : bz_wp bz_P X mL_law wk_R (16, [some (.ref 1003), some (.ref 0), some (.ref 32), none], [], σ) := by
  refine bz_wpn bT_L_law 2 (b := (18, wk_L 0, [], σ)) (G := True) rfl trivial ?_
  exact wk_loop hX (X.2 + 1) 0 (Nat.zero_le _) (by omega) σ h
end LW
