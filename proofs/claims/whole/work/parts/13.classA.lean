theorem bz_inn {i m : Int32} {n : Nat} (h0 : ¬ i < 0) (h1 : i < m) (hm : m.toInt = n) : vp_in i n := by
  refine vp_in_iff.mpr ⟨?_, ?_⟩
  · have := mt Int32.lt_iff_toInt_lt.mpr h0
    have e : (0 : Int32).toInt = 0 := by decide
    omega
  · have := Int32.lt_iff_toInt_lt.mp h1
    omega
theorem bz_ball {b : Int32} (h : f_X10_isBall b = true) : vp_in b 3 := by
  unfold f_X10_isBall at h
  split at h
  · cases h
  · rename_i h1
    split at h
    · cases h
    · rename_i h2
      exact bz_inn (m := 3) h1 (Int32.not_le.mp h2) (by decide)

def f_X6_isDown_1 (σ : bz_S) (b : Int32) : Bool := if f_X10_isBall b = true then if (σ.1 2 b.toNatClampNeg) = (-1) then true else false else true
set_option maxRecDepth 100000 in
theorem s_X6_isDown_1 {X : bz_X} (σ : bz_S) (b : Int32) : bz_C bz_P X mX6_isDown [.ref 1, .int b] σ (bz_pi (bz_b (f_X6_isDown_1 σ b)) σ) := by
  show bz_wp bz_P X mX6_isDown _ (0, [some (.ref 1), some (.int b)], [], σ)
  refine bz_wpn bT_X6_isDown 1 (b := (1, [some (.ref 1), some (.int b)], [.int b], σ)) (G := True) rfl trivial ?_
  refine bz_wci bT_X6_isDown [.int b] (pc' := 4) (rest := []) rfl rfl (Nat.le_of_ble_eq_true rfl) rfl (Nat.le_of_ble_eq_true rfl) rfl (s_X10_isBall σ b) rfl ?_
  refine bz_wpb bT_X6_isDown 1 (b1 := (17, [some (.ref 1), some (.int b)], [], σ)) (b2 := (7, [some (.ref 1), some (.int b)], [], σ)) (C := bz_b (f_X10_isBall b) = 0) (G := True) rfl trivial (fun h1 => ?_) (fun h1 => ?_)
  · skip
    have h1 := bz_b0 h1
    refine bz_wpn bT_X6_isDown 2 (b := (22, [some (.ref 1), some (.int b)], [.int 1], σ)) (G := True) rfl trivial ?_
    refine bz_wpr bT_X6_isDown rfl rfl (show (1 : Int32) = 0 ∨ (1 : Int32) = 1 by decide) ?_
    have e9 : f_X6_isDown_1 σ b = true := (by unfold f_X6_isDown_1; rw [if_neg (bz_ff h1)])
    exact ⟨by rw [e9]; rfl, rfl⟩
  · skip
    have h1 := bz_b1 h1
    refine bz_wpb bT_X6_isDown 6 (b1 := (21, [some (.ref 1), some (.int b)], [], σ)) (b2 := (17, [some (.ref 1), some (.int b)], [], σ)) (C := ¬ (σ.1 2 b.toNatClampNeg) = (-1)) (G := vp_in b 3 ∧ True) rfl ⟨(bz_ball h1), trivial⟩ (fun h2 => ?_) (fun h2 => ?_)
    · skip
      refine bz_wpn bT_X6_isDown 1 (b := (22, [some (.ref 1), some (.int b)], [.int 0], σ)) (G := True) rfl trivial ?_
      refine bz_wpr bT_X6_isDown rfl rfl (show (0 : Int32) = 0 ∨ (0 : Int32) = 1 by decide) ?_
      have e9 : f_X6_isDown_1 σ b = false := (by unfold f_X6_isDown_1; rw [if_pos (h1), if_neg (h2)])
      exact ⟨by rw [e9]; rfl, rfl⟩
    · skip
      refine bz_wpn bT_X6_isDown 2 (b := (22, [some (.ref 1), some (.int b)], [.int 1], σ)) (G := True) rfl trivial ?_
      refine bz_wpr bT_X6_isDown rfl rfl (show (1 : Int32) = 0 ∨ (1 : Int32) = 1 by decide) ?_
      have e9 : f_X6_isDown_1 σ b = true := (by unfold f_X6_isDown_1; rw [if_pos (h1), if_pos ((Decidable.not_not.mp h2))])
      exact ⟨by rw [e9]; rfl, rfl⟩

def f_X6_isDown_9 (σ : bz_S) (b : Int32) : Bool := if f_X10_isBall b = true then if (σ.1 10 b.toNatClampNeg) = (-1) then true else false else true
set_option maxRecDepth 100000 in
theorem s_X6_isDown_9 {X : bz_X} (σ : bz_S) (b : Int32) : bz_C bz_P X mX6_isDown [.ref 9, .int b] σ (bz_pi (bz_b (f_X6_isDown_9 σ b)) σ) := by
  show bz_wp bz_P X mX6_isDown _ (0, [some (.ref 9), some (.int b)], [], σ)
  refine bz_wpn bT_X6_isDown 1 (b := (1, [some (.ref 9), some (.int b)], [.int b], σ)) (G := True) rfl trivial ?_
  refine bz_wci bT_X6_isDown [.int b] (pc' := 4) (rest := []) rfl rfl (Nat.le_of_ble_eq_true rfl) rfl (Nat.le_of_ble_eq_true rfl) rfl (s_X10_isBall σ b) rfl ?_
  refine bz_wpb bT_X6_isDown 1 (b1 := (17, [some (.ref 9), some (.int b)], [], σ)) (b2 := (7, [some (.ref 9), some (.int b)], [], σ)) (C := bz_b (f_X10_isBall b) = 0) (G := True) rfl trivial (fun h1 => ?_) (fun h1 => ?_)
  · skip
    have h1 := bz_b0 h1
    refine bz_wpn bT_X6_isDown 2 (b := (22, [some (.ref 9), some (.int b)], [.int 1], σ)) (G := True) rfl trivial ?_
    refine bz_wpr bT_X6_isDown rfl rfl (show (1 : Int32) = 0 ∨ (1 : Int32) = 1 by decide) ?_
    have e9 : f_X6_isDown_9 σ b = true := (by unfold f_X6_isDown_9; rw [if_neg (bz_ff h1)])
    exact ⟨by rw [e9]; rfl, rfl⟩
  · skip
    have h1 := bz_b1 h1
    refine bz_wpb bT_X6_isDown 6 (b1 := (21, [some (.ref 9), some (.int b)], [], σ)) (b2 := (17, [some (.ref 9), some (.int b)], [], σ)) (C := ¬ (σ.1 10 b.toNatClampNeg) = (-1)) (G := vp_in b 3 ∧ True) rfl ⟨(bz_ball h1), trivial⟩ (fun h2 => ?_) (fun h2 => ?_)
    · skip
      refine bz_wpn bT_X6_isDown 1 (b := (22, [some (.ref 9), some (.int b)], [.int 0], σ)) (G := True) rfl trivial ?_
      refine bz_wpr bT_X6_isDown rfl rfl (show (0 : Int32) = 0 ∨ (0 : Int32) = 1 by decide) ?_
      have e9 : f_X6_isDown_9 σ b = false := (by unfold f_X6_isDown_9; rw [if_pos (h1), if_neg (h2)])
      exact ⟨by rw [e9]; rfl, rfl⟩
    · skip
      refine bz_wpn bT_X6_isDown 2 (b := (22, [some (.ref 9), some (.int b)], [.int 1], σ)) (G := True) rfl trivial ?_
      refine bz_wpr bT_X6_isDown rfl rfl (show (1 : Int32) = 0 ∨ (1 : Int32) = 1 by decide) ?_
      have e9 : f_X6_isDown_9 σ b = true := (by unfold f_X6_isDown_9; rw [if_pos (h1), if_pos ((Decidable.not_not.mp h2))])
      exact ⟨by rw [e9]; rfl, rfl⟩
