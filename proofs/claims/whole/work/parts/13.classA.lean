theorem bz_inn {i m : Int32} {n : Nat} (h0 : ¬ i < 0) (h1 : i < m) (hm : m.toInt = n) : vp_in i n := by
  refine vp_in_iff.mpr ⟨?_, ?_⟩
  · have := mt Int32.lt_iff_toInt_lt.mpr h0
    have e : (0 : Int32).toInt = 0 := by decide
    omega
  · have := Int32.lt_iff_toInt_lt.mp h1
    omega
theorem bz_ball {b : Int32} (h : f_X10_isBall b = true) : vp_in b 3 := by
  unfold f_X10_isBall at h
  split at h
  · cases h
  · rename_i h1
    split at h
    · cases h
    · rename_i h2
      exact bz_inn (m := 3) h1 (Int32.not_le.mp h2) (by decide)
theorem bz_within {n lo hi : Int32} (h : f_X10_isWithin n lo hi = true) : lo ≤ n ∧ n ≤ hi := by
  unfold f_X10_isWithin at h
  split at h
  · cases h
  · rename_i h1
    split at h
    · cases h
    · rename_i h2
      exact ⟨Int32.not_lt.mp h1, Int32.not_lt.mp h2⟩
theorem bz_inw {n hi m : Int32} {N : Nat} (h : f_X10_isWithin n 0 hi = true) (hm : hi < m) (hN : m.toInt = N) : vp_in n N :=
  bz_inn (Int32.not_lt.mpr (bz_within h).1) (Int32.lt_of_le_of_lt (bz_within h).2 hm) hN

def f_X6_isDown_1 (σ : bz_S) (b : Int32) : Bool := if f_X10_isBall b = true then if (σ.1 2 b.toNatClampNeg) = (-1) then true else false else true
set_option maxRecDepth 100000 in
theorem s_X6_isDown_1 {X : bz_X} (σ : bz_S) (b : Int32) : bz_C bz_P X mX6_isDown [.ref 1, .int b] σ (bz_pi (bz_b (f_X6_isDown_1 σ b)) σ) := by
  show bz_wp bz_P X mX6_isDown (bz_pi (bz_b (f_X6_isDown_1 σ b)) σ) (0, [some (.ref 1), some (.int b)], [], σ)
  refine bz_wpn bT_X6_isDown 1 (b := (1, [some (.ref 1), some (.int b)], [.int b], σ)) (G := True) rfl trivial ?_
  refine bz_wci bT_X6_isDown [.int b] (pc' := 4) (rest := []) rfl rfl (Nat.le_of_ble_eq_true rfl) rfl (Nat.le_of_ble_eq_true rfl) rfl (s_X10_isBall σ b) rfl ?_
  refine bz_wpb bT_X6_isDown 1 (b1 := (17, [some (.ref 1), some (.int b)], [], σ)) (b2 := (7, [some (.ref 1), some (.int b)], [], σ)) (C := bz_b (f_X10_isBall b) = 0) (G := True) rfl trivial (fun h1 => ?_) (fun h1 => ?_)
  · skip
    have h1 := bz_b0 h1
    refine bz_wpn bT_X6_isDown 2 (b := (22, [some (.ref 1), some (.int b)], [.int 1], σ)) (G := True) rfl trivial ?_
    refine bz_wpr bT_X6_isDown rfl rfl (show (1 : Int32) = 0 ∨ (1 : Int32) = 1 by decide) ?_
    have e9 : f_X6_isDown_1 σ b = true := by rw [f_X6_isDown_1, if_neg (bz_ff h1)]
    exact ⟨by rw [e9]; rfl, rfl⟩
  · skip
    have h1 := bz_b1 h1
    refine bz_wpb bT_X6_isDown 6 (b1 := (21, [some (.ref 1), some (.int b)], [], σ)) (b2 := (17, [some (.ref 1), some (.int b)], [], σ)) (C := ¬ (σ.1 2 b.toNatClampNeg) = (-1)) (G := vp_in b 3 ∧ True) rfl ⟨(bz_ball h1), trivial⟩ (fun h2 => ?_) (fun h2 => ?_)
    · skip
      refine bz_wpn bT_X6_isDown 1 (b := (22, [some (.ref 1), some (.int b)], [.int 0], σ)) (G := True) rfl trivial ?_
      refine bz_wpr bT_X6_isDown rfl rfl (show (0 : Int32) = 0 ∨ (0 : Int32) = 1 by decide) ?_
      have e9 : f_X6_isDown_1 σ b = false := by rw [f_X6_isDown_1, if_pos (h1), if_neg (h2)]
      exact ⟨by rw [e9]; rfl, rfl⟩
    · skip
      refine bz_wpn bT_X6_isDown 2 (b := (22, [some (.ref 1), some (.int b)], [.int 1], σ)) (G := True) rfl trivial ?_
      refine bz_wpr bT_X6_isDown rfl rfl (show (1 : Int32) = 0 ∨ (1 : Int32) = 1 by decide) ?_
      have e9 : f_X6_isDown_1 σ b = true := by rw [f_X6_isDown_1, if_pos (h1), if_pos ((Decidable.not_not.mp h2))]
      exact ⟨by rw [e9]; rfl, rfl⟩

theorem bz_nd1 {σ : bz_S} {b : Int32} (h : f_X6_isDown_1 σ b = false) : vp_in b 3 := by
  unfold f_X6_isDown_1 at h
  split at h
  · rename_i h1
    exact bz_ball h1
  · cases h

def f_X6_cellOrNone_1 (σ : bz_S) (b : Int32) : Int32 := if f_X6_isDown_1 σ b = true then (-6) else (σ.1 2 b.toNatClampNeg)
set_option maxRecDepth 100000 in
theorem s_X6_cellOrNone_1 {X : bz_X} (σ : bz_S) (b : Int32) : bz_C bz_P X mX6_cellOrNone [.ref 1, .int b] σ (bz_pi (f_X6_cellOrNone_1 σ b) σ) := by
  show bz_wp bz_P X mX6_cellOrNone (bz_pi (f_X6_cellOrNone_1 σ b) σ) (0, [some (.ref 1), some (.int b)], [], σ)
  refine bz_wpn bT_X6_cellOrNone 2 (b := (2, [some (.ref 1), some (.int b)], [.int b, .ref 1], σ)) (G := True) rfl trivial ?_
  refine bz_wci bT_X6_cellOrNone [.ref 1, .int b] (pc' := 5) (rest := []) rfl rfl (Nat.le_of_ble_eq_true rfl) rfl (Nat.le_of_ble_eq_true rfl) rfl (s_X6_isDown_1 σ b) rfl ?_
  refine bz_wpb bT_X6_cellOrNone 1 (b1 := (13, [some (.ref 1), some (.int b)], [], σ)) (b2 := (8, [some (.ref 1), some (.int b)], [], σ)) (C := bz_b (f_X6_isDown_1 σ b) = 0) (G := True) rfl trivial (fun h1 => ?_) (fun h1 => ?_)
  · skip
    have h1 := bz_b0 h1
    refine bz_wpn bT_X6_cellOrNone 4 (b := (19, [some (.ref 1), some (.int b)], [.int (σ.1 2 b.toNatClampNeg)], σ)) (G := vp_in b 3 ∧ True) rfl ⟨(bz_nd1 h1), trivial⟩ ?_
    refine bz_wpr bT_X6_cellOrNone rfl rfl trivial ?_
    have e9 : f_X6_cellOrNone_1 σ b = (σ.1 2 b.toNatClampNeg) := by rw [f_X6_cellOrNone_1, if_neg (bz_ff h1)]
    exact ⟨by rw [e9], rfl⟩
  · skip
    have h1 := bz_b1 h1
    refine bz_wpn bT_X6_cellOrNone 2 (b := (19, [some (.ref 1), some (.int b)], [.int (-6)], σ)) (G := True) rfl trivial ?_
    refine bz_wpr bT_X6_cellOrNone rfl rfl trivial ?_
    have e9 : f_X6_cellOrNone_1 σ b = (-6) := by rw [f_X6_cellOrNone_1, if_pos (h1)]
    exact ⟨by rw [e9], rfl⟩

def f_X6_howManyDown_1 (σ : bz_S)  : Int32 := if f_X6_isDown_1 σ 0 = true then if f_X6_isDown_1 σ 1 = true then if f_X6_isDown_1 σ 2 = true then 3 else 2 else (if f_X6_isDown_1 σ 2 = true then 2 else 1) else (if f_X6_isDown_1 σ 1 = true then if f_X6_isDown_1 σ 2 = true then 2 else 1 else (if f_X6_isDown_1 σ 2 = true then 1 else 0))
set_option maxRecDepth 100000 in
theorem s_X6_howManyDown_1 {X : bz_X} (σ : bz_S) : bz_C bz_P X mX6_howManyDown [.ref 1] σ (bz_pi (f_X6_howManyDown_1 σ) σ) := by
  show bz_wp bz_P X mX6_howManyDown (bz_pi (f_X6_howManyDown_1 σ) σ) (0, [some (.ref 1), none, none], [], σ)
  refine bz_wpb bT_X6_howManyDown 7 (b1 := (26, [some (.ref 1), some (.int 0), some (.int 0)], [], σ)) (b2 := (9, [some (.ref 1), some (.int 0), some (.int 0)], [], σ)) (C := 3 ≤ (0 : Int32)) (G := True) rfl trivial (fun z => absurd z (by decide)) (fun _ => ?_)
  refine bz_wpn bT_X6_howManyDown 2 (b := (11, [some (.ref 1), some (.int 0), some (.int 0)], [.int 0, .ref 1], σ)) (G := True) rfl trivial ?_
  refine bz_wci bT_X6_howManyDown [.ref 1, .int 0] (pc' := 14) (rest := []) rfl rfl (Nat.le_of_ble_eq_true rfl) rfl (Nat.le_of_ble_eq_true rfl) rfl (s_X6_isDown_1 σ 0) rfl ?_
  refine bz_wpb bT_X6_howManyDown 1 (b1 := (20, [some (.ref 1), some (.int 0), some (.int 0)], [], σ)) (b2 := (17, [some (.ref 1), some (.int 0), some (.int 0)], [], σ)) (C := bz_b (f_X6_isDown_1 σ 0) = 0) (G := True) rfl trivial (fun h1 => ?_) (fun h1 => ?_)
  · skip
    have h1 := bz_b0 h1
    refine bz_wpb bT_X6_howManyDown 5 (b1 := (26, [some (.ref 1), some (.int 0), some (.int 1)], [], σ)) (b2 := (9, [some (.ref 1), some (.int 0), some (.int 1)], [], σ)) (C := 3 ≤ (1 : Int32)) (G := True) rfl trivial (fun z => absurd z (by decide)) (fun _ => ?_)
    refine bz_wpn bT_X6_howManyDown 2 (b := (11, [some (.ref 1), some (.int 0), some (.int 1)], [.int 1, .ref 1], σ)) (G := True) rfl trivial ?_
    refine bz_wci bT_X6_howManyDown [.ref 1, .int 1] (pc' := 14) (rest := []) rfl rfl (Nat.le_of_ble_eq_true rfl) rfl (Nat.le_of_ble_eq_true rfl) rfl (s_X6_isDown_1 σ 1) rfl ?_
    refine bz_wpb bT_X6_howManyDown 1 (b1 := (20, [some (.ref 1), some (.int 0), some (.int 1)], [], σ)) (b2 := (17, [some (.ref 1), some (.int 0), some (.int 1)], [], σ)) (C := bz_b (f_X6_isDown_1 σ 1) = 0) (G := True) rfl trivial (fun h2 => ?_) (fun h2 => ?_)
    · skip
      have h2 := bz_b0 h2
      refine bz_wpb bT_X6_howManyDown 5 (b1 := (26, [some (.ref 1), some (.int 0), some (.int 2)], [], σ)) (b2 := (9, [some (.ref 1), some (.int 0), some (.int 2)], [], σ)) (C := 3 ≤ (2 : Int32)) (G := True) rfl trivial (fun z => absurd z (by decide)) (fun _ => ?_)
      refine bz_wpn bT_X6_howManyDown 2 (b := (11, [some (.ref 1), some (.int 0), some (.int 2)], [.int 2, .ref 1], σ)) (G := True) rfl trivial ?_
      refine bz_wci bT_X6_howManyDown [.ref 1, .int 2] (pc' := 14) (rest := []) rfl rfl (Nat.le_of_ble_eq_true rfl) rfl (Nat.le_of_ble_eq_true rfl) rfl (s_X6_isDown_1 σ 2) rfl ?_
      refine bz_wpb bT_X6_howManyDown 1 (b1 := (20, [some (.ref 1), some (.int 0), some (.int 2)], [], σ)) (b2 := (17, [some (.ref 1), some (.int 0), some (.int 2)], [], σ)) (C := bz_b (f_X6_isDown_1 σ 2) = 0) (G := True) rfl trivial (fun h3 => ?_) (fun h3 => ?_)
      · skip
        have h3 := bz_b0 h3
        refine bz_wpb bT_X6_howManyDown 5 (b1 := (26, [some (.ref 1), some (.int 0), some (.int 3)], [], σ)) (b2 := (9, [some (.ref 1), some (.int 0), some (.int 3)], [], σ)) (C := 3 ≤ (3 : Int32)) (G := True) rfl trivial (fun _ => ?_) (fun z => absurd (by decide) z)
        refine bz_wpn bT_X6_howManyDown 1 (b := (27, [some (.ref 1), some (.int 0), some (.int 3)], [.int 0], σ)) (G := True) rfl trivial ?_
        refine bz_wpr bT_X6_howManyDown rfl rfl trivial ?_
        have e9 : f_X6_howManyDown_1 σ = 0 := by rw [f_X6_howManyDown_1, if_neg (bz_ff h1), if_neg (bz_ff h2), if_neg (bz_ff h3)]
        exact ⟨by rw [e9], rfl⟩
      · skip
        have h3 := bz_b1 h3
        refine bz_wpb bT_X6_howManyDown 6 (b1 := (26, [some (.ref 1), some (.int 1), some (.int 3)], [], σ)) (b2 := (9, [some (.ref 1), some (.int 1), some (.int 3)], [], σ)) (C := 3 ≤ (3 : Int32)) (G := True) rfl trivial (fun _ => ?_) (fun z => absurd (by decide) z)
        refine bz_wpn bT_X6_howManyDown 1 (b := (27, [some (.ref 1), some (.int 1), some (.int 3)], [.int 1], σ)) (G := True) rfl trivial ?_
        refine bz_wpr bT_X6_howManyDown rfl rfl trivial ?_
        have e9 : f_X6_howManyDown_1 σ = 1 := by rw [f_X6_howManyDown_1, if_neg (bz_ff h1), if_neg (bz_ff h2), if_pos (h3)]
        exact ⟨by rw [e9], rfl⟩
    · skip
      have h2 := bz_b1 h2
      refine bz_wpb bT_X6_howManyDown 6 (b1 := (26, [some (.ref 1), some (.int 1), some (.int 2)], [], σ)) (b2 := (9, [some (.ref 1), some (.int 1), some (.int 2)], [], σ)) (C := 3 ≤ (2 : Int32)) (G := True) rfl trivial (fun z => absurd z (by decide)) (fun _ => ?_)
      refine bz_wpn bT_X6_howManyDown 2 (b := (11, [some (.ref 1), some (.int 1), some (.int 2)], [.int 2, .ref 1], σ)) (G := True) rfl trivial ?_
      refine bz_wci bT_X6_howManyDown [.ref 1, .int 2] (pc' := 14) (rest := []) rfl rfl (Nat.le_of_ble_eq_true rfl) rfl (Nat.le_of_ble_eq_true rfl) rfl (s_X6_isDown_1 σ 2) rfl ?_
      refine bz_wpb bT_X6_howManyDown 1 (b1 := (20, [some (.ref 1), some (.int 1), some (.int 2)], [], σ)) (b2 := (17, [some (.ref 1), some (.int 1), some (.int 2)], [], σ)) (C := bz_b (f_X6_isDown_1 σ 2) = 0) (G := True) rfl trivial (fun h4 => ?_) (fun h4 => ?_)
      · skip
        have h4 := bz_b0 h4
        refine bz_wpb bT_X6_howManyDown 5 (b1 := (26, [some (.ref 1), some (.int 1), some (.int 3)], [], σ)) (b2 := (9, [some (.ref 1), some (.int 1), some (.int 3)], [], σ)) (C := 3 ≤ (3 : Int32)) (G := True) rfl trivial (fun _ => ?_) (fun z => absurd (by decide) z)
        refine bz_wpn bT_X6_howManyDown 1 (b := (27, [some (.ref 1), some (.int 1), some (.int 3)], [.int 1], σ)) (G := True) rfl trivial ?_
        refine bz_wpr bT_X6_howManyDown rfl rfl trivial ?_
        have e9 : f_X6_howManyDown_1 σ = 1 := by rw [f_X6_howManyDown_1, if_neg (bz_ff h1), if_pos (h2), if_neg (bz_ff h4)]
        exact ⟨by rw [e9], rfl⟩
      · skip
        have h4 := bz_b1 h4
        refine bz_wpb bT_X6_howManyDown 6 (b1 := (26, [some (.ref 1), some (.int 2), some (.int 3)], [], σ)) (b2 := (9, [some (.ref 1), some (.int 2), some (.int 3)], [], σ)) (C := 3 ≤ (3 : Int32)) (G := True) rfl trivial (fun _ => ?_) (fun z => absurd (by decide) z)
        refine bz_wpn bT_X6_howManyDown 1 (b := (27, [some (.ref 1), some (.int 2), some (.int 3)], [.int 2], σ)) (G := True) rfl trivial ?_
        refine bz_wpr bT_X6_howManyDown rfl rfl trivial ?_
        have e9 : f_X6_howManyDown_1 σ = 2 := by rw [f_X6_howManyDown_1, if_neg (bz_ff h1), if_pos (h2), if_pos (h4)]
        exact ⟨by rw [e9], rfl⟩
  · skip
    have h1 := bz_b1 h1
    refine bz_wpb bT_X6_howManyDown 6 (b1 := (26, [some (.ref 1), some (.int 1), some (.int 1)], [], σ)) (b2 := (9, [some (.ref 1), some (.int 1), some (.int 1)], [], σ)) (C := 3 ≤ (1 : Int32)) (G := True) rfl trivial (fun z => absurd z (by decide)) (fun _ => ?_)
    refine bz_wpn bT_X6_howManyDown 2 (b := (11, [some (.ref 1), some (.int 1), some (.int 1)], [.int 1, .ref 1], σ)) (G := True) rfl trivial ?_
    refine bz_wci bT_X6_howManyDown [.ref 1, .int 1] (pc' := 14) (rest := []) rfl rfl (Nat.le_of_ble_eq_true rfl) rfl (Nat.le_of_ble_eq_true rfl) rfl (s_X6_isDown_1 σ 1) rfl ?_
    refine bz_wpb bT_X6_howManyDown 1 (b1 := (20, [some (.ref 1), some (.int 1), some (.int 1)], [], σ)) (b2 := (17, [some (.ref 1), some (.int 1), some (.int 1)], [], σ)) (C := bz_b (f_X6_isDown_1 σ 1) = 0) (G := True) rfl trivial (fun h5 => ?_) (fun h5 => ?_)
    · skip
      have h5 := bz_b0 h5
      refine bz_wpb bT_X6_howManyDown 5 (b1 := (26, [some (.ref 1), some (.int 1), some (.int 2)], [], σ)) (b2 := (9, [some (.ref 1), some (.int 1), some (.int 2)], [], σ)) (C := 3 ≤ (2 : Int32)) (G := True) rfl trivial (fun z => absurd z (by decide)) (fun _ => ?_)
      refine bz_wpn bT_X6_howManyDown 2 (b := (11, [some (.ref 1), some (.int 1), some (.int 2)], [.int 2, .ref 1], σ)) (G := True) rfl trivial ?_
      refine bz_wci bT_X6_howManyDown [.ref 1, .int 2] (pc' := 14) (rest := []) rfl rfl (Nat.le_of_ble_eq_true rfl) rfl (Nat.le_of_ble_eq_true rfl) rfl (s_X6_isDown_1 σ 2) rfl ?_
      refine bz_wpb bT_X6_howManyDown 1 (b1 := (20, [some (.ref 1), some (.int 1), some (.int 2)], [], σ)) (b2 := (17, [some (.ref 1), some (.int 1), some (.int 2)], [], σ)) (C := bz_b (f_X6_isDown_1 σ 2) = 0) (G := True) rfl trivial (fun h6 => ?_) (fun h6 => ?_)
      · skip
        have h6 := bz_b0 h6
        refine bz_wpb bT_X6_howManyDown 5 (b1 := (26, [some (.ref 1), some (.int 1), some (.int 3)], [], σ)) (b2 := (9, [some (.ref 1), some (.int 1), some (.int 3)], [], σ)) (C := 3 ≤ (3 : Int32)) (G := True) rfl trivial (fun _ => ?_) (fun z => absurd (by decide) z)
        refine bz_wpn bT_X6_howManyDown 1 (b := (27, [some (.ref 1), some (.int 1), some (.int 3)], [.int 1], σ)) (G := True) rfl trivial ?_
        refine bz_wpr bT_X6_howManyDown rfl rfl trivial ?_
        have e9 : f_X6_howManyDown_1 σ = 1 := by rw [f_X6_howManyDown_1, if_pos (h1), if_neg (bz_ff h5), if_neg (bz_ff h6)]
        exact ⟨by rw [e9], rfl⟩
      · skip
        have h6 := bz_b1 h6
        refine bz_wpb bT_X6_howManyDown 6 (b1 := (26, [some (.ref 1), some (.int 2), some (.int 3)], [], σ)) (b2 := (9, [some (.ref 1), some (.int 2), some (.int 3)], [], σ)) (C := 3 ≤ (3 : Int32)) (G := True) rfl trivial (fun _ => ?_) (fun z => absurd (by decide) z)
        refine bz_wpn bT_X6_howManyDown 1 (b := (27, [some (.ref 1), some (.int 2), some (.int 3)], [.int 2], σ)) (G := True) rfl trivial ?_
        refine bz_wpr bT_X6_howManyDown rfl rfl trivial ?_
        have e9 : f_X6_howManyDown_1 σ = 2 := by rw [f_X6_howManyDown_1, if_pos (h1), if_neg (bz_ff h5), if_pos (h6)]
        exact ⟨by rw [e9], rfl⟩
    · skip
      have h5 := bz_b1 h5
      refine bz_wpb bT_X6_howManyDown 6 (b1 := (26, [some (.ref 1), some (.int 2), some (.int 2)], [], σ)) (b2 := (9, [some (.ref 1), some (.int 2), some (.int 2)], [], σ)) (C := 3 ≤ (2 : Int32)) (G := True) rfl trivial (fun z => absurd z (by decide)) (fun _ => ?_)
      refine bz_wpn bT_X6_howManyDown 2 (b := (11, [some (.ref 1), some (.int 2), some (.int 2)], [.int 2, .ref 1], σ)) (G := True) rfl trivial ?_
      refine bz_wci bT_X6_howManyDown [.ref 1, .int 2] (pc' := 14) (rest := []) rfl rfl (Nat.le_of_ble_eq_true rfl) rfl (Nat.le_of_ble_eq_true rfl) rfl (s_X6_isDown_1 σ 2) rfl ?_
      refine bz_wpb bT_X6_howManyDown 1 (b1 := (20, [some (.ref 1), some (.int 2), some (.int 2)], [], σ)) (b2 := (17, [some (.ref 1), some (.int 2), some (.int 2)], [], σ)) (C := bz_b (f_X6_isDown_1 σ 2) = 0) (G := True) rfl trivial (fun h7 => ?_) (fun h7 => ?_)
      · skip
        have h7 := bz_b0 h7
        refine bz_wpb bT_X6_howManyDown 5 (b1 := (26, [some (.ref 1), some (.int 2), some (.int 3)], [], σ)) (b2 := (9, [some (.ref 1), some (.int 2), some (.int 3)], [], σ)) (C := 3 ≤ (3 : Int32)) (G := True) rfl trivial (fun _ => ?_) (fun z => absurd (by decide) z)
        refine bz_wpn bT_X6_howManyDown 1 (b := (27, [some (.ref 1), some (.int 2), some (.int 3)], [.int 2], σ)) (G := True) rfl trivial ?_
        refine bz_wpr bT_X6_howManyDown rfl rfl trivial ?_
        have e9 : f_X6_howManyDown_1 σ = 2 := by rw [f_X6_howManyDown_1, if_pos (h1), if_pos (h5), if_neg (bz_ff h7)]
        exact ⟨by rw [e9], rfl⟩
      · skip
        have h7 := bz_b1 h7
        refine bz_wpb bT_X6_howManyDown 6 (b1 := (26, [some (.ref 1), some (.int 3), some (.int 3)], [], σ)) (b2 := (9, [some (.ref 1), some (.int 3), some (.int 3)], [], σ)) (C := 3 ≤ (3 : Int32)) (G := True) rfl trivial (fun _ => ?_) (fun z => absurd (by decide) z)
        refine bz_wpn bT_X6_howManyDown 1 (b := (27, [some (.ref 1), some (.int 3), some (.int 3)], [.int 3], σ)) (G := True) rfl trivial ?_
        refine bz_wpr bT_X6_howManyDown rfl rfl trivial ?_
        have e9 : f_X6_howManyDown_1 σ = 3 := by rw [f_X6_howManyDown_1, if_pos (h1), if_pos (h5), if_pos (h7)]
        exact ⟨by rw [e9], rfl⟩

def f_X6_lyingOn_1 (σ : bz_S) (c : Int32) : Int32 := if (σ.1 2 0) = c then 0 else (if (σ.1 2 1) = c then 1 else (if (σ.1 2 2) = c then 2 else (-1)))
set_option maxRecDepth 100000 in
theorem s_X6_lyingOn_1 {X : bz_X} (σ : bz_S) (c : Int32) : bz_C bz_P X mX6_lyingOn [.ref 1, .int c] σ (bz_pi (f_X6_lyingOn_1 σ c) σ) := by
  show bz_wp bz_P X mX6_lyingOn (bz_pi (f_X6_lyingOn_1 σ c) σ) (0, [some (.ref 1), some (.int c), none], [], σ)
  refine bz_wpb bT_X6_lyingOn 5 (b1 := (25, [some (.ref 1), some (.int c), some (.int 0)], [], σ)) (b2 := (7, [some (.ref 1), some (.int c), some (.int 0)], [], σ)) (C := 3 ≤ (0 : Int32)) (G := True) rfl trivial (fun z => absurd z (by decide)) (fun _ => ?_)
  refine bz_wpb bT_X6_lyingOn 6 (b1 := (19, [some (.ref 1), some (.int c), some (.int 0)], [], σ)) (b2 := (17, [some (.ref 1), some (.int c), some (.int 0)], [], σ)) (C := ¬ (σ.1 2 0) = c) (G := vp_in 0 3 ∧ True) rfl ⟨(bz_lit (by decide)), trivial⟩ (fun h1 => ?_) (fun h1 => ?_)
  · skip
    refine bz_wpb bT_X6_lyingOn 5 (b1 := (25, [some (.ref 1), some (.int c), some (.int 1)], [], σ)) (b2 := (7, [some (.ref 1), some (.int c), some (.int 1)], [], σ)) (C := 3 ≤ (1 : Int32)) (G := True) rfl trivial (fun z => absurd z (by decide)) (fun _ => ?_)
    refine bz_wpb bT_X6_lyingOn 6 (b1 := (19, [some (.ref 1), some (.int c), some (.int 1)], [], σ)) (b2 := (17, [some (.ref 1), some (.int c), some (.int 1)], [], σ)) (C := ¬ (σ.1 2 1) = c) (G := vp_in 1 3 ∧ True) rfl ⟨(bz_lit (by decide)), trivial⟩ (fun h2 => ?_) (fun h2 => ?_)
    · skip
      refine bz_wpb bT_X6_lyingOn 5 (b1 := (25, [some (.ref 1), some (.int c), some (.int 2)], [], σ)) (b2 := (7, [some (.ref 1), some (.int c), some (.int 2)], [], σ)) (C := 3 ≤ (2 : Int32)) (G := True) rfl trivial (fun z => absurd z (by decide)) (fun _ => ?_)
      refine bz_wpb bT_X6_lyingOn 6 (b1 := (19, [some (.ref 1), some (.int c), some (.int 2)], [], σ)) (b2 := (17, [some (.ref 1), some (.int c), some (.int 2)], [], σ)) (C := ¬ (σ.1 2 2) = c) (G := vp_in 2 3 ∧ True) rfl ⟨(bz_lit (by decide)), trivial⟩ (fun h3 => ?_) (fun h3 => ?_)
      · skip
        refine bz_wpb bT_X6_lyingOn 5 (b1 := (25, [some (.ref 1), some (.int c), some (.int 3)], [], σ)) (b2 := (7, [some (.ref 1), some (.int c), some (.int 3)], [], σ)) (C := 3 ≤ (3 : Int32)) (G := True) rfl trivial (fun _ => ?_) (fun z => absurd (by decide) z)
        refine bz_wpn bT_X6_lyingOn 1 (b := (26, [some (.ref 1), some (.int c), some (.int 3)], [.int (-1)], σ)) (G := True) rfl trivial ?_
        refine bz_wpr bT_X6_lyingOn rfl rfl trivial ?_
        have e9 : f_X6_lyingOn_1 σ c = (-1) := by rw [f_X6_lyingOn_1, if_neg (h1), if_neg (h2), if_neg (h3)]
        exact ⟨by rw [e9], rfl⟩
      · skip
        refine bz_wpn bT_X6_lyingOn 1 (b := (18, [some (.ref 1), some (.int c), some (.int 2)], [.int 2], σ)) (G := True) rfl trivial ?_
        refine bz_wpr bT_X6_lyingOn rfl rfl trivial ?_
        have e9 : f_X6_lyingOn_1 σ c = 2 := by rw [f_X6_lyingOn_1, if_neg (h1), if_neg (h2), if_pos ((Decidable.not_not.mp h3))]
        exact ⟨by rw [e9], rfl⟩
    · skip
      refine bz_wpn bT_X6_lyingOn 1 (b := (18, [some (.ref 1), some (.int c), some (.int 1)], [.int 1], σ)) (G := True) rfl trivial ?_
      refine bz_wpr bT_X6_lyingOn rfl rfl trivial ?_
      have e9 : f_X6_lyingOn_1 σ c = 1 := by rw [f_X6_lyingOn_1, if_neg (h1), if_pos ((Decidable.not_not.mp h2))]
      exact ⟨by rw [e9], rfl⟩
  · skip
    refine bz_wpn bT_X6_lyingOn 1 (b := (18, [some (.ref 1), some (.int c), some (.int 0)], [.int 0], σ)) (G := True) rfl trivial ?_
    refine bz_wpr bT_X6_lyingOn rfl rfl trivial ?_
    have e9 : f_X6_lyingOn_1 σ c = 0 := by rw [f_X6_lyingOn_1, if_pos ((Decidable.not_not.mp h1))]
    exact ⟨by rw [e9], rfl⟩

def f_X6_isDown_9 (σ : bz_S) (b : Int32) : Bool := if f_X10_isBall b = true then if (σ.1 10 b.toNatClampNeg) = (-1) then true else false else true
set_option maxRecDepth 100000 in
theorem s_X6_isDown_9 {X : bz_X} (σ : bz_S) (b : Int32) : bz_C bz_P X mX6_isDown [.ref 9, .int b] σ (bz_pi (bz_b (f_X6_isDown_9 σ b)) σ) := by
  show bz_wp bz_P X mX6_isDown (bz_pi (bz_b (f_X6_isDown_9 σ b)) σ) (0, [some (.ref 9), some (.int b)], [], σ)
  refine bz_wpn bT_X6_isDown 1 (b := (1, [some (.ref 9), some (.int b)], [.int b], σ)) (G := True) rfl trivial ?_
  refine bz_wci bT_X6_isDown [.int b] (pc' := 4) (rest := []) rfl rfl (Nat.le_of_ble_eq_true rfl) rfl (Nat.le_of_ble_eq_true rfl) rfl (s_X10_isBall σ b) rfl ?_
  refine bz_wpb bT_X6_isDown 1 (b1 := (17, [some (.ref 9), some (.int b)], [], σ)) (b2 := (7, [some (.ref 9), some (.int b)], [], σ)) (C := bz_b (f_X10_isBall b) = 0) (G := True) rfl trivial (fun h1 => ?_) (fun h1 => ?_)
  · skip
    have h1 := bz_b0 h1
    refine bz_wpn bT_X6_isDown 2 (b := (22, [some (.ref 9), some (.int b)], [.int 1], σ)) (G := True) rfl trivial ?_
    refine bz_wpr bT_X6_isDown rfl rfl (show (1 : Int32) = 0 ∨ (1 : Int32) = 1 by decide) ?_
    have e9 : f_X6_isDown_9 σ b = true := by rw [f_X6_isDown_9, if_neg (bz_ff h1)]
    exact ⟨by rw [e9]; rfl, rfl⟩
  · skip
    have h1 := bz_b1 h1
    refine bz_wpb bT_X6_isDown 6 (b1 := (21, [some (.ref 9), some (.int b)], [], σ)) (b2 := (17, [some (.ref 9), some (.int b)], [], σ)) (C := ¬ (σ.1 10 b.toNatClampNeg) = (-1)) (G := vp_in b 3 ∧ True) rfl ⟨(bz_ball h1), trivial⟩ (fun h2 => ?_) (fun h2 => ?_)
    · skip
      refine bz_wpn bT_X6_isDown 1 (b := (22, [some (.ref 9), some (.int b)], [.int 0], σ)) (G := True) rfl trivial ?_
      refine bz_wpr bT_X6_isDown rfl rfl (show (0 : Int32) = 0 ∨ (0 : Int32) = 1 by decide) ?_
      have e9 : f_X6_isDown_9 σ b = false := by rw [f_X6_isDown_9, if_pos (h1), if_neg (h2)]
      exact ⟨by rw [e9]; rfl, rfl⟩
    · skip
      refine bz_wpn bT_X6_isDown 2 (b := (22, [some (.ref 9), some (.int b)], [.int 1], σ)) (G := True) rfl trivial ?_
      refine bz_wpr bT_X6_isDown rfl rfl (show (1 : Int32) = 0 ∨ (1 : Int32) = 1 by decide) ?_
      have e9 : f_X6_isDown_9 σ b = true := by rw [f_X6_isDown_9, if_pos (h1), if_pos ((Decidable.not_not.mp h2))]
      exact ⟨by rw [e9]; rfl, rfl⟩

theorem bz_nd9 {σ : bz_S} {b : Int32} (h : f_X6_isDown_9 σ b = false) : vp_in b 3 := by
  unfold f_X6_isDown_9 at h
  split at h
  · rename_i h1
    exact bz_ball h1
  · cases h

def f_X6_cellOrNone_9 (σ : bz_S) (b : Int32) : Int32 := if f_X6_isDown_9 σ b = true then (-6) else (σ.1 10 b.toNatClampNeg)
set_option maxRecDepth 100000 in
theorem s_X6_cellOrNone_9 {X : bz_X} (σ : bz_S) (b : Int32) : bz_C bz_P X mX6_cellOrNone [.ref 9, .int b] σ (bz_pi (f_X6_cellOrNone_9 σ b) σ) := by
  show bz_wp bz_P X mX6_cellOrNone (bz_pi (f_X6_cellOrNone_9 σ b) σ) (0, [some (.ref 9), some (.int b)], [], σ)
  refine bz_wpn bT_X6_cellOrNone 2 (b := (2, [some (.ref 9), some (.int b)], [.int b, .ref 9], σ)) (G := True) rfl trivial ?_
  refine bz_wci bT_X6_cellOrNone [.ref 9, .int b] (pc' := 5) (rest := []) rfl rfl (Nat.le_of_ble_eq_true rfl) rfl (Nat.le_of_ble_eq_true rfl) rfl (s_X6_isDown_9 σ b) rfl ?_
  refine bz_wpb bT_X6_cellOrNone 1 (b1 := (13, [some (.ref 9), some (.int b)], [], σ)) (b2 := (8, [some (.ref 9), some (.int b)], [], σ)) (C := bz_b (f_X6_isDown_9 σ b) = 0) (G := True) rfl trivial (fun h1 => ?_) (fun h1 => ?_)
  · skip
    have h1 := bz_b0 h1
    refine bz_wpn bT_X6_cellOrNone 4 (b := (19, [some (.ref 9), some (.int b)], [.int (σ.1 10 b.toNatClampNeg)], σ)) (G := vp_in b 3 ∧ True) rfl ⟨(bz_nd9 h1), trivial⟩ ?_
    refine bz_wpr bT_X6_cellOrNone rfl rfl trivial ?_
    have e9 : f_X6_cellOrNone_9 σ b = (σ.1 10 b.toNatClampNeg) := by rw [f_X6_cellOrNone_9, if_neg (bz_ff h1)]
    exact ⟨by rw [e9], rfl⟩
  · skip
    have h1 := bz_b1 h1
    refine bz_wpn bT_X6_cellOrNone 2 (b := (19, [some (.ref 9), some (.int b)], [.int (-6)], σ)) (G := True) rfl trivial ?_
    refine bz_wpr bT_X6_cellOrNone rfl rfl trivial ?_
    have e9 : f_X6_cellOrNone_9 σ b = (-6) := by rw [f_X6_cellOrNone_9, if_pos (h1)]
    exact ⟨by rw [e9], rfl⟩

def f_X6_howManyDown_9 (σ : bz_S)  : Int32 := if f_X6_isDown_9 σ 0 = true then if f_X6_isDown_9 σ 1 = true then if f_X6_isDown_9 σ 2 = true then 3 else 2 else (if f_X6_isDown_9 σ 2 = true then 2 else 1) else (if f_X6_isDown_9 σ 1 = true then if f_X6_isDown_9 σ 2 = true then 2 else 1 else (if f_X6_isDown_9 σ 2 = true then 1 else 0))
set_option maxRecDepth 100000 in
theorem s_X6_howManyDown_9 {X : bz_X} (σ : bz_S) : bz_C bz_P X mX6_howManyDown [.ref 9] σ (bz_pi (f_X6_howManyDown_9 σ) σ) := by
  show bz_wp bz_P X mX6_howManyDown (bz_pi (f_X6_howManyDown_9 σ) σ) (0, [some (.ref 9), none, none], [], σ)
  refine bz_wpb bT_X6_howManyDown 7 (b1 := (26, [some (.ref 9), some (.int 0), some (.int 0)], [], σ)) (b2 := (9, [some (.ref 9), some (.int 0), some (.int 0)], [], σ)) (C := 3 ≤ (0 : Int32)) (G := True) rfl trivial (fun z => absurd z (by decide)) (fun _ => ?_)
  refine bz_wpn bT_X6_howManyDown 2 (b := (11, [some (.ref 9), some (.int 0), some (.int 0)], [.int 0, .ref 9], σ)) (G := True) rfl trivial ?_
  refine bz_wci bT_X6_howManyDown [.ref 9, .int 0] (pc' := 14) (rest := []) rfl rfl (Nat.le_of_ble_eq_true rfl) rfl (Nat.le_of_ble_eq_true rfl) rfl (s_X6_isDown_9 σ 0) rfl ?_
  refine bz_wpb bT_X6_howManyDown 1 (b1 := (20, [some (.ref 9), some (.int 0), some (.int 0)], [], σ)) (b2 := (17, [some (.ref 9), some (.int 0), some (.int 0)], [], σ)) (C := bz_b (f_X6_isDown_9 σ 0) = 0) (G := True) rfl trivial (fun h1 => ?_) (fun h1 => ?_)
  · skip
    have h1 := bz_b0 h1
    refine bz_wpb bT_X6_howManyDown 5 (b1 := (26, [some (.ref 9), some (.int 0), some (.int 1)], [], σ)) (b2 := (9, [some (.ref 9), some (.int 0), some (.int 1)], [], σ)) (C := 3 ≤ (1 : Int32)) (G := True) rfl trivial (fun z => absurd z (by decide)) (fun _ => ?_)
    refine bz_wpn bT_X6_howManyDown 2 (b := (11, [some (.ref 9), some (.int 0), some (.int 1)], [.int 1, .ref 9], σ)) (G := True) rfl trivial ?_
    refine bz_wci bT_X6_howManyDown [.ref 9, .int 1] (pc' := 14) (rest := []) rfl rfl (Nat.le_of_ble_eq_true rfl) rfl (Nat.le_of_ble_eq_true rfl) rfl (s_X6_isDown_9 σ 1) rfl ?_
    refine bz_wpb bT_X6_howManyDown 1 (b1 := (20, [some (.ref 9), some (.int 0), some (.int 1)], [], σ)) (b2 := (17, [some (.ref 9), some (.int 0), some (.int 1)], [], σ)) (C := bz_b (f_X6_isDown_9 σ 1) = 0) (G := True) rfl trivial (fun h2 => ?_) (fun h2 => ?_)
    · skip
      have h2 := bz_b0 h2
      refine bz_wpb bT_X6_howManyDown 5 (b1 := (26, [some (.ref 9), some (.int 0), some (.int 2)], [], σ)) (b2 := (9, [some (.ref 9), some (.int 0), some (.int 2)], [], σ)) (C := 3 ≤ (2 : Int32)) (G := True) rfl trivial (fun z => absurd z (by decide)) (fun _ => ?_)
      refine bz_wpn bT_X6_howManyDown 2 (b := (11, [some (.ref 9), some (.int 0), some (.int 2)], [.int 2, .ref 9], σ)) (G := True) rfl trivial ?_
      refine bz_wci bT_X6_howManyDown [.ref 9, .int 2] (pc' := 14) (rest := []) rfl rfl (Nat.le_of_ble_eq_true rfl) rfl (Nat.le_of_ble_eq_true rfl) rfl (s_X6_isDown_9 σ 2) rfl ?_
      refine bz_wpb bT_X6_howManyDown 1 (b1 := (20, [some (.ref 9), some (.int 0), some (.int 2)], [], σ)) (b2 := (17, [some (.ref 9), some (.int 0), some (.int 2)], [], σ)) (C := bz_b (f_X6_isDown_9 σ 2) = 0) (G := True) rfl trivial (fun h3 => ?_) (fun h3 => ?_)
      · skip
        have h3 := bz_b0 h3
        refine bz_wpb bT_X6_howManyDown 5 (b1 := (26, [some (.ref 9), some (.int 0), some (.int 3)], [], σ)) (b2 := (9, [some (.ref 9), some (.int 0), some (.int 3)], [], σ)) (C := 3 ≤ (3 : Int32)) (G := True) rfl trivial (fun _ => ?_) (fun z => absurd (by decide) z)
        refine bz_wpn bT_X6_howManyDown 1 (b := (27, [some (.ref 9), some (.int 0), some (.int 3)], [.int 0], σ)) (G := True) rfl trivial ?_
        refine bz_wpr bT_X6_howManyDown rfl rfl trivial ?_
        have e9 : f_X6_howManyDown_9 σ = 0 := by rw [f_X6_howManyDown_9, if_neg (bz_ff h1), if_neg (bz_ff h2), if_neg (bz_ff h3)]
        exact ⟨by rw [e9], rfl⟩
      · skip
        have h3 := bz_b1 h3
        refine bz_wpb bT_X6_howManyDown 6 (b1 := (26, [some (.ref 9), some (.int 1), some (.int 3)], [], σ)) (b2 := (9, [some (.ref 9), some (.int 1), some (.int 3)], [], σ)) (C := 3 ≤ (3 : Int32)) (G := True) rfl trivial (fun _ => ?_) (fun z => absurd (by decide) z)
        refine bz_wpn bT_X6_howManyDown 1 (b := (27, [some (.ref 9), some (.int 1), some (.int 3)], [.int 1], σ)) (G := True) rfl trivial ?_
        refine bz_wpr bT_X6_howManyDown rfl rfl trivial ?_
        have e9 : f_X6_howManyDown_9 σ = 1 := by rw [f_X6_howManyDown_9, if_neg (bz_ff h1), if_neg (bz_ff h2), if_pos (h3)]
        exact ⟨by rw [e9], rfl⟩
    · skip
      have h2 := bz_b1 h2
      refine bz_wpb bT_X6_howManyDown 6 (b1 := (26, [some (.ref 9), some (.int 1), some (.int 2)], [], σ)) (b2 := (9, [some (.ref 9), some (.int 1), some (.int 2)], [], σ)) (C := 3 ≤ (2 : Int32)) (G := True) rfl trivial (fun z => absurd z (by decide)) (fun _ => ?_)
      refine bz_wpn bT_X6_howManyDown 2 (b := (11, [some (.ref 9), some (.int 1), some (.int 2)], [.int 2, .ref 9], σ)) (G := True) rfl trivial ?_
      refine bz_wci bT_X6_howManyDown [.ref 9, .int 2] (pc' := 14) (rest := []) rfl rfl (Nat.le_of_ble_eq_true rfl) rfl (Nat.le_of_ble_eq_true rfl) rfl (s_X6_isDown_9 σ 2) rfl ?_
      refine bz_wpb bT_X6_howManyDown 1 (b1 := (20, [some (.ref 9), some (.int 1), some (.int 2)], [], σ)) (b2 := (17, [some (.ref 9), some (.int 1), some (.int 2)], [], σ)) (C := bz_b (f_X6_isDown_9 σ 2) = 0) (G := True) rfl trivial (fun h4 => ?_) (fun h4 => ?_)
      · skip
        have h4 := bz_b0 h4
        refine bz_wpb bT_X6_howManyDown 5 (b1 := (26, [some (.ref 9), some (.int 1), some (.int 3)], [], σ)) (b2 := (9, [some (.ref 9), some (.int 1), some (.int 3)], [], σ)) (C := 3 ≤ (3 : Int32)) (G := True) rfl trivial (fun _ => ?_) (fun z => absurd (by decide) z)
        refine bz_wpn bT_X6_howManyDown 1 (b := (27, [some (.ref 9), some (.int 1), some (.int 3)], [.int 1], σ)) (G := True) rfl trivial ?_
        refine bz_wpr bT_X6_howManyDown rfl rfl trivial ?_
        have e9 : f_X6_howManyDown_9 σ = 1 := by rw [f_X6_howManyDown_9, if_neg (bz_ff h1), if_pos (h2), if_neg (bz_ff h4)]
        exact ⟨by rw [e9], rfl⟩
      · skip
        have h4 := bz_b1 h4
        refine bz_wpb bT_X6_howManyDown 6 (b1 := (26, [some (.ref 9), some (.int 2), some (.int 3)], [], σ)) (b2 := (9, [some (.ref 9), some (.int 2), some (.int 3)], [], σ)) (C := 3 ≤ (3 : Int32)) (G := True) rfl trivial (fun _ => ?_) (fun z => absurd (by decide) z)
        refine bz_wpn bT_X6_howManyDown 1 (b := (27, [some (.ref 9), some (.int 2), some (.int 3)], [.int 2], σ)) (G := True) rfl trivial ?_
        refine bz_wpr bT_X6_howManyDown rfl rfl trivial ?_
        have e9 : f_X6_howManyDown_9 σ = 2 := by rw [f_X6_howManyDown_9, if_neg (bz_ff h1), if_pos (h2), if_pos (h4)]
        exact ⟨by rw [e9], rfl⟩
  · skip
    have h1 := bz_b1 h1
    refine bz_wpb bT_X6_howManyDown 6 (b1 := (26, [some (.ref 9), some (.int 1), some (.int 1)], [], σ)) (b2 := (9, [some (.ref 9), some (.int 1), some (.int 1)], [], σ)) (C := 3 ≤ (1 : Int32)) (G := True) rfl trivial (fun z => absurd z (by decide)) (fun _ => ?_)
    refine bz_wpn bT_X6_howManyDown 2 (b := (11, [some (.ref 9), some (.int 1), some (.int 1)], [.int 1, .ref 9], σ)) (G := True) rfl trivial ?_
    refine bz_wci bT_X6_howManyDown [.ref 9, .int 1] (pc' := 14) (rest := []) rfl rfl (Nat.le_of_ble_eq_true rfl) rfl (Nat.le_of_ble_eq_true rfl) rfl (s_X6_isDown_9 σ 1) rfl ?_
    refine bz_wpb bT_X6_howManyDown 1 (b1 := (20, [some (.ref 9), some (.int 1), some (.int 1)], [], σ)) (b2 := (17, [some (.ref 9), some (.int 1), some (.int 1)], [], σ)) (C := bz_b (f_X6_isDown_9 σ 1) = 0) (G := True) rfl trivial (fun h5 => ?_) (fun h5 => ?_)
    · skip
      have h5 := bz_b0 h5
      refine bz_wpb bT_X6_howManyDown 5 (b1 := (26, [some (.ref 9), some (.int 1), some (.int 2)], [], σ)) (b2 := (9, [some (.ref 9), some (.int 1), some (.int 2)], [], σ)) (C := 3 ≤ (2 : Int32)) (G := True) rfl trivial (fun z => absurd z (by decide)) (fun _ => ?_)
      refine bz_wpn bT_X6_howManyDown 2 (b := (11, [some (.ref 9), some (.int 1), some (.int 2)], [.int 2, .ref 9], σ)) (G := True) rfl trivial ?_
      refine bz_wci bT_X6_howManyDown [.ref 9, .int 2] (pc' := 14) (rest := []) rfl rfl (Nat.le_of_ble_eq_true rfl) rfl (Nat.le_of_ble_eq_true rfl) rfl (s_X6_isDown_9 σ 2) rfl ?_
      refine bz_wpb bT_X6_howManyDown 1 (b1 := (20, [some (.ref 9), some (.int 1), some (.int 2)], [], σ)) (b2 := (17, [some (.ref 9), some (.int 1), some (.int 2)], [], σ)) (C := bz_b (f_X6_isDown_9 σ 2) = 0) (G := True) rfl trivial (fun h6 => ?_) (fun h6 => ?_)
      · skip
        have h6 := bz_b0 h6
        refine bz_wpb bT_X6_howManyDown 5 (b1 := (26, [some (.ref 9), some (.int 1), some (.int 3)], [], σ)) (b2 := (9, [some (.ref 9), some (.int 1), some (.int 3)], [], σ)) (C := 3 ≤ (3 : Int32)) (G := True) rfl trivial (fun _ => ?_) (fun z => absurd (by decide) z)
        refine bz_wpn bT_X6_howManyDown 1 (b := (27, [some (.ref 9), some (.int 1), some (.int 3)], [.int 1], σ)) (G := True) rfl trivial ?_
        refine bz_wpr bT_X6_howManyDown rfl rfl trivial ?_
        have e9 : f_X6_howManyDown_9 σ = 1 := by rw [f_X6_howManyDown_9, if_pos (h1), if_neg (bz_ff h5), if_neg (bz_ff h6)]
        exact ⟨by rw [e9], rfl⟩
      · skip
        have h6 := bz_b1 h6
        refine bz_wpb bT_X6_howManyDown 6 (b1 := (26, [some (.ref 9), some (.int 2), some (.int 3)], [], σ)) (b2 := (9, [some (.ref 9), some (.int 2), some (.int 3)], [], σ)) (C := 3 ≤ (3 : Int32)) (G := True) rfl trivial (fun _ => ?_) (fun z => absurd (by decide) z)
        refine bz_wpn bT_X6_howManyDown 1 (b := (27, [some (.ref 9), some (.int 2), some (.int 3)], [.int 2], σ)) (G := True) rfl trivial ?_
        refine bz_wpr bT_X6_howManyDown rfl rfl trivial ?_
        have e9 : f_X6_howManyDown_9 σ = 2 := by rw [f_X6_howManyDown_9, if_pos (h1), if_neg (bz_ff h5), if_pos (h6)]
        exact ⟨by rw [e9], rfl⟩
    · skip
      have h5 := bz_b1 h5
      refine bz_wpb bT_X6_howManyDown 6 (b1 := (26, [some (.ref 9), some (.int 2), some (.int 2)], [], σ)) (b2 := (9, [some (.ref 9), some (.int 2), some (.int 2)], [], σ)) (C := 3 ≤ (2 : Int32)) (G := True) rfl trivial (fun z => absurd z (by decide)) (fun _ => ?_)
      refine bz_wpn bT_X6_howManyDown 2 (b := (11, [some (.ref 9), some (.int 2), some (.int 2)], [.int 2, .ref 9], σ)) (G := True) rfl trivial ?_
      refine bz_wci bT_X6_howManyDown [.ref 9, .int 2] (pc' := 14) (rest := []) rfl rfl (Nat.le_of_ble_eq_true rfl) rfl (Nat.le_of_ble_eq_true rfl) rfl (s_X6_isDown_9 σ 2) rfl ?_
      refine bz_wpb bT_X6_howManyDown 1 (b1 := (20, [some (.ref 9), some (.int 2), some (.int 2)], [], σ)) (b2 := (17, [some (.ref 9), some (.int 2), some (.int 2)], [], σ)) (C := bz_b (f_X6_isDown_9 σ 2) = 0) (G := True) rfl trivial (fun h7 => ?_) (fun h7 => ?_)
      · skip
        have h7 := bz_b0 h7
        refine bz_wpb bT_X6_howManyDown 5 (b1 := (26, [some (.ref 9), some (.int 2), some (.int 3)], [], σ)) (b2 := (9, [some (.ref 9), some (.int 2), some (.int 3)], [], σ)) (C := 3 ≤ (3 : Int32)) (G := True) rfl trivial (fun _ => ?_) (fun z => absurd (by decide) z)
        refine bz_wpn bT_X6_howManyDown 1 (b := (27, [some (.ref 9), some (.int 2), some (.int 3)], [.int 2], σ)) (G := True) rfl trivial ?_
        refine bz_wpr bT_X6_howManyDown rfl rfl trivial ?_
        have e9 : f_X6_howManyDown_9 σ = 2 := by rw [f_X6_howManyDown_9, if_pos (h1), if_pos (h5), if_neg (bz_ff h7)]
        exact ⟨by rw [e9], rfl⟩
      · skip
        have h7 := bz_b1 h7
        refine bz_wpb bT_X6_howManyDown 6 (b1 := (26, [some (.ref 9), some (.int 3), some (.int 3)], [], σ)) (b2 := (9, [some (.ref 9), some (.int 3), some (.int 3)], [], σ)) (C := 3 ≤ (3 : Int32)) (G := True) rfl trivial (fun _ => ?_) (fun z => absurd (by decide) z)
        refine bz_wpn bT_X6_howManyDown 1 (b := (27, [some (.ref 9), some (.int 3), some (.int 3)], [.int 3], σ)) (G := True) rfl trivial ?_
        refine bz_wpr bT_X6_howManyDown rfl rfl trivial ?_
        have e9 : f_X6_howManyDown_9 σ = 3 := by rw [f_X6_howManyDown_9, if_pos (h1), if_pos (h5), if_pos (h7)]
        exact ⟨by rw [e9], rfl⟩

def f_X6_lyingOn_9 (σ : bz_S) (c : Int32) : Int32 := if (σ.1 10 0) = c then 0 else (if (σ.1 10 1) = c then 1 else (if (σ.1 10 2) = c then 2 else (-1)))
set_option maxRecDepth 100000 in
theorem s_X6_lyingOn_9 {X : bz_X} (σ : bz_S) (c : Int32) : bz_C bz_P X mX6_lyingOn [.ref 9, .int c] σ (bz_pi (f_X6_lyingOn_9 σ c) σ) := by
  show bz_wp bz_P X mX6_lyingOn (bz_pi (f_X6_lyingOn_9 σ c) σ) (0, [some (.ref 9), some (.int c), none], [], σ)
  refine bz_wpb bT_X6_lyingOn 5 (b1 := (25, [some (.ref 9), some (.int c), some (.int 0)], [], σ)) (b2 := (7, [some (.ref 9), some (.int c), some (.int 0)], [], σ)) (C := 3 ≤ (0 : Int32)) (G := True) rfl trivial (fun z => absurd z (by decide)) (fun _ => ?_)
  refine bz_wpb bT_X6_lyingOn 6 (b1 := (19, [some (.ref 9), some (.int c), some (.int 0)], [], σ)) (b2 := (17, [some (.ref 9), some (.int c), some (.int 0)], [], σ)) (C := ¬ (σ.1 10 0) = c) (G := vp_in 0 3 ∧ True) rfl ⟨(bz_lit (by decide)), trivial⟩ (fun h1 => ?_) (fun h1 => ?_)
  · skip
    refine bz_wpb bT_X6_lyingOn 5 (b1 := (25, [some (.ref 9), some (.int c), some (.int 1)], [], σ)) (b2 := (7, [some (.ref 9), some (.int c), some (.int 1)], [], σ)) (C := 3 ≤ (1 : Int32)) (G := True) rfl trivial (fun z => absurd z (by decide)) (fun _ => ?_)
    refine bz_wpb bT_X6_lyingOn 6 (b1 := (19, [some (.ref 9), some (.int c), some (.int 1)], [], σ)) (b2 := (17, [some (.ref 9), some (.int c), some (.int 1)], [], σ)) (C := ¬ (σ.1 10 1) = c) (G := vp_in 1 3 ∧ True) rfl ⟨(bz_lit (by decide)), trivial⟩ (fun h2 => ?_) (fun h2 => ?_)
    · skip
      refine bz_wpb bT_X6_lyingOn 5 (b1 := (25, [some (.ref 9), some (.int c), some (.int 2)], [], σ)) (b2 := (7, [some (.ref 9), some (.int c), some (.int 2)], [], σ)) (C := 3 ≤ (2 : Int32)) (G := True) rfl trivial (fun z => absurd z (by decide)) (fun _ => ?_)
      refine bz_wpb bT_X6_lyingOn 6 (b1 := (19, [some (.ref 9), some (.int c), some (.int 2)], [], σ)) (b2 := (17, [some (.ref 9), some (.int c), some (.int 2)], [], σ)) (C := ¬ (σ.1 10 2) = c) (G := vp_in 2 3 ∧ True) rfl ⟨(bz_lit (by decide)), trivial⟩ (fun h3 => ?_) (fun h3 => ?_)
      · skip
        refine bz_wpb bT_X6_lyingOn 5 (b1 := (25, [some (.ref 9), some (.int c), some (.int 3)], [], σ)) (b2 := (7, [some (.ref 9), some (.int c), some (.int 3)], [], σ)) (C := 3 ≤ (3 : Int32)) (G := True) rfl trivial (fun _ => ?_) (fun z => absurd (by decide) z)
        refine bz_wpn bT_X6_lyingOn 1 (b := (26, [some (.ref 9), some (.int c), some (.int 3)], [.int (-1)], σ)) (G := True) rfl trivial ?_
        refine bz_wpr bT_X6_lyingOn rfl rfl trivial ?_
        have e9 : f_X6_lyingOn_9 σ c = (-1) := by rw [f_X6_lyingOn_9, if_neg (h1), if_neg (h2), if_neg (h3)]
        exact ⟨by rw [e9], rfl⟩
      · skip
        refine bz_wpn bT_X6_lyingOn 1 (b := (18, [some (.ref 9), some (.int c), some (.int 2)], [.int 2], σ)) (G := True) rfl trivial ?_
        refine bz_wpr bT_X6_lyingOn rfl rfl trivial ?_
        have e9 : f_X6_lyingOn_9 σ c = 2 := by rw [f_X6_lyingOn_9, if_neg (h1), if_neg (h2), if_pos ((Decidable.not_not.mp h3))]
        exact ⟨by rw [e9], rfl⟩
    · skip
      refine bz_wpn bT_X6_lyingOn 1 (b := (18, [some (.ref 9), some (.int c), some (.int 1)], [.int 1], σ)) (G := True) rfl trivial ?_
      refine bz_wpr bT_X6_lyingOn rfl rfl trivial ?_
      have e9 : f_X6_lyingOn_9 σ c = 1 := by rw [f_X6_lyingOn_9, if_neg (h1), if_pos ((Decidable.not_not.mp h2))]
      exact ⟨by rw [e9], rfl⟩
  · skip
    refine bz_wpn bT_X6_lyingOn 1 (b := (18, [some (.ref 9), some (.int c), some (.int 0)], [.int 0], σ)) (G := True) rfl trivial ?_
    refine bz_wpr bT_X6_lyingOn rfl rfl trivial ?_
    have e9 : f_X6_lyingOn_9 σ c = 0 := by rw [f_X6_lyingOn_9, if_pos ((Decidable.not_not.mp h1))]
    exact ⟨by rw [e9], rfl⟩

def f_X6_copy_9_1 (σ : bz_S)  : bz_S := ((bz_up (bz_up (bz_up (bz_up (bz_up (bz_up σ.1 10 0 (σ.1 2 0)) 10 1 (σ.1 2 1)) 10 2 (σ.1 2 2)) 9 1 (σ.1 1 1)) 9 2 (σ.1 1 2)) 9 3 (σ.1 1 3)), σ.2)
set_option maxRecDepth 100000 in
theorem s_X6_copy_9_1 {X : bz_X} (σ : bz_S) : bz_C bz_P X mX6_copy [.ref 9, .ref 1] σ (bz_pv (f_X6_copy_9_1 σ)) := by
  show bz_wp bz_P X mX6_copy (bz_pv (f_X6_copy_9_1 σ)) (0, [some (.ref 9), some (.ref 1), none], [], σ)
  refine bz_wpb bT_X6_copy 5 (b1 := (25, [some (.ref 9), some (.ref 1), some (.int 0)], [], σ)) (b2 := (7, [some (.ref 9), some (.ref 1), some (.int 0)], [], σ)) (C := 3 ≤ (0 : Int32)) (G := True) rfl trivial (fun z => absurd z (by decide)) (fun _ => ?_)
  refine bz_wpb bT_X6_copy 13 (b1 := (25, [some (.ref 9), some (.ref 1), some (.int 1)], [], ((bz_up σ.1 10 0 (σ.1 2 0)), σ.2))) (b2 := (7, [some (.ref 9), some (.ref 1), some (.int 1)], [], ((bz_up σ.1 10 0 (σ.1 2 0)), σ.2))) (C := 3 ≤ (1 : Int32)) (G := vp_in 0 3 ∧ vp_in 0 3 ∧ True) rfl ⟨(bz_lit (by decide)), (bz_lit (by decide)), trivial⟩ (fun z => absurd z (by decide)) (fun _ => ?_)
  refine bz_wpb bT_X6_copy 13 (b1 := (25, [some (.ref 9), some (.ref 1), some (.int 2)], [], ((bz_up (bz_up σ.1 10 0 (σ.1 2 0)) 10 1 (σ.1 2 1)), σ.2))) (b2 := (7, [some (.ref 9), some (.ref 1), some (.int 2)], [], ((bz_up (bz_up σ.1 10 0 (σ.1 2 0)) 10 1 (σ.1 2 1)), σ.2))) (C := 3 ≤ (2 : Int32)) (G := vp_in 1 3 ∧ vp_in 1 3 ∧ True) rfl ⟨(bz_lit (by decide)), (bz_lit (by decide)), trivial⟩ (fun z => absurd z (by decide)) (fun _ => ?_)
  refine bz_wpb bT_X6_copy 13 (b1 := (25, [some (.ref 9), some (.ref 1), some (.int 3)], [], ((bz_up (bz_up (bz_up σ.1 10 0 (σ.1 2 0)) 10 1 (σ.1 2 1)) 10 2 (σ.1 2 2)), σ.2))) (b2 := (7, [some (.ref 9), some (.ref 1), some (.int 3)], [], ((bz_up (bz_up (bz_up σ.1 10 0 (σ.1 2 0)) 10 1 (σ.1 2 1)) 10 2 (σ.1 2 2)), σ.2))) (C := 3 ≤ (3 : Int32)) (G := vp_in 2 3 ∧ vp_in 2 3 ∧ True) rfl ⟨(bz_lit (by decide)), (bz_lit (by decide)), trivial⟩ (fun _ => ?_) (fun z => absurd (by decide) z)
  refine bz_wpn bT_X6_copy 12 (b := (49, [some (.ref 9), some (.ref 1), some (.int 3)], [], ((bz_up (bz_up (bz_up (bz_up (bz_up (bz_up σ.1 10 0 (σ.1 2 0)) 10 1 (σ.1 2 1)) 10 2 (σ.1 2 2)) 9 1 (σ.1 1 1)) 9 2 (σ.1 1 2)) 9 3 (σ.1 1 3)), σ.2))) (G := True) rfl trivial ?_
  refine bz_wpr bT_X6_copy rfl rfl trivial ?_
  have e9 : f_X6_copy_9_1 σ = ((bz_up (bz_up (bz_up (bz_up (bz_up (bz_up σ.1 10 0 (σ.1 2 0)) 10 1 (σ.1 2 1)) 10 2 (σ.1 2 2)) 9 1 (σ.1 1 1)) 9 2 (σ.1 1 2)) 9 3 (σ.1 1 3)), σ.2) := by rw [f_X6_copy_9_1]
  exact ⟨rfl, by rw [e9]⟩
theorem rf_X6_copy_9_1 (σ : bz_S)  : bz_fr [9, 10] σ (f_X6_copy_9_1 σ) := by
  unfold f_X6_copy_9_1
  exact ⟨(bz_f1_up (bz_f1_up (bz_f1_up (bz_f1_up (bz_f1_up (bz_f1_up (bz_fr_rf).1 (by decide)) (by decide)) (by decide)) (by decide)) (by decide)) (by decide)), (bz_fr_rf).2⟩

def f_X6_copy_1_9 (σ : bz_S)  : bz_S := ((bz_up (bz_up (bz_up (bz_up (bz_up (bz_up σ.1 2 0 (σ.1 10 0)) 2 1 (σ.1 10 1)) 2 2 (σ.1 10 2)) 1 1 (σ.1 9 1)) 1 2 (σ.1 9 2)) 1 3 (σ.1 9 3)), σ.2)
set_option maxRecDepth 100000 in
theorem s_X6_copy_1_9 {X : bz_X} (σ : bz_S) : bz_C bz_P X mX6_copy [.ref 1, .ref 9] σ (bz_pv (f_X6_copy_1_9 σ)) := by
  show bz_wp bz_P X mX6_copy (bz_pv (f_X6_copy_1_9 σ)) (0, [some (.ref 1), some (.ref 9), none], [], σ)
  refine bz_wpb bT_X6_copy 5 (b1 := (25, [some (.ref 1), some (.ref 9), some (.int 0)], [], σ)) (b2 := (7, [some (.ref 1), some (.ref 9), some (.int 0)], [], σ)) (C := 3 ≤ (0 : Int32)) (G := True) rfl trivial (fun z => absurd z (by decide)) (fun _ => ?_)
  refine bz_wpb bT_X6_copy 13 (b1 := (25, [some (.ref 1), some (.ref 9), some (.int 1)], [], ((bz_up σ.1 2 0 (σ.1 10 0)), σ.2))) (b2 := (7, [some (.ref 1), some (.ref 9), some (.int 1)], [], ((bz_up σ.1 2 0 (σ.1 10 0)), σ.2))) (C := 3 ≤ (1 : Int32)) (G := vp_in 0 3 ∧ vp_in 0 3 ∧ True) rfl ⟨(bz_lit (by decide)), (bz_lit (by decide)), trivial⟩ (fun z => absurd z (by decide)) (fun _ => ?_)
  refine bz_wpb bT_X6_copy 13 (b1 := (25, [some (.ref 1), some (.ref 9), some (.int 2)], [], ((bz_up (bz_up σ.1 2 0 (σ.1 10 0)) 2 1 (σ.1 10 1)), σ.2))) (b2 := (7, [some (.ref 1), some (.ref 9), some (.int 2)], [], ((bz_up (bz_up σ.1 2 0 (σ.1 10 0)) 2 1 (σ.1 10 1)), σ.2))) (C := 3 ≤ (2 : Int32)) (G := vp_in 1 3 ∧ vp_in 1 3 ∧ True) rfl ⟨(bz_lit (by decide)), (bz_lit (by decide)), trivial⟩ (fun z => absurd z (by decide)) (fun _ => ?_)
  refine bz_wpb bT_X6_copy 13 (b1 := (25, [some (.ref 1), some (.ref 9), some (.int 3)], [], ((bz_up (bz_up (bz_up σ.1 2 0 (σ.1 10 0)) 2 1 (σ.1 10 1)) 2 2 (σ.1 10 2)), σ.2))) (b2 := (7, [some (.ref 1), some (.ref 9), some (.int 3)], [], ((bz_up (bz_up (bz_up σ.1 2 0 (σ.1 10 0)) 2 1 (σ.1 10 1)) 2 2 (σ.1 10 2)), σ.2))) (C := 3 ≤ (3 : Int32)) (G := vp_in 2 3 ∧ vp_in 2 3 ∧ True) rfl ⟨(bz_lit (by decide)), (bz_lit (by decide)), trivial⟩ (fun _ => ?_) (fun z => absurd (by decide) z)
  refine bz_wpn bT_X6_copy 12 (b := (49, [some (.ref 1), some (.ref 9), some (.int 3)], [], ((bz_up (bz_up (bz_up (bz_up (bz_up (bz_up σ.1 2 0 (σ.1 10 0)) 2 1 (σ.1 10 1)) 2 2 (σ.1 10 2)) 1 1 (σ.1 9 1)) 1 2 (σ.1 9 2)) 1 3 (σ.1 9 3)), σ.2))) (G := True) rfl trivial ?_
  refine bz_wpr bT_X6_copy rfl rfl trivial ?_
  have e9 : f_X6_copy_1_9 σ = ((bz_up (bz_up (bz_up (bz_up (bz_up (bz_up σ.1 2 0 (σ.1 10 0)) 2 1 (σ.1 10 1)) 2 2 (σ.1 10 2)) 1 1 (σ.1 9 1)) 1 2 (σ.1 9 2)) 1 3 (σ.1 9 3)), σ.2) := by rw [f_X6_copy_1_9]
  exact ⟨rfl, by rw [e9]⟩
theorem rf_X6_copy_1_9 (σ : bz_S)  : bz_fr [1, 2] σ (f_X6_copy_1_9 σ) := by
  unfold f_X6_copy_1_9
  exact ⟨(bz_f1_up (bz_f1_up (bz_f1_up (bz_f1_up (bz_f1_up (bz_f1_up (bz_fr_rf).1 (by decide)) (by decide)) (by decide)) (by decide)) (by decide)) (by decide)), (bz_fr_rf).2⟩

def f_X6_copy_21_1 (σ : bz_S)  : bz_S := ((bz_up (bz_up (bz_up (bz_up (bz_up (bz_up σ.1 22 0 (σ.1 2 0)) 22 1 (σ.1 2 1)) 22 2 (σ.1 2 2)) 21 1 (σ.1 1 1)) 21 2 (σ.1 1 2)) 21 3 (σ.1 1 3)), σ.2)
set_option maxRecDepth 100000 in
theorem s_X6_copy_21_1 {X : bz_X} (σ : bz_S) : bz_C bz_P X mX6_copy [.ref 21, .ref 1] σ (bz_pv (f_X6_copy_21_1 σ)) := by
  show bz_wp bz_P X mX6_copy (bz_pv (f_X6_copy_21_1 σ)) (0, [some (.ref 21), some (.ref 1), none], [], σ)
  refine bz_wpb bT_X6_copy 5 (b1 := (25, [some (.ref 21), some (.ref 1), some (.int 0)], [], σ)) (b2 := (7, [some (.ref 21), some (.ref 1), some (.int 0)], [], σ)) (C := 3 ≤ (0 : Int32)) (G := True) rfl trivial (fun z => absurd z (by decide)) (fun _ => ?_)
  refine bz_wpb bT_X6_copy 13 (b1 := (25, [some (.ref 21), some (.ref 1), some (.int 1)], [], ((bz_up σ.1 22 0 (σ.1 2 0)), σ.2))) (b2 := (7, [some (.ref 21), some (.ref 1), some (.int 1)], [], ((bz_up σ.1 22 0 (σ.1 2 0)), σ.2))) (C := 3 ≤ (1 : Int32)) (G := vp_in 0 3 ∧ vp_in 0 3 ∧ True) rfl ⟨(bz_lit (by decide)), (bz_lit (by decide)), trivial⟩ (fun z => absurd z (by decide)) (fun _ => ?_)
  refine bz_wpb bT_X6_copy 13 (b1 := (25, [some (.ref 21), some (.ref 1), some (.int 2)], [], ((bz_up (bz_up σ.1 22 0 (σ.1 2 0)) 22 1 (σ.1 2 1)), σ.2))) (b2 := (7, [some (.ref 21), some (.ref 1), some (.int 2)], [], ((bz_up (bz_up σ.1 22 0 (σ.1 2 0)) 22 1 (σ.1 2 1)), σ.2))) (C := 3 ≤ (2 : Int32)) (G := vp_in 1 3 ∧ vp_in 1 3 ∧ True) rfl ⟨(bz_lit (by decide)), (bz_lit (by decide)), trivial⟩ (fun z => absurd z (by decide)) (fun _ => ?_)
  refine bz_wpb bT_X6_copy 13 (b1 := (25, [some (.ref 21), some (.ref 1), some (.int 3)], [], ((bz_up (bz_up (bz_up σ.1 22 0 (σ.1 2 0)) 22 1 (σ.1 2 1)) 22 2 (σ.1 2 2)), σ.2))) (b2 := (7, [some (.ref 21), some (.ref 1), some (.int 3)], [], ((bz_up (bz_up (bz_up σ.1 22 0 (σ.1 2 0)) 22 1 (σ.1 2 1)) 22 2 (σ.1 2 2)), σ.2))) (C := 3 ≤ (3 : Int32)) (G := vp_in 2 3 ∧ vp_in 2 3 ∧ True) rfl ⟨(bz_lit (by decide)), (bz_lit (by decide)), trivial⟩ (fun _ => ?_) (fun z => absurd (by decide) z)
  refine bz_wpn bT_X6_copy 12 (b := (49, [some (.ref 21), some (.ref 1), some (.int 3)], [], ((bz_up (bz_up (bz_up (bz_up (bz_up (bz_up σ.1 22 0 (σ.1 2 0)) 22 1 (σ.1 2 1)) 22 2 (σ.1 2 2)) 21 1 (σ.1 1 1)) 21 2 (σ.1 1 2)) 21 3 (σ.1 1 3)), σ.2))) (G := True) rfl trivial ?_
  refine bz_wpr bT_X6_copy rfl rfl trivial ?_
  have e9 : f_X6_copy_21_1 σ = ((bz_up (bz_up (bz_up (bz_up (bz_up (bz_up σ.1 22 0 (σ.1 2 0)) 22 1 (σ.1 2 1)) 22 2 (σ.1 2 2)) 21 1 (σ.1 1 1)) 21 2 (σ.1 1 2)) 21 3 (σ.1 1 3)), σ.2) := by rw [f_X6_copy_21_1]
  exact ⟨rfl, by rw [e9]⟩
theorem rf_X6_copy_21_1 (σ : bz_S)  : bz_fr [21, 22] σ (f_X6_copy_21_1 σ) := by
  unfold f_X6_copy_21_1
  exact ⟨(bz_f1_up (bz_f1_up (bz_f1_up (bz_f1_up (bz_f1_up (bz_f1_up (bz_fr_rf).1 (by decide)) (by decide)) (by decide)) (by decide)) (by decide)) (by decide)), (bz_fr_rf).2⟩

def f_X6_copy_27_1 (σ : bz_S)  : bz_S := ((bz_up (bz_up (bz_up (bz_up (bz_up (bz_up σ.1 28 0 (σ.1 2 0)) 28 1 (σ.1 2 1)) 28 2 (σ.1 2 2)) 27 1 (σ.1 1 1)) 27 2 (σ.1 1 2)) 27 3 (σ.1 1 3)), σ.2)
set_option maxRecDepth 100000 in
theorem s_X6_copy_27_1 {X : bz_X} (σ : bz_S) : bz_C bz_P X mX6_copy [.ref 27, .ref 1] σ (bz_pv (f_X6_copy_27_1 σ)) := by
  show bz_wp bz_P X mX6_copy (bz_pv (f_X6_copy_27_1 σ)) (0, [some (.ref 27), some (.ref 1), none], [], σ)
  refine bz_wpb bT_X6_copy 5 (b1 := (25, [some (.ref 27), some (.ref 1), some (.int 0)], [], σ)) (b2 := (7, [some (.ref 27), some (.ref 1), some (.int 0)], [], σ)) (C := 3 ≤ (0 : Int32)) (G := True) rfl trivial (fun z => absurd z (by decide)) (fun _ => ?_)
  refine bz_wpb bT_X6_copy 13 (b1 := (25, [some (.ref 27), some (.ref 1), some (.int 1)], [], ((bz_up σ.1 28 0 (σ.1 2 0)), σ.2))) (b2 := (7, [some (.ref 27), some (.ref 1), some (.int 1)], [], ((bz_up σ.1 28 0 (σ.1 2 0)), σ.2))) (C := 3 ≤ (1 : Int32)) (G := vp_in 0 3 ∧ vp_in 0 3 ∧ True) rfl ⟨(bz_lit (by decide)), (bz_lit (by decide)), trivial⟩ (fun z => absurd z (by decide)) (fun _ => ?_)
  refine bz_wpb bT_X6_copy 13 (b1 := (25, [some (.ref 27), some (.ref 1), some (.int 2)], [], ((bz_up (bz_up σ.1 28 0 (σ.1 2 0)) 28 1 (σ.1 2 1)), σ.2))) (b2 := (7, [some (.ref 27), some (.ref 1), some (.int 2)], [], ((bz_up (bz_up σ.1 28 0 (σ.1 2 0)) 28 1 (σ.1 2 1)), σ.2))) (C := 3 ≤ (2 : Int32)) (G := vp_in 1 3 ∧ vp_in 1 3 ∧ True) rfl ⟨(bz_lit (by decide)), (bz_lit (by decide)), trivial⟩ (fun z => absurd z (by decide)) (fun _ => ?_)
  refine bz_wpb bT_X6_copy 13 (b1 := (25, [some (.ref 27), some (.ref 1), some (.int 3)], [], ((bz_up (bz_up (bz_up σ.1 28 0 (σ.1 2 0)) 28 1 (σ.1 2 1)) 28 2 (σ.1 2 2)), σ.2))) (b2 := (7, [some (.ref 27), some (.ref 1), some (.int 3)], [], ((bz_up (bz_up (bz_up σ.1 28 0 (σ.1 2 0)) 28 1 (σ.1 2 1)) 28 2 (σ.1 2 2)), σ.2))) (C := 3 ≤ (3 : Int32)) (G := vp_in 2 3 ∧ vp_in 2 3 ∧ True) rfl ⟨(bz_lit (by decide)), (bz_lit (by decide)), trivial⟩ (fun _ => ?_) (fun z => absurd (by decide) z)
  refine bz_wpn bT_X6_copy 12 (b := (49, [some (.ref 27), some (.ref 1), some (.int 3)], [], ((bz_up (bz_up (bz_up (bz_up (bz_up (bz_up σ.1 28 0 (σ.1 2 0)) 28 1 (σ.1 2 1)) 28 2 (σ.1 2 2)) 27 1 (σ.1 1 1)) 27 2 (σ.1 1 2)) 27 3 (σ.1 1 3)), σ.2))) (G := True) rfl trivial ?_
  refine bz_wpr bT_X6_copy rfl rfl trivial ?_
  have e9 : f_X6_copy_27_1 σ = ((bz_up (bz_up (bz_up (bz_up (bz_up (bz_up σ.1 28 0 (σ.1 2 0)) 28 1 (σ.1 2 1)) 28 2 (σ.1 2 2)) 27 1 (σ.1 1 1)) 27 2 (σ.1 1 2)) 27 3 (σ.1 1 3)), σ.2) := by rw [f_X6_copy_27_1]
  exact ⟨rfl, by rw [e9]⟩
theorem rf_X6_copy_27_1 (σ : bz_S)  : bz_fr [27, 28] σ (f_X6_copy_27_1 σ) := by
  unfold f_X6_copy_27_1
  exact ⟨(bz_f1_up (bz_f1_up (bz_f1_up (bz_f1_up (bz_f1_up (bz_f1_up (bz_fr_rf).1 (by decide)) (by decide)) (by decide)) (by decide)) (by decide)) (by decide)), (bz_fr_rf).2⟩

def f_X6_copy_1_21 (σ : bz_S)  : bz_S := ((bz_up (bz_up (bz_up (bz_up (bz_up (bz_up σ.1 2 0 (σ.1 22 0)) 2 1 (σ.1 22 1)) 2 2 (σ.1 22 2)) 1 1 (σ.1 21 1)) 1 2 (σ.1 21 2)) 1 3 (σ.1 21 3)), σ.2)
set_option maxRecDepth 100000 in
theorem s_X6_copy_1_21 {X : bz_X} (σ : bz_S) : bz_C bz_P X mX6_copy [.ref 1, .ref 21] σ (bz_pv (f_X6_copy_1_21 σ)) := by
  show bz_wp bz_P X mX6_copy (bz_pv (f_X6_copy_1_21 σ)) (0, [some (.ref 1), some (.ref 21), none], [], σ)
  refine bz_wpb bT_X6_copy 5 (b1 := (25, [some (.ref 1), some (.ref 21), some (.int 0)], [], σ)) (b2 := (7, [some (.ref 1), some (.ref 21), some (.int 0)], [], σ)) (C := 3 ≤ (0 : Int32)) (G := True) rfl trivial (fun z => absurd z (by decide)) (fun _ => ?_)
  refine bz_wpb bT_X6_copy 13 (b1 := (25, [some (.ref 1), some (.ref 21), some (.int 1)], [], ((bz_up σ.1 2 0 (σ.1 22 0)), σ.2))) (b2 := (7, [some (.ref 1), some (.ref 21), some (.int 1)], [], ((bz_up σ.1 2 0 (σ.1 22 0)), σ.2))) (C := 3 ≤ (1 : Int32)) (G := vp_in 0 3 ∧ vp_in 0 3 ∧ True) rfl ⟨(bz_lit (by decide)), (bz_lit (by decide)), trivial⟩ (fun z => absurd z (by decide)) (fun _ => ?_)
  refine bz_wpb bT_X6_copy 13 (b1 := (25, [some (.ref 1), some (.ref 21), some (.int 2)], [], ((bz_up (bz_up σ.1 2 0 (σ.1 22 0)) 2 1 (σ.1 22 1)), σ.2))) (b2 := (7, [some (.ref 1), some (.ref 21), some (.int 2)], [], ((bz_up (bz_up σ.1 2 0 (σ.1 22 0)) 2 1 (σ.1 22 1)), σ.2))) (C := 3 ≤ (2 : Int32)) (G := vp_in 1 3 ∧ vp_in 1 3 ∧ True) rfl ⟨(bz_lit (by decide)), (bz_lit (by decide)), trivial⟩ (fun z => absurd z (by decide)) (fun _ => ?_)
  refine bz_wpb bT_X6_copy 13 (b1 := (25, [some (.ref 1), some (.ref 21), some (.int 3)], [], ((bz_up (bz_up (bz_up σ.1 2 0 (σ.1 22 0)) 2 1 (σ.1 22 1)) 2 2 (σ.1 22 2)), σ.2))) (b2 := (7, [some (.ref 1), some (.ref 21), some (.int 3)], [], ((bz_up (bz_up (bz_up σ.1 2 0 (σ.1 22 0)) 2 1 (σ.1 22 1)) 2 2 (σ.1 22 2)), σ.2))) (C := 3 ≤ (3 : Int32)) (G := vp_in 2 3 ∧ vp_in 2 3 ∧ True) rfl ⟨(bz_lit (by decide)), (bz_lit (by decide)), trivial⟩ (fun _ => ?_) (fun z => absurd (by decide) z)
  refine bz_wpn bT_X6_copy 12 (b := (49, [some (.ref 1), some (.ref 21), some (.int 3)], [], ((bz_up (bz_up (bz_up (bz_up (bz_up (bz_up σ.1 2 0 (σ.1 22 0)) 2 1 (σ.1 22 1)) 2 2 (σ.1 22 2)) 1 1 (σ.1 21 1)) 1 2 (σ.1 21 2)) 1 3 (σ.1 21 3)), σ.2))) (G := True) rfl trivial ?_
  refine bz_wpr bT_X6_copy rfl rfl trivial ?_
  have e9 : f_X6_copy_1_21 σ = ((bz_up (bz_up (bz_up (bz_up (bz_up (bz_up σ.1 2 0 (σ.1 22 0)) 2 1 (σ.1 22 1)) 2 2 (σ.1 22 2)) 1 1 (σ.1 21 1)) 1 2 (σ.1 21 2)) 1 3 (σ.1 21 3)), σ.2) := by rw [f_X6_copy_1_21]
  exact ⟨rfl, by rw [e9]⟩
theorem rf_X6_copy_1_21 (σ : bz_S)  : bz_fr [1, 2] σ (f_X6_copy_1_21 σ) := by
  unfold f_X6_copy_1_21
  exact ⟨(bz_f1_up (bz_f1_up (bz_f1_up (bz_f1_up (bz_f1_up (bz_f1_up (bz_fr_rf).1 (by decide)) (by decide)) (by decide)) (by decide)) (by decide)) (by decide)), (bz_fr_rf).2⟩

def f_X6_copy_1_27 (σ : bz_S)  : bz_S := ((bz_up (bz_up (bz_up (bz_up (bz_up (bz_up σ.1 2 0 (σ.1 28 0)) 2 1 (σ.1 28 1)) 2 2 (σ.1 28 2)) 1 1 (σ.1 27 1)) 1 2 (σ.1 27 2)) 1 3 (σ.1 27 3)), σ.2)
set_option maxRecDepth 100000 in
theorem s_X6_copy_1_27 {X : bz_X} (σ : bz_S) : bz_C bz_P X mX6_copy [.ref 1, .ref 27] σ (bz_pv (f_X6_copy_1_27 σ)) := by
  show bz_wp bz_P X mX6_copy (bz_pv (f_X6_copy_1_27 σ)) (0, [some (.ref 1), some (.ref 27), none], [], σ)
  refine bz_wpb bT_X6_copy 5 (b1 := (25, [some (.ref 1), some (.ref 27), some (.int 0)], [], σ)) (b2 := (7, [some (.ref 1), some (.ref 27), some (.int 0)], [], σ)) (C := 3 ≤ (0 : Int32)) (G := True) rfl trivial (fun z => absurd z (by decide)) (fun _ => ?_)
  refine bz_wpb bT_X6_copy 13 (b1 := (25, [some (.ref 1), some (.ref 27), some (.int 1)], [], ((bz_up σ.1 2 0 (σ.1 28 0)), σ.2))) (b2 := (7, [some (.ref 1), some (.ref 27), some (.int 1)], [], ((bz_up σ.1 2 0 (σ.1 28 0)), σ.2))) (C := 3 ≤ (1 : Int32)) (G := vp_in 0 3 ∧ vp_in 0 3 ∧ True) rfl ⟨(bz_lit (by decide)), (bz_lit (by decide)), trivial⟩ (fun z => absurd z (by decide)) (fun _ => ?_)
  refine bz_wpb bT_X6_copy 13 (b1 := (25, [some (.ref 1), some (.ref 27), some (.int 2)], [], ((bz_up (bz_up σ.1 2 0 (σ.1 28 0)) 2 1 (σ.1 28 1)), σ.2))) (b2 := (7, [some (.ref 1), some (.ref 27), some (.int 2)], [], ((bz_up (bz_up σ.1 2 0 (σ.1 28 0)) 2 1 (σ.1 28 1)), σ.2))) (C := 3 ≤ (2 : Int32)) (G := vp_in 1 3 ∧ vp_in 1 3 ∧ True) rfl ⟨(bz_lit (by decide)), (bz_lit (by decide)), trivial⟩ (fun z => absurd z (by decide)) (fun _ => ?_)
  refine bz_wpb bT_X6_copy 13 (b1 := (25, [some (.ref 1), some (.ref 27), some (.int 3)], [], ((bz_up (bz_up (bz_up σ.1 2 0 (σ.1 28 0)) 2 1 (σ.1 28 1)) 2 2 (σ.1 28 2)), σ.2))) (b2 := (7, [some (.ref 1), some (.ref 27), some (.int 3)], [], ((bz_up (bz_up (bz_up σ.1 2 0 (σ.1 28 0)) 2 1 (σ.1 28 1)) 2 2 (σ.1 28 2)), σ.2))) (C := 3 ≤ (3 : Int32)) (G := vp_in 2 3 ∧ vp_in 2 3 ∧ True) rfl ⟨(bz_lit (by decide)), (bz_lit (by decide)), trivial⟩ (fun _ => ?_) (fun z => absurd (by decide) z)
  refine bz_wpn bT_X6_copy 12 (b := (49, [some (.ref 1), some (.ref 27), some (.int 3)], [], ((bz_up (bz_up (bz_up (bz_up (bz_up (bz_up σ.1 2 0 (σ.1 28 0)) 2 1 (σ.1 28 1)) 2 2 (σ.1 28 2)) 1 1 (σ.1 27 1)) 1 2 (σ.1 27 2)) 1 3 (σ.1 27 3)), σ.2))) (G := True) rfl trivial ?_
  refine bz_wpr bT_X6_copy rfl rfl trivial ?_
  have e9 : f_X6_copy_1_27 σ = ((bz_up (bz_up (bz_up (bz_up (bz_up (bz_up σ.1 2 0 (σ.1 28 0)) 2 1 (σ.1 28 1)) 2 2 (σ.1 28 2)) 1 1 (σ.1 27 1)) 1 2 (σ.1 27 2)) 1 3 (σ.1 27 3)), σ.2) := by rw [f_X6_copy_1_27]
  exact ⟨rfl, by rw [e9]⟩
theorem rf_X6_copy_1_27 (σ : bz_S)  : bz_fr [1, 2] σ (f_X6_copy_1_27 σ) := by
  unfold f_X6_copy_1_27
  exact ⟨(bz_f1_up (bz_f1_up (bz_f1_up (bz_f1_up (bz_f1_up (bz_f1_up (bz_fr_rf).1 (by decide)) (by decide)) (by decide)) (by decide)) (by decide)) (by decide)), (bz_fr_rf).2⟩

def f_X4_copy_23_3 (σ : bz_S)  : bz_S := ((bz_up (bz_up (bz_up (bz_up (bz_up (bz_up (bz_up (bz_up (bz_up (bz_up (bz_up (bz_up (bz_up (bz_up (bz_up (bz_up (bz_up σ.1 24 0 (σ.1 4 0)) 25 0 (σ.1 5 0)) 24 1 (σ.1 4 1)) 25 1 (σ.1 5 1)) 24 2 (σ.1 4 2)) 25 2 (σ.1 5 2)) 24 3 (σ.1 4 3)) 25 3 (σ.1 5 3)) 24 4 (σ.1 4 4)) 25 4 (σ.1 5 4)) 24 5 (σ.1 4 5)) 25 5 (σ.1 5 5)) 24 6 (σ.1 4 6)) 25 6 (σ.1 5 6)) 24 7 (σ.1 4 7)) 25 7 (σ.1 5 7)) 23 2 (σ.1 3 2)), σ.2)
set_option maxRecDepth 100000 in
theorem s_X4_copy_23_3 {X : bz_X} (σ : bz_S) : bz_C bz_P X mX4_copy [.ref 23, .ref 3] σ (bz_pv (f_X4_copy_23_3 σ)) := by
  show bz_wp bz_P X mX4_copy (bz_pv (f_X4_copy_23_3 σ)) (0, [some (.ref 23), some (.ref 3), none], [], σ)
  refine bz_wpb bT_X4_copy 5 (b1 := (38, [some (.ref 23), some (.ref 3), some (.int 0)], [], σ)) (b2 := (8, [some (.ref 23), some (.ref 3), some (.int 0)], [], σ)) (C := 8 ≤ (0 : Int32)) (G := True) rfl trivial (fun z => absurd z (by decide)) (fun _ => ?_)
  refine bz_wpb bT_X4_copy 21 (b1 := (38, [some (.ref 23), some (.ref 3), some (.int 1)], [], ((bz_up (bz_up σ.1 24 0 (σ.1 4 0)) 25 0 (σ.1 5 0)), σ.2))) (b2 := (8, [some (.ref 23), some (.ref 3), some (.int 1)], [], ((bz_up (bz_up σ.1 24 0 (σ.1 4 0)) 25 0 (σ.1 5 0)), σ.2))) (C := 8 ≤ (1 : Int32)) (G := vp_in 0 8 ∧ vp_in 0 8 ∧ vp_in 0 8 ∧ vp_in 0 8 ∧ True) rfl ⟨(bz_lit (by decide)), (bz_lit (by decide)), (bz_lit (by decide)), (bz_lit (by decide)), trivial⟩ (fun z => absurd z (by decide)) (fun _ => ?_)
  refine bz_wpb bT_X4_copy 21 (b1 := (38, [some (.ref 23), some (.ref 3), some (.int 2)], [], ((bz_up (bz_up (bz_up (bz_up σ.1 24 0 (σ.1 4 0)) 25 0 (σ.1 5 0)) 24 1 (σ.1 4 1)) 25 1 (σ.1 5 1)), σ.2))) (b2 := (8, [some (.ref 23), some (.ref 3), some (.int 2)], [], ((bz_up (bz_up (bz_up (bz_up σ.1 24 0 (σ.1 4 0)) 25 0 (σ.1 5 0)) 24 1 (σ.1 4 1)) 25 1 (σ.1 5 1)), σ.2))) (C := 8 ≤ (2 : Int32)) (G := vp_in 1 8 ∧ vp_in 1 8 ∧ vp_in 1 8 ∧ vp_in 1 8 ∧ True) rfl ⟨(bz_lit (by decide)), (bz_lit (by decide)), (bz_lit (by decide)), (bz_lit (by decide)), trivial⟩ (fun z => absurd z (by decide)) (fun _ => ?_)
  refine bz_wpb bT_X4_copy 21 (b1 := (38, [some (.ref 23), some (.ref 3), some (.int 3)], [], ((bz_up (bz_up (bz_up (bz_up (bz_up (bz_up σ.1 24 0 (σ.1 4 0)) 25 0 (σ.1 5 0)) 24 1 (σ.1 4 1)) 25 1 (σ.1 5 1)) 24 2 (σ.1 4 2)) 25 2 (σ.1 5 2)), σ.2))) (b2 := (8, [some (.ref 23), some (.ref 3), some (.int 3)], [], ((bz_up (bz_up (bz_up (bz_up (bz_up (bz_up σ.1 24 0 (σ.1 4 0)) 25 0 (σ.1 5 0)) 24 1 (σ.1 4 1)) 25 1 (σ.1 5 1)) 24 2 (σ.1 4 2)) 25 2 (σ.1 5 2)), σ.2))) (C := 8 ≤ (3 : Int32)) (G := vp_in 2 8 ∧ vp_in 2 8 ∧ vp_in 2 8 ∧ vp_in 2 8 ∧ True) rfl ⟨(bz_lit (by decide)), (bz_lit (by decide)), (bz_lit (by decide)), (bz_lit (by decide)), trivial⟩ (fun z => absurd z (by decide)) (fun _ => ?_)
  refine bz_wpb bT_X4_copy 21 (b1 := (38, [some (.ref 23), some (.ref 3), some (.int 4)], [], ((bz_up (bz_up (bz_up (bz_up (bz_up (bz_up (bz_up (bz_up σ.1 24 0 (σ.1 4 0)) 25 0 (σ.1 5 0)) 24 1 (σ.1 4 1)) 25 1 (σ.1 5 1)) 24 2 (σ.1 4 2)) 25 2 (σ.1 5 2)) 24 3 (σ.1 4 3)) 25 3 (σ.1 5 3)), σ.2))) (b2 := (8, [some (.ref 23), some (.ref 3), some (.int 4)], [], ((bz_up (bz_up (bz_up (bz_up (bz_up (bz_up (bz_up (bz_up σ.1 24 0 (σ.1 4 0)) 25 0 (σ.1 5 0)) 24 1 (σ.1 4 1)) 25 1 (σ.1 5 1)) 24 2 (σ.1 4 2)) 25 2 (σ.1 5 2)) 24 3 (σ.1 4 3)) 25 3 (σ.1 5 3)), σ.2))) (C := 8 ≤ (4 : Int32)) (G := vp_in 3 8 ∧ vp_in 3 8 ∧ vp_in 3 8 ∧ vp_in 3 8 ∧ True) rfl ⟨(bz_lit (by decide)), (bz_lit (by decide)), (bz_lit (by decide)), (bz_lit (by decide)), trivial⟩ (fun z => absurd z (by decide)) (fun _ => ?_)
  refine bz_wpb bT_X4_copy 21 (b1 := (38, [some (.ref 23), some (.ref 3), some (.int 5)], [], ((bz_up (bz_up (bz_up (bz_up (bz_up (bz_up (bz_up (bz_up (bz_up (bz_up σ.1 24 0 (σ.1 4 0)) 25 0 (σ.1 5 0)) 24 1 (σ.1 4 1)) 25 1 (σ.1 5 1)) 24 2 (σ.1 4 2)) 25 2 (σ.1 5 2)) 24 3 (σ.1 4 3)) 25 3 (σ.1 5 3)) 24 4 (σ.1 4 4)) 25 4 (σ.1 5 4)), σ.2))) (b2 := (8, [some (.ref 23), some (.ref 3), some (.int 5)], [], ((bz_up (bz_up (bz_up (bz_up (bz_up (bz_up (bz_up (bz_up (bz_up (bz_up σ.1 24 0 (σ.1 4 0)) 25 0 (σ.1 5 0)) 24 1 (σ.1 4 1)) 25 1 (σ.1 5 1)) 24 2 (σ.1 4 2)) 25 2 (σ.1 5 2)) 24 3 (σ.1 4 3)) 25 3 (σ.1 5 3)) 24 4 (σ.1 4 4)) 25 4 (σ.1 5 4)), σ.2))) (C := 8 ≤ (5 : Int32)) (G := vp_in 4 8 ∧ vp_in 4 8 ∧ vp_in 4 8 ∧ vp_in 4 8 ∧ True) rfl ⟨(bz_lit (by decide)), (bz_lit (by decide)), (bz_lit (by decide)), (bz_lit (by decide)), trivial⟩ (fun z => absurd z (by decide)) (fun _ => ?_)
  refine bz_wpb bT_X4_copy 21 (b1 := (38, [some (.ref 23), some (.ref 3), some (.int 6)], [], ((bz_up (bz_up (bz_up (bz_up (bz_up (bz_up (bz_up (bz_up (bz_up (bz_up (bz_up (bz_up σ.1 24 0 (σ.1 4 0)) 25 0 (σ.1 5 0)) 24 1 (σ.1 4 1)) 25 1 (σ.1 5 1)) 24 2 (σ.1 4 2)) 25 2 (σ.1 5 2)) 24 3 (σ.1 4 3)) 25 3 (σ.1 5 3)) 24 4 (σ.1 4 4)) 25 4 (σ.1 5 4)) 24 5 (σ.1 4 5)) 25 5 (σ.1 5 5)), σ.2))) (b2 := (8, [some (.ref 23), some (.ref 3), some (.int 6)], [], ((bz_up (bz_up (bz_up (bz_up (bz_up (bz_up (bz_up (bz_up (bz_up (bz_up (bz_up (bz_up σ.1 24 0 (σ.1 4 0)) 25 0 (σ.1 5 0)) 24 1 (σ.1 4 1)) 25 1 (σ.1 5 1)) 24 2 (σ.1 4 2)) 25 2 (σ.1 5 2)) 24 3 (σ.1 4 3)) 25 3 (σ.1 5 3)) 24 4 (σ.1 4 4)) 25 4 (σ.1 5 4)) 24 5 (σ.1 4 5)) 25 5 (σ.1 5 5)), σ.2))) (C := 8 ≤ (6 : Int32)) (G := vp_in 5 8 ∧ vp_in 5 8 ∧ vp_in 5 8 ∧ vp_in 5 8 ∧ True) rfl ⟨(bz_lit (by decide)), (bz_lit (by decide)), (bz_lit (by decide)), (bz_lit (by decide)), trivial⟩ (fun z => absurd z (by decide)) (fun _ => ?_)
  refine bz_wpb bT_X4_copy 21 (b1 := (38, [some (.ref 23), some (.ref 3), some (.int 7)], [], ((bz_up (bz_up (bz_up (bz_up (bz_up (bz_up (bz_up (bz_up (bz_up (bz_up (bz_up (bz_up (bz_up (bz_up σ.1 24 0 (σ.1 4 0)) 25 0 (σ.1 5 0)) 24 1 (σ.1 4 1)) 25 1 (σ.1 5 1)) 24 2 (σ.1 4 2)) 25 2 (σ.1 5 2)) 24 3 (σ.1 4 3)) 25 3 (σ.1 5 3)) 24 4 (σ.1 4 4)) 25 4 (σ.1 5 4)) 24 5 (σ.1 4 5)) 25 5 (σ.1 5 5)) 24 6 (σ.1 4 6)) 25 6 (σ.1 5 6)), σ.2))) (b2 := (8, [some (.ref 23), some (.ref 3), some (.int 7)], [], ((bz_up (bz_up (bz_up (bz_up (bz_up (bz_up (bz_up (bz_up (bz_up (bz_up (bz_up (bz_up (bz_up (bz_up σ.1 24 0 (σ.1 4 0)) 25 0 (σ.1 5 0)) 24 1 (σ.1 4 1)) 25 1 (σ.1 5 1)) 24 2 (σ.1 4 2)) 25 2 (σ.1 5 2)) 24 3 (σ.1 4 3)) 25 3 (σ.1 5 3)) 24 4 (σ.1 4 4)) 25 4 (σ.1 5 4)) 24 5 (σ.1 4 5)) 25 5 (σ.1 5 5)) 24 6 (σ.1 4 6)) 25 6 (σ.1 5 6)), σ.2))) (C := 8 ≤ (7 : Int32)) (G := vp_in 6 8 ∧ vp_in 6 8 ∧ vp_in 6 8 ∧ vp_in 6 8 ∧ True) rfl ⟨(bz_lit (by decide)), (bz_lit (by decide)), (bz_lit (by decide)), (bz_lit (by decide)), trivial⟩ (fun z => absurd z (by decide)) (fun _ => ?_)
  refine bz_wpb bT_X4_copy 21 (b1 := (38, [some (.ref 23), some (.ref 3), some (.int 8)], [], ((bz_up (bz_up (bz_up (bz_up (bz_up (bz_up (bz_up (bz_up (bz_up (bz_up (bz_up (bz_up (bz_up (bz_up (bz_up (bz_up σ.1 24 0 (σ.1 4 0)) 25 0 (σ.1 5 0)) 24 1 (σ.1 4 1)) 25 1 (σ.1 5 1)) 24 2 (σ.1 4 2)) 25 2 (σ.1 5 2)) 24 3 (σ.1 4 3)) 25 3 (σ.1 5 3)) 24 4 (σ.1 4 4)) 25 4 (σ.1 5 4)) 24 5 (σ.1 4 5)) 25 5 (σ.1 5 5)) 24 6 (σ.1 4 6)) 25 6 (σ.1 5 6)) 24 7 (σ.1 4 7)) 25 7 (σ.1 5 7)), σ.2))) (b2 := (8, [some (.ref 23), some (.ref 3), some (.int 8)], [], ((bz_up (bz_up (bz_up (bz_up (bz_up (bz_up (bz_up (bz_up (bz_up (bz_up (bz_up (bz_up (bz_up (bz_up (bz_up (bz_up σ.1 24 0 (σ.1 4 0)) 25 0 (σ.1 5 0)) 24 1 (σ.1 4 1)) 25 1 (σ.1 5 1)) 24 2 (σ.1 4 2)) 25 2 (σ.1 5 2)) 24 3 (σ.1 4 3)) 25 3 (σ.1 5 3)) 24 4 (σ.1 4 4)) 25 4 (σ.1 5 4)) 24 5 (σ.1 4 5)) 25 5 (σ.1 5 5)) 24 6 (σ.1 4 6)) 25 6 (σ.1 5 6)) 24 7 (σ.1 4 7)) 25 7 (σ.1 5 7)), σ.2))) (C := 8 ≤ (8 : Int32)) (G := vp_in 7 8 ∧ vp_in 7 8 ∧ vp_in 7 8 ∧ vp_in 7 8 ∧ True) rfl ⟨(bz_lit (by decide)), (bz_lit (by decide)), (bz_lit (by decide)), (bz_lit (by decide)), trivial⟩ (fun _ => ?_) (fun z => absurd (by decide) z)
  refine bz_wpn bT_X4_copy 4 (b := (46, [some (.ref 23), some (.ref 3), some (.int 8)], [], ((bz_up (bz_up (bz_up (bz_up (bz_up (bz_up (bz_up (bz_up (bz_up (bz_up (bz_up (bz_up (bz_up (bz_up (bz_up (bz_up (bz_up σ.1 24 0 (σ.1 4 0)) 25 0 (σ.1 5 0)) 24 1 (σ.1 4 1)) 25 1 (σ.1 5 1)) 24 2 (σ.1 4 2)) 25 2 (σ.1 5 2)) 24 3 (σ.1 4 3)) 25 3 (σ.1 5 3)) 24 4 (σ.1 4 4)) 25 4 (σ.1 5 4)) 24 5 (σ.1 4 5)) 25 5 (σ.1 5 5)) 24 6 (σ.1 4 6)) 25 6 (σ.1 5 6)) 24 7 (σ.1 4 7)) 25 7 (σ.1 5 7)) 23 2 (σ.1 3 2)), σ.2))) (G := True) rfl trivial ?_
  refine bz_wpr bT_X4_copy rfl rfl trivial ?_
  have e9 : f_X4_copy_23_3 σ = ((bz_up (bz_up (bz_up (bz_up (bz_up (bz_up (bz_up (bz_up (bz_up (bz_up (bz_up (bz_up (bz_up (bz_up (bz_up (bz_up (bz_up σ.1 24 0 (σ.1 4 0)) 25 0 (σ.1 5 0)) 24 1 (σ.1 4 1)) 25 1 (σ.1 5 1)) 24 2 (σ.1 4 2)) 25 2 (σ.1 5 2)) 24 3 (σ.1 4 3)) 25 3 (σ.1 5 3)) 24 4 (σ.1 4 4)) 25 4 (σ.1 5 4)) 24 5 (σ.1 4 5)) 25 5 (σ.1 5 5)) 24 6 (σ.1 4 6)) 25 6 (σ.1 5 6)) 24 7 (σ.1 4 7)) 25 7 (σ.1 5 7)) 23 2 (σ.1 3 2)), σ.2) := by rw [f_X4_copy_23_3]
  exact ⟨rfl, by rw [e9]⟩
theorem rf_X4_copy_23_3 (σ : bz_S)  : bz_fr [23, 24, 25] σ (f_X4_copy_23_3 σ) := by
  unfold f_X4_copy_23_3
  exact ⟨(bz_f1_up (bz_f1_up (bz_f1_up (bz_f1_up (bz_f1_up (bz_f1_up (bz_f1_up (bz_f1_up (bz_f1_up (bz_f1_up (bz_f1_up (bz_f1_up (bz_f1_up (bz_f1_up (bz_f1_up (bz_f1_up (bz_f1_up (bz_fr_rf).1 (by decide)) (by decide)) (by decide)) (by decide)) (by decide)) (by decide)) (by decide)) (by decide)) (by decide)) (by decide)) (by decide)) (by decide)) (by decide)) (by decide)) (by decide)) (by decide)) (by decide)), (bz_fr_rf).2⟩

def f_X4_copy_29_3 (σ : bz_S)  : bz_S := ((bz_up (bz_up (bz_up (bz_up (bz_up (bz_up (bz_up (bz_up (bz_up (bz_up (bz_up (bz_up (bz_up (bz_up (bz_up (bz_up (bz_up σ.1 30 0 (σ.1 4 0)) 31 0 (σ.1 5 0)) 30 1 (σ.1 4 1)) 31 1 (σ.1 5 1)) 30 2 (σ.1 4 2)) 31 2 (σ.1 5 2)) 30 3 (σ.1 4 3)) 31 3 (σ.1 5 3)) 30 4 (σ.1 4 4)) 31 4 (σ.1 5 4)) 30 5 (σ.1 4 5)) 31 5 (σ.1 5 5)) 30 6 (σ.1 4 6)) 31 6 (σ.1 5 6)) 30 7 (σ.1 4 7)) 31 7 (σ.1 5 7)) 29 2 (σ.1 3 2)), σ.2)
set_option maxRecDepth 100000 in
theorem s_X4_copy_29_3 {X : bz_X} (σ : bz_S) : bz_C bz_P X mX4_copy [.ref 29, .ref 3] σ (bz_pv (f_X4_copy_29_3 σ)) := by
  show bz_wp bz_P X mX4_copy (bz_pv (f_X4_copy_29_3 σ)) (0, [some (.ref 29), some (.ref 3), none], [], σ)
  refine bz_wpb bT_X4_copy 5 (b1 := (38, [some (.ref 29), some (.ref 3), some (.int 0)], [], σ)) (b2 := (8, [some (.ref 29), some (.ref 3), some (.int 0)], [], σ)) (C := 8 ≤ (0 : Int32)) (G := True) rfl trivial (fun z => absurd z (by decide)) (fun _ => ?_)
  refine bz_wpb bT_X4_copy 21 (b1 := (38, [some (.ref 29), some (.ref 3), some (.int 1)], [], ((bz_up (bz_up σ.1 30 0 (σ.1 4 0)) 31 0 (σ.1 5 0)), σ.2))) (b2 := (8, [some (.ref 29), some (.ref 3), some (.int 1)], [], ((bz_up (bz_up σ.1 30 0 (σ.1 4 0)) 31 0 (σ.1 5 0)), σ.2))) (C := 8 ≤ (1 : Int32)) (G := vp_in 0 8 ∧ vp_in 0 8 ∧ vp_in 0 8 ∧ vp_in 0 8 ∧ True) rfl ⟨(bz_lit (by decide)), (bz_lit (by decide)), (bz_lit (by decide)), (bz_lit (by decide)), trivial⟩ (fun z => absurd z (by decide)) (fun _ => ?_)
  refine bz_wpb bT_X4_copy 21 (b1 := (38, [some (.ref 29), some (.ref 3), some (.int 2)], [], ((bz_up (bz_up (bz_up (bz_up σ.1 30 0 (σ.1 4 0)) 31 0 (σ.1 5 0)) 30 1 (σ.1 4 1)) 31 1 (σ.1 5 1)), σ.2))) (b2 := (8, [some (.ref 29), some (.ref 3), some (.int 2)], [], ((bz_up (bz_up (bz_up (bz_up σ.1 30 0 (σ.1 4 0)) 31 0 (σ.1 5 0)) 30 1 (σ.1 4 1)) 31 1 (σ.1 5 1)), σ.2))) (C := 8 ≤ (2 : Int32)) (G := vp_in 1 8 ∧ vp_in 1 8 ∧ vp_in 1 8 ∧ vp_in 1 8 ∧ True) rfl ⟨(bz_lit (by decide)), (bz_lit (by decide)), (bz_lit (by decide)), (bz_lit (by decide)), trivial⟩ (fun z => absurd z (by decide)) (fun _ => ?_)
  refine bz_wpb bT_X4_copy 21 (b1 := (38, [some (.ref 29), some (.ref 3), some (.int 3)], [], ((bz_up (bz_up (bz_up (bz_up (bz_up (bz_up σ.1 30 0 (σ.1 4 0)) 31 0 (σ.1 5 0)) 30 1 (σ.1 4 1)) 31 1 (σ.1 5 1)) 30 2 (σ.1 4 2)) 31 2 (σ.1 5 2)), σ.2))) (b2 := (8, [some (.ref 29), some (.ref 3), some (.int 3)], [], ((bz_up (bz_up (bz_up (bz_up (bz_up (bz_up σ.1 30 0 (σ.1 4 0)) 31 0 (σ.1 5 0)) 30 1 (σ.1 4 1)) 31 1 (σ.1 5 1)) 30 2 (σ.1 4 2)) 31 2 (σ.1 5 2)), σ.2))) (C := 8 ≤ (3 : Int32)) (G := vp_in 2 8 ∧ vp_in 2 8 ∧ vp_in 2 8 ∧ vp_in 2 8 ∧ True) rfl ⟨(bz_lit (by decide)), (bz_lit (by decide)), (bz_lit (by decide)), (bz_lit (by decide)), trivial⟩ (fun z => absurd z (by decide)) (fun _ => ?_)
  refine bz_wpb bT_X4_copy 21 (b1 := (38, [some (.ref 29), some (.ref 3), some (.int 4)], [], ((bz_up (bz_up (bz_up (bz_up (bz_up (bz_up (bz_up (bz_up σ.1 30 0 (σ.1 4 0)) 31 0 (σ.1 5 0)) 30 1 (σ.1 4 1)) 31 1 (σ.1 5 1)) 30 2 (σ.1 4 2)) 31 2 (σ.1 5 2)) 30 3 (σ.1 4 3)) 31 3 (σ.1 5 3)), σ.2))) (b2 := (8, [some (.ref 29), some (.ref 3), some (.int 4)], [], ((bz_up (bz_up (bz_up (bz_up (bz_up (bz_up (bz_up (bz_up σ.1 30 0 (σ.1 4 0)) 31 0 (σ.1 5 0)) 30 1 (σ.1 4 1)) 31 1 (σ.1 5 1)) 30 2 (σ.1 4 2)) 31 2 (σ.1 5 2)) 30 3 (σ.1 4 3)) 31 3 (σ.1 5 3)), σ.2))) (C := 8 ≤ (4 : Int32)) (G := vp_in 3 8 ∧ vp_in 3 8 ∧ vp_in 3 8 ∧ vp_in 3 8 ∧ True) rfl ⟨(bz_lit (by decide)), (bz_lit (by decide)), (bz_lit (by decide)), (bz_lit (by decide)), trivial⟩ (fun z => absurd z (by decide)) (fun _ => ?_)
  refine bz_wpb bT_X4_copy 21 (b1 := (38, [some (.ref 29), some (.ref 3), some (.int 5)], [], ((bz_up (bz_up (bz_up (bz_up (bz_up (bz_up (bz_up (bz_up (bz_up (bz_up σ.1 30 0 (σ.1 4 0)) 31 0 (σ.1 5 0)) 30 1 (σ.1 4 1)) 31 1 (σ.1 5 1)) 30 2 (σ.1 4 2)) 31 2 (σ.1 5 2)) 30 3 (σ.1 4 3)) 31 3 (σ.1 5 3)) 30 4 (σ.1 4 4)) 31 4 (σ.1 5 4)), σ.2))) (b2 := (8, [some (.ref 29), some (.ref 3), some (.int 5)], [], ((bz_up (bz_up (bz_up (bz_up (bz_up (bz_up (bz_up (bz_up (bz_up (bz_up σ.1 30 0 (σ.1 4 0)) 31 0 (σ.1 5 0)) 30 1 (σ.1 4 1)) 31 1 (σ.1 5 1)) 30 2 (σ.1 4 2)) 31 2 (σ.1 5 2)) 30 3 (σ.1 4 3)) 31 3 (σ.1 5 3)) 30 4 (σ.1 4 4)) 31 4 (σ.1 5 4)), σ.2))) (C := 8 ≤ (5 : Int32)) (G := vp_in 4 8 ∧ vp_in 4 8 ∧ vp_in 4 8 ∧ vp_in 4 8 ∧ True) rfl ⟨(bz_lit (by decide)), (bz_lit (by decide)), (bz_lit (by decide)), (bz_lit (by decide)), trivial⟩ (fun z => absurd z (by decide)) (fun _ => ?_)
  refine bz_wpb bT_X4_copy 21 (b1 := (38, [some (.ref 29), some (.ref 3), some (.int 6)], [], ((bz_up (bz_up (bz_up (bz_up (bz_up (bz_up (bz_up (bz_up (bz_up (bz_up (bz_up (bz_up σ.1 30 0 (σ.1 4 0)) 31 0 (σ.1 5 0)) 30 1 (σ.1 4 1)) 31 1 (σ.1 5 1)) 30 2 (σ.1 4 2)) 31 2 (σ.1 5 2)) 30 3 (σ.1 4 3)) 31 3 (σ.1 5 3)) 30 4 (σ.1 4 4)) 31 4 (σ.1 5 4)) 30 5 (σ.1 4 5)) 31 5 (σ.1 5 5)), σ.2))) (b2 := (8, [some (.ref 29), some (.ref 3), some (.int 6)], [], ((bz_up (bz_up (bz_up (bz_up (bz_up (bz_up (bz_up (bz_up (bz_up (bz_up (bz_up (bz_up σ.1 30 0 (σ.1 4 0)) 31 0 (σ.1 5 0)) 30 1 (σ.1 4 1)) 31 1 (σ.1 5 1)) 30 2 (σ.1 4 2)) 31 2 (σ.1 5 2)) 30 3 (σ.1 4 3)) 31 3 (σ.1 5 3)) 30 4 (σ.1 4 4)) 31 4 (σ.1 5 4)) 30 5 (σ.1 4 5)) 31 5 (σ.1 5 5)), σ.2))) (C := 8 ≤ (6 : Int32)) (G := vp_in 5 8 ∧ vp_in 5 8 ∧ vp_in 5 8 ∧ vp_in 5 8 ∧ True) rfl ⟨(bz_lit (by decide)), (bz_lit (by decide)), (bz_lit (by decide)), (bz_lit (by decide)), trivial⟩ (fun z => absurd z (by decide)) (fun _ => ?_)
  refine bz_wpb bT_X4_copy 21 (b1 := (38, [some (.ref 29), some (.ref 3), some (.int 7)], [], ((bz_up (bz_up (bz_up (bz_up (bz_up (bz_up (bz_up (bz_up (bz_up (bz_up (bz_up (bz_up (bz_up (bz_up σ.1 30 0 (σ.1 4 0)) 31 0 (σ.1 5 0)) 30 1 (σ.1 4 1)) 31 1 (σ.1 5 1)) 30 2 (σ.1 4 2)) 31 2 (σ.1 5 2)) 30 3 (σ.1 4 3)) 31 3 (σ.1 5 3)) 30 4 (σ.1 4 4)) 31 4 (σ.1 5 4)) 30 5 (σ.1 4 5)) 31 5 (σ.1 5 5)) 30 6 (σ.1 4 6)) 31 6 (σ.1 5 6)), σ.2))) (b2 := (8, [some (.ref 29), some (.ref 3), some (.int 7)], [], ((bz_up (bz_up (bz_up (bz_up (bz_up (bz_up (bz_up (bz_up (bz_up (bz_up (bz_up (bz_up (bz_up (bz_up σ.1 30 0 (σ.1 4 0)) 31 0 (σ.1 5 0)) 30 1 (σ.1 4 1)) 31 1 (σ.1 5 1)) 30 2 (σ.1 4 2)) 31 2 (σ.1 5 2)) 30 3 (σ.1 4 3)) 31 3 (σ.1 5 3)) 30 4 (σ.1 4 4)) 31 4 (σ.1 5 4)) 30 5 (σ.1 4 5)) 31 5 (σ.1 5 5)) 30 6 (σ.1 4 6)) 31 6 (σ.1 5 6)), σ.2))) (C := 8 ≤ (7 : Int32)) (G := vp_in 6 8 ∧ vp_in 6 8 ∧ vp_in 6 8 ∧ vp_in 6 8 ∧ True) rfl ⟨(bz_lit (by decide)), (bz_lit (by decide)), (bz_lit (by decide)), (bz_lit (by decide)), trivial⟩ (fun z => absurd z (by decide)) (fun _ => ?_)
  refine bz_wpb bT_X4_copy 21 (b1 := (38, [some (.ref 29), some (.ref 3), some (.int 8)], [], ((bz_up (bz_up (bz_up (bz_up (bz_up (bz_up (bz_up (bz_up (bz_up (bz_up (bz_up (bz_up (bz_up (bz_up (bz_up (bz_up σ.1 30 0 (σ.1 4 0)) 31 0 (σ.1 5 0)) 30 1 (σ.1 4 1)) 31 1 (σ.1 5 1)) 30 2 (σ.1 4 2)) 31 2 (σ.1 5 2)) 30 3 (σ.1 4 3)) 31 3 (σ.1 5 3)) 30 4 (σ.1 4 4)) 31 4 (σ.1 5 4)) 30 5 (σ.1 4 5)) 31 5 (σ.1 5 5)) 30 6 (σ.1 4 6)) 31 6 (σ.1 5 6)) 30 7 (σ.1 4 7)) 31 7 (σ.1 5 7)), σ.2))) (b2 := (8, [some (.ref 29), some (.ref 3), some (.int 8)], [], ((bz_up (bz_up (bz_up (bz_up (bz_up (bz_up (bz_up (bz_up (bz_up (bz_up (bz_up (bz_up (bz_up (bz_up (bz_up (bz_up σ.1 30 0 (σ.1 4 0)) 31 0 (σ.1 5 0)) 30 1 (σ.1 4 1)) 31 1 (σ.1 5 1)) 30 2 (σ.1 4 2)) 31 2 (σ.1 5 2)) 30 3 (σ.1 4 3)) 31 3 (σ.1 5 3)) 30 4 (σ.1 4 4)) 31 4 (σ.1 5 4)) 30 5 (σ.1 4 5)) 31 5 (σ.1 5 5)) 30 6 (σ.1 4 6)) 31 6 (σ.1 5 6)) 30 7 (σ.1 4 7)) 31 7 (σ.1 5 7)), σ.2))) (C := 8 ≤ (8 : Int32)) (G := vp_in 7 8 ∧ vp_in 7 8 ∧ vp_in 7 8 ∧ vp_in 7 8 ∧ True) rfl ⟨(bz_lit (by decide)), (bz_lit (by decide)), (bz_lit (by decide)), (bz_lit (by decide)), trivial⟩ (fun _ => ?_) (fun z => absurd (by decide) z)
  refine bz_wpn bT_X4_copy 4 (b := (46, [some (.ref 29), some (.ref 3), some (.int 8)], [], ((bz_up (bz_up (bz_up (bz_up (bz_up (bz_up (bz_up (bz_up (bz_up (bz_up (bz_up (bz_up (bz_up (bz_up (bz_up (bz_up (bz_up σ.1 30 0 (σ.1 4 0)) 31 0 (σ.1 5 0)) 30 1 (σ.1 4 1)) 31 1 (σ.1 5 1)) 30 2 (σ.1 4 2)) 31 2 (σ.1 5 2)) 30 3 (σ.1 4 3)) 31 3 (σ.1 5 3)) 30 4 (σ.1 4 4)) 31 4 (σ.1 5 4)) 30 5 (σ.1 4 5)) 31 5 (σ.1 5 5)) 30 6 (σ.1 4 6)) 31 6 (σ.1 5 6)) 30 7 (σ.1 4 7)) 31 7 (σ.1 5 7)) 29 2 (σ.1 3 2)), σ.2))) (G := True) rfl trivial ?_
  refine bz_wpr bT_X4_copy rfl rfl trivial ?_
  have e9 : f_X4_copy_29_3 σ = ((bz_up (bz_up (bz_up (bz_up (bz_up (bz_up (bz_up (bz_up (bz_up (bz_up (bz_up (bz_up (bz_up (bz_up (bz_up (bz_up (bz_up σ.1 30 0 (σ.1 4 0)) 31 0 (σ.1 5 0)) 30 1 (σ.1 4 1)) 31 1 (σ.1 5 1)) 30 2 (σ.1 4 2)) 31 2 (σ.1 5 2)) 30 3 (σ.1 4 3)) 31 3 (σ.1 5 3)) 30 4 (σ.1 4 4)) 31 4 (σ.1 5 4)) 30 5 (σ.1 4 5)) 31 5 (σ.1 5 5)) 30 6 (σ.1 4 6)) 31 6 (σ.1 5 6)) 30 7 (σ.1 4 7)) 31 7 (σ.1 5 7)) 29 2 (σ.1 3 2)), σ.2) := by rw [f_X4_copy_29_3]
  exact ⟨rfl, by rw [e9]⟩
theorem rf_X4_copy_29_3 (σ : bz_S)  : bz_fr [29, 30, 31] σ (f_X4_copy_29_3 σ) := by
  unfold f_X4_copy_29_3
  exact ⟨(bz_f1_up (bz_f1_up (bz_f1_up (bz_f1_up (bz_f1_up (bz_f1_up (bz_f1_up (bz_f1_up (bz_f1_up (bz_f1_up (bz_f1_up (bz_f1_up (bz_f1_up (bz_f1_up (bz_f1_up (bz_f1_up (bz_f1_up (bz_fr_rf).1 (by decide)) (by decide)) (by decide)) (by decide)) (by decide)) (by decide)) (by decide)) (by decide)) (by decide)) (by decide)) (by decide)) (by decide)) (by decide)) (by decide)) (by decide)) (by decide)) (by decide)), (bz_fr_rf).2⟩

def f_X4_copy_3_23 (σ : bz_S)  : bz_S := ((bz_up (bz_up (bz_up (bz_up (bz_up (bz_up (bz_up (bz_up (bz_up (bz_up (bz_up (bz_up (bz_up (bz_up (bz_up (bz_up (bz_up σ.1 4 0 (σ.1 24 0)) 5 0 (σ.1 25 0)) 4 1 (σ.1 24 1)) 5 1 (σ.1 25 1)) 4 2 (σ.1 24 2)) 5 2 (σ.1 25 2)) 4 3 (σ.1 24 3)) 5 3 (σ.1 25 3)) 4 4 (σ.1 24 4)) 5 4 (σ.1 25 4)) 4 5 (σ.1 24 5)) 5 5 (σ.1 25 5)) 4 6 (σ.1 24 6)) 5 6 (σ.1 25 6)) 4 7 (σ.1 24 7)) 5 7 (σ.1 25 7)) 3 2 (σ.1 23 2)), σ.2)
set_option maxRecDepth 100000 in
theorem s_X4_copy_3_23 {X : bz_X} (σ : bz_S) : bz_C bz_P X mX4_copy [.ref 3, .ref 23] σ (bz_pv (f_X4_copy_3_23 σ)) := by
  show bz_wp bz_P X mX4_copy (bz_pv (f_X4_copy_3_23 σ)) (0, [some (.ref 3), some (.ref 23), none], [], σ)
  refine bz_wpb bT_X4_copy 5 (b1 := (38, [some (.ref 3), some (.ref 23), some (.int 0)], [], σ)) (b2 := (8, [some (.ref 3), some (.ref 23), some (.int 0)], [], σ)) (C := 8 ≤ (0 : Int32)) (G := True) rfl trivial (fun z => absurd z (by decide)) (fun _ => ?_)
  refine bz_wpb bT_X4_copy 21 (b1 := (38, [some (.ref 3), some (.ref 23), some (.int 1)], [], ((bz_up (bz_up σ.1 4 0 (σ.1 24 0)) 5 0 (σ.1 25 0)), σ.2))) (b2 := (8, [some (.ref 3), some (.ref 23), some (.int 1)], [], ((bz_up (bz_up σ.1 4 0 (σ.1 24 0)) 5 0 (σ.1 25 0)), σ.2))) (C := 8 ≤ (1 : Int32)) (G := vp_in 0 8 ∧ vp_in 0 8 ∧ vp_in 0 8 ∧ vp_in 0 8 ∧ True) rfl ⟨(bz_lit (by decide)), (bz_lit (by decide)), (bz_lit (by decide)), (bz_lit (by decide)), trivial⟩ (fun z => absurd z (by decide)) (fun _ => ?_)
  refine bz_wpb bT_X4_copy 21 (b1 := (38, [some (.ref 3), some (.ref 23), some (.int 2)], [], ((bz_up (bz_up (bz_up (bz_up σ.1 4 0 (σ.1 24 0)) 5 0 (σ.1 25 0)) 4 1 (σ.1 24 1)) 5 1 (σ.1 25 1)), σ.2))) (b2 := (8, [some (.ref 3), some (.ref 23), some (.int 2)], [], ((bz_up (bz_up (bz_up (bz_up σ.1 4 0 (σ.1 24 0)) 5 0 (σ.1 25 0)) 4 1 (σ.1 24 1)) 5 1 (σ.1 25 1)), σ.2))) (C := 8 ≤ (2 : Int32)) (G := vp_in 1 8 ∧ vp_in 1 8 ∧ vp_in 1 8 ∧ vp_in 1 8 ∧ True) rfl ⟨(bz_lit (by decide)), (bz_lit (by decide)), (bz_lit (by decide)), (bz_lit (by decide)), trivial⟩ (fun z => absurd z (by decide)) (fun _ => ?_)
  refine bz_wpb bT_X4_copy 21 (b1 := (38, [some (.ref 3), some (.ref 23), some (.int 3)], [], ((bz_up (bz_up (bz_up (bz_up (bz_up (bz_up σ.1 4 0 (σ.1 24 0)) 5 0 (σ.1 25 0)) 4 1 (σ.1 24 1)) 5 1 (σ.1 25 1)) 4 2 (σ.1 24 2)) 5 2 (σ.1 25 2)), σ.2))) (b2 := (8, [some (.ref 3), some (.ref 23), some (.int 3)], [], ((bz_up (bz_up (bz_up (bz_up (bz_up (bz_up σ.1 4 0 (σ.1 24 0)) 5 0 (σ.1 25 0)) 4 1 (σ.1 24 1)) 5 1 (σ.1 25 1)) 4 2 (σ.1 24 2)) 5 2 (σ.1 25 2)), σ.2))) (C := 8 ≤ (3 : Int32)) (G := vp_in 2 8 ∧ vp_in 2 8 ∧ vp_in 2 8 ∧ vp_in 2 8 ∧ True) rfl ⟨(bz_lit (by decide)), (bz_lit (by decide)), (bz_lit (by decide)), (bz_lit (by decide)), trivial⟩ (fun z => absurd z (by decide)) (fun _ => ?_)
  refine bz_wpb bT_X4_copy 21 (b1 := (38, [some (.ref 3), some (.ref 23), some (.int 4)], [], ((bz_up (bz_up (bz_up (bz_up (bz_up (bz_up (bz_up (bz_up σ.1 4 0 (σ.1 24 0)) 5 0 (σ.1 25 0)) 4 1 (σ.1 24 1)) 5 1 (σ.1 25 1)) 4 2 (σ.1 24 2)) 5 2 (σ.1 25 2)) 4 3 (σ.1 24 3)) 5 3 (σ.1 25 3)), σ.2))) (b2 := (8, [some (.ref 3), some (.ref 23), some (.int 4)], [], ((bz_up (bz_up (bz_up (bz_up (bz_up (bz_up (bz_up (bz_up σ.1 4 0 (σ.1 24 0)) 5 0 (σ.1 25 0)) 4 1 (σ.1 24 1)) 5 1 (σ.1 25 1)) 4 2 (σ.1 24 2)) 5 2 (σ.1 25 2)) 4 3 (σ.1 24 3)) 5 3 (σ.1 25 3)), σ.2))) (C := 8 ≤ (4 : Int32)) (G := vp_in 3 8 ∧ vp_in 3 8 ∧ vp_in 3 8 ∧ vp_in 3 8 ∧ True) rfl ⟨(bz_lit (by decide)), (bz_lit (by decide)), (bz_lit (by decide)), (bz_lit (by decide)), trivial⟩ (fun z => absurd z (by decide)) (fun _ => ?_)
  refine bz_wpb bT_X4_copy 21 (b1 := (38, [some (.ref 3), some (.ref 23), some (.int 5)], [], ((bz_up (bz_up (bz_up (bz_up (bz_up (bz_up (bz_up (bz_up (bz_up (bz_up σ.1 4 0 (σ.1 24 0)) 5 0 (σ.1 25 0)) 4 1 (σ.1 24 1)) 5 1 (σ.1 25 1)) 4 2 (σ.1 24 2)) 5 2 (σ.1 25 2)) 4 3 (σ.1 24 3)) 5 3 (σ.1 25 3)) 4 4 (σ.1 24 4)) 5 4 (σ.1 25 4)), σ.2))) (b2 := (8, [some (.ref 3), some (.ref 23), some (.int 5)], [], ((bz_up (bz_up (bz_up (bz_up (bz_up (bz_up (bz_up (bz_up (bz_up (bz_up σ.1 4 0 (σ.1 24 0)) 5 0 (σ.1 25 0)) 4 1 (σ.1 24 1)) 5 1 (σ.1 25 1)) 4 2 (σ.1 24 2)) 5 2 (σ.1 25 2)) 4 3 (σ.1 24 3)) 5 3 (σ.1 25 3)) 4 4 (σ.1 24 4)) 5 4 (σ.1 25 4)), σ.2))) (C := 8 ≤ (5 : Int32)) (G := vp_in 4 8 ∧ vp_in 4 8 ∧ vp_in 4 8 ∧ vp_in 4 8 ∧ True) rfl ⟨(bz_lit (by decide)), (bz_lit (by decide)), (bz_lit (by decide)), (bz_lit (by decide)), trivial⟩ (fun z => absurd z (by decide)) (fun _ => ?_)
  refine bz_wpb bT_X4_copy 21 (b1 := (38, [some (.ref 3), some (.ref 23), some (.int 6)], [], ((bz_up (bz_up (bz_up (bz_up (bz_up (bz_up (bz_up (bz_up (bz_up (bz_up (bz_up (bz_up σ.1 4 0 (σ.1 24 0)) 5 0 (σ.1 25 0)) 4 1 (σ.1 24 1)) 5 1 (σ.1 25 1)) 4 2 (σ.1 24 2)) 5 2 (σ.1 25 2)) 4 3 (σ.1 24 3)) 5 3 (σ.1 25 3)) 4 4 (σ.1 24 4)) 5 4 (σ.1 25 4)) 4 5 (σ.1 24 5)) 5 5 (σ.1 25 5)), σ.2))) (b2 := (8, [some (.ref 3), some (.ref 23), some (.int 6)], [], ((bz_up (bz_up (bz_up (bz_up (bz_up (bz_up (bz_up (bz_up (bz_up (bz_up (bz_up (bz_up σ.1 4 0 (σ.1 24 0)) 5 0 (σ.1 25 0)) 4 1 (σ.1 24 1)) 5 1 (σ.1 25 1)) 4 2 (σ.1 24 2)) 5 2 (σ.1 25 2)) 4 3 (σ.1 24 3)) 5 3 (σ.1 25 3)) 4 4 (σ.1 24 4)) 5 4 (σ.1 25 4)) 4 5 (σ.1 24 5)) 5 5 (σ.1 25 5)), σ.2))) (C := 8 ≤ (6 : Int32)) (G := vp_in 5 8 ∧ vp_in 5 8 ∧ vp_in 5 8 ∧ vp_in 5 8 ∧ True) rfl ⟨(bz_lit (by decide)), (bz_lit (by decide)), (bz_lit (by decide)), (bz_lit (by decide)), trivial⟩ (fun z => absurd z (by decide)) (fun _ => ?_)
  refine bz_wpb bT_X4_copy 21 (b1 := (38, [some (.ref 3), some (.ref 23), some (.int 7)], [], ((bz_up (bz_up (bz_up (bz_up (bz_up (bz_up (bz_up (bz_up (bz_up (bz_up (bz_up (bz_up (bz_up (bz_up σ.1 4 0 (σ.1 24 0)) 5 0 (σ.1 25 0)) 4 1 (σ.1 24 1)) 5 1 (σ.1 25 1)) 4 2 (σ.1 24 2)) 5 2 (σ.1 25 2)) 4 3 (σ.1 24 3)) 5 3 (σ.1 25 3)) 4 4 (σ.1 24 4)) 5 4 (σ.1 25 4)) 4 5 (σ.1 24 5)) 5 5 (σ.1 25 5)) 4 6 (σ.1 24 6)) 5 6 (σ.1 25 6)), σ.2))) (b2 := (8, [some (.ref 3), some (.ref 23), some (.int 7)], [], ((bz_up (bz_up (bz_up (bz_up (bz_up (bz_up (bz_up (bz_up (bz_up (bz_up (bz_up (bz_up (bz_up (bz_up σ.1 4 0 (σ.1 24 0)) 5 0 (σ.1 25 0)) 4 1 (σ.1 24 1)) 5 1 (σ.1 25 1)) 4 2 (σ.1 24 2)) 5 2 (σ.1 25 2)) 4 3 (σ.1 24 3)) 5 3 (σ.1 25 3)) 4 4 (σ.1 24 4)) 5 4 (σ.1 25 4)) 4 5 (σ.1 24 5)) 5 5 (σ.1 25 5)) 4 6 (σ.1 24 6)) 5 6 (σ.1 25 6)), σ.2))) (C := 8 ≤ (7 : Int32)) (G := vp_in 6 8 ∧ vp_in 6 8 ∧ vp_in 6 8 ∧ vp_in 6 8 ∧ True) rfl ⟨(bz_lit (by decide)), (bz_lit (by decide)), (bz_lit (by decide)), (bz_lit (by decide)), trivial⟩ (fun z => absurd z (by decide)) (fun _ => ?_)
  refine bz_wpb bT_X4_copy 21 (b1 := (38, [some (.ref 3), some (.ref 23), some (.int 8)], [], ((bz_up (bz_up (bz_up (bz_up (bz_up (bz_up (bz_up (bz_up (bz_up (bz_up (bz_up (bz_up (bz_up (bz_up (bz_up (bz_up σ.1 4 0 (σ.1 24 0)) 5 0 (σ.1 25 0)) 4 1 (σ.1 24 1)) 5 1 (σ.1 25 1)) 4 2 (σ.1 24 2)) 5 2 (σ.1 25 2)) 4 3 (σ.1 24 3)) 5 3 (σ.1 25 3)) 4 4 (σ.1 24 4)) 5 4 (σ.1 25 4)) 4 5 (σ.1 24 5)) 5 5 (σ.1 25 5)) 4 6 (σ.1 24 6)) 5 6 (σ.1 25 6)) 4 7 (σ.1 24 7)) 5 7 (σ.1 25 7)), σ.2))) (b2 := (8, [some (.ref 3), some (.ref 23), some (.int 8)], [], ((bz_up (bz_up (bz_up (bz_up (bz_up (bz_up (bz_up (bz_up (bz_up (bz_up (bz_up (bz_up (bz_up (bz_up (bz_up (bz_up σ.1 4 0 (σ.1 24 0)) 5 0 (σ.1 25 0)) 4 1 (σ.1 24 1)) 5 1 (σ.1 25 1)) 4 2 (σ.1 24 2)) 5 2 (σ.1 25 2)) 4 3 (σ.1 24 3)) 5 3 (σ.1 25 3)) 4 4 (σ.1 24 4)) 5 4 (σ.1 25 4)) 4 5 (σ.1 24 5)) 5 5 (σ.1 25 5)) 4 6 (σ.1 24 6)) 5 6 (σ.1 25 6)) 4 7 (σ.1 24 7)) 5 7 (σ.1 25 7)), σ.2))) (C := 8 ≤ (8 : Int32)) (G := vp_in 7 8 ∧ vp_in 7 8 ∧ vp_in 7 8 ∧ vp_in 7 8 ∧ True) rfl ⟨(bz_lit (by decide)), (bz_lit (by decide)), (bz_lit (by decide)), (bz_lit (by decide)), trivial⟩ (fun _ => ?_) (fun z => absurd (by decide) z)
  refine bz_wpn bT_X4_copy 4 (b := (46, [some (.ref 3), some (.ref 23), some (.int 8)], [], ((bz_up (bz_up (bz_up (bz_up (bz_up (bz_up (bz_up (bz_up (bz_up (bz_up (bz_up (bz_up (bz_up (bz_up (bz_up (bz_up (bz_up σ.1 4 0 (σ.1 24 0)) 5 0 (σ.1 25 0)) 4 1 (σ.1 24 1)) 5 1 (σ.1 25 1)) 4 2 (σ.1 24 2)) 5 2 (σ.1 25 2)) 4 3 (σ.1 24 3)) 5 3 (σ.1 25 3)) 4 4 (σ.1 24 4)) 5 4 (σ.1 25 4)) 4 5 (σ.1 24 5)) 5 5 (σ.1 25 5)) 4 6 (σ.1 24 6)) 5 6 (σ.1 25 6)) 4 7 (σ.1 24 7)) 5 7 (σ.1 25 7)) 3 2 (σ.1 23 2)), σ.2))) (G := True) rfl trivial ?_
  refine bz_wpr bT_X4_copy rfl rfl trivial ?_
  have e9 : f_X4_copy_3_23 σ = ((bz_up (bz_up (bz_up (bz_up (bz_up (bz_up (bz_up (bz_up (bz_up (bz_up (bz_up (bz_up (bz_up (bz_up (bz_up (bz_up (bz_up σ.1 4 0 (σ.1 24 0)) 5 0 (σ.1 25 0)) 4 1 (σ.1 24 1)) 5 1 (σ.1 25 1)) 4 2 (σ.1 24 2)) 5 2 (σ.1 25 2)) 4 3 (σ.1 24 3)) 5 3 (σ.1 25 3)) 4 4 (σ.1 24 4)) 5 4 (σ.1 25 4)) 4 5 (σ.1 24 5)) 5 5 (σ.1 25 5)) 4 6 (σ.1 24 6)) 5 6 (σ.1 25 6)) 4 7 (σ.1 24 7)) 5 7 (σ.1 25 7)) 3 2 (σ.1 23 2)), σ.2) := by rw [f_X4_copy_3_23]
  exact ⟨rfl, by rw [e9]⟩
theorem rf_X4_copy_3_23 (σ : bz_S)  : bz_fr [3, 4, 5] σ (f_X4_copy_3_23 σ) := by
  unfold f_X4_copy_3_23
  exact ⟨(bz_f1_up (bz_f1_up (bz_f1_up (bz_f1_up (bz_f1_up (bz_f1_up (bz_f1_up (bz_f1_up (bz_f1_up (bz_f1_up (bz_f1_up (bz_f1_up (bz_f1_up (bz_f1_up (bz_f1_up (bz_f1_up (bz_f1_up (bz_fr_rf).1 (by decide)) (by decide)) (by decide)) (by decide)) (by decide)) (by decide)) (by decide)) (by decide)) (by decide)) (by decide)) (by decide)) (by decide)) (by decide)) (by decide)) (by decide)) (by decide)) (by decide)), (bz_fr_rf).2⟩

def f_X4_copy_3_29 (σ : bz_S)  : bz_S := ((bz_up (bz_up (bz_up (bz_up (bz_up (bz_up (bz_up (bz_up (bz_up (bz_up (bz_up (bz_up (bz_up (bz_up (bz_up (bz_up (bz_up σ.1 4 0 (σ.1 30 0)) 5 0 (σ.1 31 0)) 4 1 (σ.1 30 1)) 5 1 (σ.1 31 1)) 4 2 (σ.1 30 2)) 5 2 (σ.1 31 2)) 4 3 (σ.1 30 3)) 5 3 (σ.1 31 3)) 4 4 (σ.1 30 4)) 5 4 (σ.1 31 4)) 4 5 (σ.1 30 5)) 5 5 (σ.1 31 5)) 4 6 (σ.1 30 6)) 5 6 (σ.1 31 6)) 4 7 (σ.1 30 7)) 5 7 (σ.1 31 7)) 3 2 (σ.1 29 2)), σ.2)
set_option maxRecDepth 100000 in
theorem s_X4_copy_3_29 {X : bz_X} (σ : bz_S) : bz_C bz_P X mX4_copy [.ref 3, .ref 29] σ (bz_pv (f_X4_copy_3_29 σ)) := by
  show bz_wp bz_P X mX4_copy (bz_pv (f_X4_copy_3_29 σ)) (0, [some (.ref 3), some (.ref 29), none], [], σ)
  refine bz_wpb bT_X4_copy 5 (b1 := (38, [some (.ref 3), some (.ref 29), some (.int 0)], [], σ)) (b2 := (8, [some (.ref 3), some (.ref 29), some (.int 0)], [], σ)) (C := 8 ≤ (0 : Int32)) (G := True) rfl trivial (fun z => absurd z (by decide)) (fun _ => ?_)
  refine bz_wpb bT_X4_copy 21 (b1 := (38, [some (.ref 3), some (.ref 29), some (.int 1)], [], ((bz_up (bz_up σ.1 4 0 (σ.1 30 0)) 5 0 (σ.1 31 0)), σ.2))) (b2 := (8, [some (.ref 3), some (.ref 29), some (.int 1)], [], ((bz_up (bz_up σ.1 4 0 (σ.1 30 0)) 5 0 (σ.1 31 0)), σ.2))) (C := 8 ≤ (1 : Int32)) (G := vp_in 0 8 ∧ vp_in 0 8 ∧ vp_in 0 8 ∧ vp_in 0 8 ∧ True) rfl ⟨(bz_lit (by decide)), (bz_lit (by decide)), (bz_lit (by decide)), (bz_lit (by decide)), trivial⟩ (fun z => absurd z (by decide)) (fun _ => ?_)
  refine bz_wpb bT_X4_copy 21 (b1 := (38, [some (.ref 3), some (.ref 29), some (.int 2)], [], ((bz_up (bz_up (bz_up (bz_up σ.1 4 0 (σ.1 30 0)) 5 0 (σ.1 31 0)) 4 1 (σ.1 30 1)) 5 1 (σ.1 31 1)), σ.2))) (b2 := (8, [some (.ref 3), some (.ref 29), some (.int 2)], [], ((bz_up (bz_up (bz_up (bz_up σ.1 4 0 (σ.1 30 0)) 5 0 (σ.1 31 0)) 4 1 (σ.1 30 1)) 5 1 (σ.1 31 1)), σ.2))) (C := 8 ≤ (2 : Int32)) (G := vp_in 1 8 ∧ vp_in 1 8 ∧ vp_in 1 8 ∧ vp_in 1 8 ∧ True) rfl ⟨(bz_lit (by decide)), (bz_lit (by decide)), (bz_lit (by decide)), (bz_lit (by decide)), trivial⟩ (fun z => absurd z (by decide)) (fun _ => ?_)
  refine bz_wpb bT_X4_copy 21 (b1 := (38, [some (.ref 3), some (.ref 29), some (.int 3)], [], ((bz_up (bz_up (bz_up (bz_up (bz_up (bz_up σ.1 4 0 (σ.1 30 0)) 5 0 (σ.1 31 0)) 4 1 (σ.1 30 1)) 5 1 (σ.1 31 1)) 4 2 (σ.1 30 2)) 5 2 (σ.1 31 2)), σ.2))) (b2 := (8, [some (.ref 3), some (.ref 29), some (.int 3)], [], ((bz_up (bz_up (bz_up (bz_up (bz_up (bz_up σ.1 4 0 (σ.1 30 0)) 5 0 (σ.1 31 0)) 4 1 (σ.1 30 1)) 5 1 (σ.1 31 1)) 4 2 (σ.1 30 2)) 5 2 (σ.1 31 2)), σ.2))) (C := 8 ≤ (3 : Int32)) (G := vp_in 2 8 ∧ vp_in 2 8 ∧ vp_in 2 8 ∧ vp_in 2 8 ∧ True) rfl ⟨(bz_lit (by decide)), (bz_lit (by decide)), (bz_lit (by decide)), (bz_lit (by decide)), trivial⟩ (fun z => absurd z (by decide)) (fun _ => ?_)
  refine bz_wpb bT_X4_copy 21 (b1 := (38, [some (.ref 3), some (.ref 29), some (.int 4)], [], ((bz_up (bz_up (bz_up (bz_up (bz_up (bz_up (bz_up (bz_up σ.1 4 0 (σ.1 30 0)) 5 0 (σ.1 31 0)) 4 1 (σ.1 30 1)) 5 1 (σ.1 31 1)) 4 2 (σ.1 30 2)) 5 2 (σ.1 31 2)) 4 3 (σ.1 30 3)) 5 3 (σ.1 31 3)), σ.2))) (b2 := (8, [some (.ref 3), some (.ref 29), some (.int 4)], [], ((bz_up (bz_up (bz_up (bz_up (bz_up (bz_up (bz_up (bz_up σ.1 4 0 (σ.1 30 0)) 5 0 (σ.1 31 0)) 4 1 (σ.1 30 1)) 5 1 (σ.1 31 1)) 4 2 (σ.1 30 2)) 5 2 (σ.1 31 2)) 4 3 (σ.1 30 3)) 5 3 (σ.1 31 3)), σ.2))) (C := 8 ≤ (4 : Int32)) (G := vp_in 3 8 ∧ vp_in 3 8 ∧ vp_in 3 8 ∧ vp_in 3 8 ∧ True) rfl ⟨(bz_lit (by decide)), (bz_lit (by decide)), (bz_lit (by decide)), (bz_lit (by decide)), trivial⟩ (fun z => absurd z (by decide)) (fun _ => ?_)
  refine bz_wpb bT_X4_copy 21 (b1 := (38, [some (.ref 3), some (.ref 29), some (.int 5)], [], ((bz_up (bz_up (bz_up (bz_up (bz_up (bz_up (bz_up (bz_up (bz_up (bz_up σ.1 4 0 (σ.1 30 0)) 5 0 (σ.1 31 0)) 4 1 (σ.1 30 1)) 5 1 (σ.1 31 1)) 4 2 (σ.1 30 2)) 5 2 (σ.1 31 2)) 4 3 (σ.1 30 3)) 5 3 (σ.1 31 3)) 4 4 (σ.1 30 4)) 5 4 (σ.1 31 4)), σ.2))) (b2 := (8, [some (.ref 3), some (.ref 29), some (.int 5)], [], ((bz_up (bz_up (bz_up (bz_up (bz_up (bz_up (bz_up (bz_up (bz_up (bz_up σ.1 4 0 (σ.1 30 0)) 5 0 (σ.1 31 0)) 4 1 (σ.1 30 1)) 5 1 (σ.1 31 1)) 4 2 (σ.1 30 2)) 5 2 (σ.1 31 2)) 4 3 (σ.1 30 3)) 5 3 (σ.1 31 3)) 4 4 (σ.1 30 4)) 5 4 (σ.1 31 4)), σ.2))) (C := 8 ≤ (5 : Int32)) (G := vp_in 4 8 ∧ vp_in 4 8 ∧ vp_in 4 8 ∧ vp_in 4 8 ∧ True) rfl ⟨(bz_lit (by decide)), (bz_lit (by decide)), (bz_lit (by decide)), (bz_lit (by decide)), trivial⟩ (fun z => absurd z (by decide)) (fun _ => ?_)
  refine bz_wpb bT_X4_copy 21 (b1 := (38, [some (.ref 3), some (.ref 29), some (.int 6)], [], ((bz_up (bz_up (bz_up (bz_up (bz_up (bz_up (bz_up (bz_up (bz_up (bz_up (bz_up (bz_up σ.1 4 0 (σ.1 30 0)) 5 0 (σ.1 31 0)) 4 1 (σ.1 30 1)) 5 1 (σ.1 31 1)) 4 2 (σ.1 30 2)) 5 2 (σ.1 31 2)) 4 3 (σ.1 30 3)) 5 3 (σ.1 31 3)) 4 4 (σ.1 30 4)) 5 4 (σ.1 31 4)) 4 5 (σ.1 30 5)) 5 5 (σ.1 31 5)), σ.2))) (b2 := (8, [some (.ref 3), some (.ref 29), some (.int 6)], [], ((bz_up (bz_up (bz_up (bz_up (bz_up (bz_up (bz_up (bz_up (bz_up (bz_up (bz_up (bz_up σ.1 4 0 (σ.1 30 0)) 5 0 (σ.1 31 0)) 4 1 (σ.1 30 1)) 5 1 (σ.1 31 1)) 4 2 (σ.1 30 2)) 5 2 (σ.1 31 2)) 4 3 (σ.1 30 3)) 5 3 (σ.1 31 3)) 4 4 (σ.1 30 4)) 5 4 (σ.1 31 4)) 4 5 (σ.1 30 5)) 5 5 (σ.1 31 5)), σ.2))) (C := 8 ≤ (6 : Int32)) (G := vp_in 5 8 ∧ vp_in 5 8 ∧ vp_in 5 8 ∧ vp_in 5 8 ∧ True) rfl ⟨(bz_lit (by decide)), (bz_lit (by decide)), (bz_lit (by decide)), (bz_lit (by decide)), trivial⟩ (fun z => absurd z (by decide)) (fun _ => ?_)
  refine bz_wpb bT_X4_copy 21 (b1 := (38, [some (.ref 3), some (.ref 29), some (.int 7)], [], ((bz_up (bz_up (bz_up (bz_up (bz_up (bz_up (bz_up (bz_up (bz_up (bz_up (bz_up (bz_up (bz_up (bz_up σ.1 4 0 (σ.1 30 0)) 5 0 (σ.1 31 0)) 4 1 (σ.1 30 1)) 5 1 (σ.1 31 1)) 4 2 (σ.1 30 2)) 5 2 (σ.1 31 2)) 4 3 (σ.1 30 3)) 5 3 (σ.1 31 3)) 4 4 (σ.1 30 4)) 5 4 (σ.1 31 4)) 4 5 (σ.1 30 5)) 5 5 (σ.1 31 5)) 4 6 (σ.1 30 6)) 5 6 (σ.1 31 6)), σ.2))) (b2 := (8, [some (.ref 3), some (.ref 29), some (.int 7)], [], ((bz_up (bz_up (bz_up (bz_up (bz_up (bz_up (bz_up (bz_up (bz_up (bz_up (bz_up (bz_up (bz_up (bz_up σ.1 4 0 (σ.1 30 0)) 5 0 (σ.1 31 0)) 4 1 (σ.1 30 1)) 5 1 (σ.1 31 1)) 4 2 (σ.1 30 2)) 5 2 (σ.1 31 2)) 4 3 (σ.1 30 3)) 5 3 (σ.1 31 3)) 4 4 (σ.1 30 4)) 5 4 (σ.1 31 4)) 4 5 (σ.1 30 5)) 5 5 (σ.1 31 5)) 4 6 (σ.1 30 6)) 5 6 (σ.1 31 6)), σ.2))) (C := 8 ≤ (7 : Int32)) (G := vp_in 6 8 ∧ vp_in 6 8 ∧ vp_in 6 8 ∧ vp_in 6 8 ∧ True) rfl ⟨(bz_lit (by decide)), (bz_lit (by decide)), (bz_lit (by decide)), (bz_lit (by decide)), trivial⟩ (fun z => absurd z (by decide)) (fun _ => ?_)
  refine bz_wpb bT_X4_copy 21 (b1 := (38, [some (.ref 3), some (.ref 29), some (.int 8)], [], ((bz_up (bz_up (bz_up (bz_up (bz_up (bz_up (bz_up (bz_up (bz_up (bz_up (bz_up (bz_up (bz_up (bz_up (bz_up (bz_up σ.1 4 0 (σ.1 30 0)) 5 0 (σ.1 31 0)) 4 1 (σ.1 30 1)) 5 1 (σ.1 31 1)) 4 2 (σ.1 30 2)) 5 2 (σ.1 31 2)) 4 3 (σ.1 30 3)) 5 3 (σ.1 31 3)) 4 4 (σ.1 30 4)) 5 4 (σ.1 31 4)) 4 5 (σ.1 30 5)) 5 5 (σ.1 31 5)) 4 6 (σ.1 30 6)) 5 6 (σ.1 31 6)) 4 7 (σ.1 30 7)) 5 7 (σ.1 31 7)), σ.2))) (b2 := (8, [some (.ref 3), some (.ref 29), some (.int 8)], [], ((bz_up (bz_up (bz_up (bz_up (bz_up (bz_up (bz_up (bz_up (bz_up (bz_up (bz_up (bz_up (bz_up (bz_up (bz_up (bz_up σ.1 4 0 (σ.1 30 0)) 5 0 (σ.1 31 0)) 4 1 (σ.1 30 1)) 5 1 (σ.1 31 1)) 4 2 (σ.1 30 2)) 5 2 (σ.1 31 2)) 4 3 (σ.1 30 3)) 5 3 (σ.1 31 3)) 4 4 (σ.1 30 4)) 5 4 (σ.1 31 4)) 4 5 (σ.1 30 5)) 5 5 (σ.1 31 5)) 4 6 (σ.1 30 6)) 5 6 (σ.1 31 6)) 4 7 (σ.1 30 7)) 5 7 (σ.1 31 7)), σ.2))) (C := 8 ≤ (8 : Int32)) (G := vp_in 7 8 ∧ vp_in 7 8 ∧ vp_in 7 8 ∧ vp_in 7 8 ∧ True) rfl ⟨(bz_lit (by decide)), (bz_lit (by decide)), (bz_lit (by decide)), (bz_lit (by decide)), trivial⟩ (fun _ => ?_) (fun z => absurd (by decide) z)
  refine bz_wpn bT_X4_copy 4 (b := (46, [some (.ref 3), some (.ref 29), some (.int 8)], [], ((bz_up (bz_up (bz_up (bz_up (bz_up (bz_up (bz_up (bz_up (bz_up (bz_up (bz_up (bz_up (bz_up (bz_up (bz_up (bz_up (bz_up σ.1 4 0 (σ.1 30 0)) 5 0 (σ.1 31 0)) 4 1 (σ.1 30 1)) 5 1 (σ.1 31 1)) 4 2 (σ.1 30 2)) 5 2 (σ.1 31 2)) 4 3 (σ.1 30 3)) 5 3 (σ.1 31 3)) 4 4 (σ.1 30 4)) 5 4 (σ.1 31 4)) 4 5 (σ.1 30 5)) 5 5 (σ.1 31 5)) 4 6 (σ.1 30 6)) 5 6 (σ.1 31 6)) 4 7 (σ.1 30 7)) 5 7 (σ.1 31 7)) 3 2 (σ.1 29 2)), σ.2))) (G := True) rfl trivial ?_
  refine bz_wpr bT_X4_copy rfl rfl trivial ?_
  have e9 : f_X4_copy_3_29 σ = ((bz_up (bz_up (bz_up (bz_up (bz_up (bz_up (bz_up (bz_up (bz_up (bz_up (bz_up (bz_up (bz_up (bz_up (bz_up (bz_up (bz_up σ.1 4 0 (σ.1 30 0)) 5 0 (σ.1 31 0)) 4 1 (σ.1 30 1)) 5 1 (σ.1 31 1)) 4 2 (σ.1 30 2)) 5 2 (σ.1 31 2)) 4 3 (σ.1 30 3)) 5 3 (σ.1 31 3)) 4 4 (σ.1 30 4)) 5 4 (σ.1 31 4)) 4 5 (σ.1 30 5)) 5 5 (σ.1 31 5)) 4 6 (σ.1 30 6)) 5 6 (σ.1 31 6)) 4 7 (σ.1 30 7)) 5 7 (σ.1 31 7)) 3 2 (σ.1 29 2)), σ.2) := by rw [f_X4_copy_3_29]
  exact ⟨rfl, by rw [e9]⟩
theorem rf_X4_copy_3_29 (σ : bz_S)  : bz_fr [3, 4, 5] σ (f_X4_copy_3_29 σ) := by
  unfold f_X4_copy_3_29
  exact ⟨(bz_f1_up (bz_f1_up (bz_f1_up (bz_f1_up (bz_f1_up (bz_f1_up (bz_f1_up (bz_f1_up (bz_f1_up (bz_f1_up (bz_f1_up (bz_f1_up (bz_f1_up (bz_f1_up (bz_f1_up (bz_f1_up (bz_f1_up (bz_fr_rf).1 (by decide)) (by decide)) (by decide)) (by decide)) (by decide)) (by decide)) (by decide)) (by decide)) (by decide)) (by decide)) (by decide)) (by decide)) (by decide)) (by decide)) (by decide)) (by decide)) (by decide)), (bz_fr_rf).2⟩

def f_X6_reasonAgainst_9 (σ : bz_S) (kd : Int32) (b : Int32) : Int32 := if kd = 0 then if f_X6_isDown_9 σ b = true then 1 else 0 else (if kd = 1 then if f_X10_isBall b = true then if (σ.1 10 b.toNatClampNeg) = (-1) then if (f_X6_lyingOn_9 σ (f_tv0 b.toNatClampNeg)) = (-1) then 0 else 2 else 1 else 1 else (if kd = 2 then 0 else (if kd = 3 then if (σ.1 9 3) < 99 then 0 else 3 else 0)))
set_option maxRecDepth 100000 in
theorem s_X6_reasonAgainst_9 {X : bz_X} (σ : bz_S) (kd : Int32) (b : Int32) : bz_C bz_P X mX6_reasonAgainst [.ref 9, .int kd, .int b] σ (bz_pi (f_X6_reasonAgainst_9 σ kd b) σ) := by
  show bz_wp bz_P X mX6_reasonAgainst (bz_pi (f_X6_reasonAgainst_9 σ kd b) σ) (0, [some (.ref 9), some (.int kd), some (.int b)], [], σ)
  refine bz_wpn bT_X6_reasonAgainst 2 (b := (bz_sw (kd).toInt (bz_mk 0 [32, 46, 99, 84]) 99, [some (.ref 9), some (.int kd), some (.int b)], [], σ)) (G := True) rfl trivial ?_
  by_cases w1 : kd = 0
  · rw [show bz_sw (kd).toInt (bz_mk 0 [32, 46, 99, 84]) 99 = 32 from by rw [w1]; decide]
    refine bz_wpn bT_X6_reasonAgainst 2 (b := (34, [some (.ref 9), some (.int kd), some (.int b)], [.int b, .ref 9], σ)) (G := True) rfl trivial ?_
    refine bz_wci bT_X6_reasonAgainst [.ref 9, .int b] (pc' := 37) (rest := []) rfl rfl (Nat.le_of_ble_eq_true rfl) rfl (Nat.le_of_ble_eq_true rfl) rfl (s_X6_isDown_9 σ b) rfl ?_
    refine bz_wpb bT_X6_reasonAgainst 1 (b1 := (44, [some (.ref 9), some (.int kd), some (.int b)], [], σ)) (b2 := (40, [some (.ref 9), some (.int kd), some (.int b)], [], σ)) (C := bz_b (f_X6_isDown_9 σ b) = 0) (G := True) rfl trivial (fun h2 => ?_) (fun h2 => ?_)
    · skip
      have h2 := bz_b0 h2
      refine bz_wpn bT_X6_reasonAgainst 1 (b := (45, [some (.ref 9), some (.int kd), some (.int b)], [.int 0], σ)) (G := True) rfl trivial ?_
      refine bz_wpr bT_X6_reasonAgainst rfl rfl trivial ?_
      have e9 : f_X6_reasonAgainst_9 σ kd b = 0 := by rw [f_X6_reasonAgainst_9, if_pos (w1), if_neg (bz_ff h2)]
      exact ⟨by rw [e9], rfl⟩
    · skip
      have h2 := bz_b1 h2
      refine bz_wpn bT_X6_reasonAgainst 2 (b := (45, [some (.ref 9), some (.int kd), some (.int b)], [.int 1], σ)) (G := True) rfl trivial ?_
      refine bz_wpr bT_X6_reasonAgainst rfl rfl trivial ?_
      have e9 : f_X6_reasonAgainst_9 σ kd b = 1 := by rw [f_X6_reasonAgainst_9, if_pos (w1), if_pos (h2)]
      exact ⟨by rw [e9], rfl⟩
  by_cases w3 : kd = 1
  · rw [show bz_sw (kd).toInt (bz_mk 0 [32, 46, 99, 84]) 99 = 46 from by rw [w3]; decide]
    refine bz_wpn bT_X6_reasonAgainst 1 (b := (47, [some (.ref 9), some (.int kd), some (.int b)], [.int b], σ)) (G := True) rfl trivial ?_
    refine bz_wci bT_X6_reasonAgainst [.int b] (pc' := 50) (rest := []) rfl rfl (Nat.le_of_ble_eq_true rfl) rfl (Nat.le_of_ble_eq_true rfl) rfl (s_X10_isBall σ b) rfl ?_
    refine bz_wpb bT_X6_reasonAgainst 1 (b1 := (63, [some (.ref 9), some (.int kd), some (.int b)], [], σ)) (b2 := (53, [some (.ref 9), some (.int kd), some (.int b)], [], σ)) (C := bz_b (f_X10_isBall b) = 0) (G := True) rfl trivial (fun h4 => ?_) (fun h4 => ?_)
    · skip
      have h4 := bz_b0 h4
      refine bz_wpn bT_X6_reasonAgainst 1 (b := (64, [some (.ref 9), some (.int kd), some (.int b)], [.int 1], σ)) (G := True) rfl trivial ?_
      refine bz_wpr bT_X6_reasonAgainst rfl rfl trivial ?_
      have e9 : f_X6_reasonAgainst_9 σ kd b = 1 := by rw [f_X6_reasonAgainst_9, if_neg (w1), if_pos (w3), if_neg (bz_ff h4)]
      exact ⟨by rw [e9], rfl⟩
    · skip
      have h4 := bz_b1 h4
      refine bz_wpb bT_X6_reasonAgainst 6 (b1 := (65, [some (.ref 9), some (.int kd), some (.int b)], [], σ)) (b2 := (63, [some (.ref 9), some (.int kd), some (.int b)], [], σ)) (C := (σ.1 10 b.toNatClampNeg) = (-1)) (G := vp_in b 3 ∧ True) rfl ⟨(bz_ball (by assumption)), trivial⟩ (fun h5 => ?_) (fun h5 => ?_)
      · skip
        refine bz_wpn bT_X6_reasonAgainst 4 (b := (71, [some (.ref 9), some (.int kd), some (.int b)], [.int (f_tv0 b.toNatClampNeg), .ref 9], σ)) (G := vp_in b 3 ∧ True) rfl ⟨(bz_ball (by assumption)), trivial⟩ ?_
        refine bz_wci bT_X6_reasonAgainst [.ref 9, .int (f_tv0 b.toNatClampNeg)] (pc' := 74) (rest := []) rfl rfl (Nat.le_of_ble_eq_true rfl) rfl (Nat.le_of_ble_eq_true rfl) rfl (s_X6_lyingOn_9 σ (f_tv0 b.toNatClampNeg)) rfl ?_
        refine bz_wpb bT_X6_reasonAgainst 2 (b1 := (82, [some (.ref 9), some (.int kd), some (.int b)], [], σ)) (b2 := (78, [some (.ref 9), some (.int kd), some (.int b)], [], σ)) (C := ¬ (f_X6_lyingOn_9 σ (f_tv0 b.toNatClampNeg)) = (-1)) (G := True) rfl trivial (fun h6 => ?_) (fun h6 => ?_)
        · skip
          refine bz_wpn bT_X6_reasonAgainst 1 (b := (83, [some (.ref 9), some (.int kd), some (.int b)], [.int 2], σ)) (G := True) rfl trivial ?_
          refine bz_wpr bT_X6_reasonAgainst rfl rfl trivial ?_
          have e9 : f_X6_reasonAgainst_9 σ kd b = 2 := by rw [f_X6_reasonAgainst_9, if_neg (w1), if_pos (w3), if_pos (h4), if_pos (h5), if_neg (h6)]
          exact ⟨by rw [e9], rfl⟩
        · skip
          refine bz_wpn bT_X6_reasonAgainst 2 (b := (83, [some (.ref 9), some (.int kd), some (.int b)], [.int 0], σ)) (G := True) rfl trivial ?_
          refine bz_wpr bT_X6_reasonAgainst rfl rfl trivial ?_
          have e9 : f_X6_reasonAgainst_9 σ kd b = 0 := by rw [f_X6_reasonAgainst_9, if_neg (w1), if_pos (w3), if_pos (h4), if_pos (h5), if_pos ((Decidable.not_not.mp h6))]
          exact ⟨by rw [e9], rfl⟩
      · skip
        refine bz_wpn bT_X6_reasonAgainst 1 (b := (64, [some (.ref 9), some (.int kd), some (.int b)], [.int 1], σ)) (G := True) rfl trivial ?_
        refine bz_wpr bT_X6_reasonAgainst rfl rfl trivial ?_
        have e9 : f_X6_reasonAgainst_9 σ kd b = 1 := by rw [f_X6_reasonAgainst_9, if_neg (w1), if_pos (w3), if_pos (h4), if_neg (h5)]
        exact ⟨by rw [e9], rfl⟩
  by_cases w7 : kd = 2
  · rw [show bz_sw (kd).toInt (bz_mk 0 [32, 46, 99, 84]) 99 = 99 from by rw [w7]; decide]
    refine bz_wpn bT_X6_reasonAgainst 1 (b := (100, [some (.ref 9), some (.int kd), some (.int b)], [.int 0], σ)) (G := True) rfl trivial ?_
    refine bz_wpr bT_X6_reasonAgainst rfl rfl trivial ?_
    have e9 : f_X6_reasonAgainst_9 σ kd b = 0 := by rw [f_X6_reasonAgainst_9, if_neg (w1), if_neg (w3), if_pos (w7)]
    exact ⟨by rw [e9], rfl⟩
  by_cases w8 : kd = 3
  · rw [show bz_sw (kd).toInt (bz_mk 0 [32, 46, 99, 84]) 99 = 84 from by rw [w8]; decide]
    refine bz_wpb bT_X6_reasonAgainst 4 (b1 := (97, [some (.ref 9), some (.int kd), some (.int b)], [], σ)) (b2 := (93, [some (.ref 9), some (.int kd), some (.int b)], [], σ)) (C := (σ.1 9 3) < 99) (G := True) rfl trivial (fun h9 => ?_) (fun h9 => ?_)
    · skip
      refine bz_wpn bT_X6_reasonAgainst 1 (b := (98, [some (.ref 9), some (.int kd), some (.int b)], [.int 0], σ)) (G := True) rfl trivial ?_
      refine bz_wpr bT_X6_reasonAgainst rfl rfl trivial ?_
      have e9 : f_X6_reasonAgainst_9 σ kd b = 0 := by rw [f_X6_reasonAgainst_9, if_neg (w1), if_neg (w3), if_neg (w7), if_pos (w8), if_pos (h9)]
      exact ⟨by rw [e9], rfl⟩
    · skip
      refine bz_wpn bT_X6_reasonAgainst 2 (b := (98, [some (.ref 9), some (.int kd), some (.int b)], [.int 3], σ)) (G := True) rfl trivial ?_
      refine bz_wpr bT_X6_reasonAgainst rfl rfl trivial ?_
      have e9 : f_X6_reasonAgainst_9 σ kd b = 3 := by rw [f_X6_reasonAgainst_9, if_neg (w1), if_neg (w3), if_neg (w7), if_pos (w8), if_neg (h9)]
      exact ⟨by rw [e9], rfl⟩
  · rw [show bz_sw (kd).toInt (bz_mk 0 [32, 46, 99, 84]) 99 = 99 from by simp only [bz_mk, bz_sw]; rw [if_neg (lv_neT w1 (by decide)), if_neg (lv_neT w3 (by decide)), if_neg (lv_neT w7 (by decide)), if_neg (lv_neT w8 (by decide))]]
    refine bz_wpn bT_X6_reasonAgainst 1 (b := (100, [some (.ref 9), some (.int kd), some (.int b)], [.int 0], σ)) (G := True) rfl trivial ?_
    refine bz_wpr bT_X6_reasonAgainst rfl rfl trivial ?_
    have e9 : f_X6_reasonAgainst_9 σ kd b = 0 := by rw [f_X6_reasonAgainst_9, if_neg (w1), if_neg (w3), if_neg (w7), if_neg (w8)]
    exact ⟨by rw [e9], rfl⟩

def f_X6_driftOne_9 (σ : bz_S) (b : Int32) : bz_S := if f_X10_isPocket ((σ.1 10 b.toNatClampNeg) - 1) = true then σ else (if (f_X6_lyingOn_9 σ ((σ.1 10 b.toNatClampNeg) - 1)) = (-1) then ((bz_up σ.1 10 b.toNatClampNeg ((σ.1 10 b.toNatClampNeg) - 1)), σ.2) else σ)
set_option maxRecDepth 100000 in
theorem s_X6_driftOne_9 {X : bz_X} (σ : bz_S) (b : Int32) (hb : vp_in b 3) : bz_C bz_P X mX6_driftOne [.ref 9, .int b] σ (bz_pv (f_X6_driftOne_9 σ b)) := by
  show bz_wp bz_P X mX6_driftOne (bz_pv (f_X6_driftOne_9 σ b)) (0, [some (.ref 9), some (.int b), none], [], σ)
  refine bz_wpn bT_X6_driftOne 8 (b := (10, [some (.ref 9), some (.int b), some (.int ((σ.1 10 b.toNatClampNeg) - 1))], [.int ((σ.1 10 b.toNatClampNeg) - 1)], σ)) (G := vp_in b 3 ∧ True) rfl ⟨hb, trivial⟩ ?_
  refine bz_wci bT_X6_driftOne [.int ((σ.1 10 b.toNatClampNeg) - 1)] (pc' := 13) (rest := []) rfl rfl (Nat.le_of_ble_eq_true rfl) rfl (Nat.le_of_ble_eq_true rfl) rfl (s_X10_isPocket σ ((σ.1 10 b.toNatClampNeg) - 1)) rfl ?_
  refine bz_wpb bT_X6_driftOne 1 (b1 := (32, [some (.ref 9), some (.int b), some (.int ((σ.1 10 b.toNatClampNeg) - 1))], [], σ)) (b2 := (16, [some (.ref 9), some (.int b), some (.int ((σ.1 10 b.toNatClampNeg) - 1))], [], σ)) (C := ¬ bz_b (f_X10_isPocket ((σ.1 10 b.toNatClampNeg) - 1)) = 0) (G := True) rfl trivial (fun h1 => ?_) (fun h1 => ?_)
  · skip
    have h1 := bz_b1 h1
    refine bz_wpr bT_X6_driftOne rfl rfl trivial ?_
    have e9 : f_X6_driftOne_9 σ b = σ := by rw [f_X6_driftOne_9, if_pos (h1)]
    exact ⟨rfl, by rw [e9]⟩
  · skip
    have h1 := bz_b0 (Decidable.not_not.mp h1)
    refine bz_wpn bT_X6_driftOne 2 (b := (18, [some (.ref 9), some (.int b), some (.int ((σ.1 10 b.toNatClampNeg) - 1))], [.int ((σ.1 10 b.toNatClampNeg) - 1), .ref 9], σ)) (G := True) rfl trivial ?_
    refine bz_wci bT_X6_driftOne [.ref 9, .int ((σ.1 10 b.toNatClampNeg) - 1)] (pc' := 21) (rest := []) rfl rfl (Nat.le_of_ble_eq_true rfl) rfl (Nat.le_of_ble_eq_true rfl) rfl (s_X6_lyingOn_9 σ ((σ.1 10 b.toNatClampNeg) - 1)) rfl ?_
    refine bz_wpb bT_X6_driftOne 2 (b1 := (32, [some (.ref 9), some (.int b), some (.int ((σ.1 10 b.toNatClampNeg) - 1))], [], σ)) (b2 := (25, [some (.ref 9), some (.int b), some (.int ((σ.1 10 b.toNatClampNeg) - 1))], [], σ)) (C := ¬ (f_X6_lyingOn_9 σ ((σ.1 10 b.toNatClampNeg) - 1)) = (-1)) (G := True) rfl trivial (fun h2 => ?_) (fun h2 => ?_)
    · skip
      refine bz_wpr bT_X6_driftOne rfl rfl trivial ?_
      have e9 : f_X6_driftOne_9 σ b = σ := by rw [f_X6_driftOne_9, if_neg (bz_ff h1), if_neg (h2)]
      exact ⟨rfl, by rw [e9]⟩
    · skip
      refine bz_wpn bT_X6_driftOne 5 (b := (32, [some (.ref 9), some (.int b), some (.int ((σ.1 10 b.toNatClampNeg) - 1))], [], ((bz_up σ.1 10 b.toNatClampNeg ((σ.1 10 b.toNatClampNeg) - 1)), σ.2))) (G := vp_in b 3 ∧ True) rfl ⟨hb, trivial⟩ ?_
      refine bz_wpr bT_X6_driftOne rfl rfl trivial ?_
      have e9 : f_X6_driftOne_9 σ b = ((bz_up σ.1 10 b.toNatClampNeg ((σ.1 10 b.toNatClampNeg) - 1)), σ.2) := by rw [f_X6_driftOne_9, if_neg (bz_ff h1), if_pos ((Decidable.not_not.mp h2))]
      exact ⟨rfl, by rw [e9]⟩
theorem rf_X6_driftOne_9 (σ : bz_S) (b : Int32) : bz_fr [10] σ (f_X6_driftOne_9 σ b) := by
  unfold f_X6_driftOne_9
  exact (bz_ite bz_fr_rf (bz_ite ⟨(bz_f1_up (bz_fr_rf).1 (by decide)), (bz_fr_rf).2⟩ bz_fr_rf))

def f_X5_begin_11 (σ : bz_S) (b : Int32) : bz_S := ((bz_up (bz_up (bz_up (bz_up (bz_up (bz_up (bz_up σ.1 11 0 b) 11 1 0) 11 2 0) 11 3 (-1)) 11 4 (-1)) 11 5 (-6)) 11 6 (-6)), σ.2)
set_option maxRecDepth 100000 in
theorem s_X5_begin_11 {X : bz_X} (σ : bz_S) (b : Int32) : bz_C bz_P X mX5_begin [.ref 11, .int b] σ (bz_pv (f_X5_begin_11 σ b)) := by
  show bz_wp bz_P X mX5_begin (bz_pv (f_X5_begin_11 σ b)) (0, [some (.ref 11), some (.int b)], [], σ)
  refine bz_wpn bT_X5_begin 21 (b := (37, [some (.ref 11), some (.int b)], [], ((bz_up (bz_up (bz_up (bz_up (bz_up (bz_up (bz_up σ.1 11 0 b) 11 1 0) 11 2 0) 11 3 (-1)) 11 4 (-1)) 11 5 (-6)) 11 6 (-6)), σ.2))) (G := True) rfl trivial ?_
  refine bz_wpr bT_X5_begin rfl rfl trivial ?_
  have e9 : f_X5_begin_11 σ b = ((bz_up (bz_up (bz_up (bz_up (bz_up (bz_up (bz_up σ.1 11 0 b) 11 1 0) 11 2 0) 11 3 (-1)) 11 4 (-1)) 11 5 (-6)) 11 6 (-6)), σ.2) := by rw [f_X5_begin_11]
  exact ⟨rfl, by rw [e9]⟩
theorem rf_X5_begin_11 (σ : bz_S) (b : Int32) : bz_fr [11] σ (f_X5_begin_11 σ b) := by
  unfold f_X5_begin_11
  exact ⟨(bz_f1_up (bz_f1_up (bz_f1_up (bz_f1_up (bz_f1_up (bz_f1_up (bz_f1_up (bz_fr_rf).1 (by decide)) (by decide)) (by decide)) (by decide)) (by decide)) (by decide)) (by decide)), (bz_fr_rf).2⟩

def f_X5_touch_11 (σ : bz_S) (ly : Int32) (sp : Int32) : bz_S := if ((σ.1 11 1) + 1) = 1 then ((bz_up (bz_up (bz_up (bz_up σ.1 11 1 ((σ.1 11 1) + 1)) 11 4 ly) 11 5 sp) 11 6 (σ.1 11 2)), σ.2) else ((bz_up σ.1 11 1 ((σ.1 11 1) + 1)), σ.2)
set_option maxRecDepth 100000 in
theorem s_X5_touch_11 {X : bz_X} (σ : bz_S) (ly : Int32) (sp : Int32) : bz_C bz_P X mX5_touch [.ref 11, .int ly, .int sp] σ (bz_pv (f_X5_touch_11 σ ly sp)) := by
  show bz_wp bz_P X mX5_touch (bz_pv (f_X5_touch_11 σ ly sp)) (0, [some (.ref 11), some (.int ly), some (.int sp)], [], σ)
  refine bz_wpb bT_X5_touch 10 (b1 := (36, [some (.ref 11), some (.int ly), some (.int sp)], [], ((bz_up σ.1 11 1 ((σ.1 11 1) + 1)), σ.2))) (b2 := (18, [some (.ref 11), some (.int ly), some (.int sp)], [], ((bz_up σ.1 11 1 ((σ.1 11 1) + 1)), σ.2))) (C := ¬ ((σ.1 11 1) + 1) = 1) (G := True) rfl trivial (fun h1 => ?_) (fun h1 => ?_)
  · skip
    refine bz_wpr bT_X5_touch rfl rfl trivial ?_
    have e9 : f_X5_touch_11 σ ly sp = ((bz_up σ.1 11 1 ((σ.1 11 1) + 1)), σ.2) := by rw [f_X5_touch_11, if_neg (h1)]
    exact ⟨rfl, by rw [e9]⟩
  · skip
    refine bz_wpn bT_X5_touch 10 (b := (36, [some (.ref 11), some (.int ly), some (.int sp)], [], ((bz_up (bz_up (bz_up (bz_up σ.1 11 1 ((σ.1 11 1) + 1)) 11 4 ly) 11 5 sp) 11 6 (σ.1 11 2)), σ.2))) (G := True) rfl trivial ?_
    refine bz_wpr bT_X5_touch rfl rfl trivial ?_
    have e9 : f_X5_touch_11 σ ly sp = ((bz_up (bz_up (bz_up (bz_up σ.1 11 1 ((σ.1 11 1) + 1)) 11 4 ly) 11 5 sp) 11 6 (σ.1 11 2)), σ.2) := by rw [f_X5_touch_11, if_pos ((Decidable.not_not.mp h1))]
    exact ⟨rfl, by rw [e9]⟩
theorem rf_X5_touch_11 (σ : bz_S) (ly : Int32) (sp : Int32) : bz_fr [11] σ (f_X5_touch_11 σ ly sp) := by
  unfold f_X5_touch_11
  exact (bz_ite ⟨(bz_f1_up (bz_f1_up (bz_f1_up (bz_f1_up (bz_fr_rf).1 (by decide)) (by decide)) (by decide)) (by decide)), (bz_fr_rf).2⟩ ⟨(bz_f1_up (bz_fr_rf).1 (by decide)), (bz_fr_rf).2⟩)

def f_X5_pointsMore_11 (σ : bz_S)  : Int32 := if (σ.1 11 1) < 2 then if (σ.1 11 3) = (-1) then 0 else (if (σ.1 11 3) = (σ.1 11 0) then 0 else 3) else (if (σ.1 11 3) = (-1) then 2 else (if (σ.1 11 3) = (σ.1 11 0) then 2 else 5))
set_option maxRecDepth 100000 in
theorem s_X5_pointsMore_11 {X : bz_X} (σ : bz_S) : bz_C bz_P X mX5_pointsMore [.ref 11] σ (bz_pi (f_X5_pointsMore_11 σ) σ) := by
  show bz_wp bz_P X mX5_pointsMore (bz_pi (f_X5_pointsMore_11 σ) σ) (0, [some (.ref 11), none, none], [], σ)
  refine bz_wpb bT_X5_pointsMore 4 (b1 := (12, [some (.ref 11), none, none], [], σ)) (b2 := (8, [some (.ref 11), none, none], [], σ)) (C := (σ.1 11 1) < 2) (G := True) rfl trivial (fun h1 => ?_) (fun h1 => ?_)
  · skip
    refine bz_wpb bT_X5_pointsMore 6 (b1 := (37, [some (.ref 11), some (.int 0), none], [], σ)) (b2 := (22, [some (.ref 11), some (.int 0), none], [], σ)) (C := (σ.1 11 3) = (-1)) (G := True) rfl trivial (fun h2 => ?_) (fun h2 => ?_)
    · skip
      refine bz_wpn bT_X5_pointsMore 5 (b := (42, [some (.ref 11), some (.int 0), some (.int 0)], [.int 0], σ)) (G := True) rfl trivial ?_
      refine bz_wpr bT_X5_pointsMore rfl rfl trivial ?_
      have e9 : f_X5_pointsMore_11 σ = 0 := by rw [f_X5_pointsMore_11, if_pos (h1), if_pos (h2)]
      exact ⟨by rw [e9], rfl⟩
    · skip
      refine bz_wpb bT_X5_pointsMore 5 (b1 := (37, [some (.ref 11), some (.int 0), none], [], σ)) (b2 := (33, [some (.ref 11), some (.int 0), none], [], σ)) (C := (σ.1 11 3) = (σ.1 11 0)) (G := True) rfl trivial (fun h3 => ?_) (fun h3 => ?_)
      · skip
        refine bz_wpn bT_X5_pointsMore 5 (b := (42, [some (.ref 11), some (.int 0), some (.int 0)], [.int 0], σ)) (G := True) rfl trivial ?_
        refine bz_wpr bT_X5_pointsMore rfl rfl trivial ?_
        have e9 : f_X5_pointsMore_11 σ = 0 := by rw [f_X5_pointsMore_11, if_pos (h1), if_neg (h2), if_pos (h3)]
        exact ⟨by rw [e9], rfl⟩
      · skip
        refine bz_wpn bT_X5_pointsMore 6 (b := (42, [some (.ref 11), some (.int 0), some (.int 3)], [.int 3], σ)) (G := True) rfl trivial ?_
        refine bz_wpr bT_X5_pointsMore rfl rfl trivial ?_
        have e9 : f_X5_pointsMore_11 σ = 3 := by rw [f_X5_pointsMore_11, if_pos (h1), if_neg (h2), if_neg (h3)]
        exact ⟨by rw [e9], rfl⟩
  · skip
    refine bz_wpb bT_X5_pointsMore 7 (b1 := (37, [some (.ref 11), some (.int 2), none], [], σ)) (b2 := (22, [some (.ref 11), some (.int 2), none], [], σ)) (C := (σ.1 11 3) = (-1)) (G := True) rfl trivial (fun h4 => ?_) (fun h4 => ?_)
    · skip
      refine bz_wpn bT_X5_pointsMore 5 (b := (42, [some (.ref 11), some (.int 2), some (.int 0)], [.int 2], σ)) (G := True) rfl trivial ?_
      refine bz_wpr bT_X5_pointsMore rfl rfl trivial ?_
      have e9 : f_X5_pointsMore_11 σ = 2 := by rw [f_X5_pointsMore_11, if_neg (h1), if_pos (h4)]
      exact ⟨by rw [e9], rfl⟩
    · skip
      refine bz_wpb bT_X5_pointsMore 5 (b1 := (37, [some (.ref 11), some (.int 2), none], [], σ)) (b2 := (33, [some (.ref 11), some (.int 2), none], [], σ)) (C := (σ.1 11 3) = (σ.1 11 0)) (G := True) rfl trivial (fun h5 => ?_) (fun h5 => ?_)
      · skip
        refine bz_wpn bT_X5_pointsMore 5 (b := (42, [some (.ref 11), some (.int 2), some (.int 0)], [.int 2], σ)) (G := True) rfl trivial ?_
        refine bz_wpr bT_X5_pointsMore rfl rfl trivial ?_
        have e9 : f_X5_pointsMore_11 σ = 2 := by rw [f_X5_pointsMore_11, if_neg (h1), if_neg (h4), if_pos (h5)]
        exact ⟨by rw [e9], rfl⟩
      · skip
        refine bz_wpn bT_X5_pointsMore 6 (b := (42, [some (.ref 11), some (.int 2), some (.int 3)], [.int 5], σ)) (G := True) rfl trivial ?_
        refine bz_wpr bT_X5_pointsMore rfl rfl trivial ?_
        have e9 : f_X5_pointsMore_11 σ = 5 := by rw [f_X5_pointsMore_11, if_neg (h1), if_neg (h4), if_neg (h5)]
        exact ⟨by rw [e9], rfl⟩

def f_X5_foulsMore_11 (σ : bz_S)  : Int32 := if (σ.1 11 3) = (σ.1 11 0) then if (σ.1 11 1) ≤ 0 then 1 else (if (σ.1 11 6) = 0 then 2 else 1) else (if (σ.1 11 1) ≤ 0 then 0 else (if (σ.1 11 6) = 0 then 1 else 0))
set_option maxRecDepth 100000 in
theorem s_X5_foulsMore_11 {X : bz_X} (σ : bz_S) : bz_C bz_P X mX5_foulsMore [.ref 11] σ (bz_pi (f_X5_foulsMore_11 σ) σ) := by
  show bz_wp bz_P X mX5_foulsMore (bz_pi (f_X5_foulsMore_11 σ) σ) (0, [some (.ref 11), none, none], [], σ)
  refine bz_wpb bT_X5_foulsMore 5 (b1 := (15, [some (.ref 11), none, none], [], σ)) (b2 := (11, [some (.ref 11), none, none], [], σ)) (C := ¬ (σ.1 11 3) = (σ.1 11 0)) (G := True) rfl trivial (fun h1 => ?_) (fun h1 => ?_)
  · skip
    refine bz_wpb bT_X5_foulsMore 5 (b1 := (35, [some (.ref 11), some (.int 0), none], [], σ)) (b2 := (24, [some (.ref 11), some (.int 0), none], [], σ)) (C := (σ.1 11 1) ≤ 0) (G := True) rfl trivial (fun h2 => ?_) (fun h2 => ?_)
    · skip
      refine bz_wpn bT_X5_foulsMore 5 (b := (40, [some (.ref 11), some (.int 0), some (.int 0)], [.int 0], σ)) (G := True) rfl trivial ?_
      refine bz_wpr bT_X5_foulsMore rfl rfl trivial ?_
      have e9 : f_X5_foulsMore_11 σ = 0 := by rw [f_X5_foulsMore_11, if_neg (h1), if_pos (h2)]
      exact ⟨by rw [e9], rfl⟩
    · skip
      refine bz_wpb bT_X5_foulsMore 3 (b1 := (35, [some (.ref 11), some (.int 0), none], [], σ)) (b2 := (31, [some (.ref 11), some (.int 0), none], [], σ)) (C := ¬ (σ.1 11 6) = 0) (G := True) rfl trivial (fun h3 => ?_) (fun h3 => ?_)
      · skip
        refine bz_wpn bT_X5_foulsMore 5 (b := (40, [some (.ref 11), some (.int 0), some (.int 0)], [.int 0], σ)) (G := True) rfl trivial ?_
        refine bz_wpr bT_X5_foulsMore rfl rfl trivial ?_
        have e9 : f_X5_foulsMore_11 σ = 0 := by rw [f_X5_foulsMore_11, if_neg (h1), if_neg (h2), if_neg (h3)]
        exact ⟨by rw [e9], rfl⟩
      · skip
        refine bz_wpn bT_X5_foulsMore 6 (b := (40, [some (.ref 11), some (.int 0), some (.int 1)], [.int 1], σ)) (G := True) rfl trivial ?_
        refine bz_wpr bT_X5_foulsMore rfl rfl trivial ?_
        have e9 : f_X5_foulsMore_11 σ = 1 := by rw [f_X5_foulsMore_11, if_neg (h1), if_neg (h2), if_pos ((Decidable.not_not.mp h3))]
        exact ⟨by rw [e9], rfl⟩
  · skip
    refine bz_wpb bT_X5_foulsMore 6 (b1 := (35, [some (.ref 11), some (.int 1), none], [], σ)) (b2 := (24, [some (.ref 11), some (.int 1), none], [], σ)) (C := (σ.1 11 1) ≤ 0) (G := True) rfl trivial (fun h4 => ?_) (fun h4 => ?_)
    · skip
      refine bz_wpn bT_X5_foulsMore 5 (b := (40, [some (.ref 11), some (.int 1), some (.int 0)], [.int 1], σ)) (G := True) rfl trivial ?_
      refine bz_wpr bT_X5_foulsMore rfl rfl trivial ?_
      have e9 : f_X5_foulsMore_11 σ = 1 := by rw [f_X5_foulsMore_11, if_pos ((Decidable.not_not.mp h1)), if_pos (h4)]
      exact ⟨by rw [e9], rfl⟩
    · skip
      refine bz_wpb bT_X5_foulsMore 3 (b1 := (35, [some (.ref 11), some (.int 1), none], [], σ)) (b2 := (31, [some (.ref 11), some (.int 1), none], [], σ)) (C := ¬ (σ.1 11 6) = 0) (G := True) rfl trivial (fun h5 => ?_) (fun h5 => ?_)
      · skip
        refine bz_wpn bT_X5_foulsMore 5 (b := (40, [some (.ref 11), some (.int 1), some (.int 0)], [.int 1], σ)) (G := True) rfl trivial ?_
        refine bz_wpr bT_X5_foulsMore rfl rfl trivial ?_
        have e9 : f_X5_foulsMore_11 σ = 1 := by rw [f_X5_foulsMore_11, if_pos ((Decidable.not_not.mp h1)), if_neg (h4), if_neg (h5)]
        exact ⟨by rw [e9], rfl⟩
      · skip
        refine bz_wpn bT_X5_foulsMore 6 (b := (40, [some (.ref 11), some (.int 1), some (.int 1)], [.int 2], σ)) (G := True) rfl trivial ?_
        refine bz_wpr bT_X5_foulsMore rfl rfl trivial ?_
        have e9 : f_X5_foulsMore_11 σ = 2 := by rw [f_X5_foulsMore_11, if_pos ((Decidable.not_not.mp h1)), if_neg (h4), if_pos ((Decidable.not_not.mp h5))]
        exact ⟨by rw [e9], rfl⟩

def f_X3_add_6 (σ : bz_S) (c : Int32) : Bool × bz_S := if (σ.1 6 1) < 60 then (true, ((bz_up (bz_up σ.1 7 ((σ.1 6 1).toNatClampNeg) c) 6 1 ((σ.1 6 1) + 1)), σ.2)) else (false, σ)
set_option maxRecDepth 100000 in
theorem s_X3_add_6 {X : bz_X} (σ : bz_S) (c : Int32) (hc : ¬ σ.1 6 1 < 0) : bz_C bz_P X mX3_add [.ref 6, .int c] σ (bz_pi (bz_b (f_X3_add_6 σ c).1) (f_X3_add_6 σ c).2) := by
  show bz_wp bz_P X mX3_add (bz_pi (bz_b (f_X3_add_6 σ c).1) (f_X3_add_6 σ c).2) (0, [some (.ref 6), some (.int c)], [], σ)
  refine bz_wpb bT_X3_add 4 (b1 := (11, [some (.ref 6), some (.int c)], [], σ)) (b2 := (9, [some (.ref 6), some (.int c)], [], σ)) (C := (σ.1 6 1) < 60) (G := True) rfl trivial (fun h1 => ?_) (fun h1 => ?_)
  · skip
    refine bz_wpn bT_X3_add 13 (b := (32, [some (.ref 6), some (.int c)], [.int 1], ((bz_up (bz_up σ.1 7 ((σ.1 6 1).toNatClampNeg) c) 6 1 ((σ.1 6 1) + 1)), σ.2))) (G := vp_in (σ.1 6 1) 60 ∧ True) rfl ⟨(bz_inn (m := 60) hc h1 (by decide)), trivial⟩ ?_
    refine bz_wpr bT_X3_add rfl rfl (show (1 : Int32) = 0 ∨ (1 : Int32) = 1 by decide) ?_
    have e9 : f_X3_add_6 σ c = (true, ((bz_up (bz_up σ.1 7 ((σ.1 6 1).toNatClampNeg) c) 6 1 ((σ.1 6 1) + 1)), σ.2)) := by rw [f_X3_add_6, if_pos (h1)]
    exact ⟨by rw [e9]; rfl, by rw [e9]⟩
  · skip
    refine bz_wpn bT_X3_add 1 (b := (10, [some (.ref 6), some (.int c)], [.int 0], σ)) (G := True) rfl trivial ?_
    refine bz_wpr bT_X3_add rfl rfl (show (0 : Int32) = 0 ∨ (0 : Int32) = 1 by decide) ?_
    have e9 : f_X3_add_6 σ c = (false, σ) := by rw [f_X3_add_6, if_neg (h1)]
    exact ⟨by rw [e9]; rfl, by rw [e9]⟩
theorem rf_X3_add_6 (σ : bz_S) (c : Int32) : bz_fr [6, 7] σ (f_X3_add_6 σ c).2 := by
  unfold f_X3_add_6
  exact (bz_ite2 ⟨(bz_f1_up (bz_f1_up (bz_fr_rf).1 (by decide)) (by decide)), (bz_fr_rf).2⟩ bz_fr_rf)

def f_X3_empty_6 (σ : bz_S)  : Int32 × bz_S := ((σ.1 6 1), ((bz_up σ.1 6 1 0), σ.2))
set_option maxRecDepth 100000 in
theorem s_X3_empty_6 {X : bz_X} (σ : bz_S) : bz_C bz_P X mX3_empty [.ref 6] σ (bz_pi (f_X3_empty_6 σ).1 (f_X3_empty_6 σ).2) := by
  show bz_wp bz_P X mX3_empty (bz_pi (f_X3_empty_6 σ).1 (f_X3_empty_6 σ).2) (0, [some (.ref 6), none], [], σ)
  refine bz_wpn bT_X3_empty 7 (b := (11, [some (.ref 6), some (.int (σ.1 6 1))], [.int (σ.1 6 1)], ((bz_up σ.1 6 1 0), σ.2))) (G := True) rfl trivial ?_
  refine bz_wpr bT_X3_empty rfl rfl trivial ?_
  have e9 : f_X3_empty_6 σ = ((σ.1 6 1), ((bz_up σ.1 6 1 0), σ.2)) := by rw [f_X3_empty_6]
  exact ⟨by rw [e9], by rw [e9]⟩
theorem rf_X3_empty_6 (σ : bz_S)  : bz_fr [6] σ (f_X3_empty_6 σ).2 := by
  unfold f_X3_empty_6
  exact ⟨(bz_f1_up (bz_fr_rf).1 (by decide)), (bz_fr_rf).2⟩

def f_X3_signAt_6 (σ : bz_S) (p : Int32) : Int32 := if f_X10_isWithin p 0 ((σ.1 6 1) - 1) = true then (σ.1 7 p.toNatClampNeg) else 0
set_option maxRecDepth 100000 in
theorem s_X3_signAt_6 {X : bz_X} (σ : bz_S) (p : Int32) (hc : σ.1 6 1 - 1 < 60) : bz_C bz_P X mX3_signAt [.ref 6, .int p] σ (bz_pi (f_X3_signAt_6 σ p) σ) := by
  show bz_wp bz_P X mX3_signAt (bz_pi (f_X3_signAt_6 σ p) σ) (0, [some (.ref 6), some (.int p)], [], σ)
  refine bz_wpn bT_X3_signAt 6 (b := (8, [some (.ref 6), some (.int p)], [.int ((σ.1 6 1) - 1), .int 0, .int p], σ)) (G := True) rfl trivial ?_
  refine bz_wci bT_X3_signAt [.int p, .int 0, .int ((σ.1 6 1) - 1)] (pc' := 11) (rest := []) rfl rfl (Nat.le_of_ble_eq_true rfl) rfl (Nat.le_of_ble_eq_true rfl) rfl (s_X10_isWithin σ p 0 ((σ.1 6 1) - 1)) rfl ?_
  refine bz_wpb bT_X3_signAt 1 (b1 := (23, [some (.ref 6), some (.int p)], [], σ)) (b2 := (14, [some (.ref 6), some (.int p)], [], σ)) (C := bz_b (f_X10_isWithin p 0 ((σ.1 6 1) - 1)) = 0) (G := True) rfl trivial (fun h1 => ?_) (fun h1 => ?_)
  · skip
    have h1 := bz_b0 h1
    refine bz_wpn bT_X3_signAt 1 (b := (24, [some (.ref 6), some (.int p)], [.int 0], σ)) (G := True) rfl trivial ?_
    refine bz_wpr bT_X3_signAt rfl rfl trivial ?_
    have e9 : f_X3_signAt_6 σ p = 0 := by rw [f_X3_signAt_6, if_neg (bz_ff h1)]
    exact ⟨by rw [e9], rfl⟩
  · skip
    have h1 := bz_b1 h1
    refine bz_wpn bT_X3_signAt 5 (b := (24, [some (.ref 6), some (.int p)], [.int (σ.1 7 p.toNatClampNeg)], σ)) (G := vp_in p 60 ∧ True) rfl ⟨(bz_inw h1 hc (by decide)), trivial⟩ ?_
    refine bz_wpr bT_X3_signAt rfl rfl trivial ?_
    have e9 : f_X3_signAt_6 σ p = (σ.1 7 p.toNatClampNeg) := by rw [f_X3_signAt_6, if_pos (h1)]
    exact ⟨by rw [e9], rfl⟩

def f_X3_isLetter (c : Int32) : Bool := f_X10_isWithin c 65 67
set_option maxRecDepth 100000 in
theorem s_X3_isLetter {X : bz_X} (σ : bz_S) (c : Int32) : bz_C bz_P X mX3_isLetter [.int c] σ (bz_pi (bz_b (f_X3_isLetter c)) σ) := by
  show bz_wp bz_P X mX3_isLetter (bz_pi (bz_b (f_X3_isLetter c)) σ) (0, [some (.int c)], [], σ)
  refine bz_wpn bT_X3_isLetter 3 (b := (5, [some (.int c)], [.int 67, .int 65, .int c], σ)) (G := True) rfl trivial ?_
  refine bz_wci bT_X3_isLetter [.int c, .int 65, .int 67] (pc' := 8) (rest := []) rfl rfl (Nat.le_of_ble_eq_true rfl) rfl (Nat.le_of_ble_eq_true rfl) rfl (s_X10_isWithin σ c 65 67) rfl ?_
  refine bz_wpr bT_X3_isLetter rfl rfl (bz_b01 _) ?_
  have e9 : f_X3_isLetter c = f_X10_isWithin c 65 67 := by rw [f_X3_isLetter]
  exact ⟨by rw [e9], rfl⟩

def f_X3_canStand (c : Int32) (a : Int32) : Bool := if a = 0 then if f_X3_isLetter c = true then true else (if c = 126 then true else (if c = 46 then true else false)) else (if a = 1 then if f_X10_isWithin c 48 55 = true then true else (if c = 94 then true else false) else f_X10_isWithin c 49 57)
set_option maxRecDepth 100000 in
theorem s_X3_canStand {X : bz_X} (σ : bz_S) (c : Int32) (a : Int32) : bz_C bz_P X mX3_canStand [.int c, .int a] σ (bz_pi (bz_b (f_X3_canStand c a)) σ) := by
  show bz_wp bz_P X mX3_canStand (bz_pi (bz_b (f_X3_canStand c a)) σ) (0, [some (.int c), some (.int a)], [], σ)
  refine bz_wpn bT_X3_canStand 2 (b := (bz_sw (a).toInt [(0, 28), (1, 53)] 76, [some (.int c), some (.int a)], [], σ)) (G := True) rfl trivial ?_
  by_cases w1 : a = 0
  · rw [show bz_sw (a).toInt [(0, 28), (1, 53)] 76 = 28 from by rw [w1]; decide]
    refine bz_wpn bT_X3_canStand 1 (b := (29, [some (.int c), some (.int a)], [.int c], σ)) (G := True) rfl trivial ?_
    refine bz_wci bT_X3_canStand [.int c] (pc' := 32) (rest := []) rfl rfl (Nat.le_of_ble_eq_true rfl) rfl (Nat.le_of_ble_eq_true rfl) rfl (s_X3_isLetter σ c) rfl ?_
    refine bz_wpb bT_X3_canStand 1 (b1 := (47, [some (.int c), some (.int a)], [], σ)) (b2 := (35, [some (.int c), some (.int a)], [], σ)) (C := ¬ bz_b (f_X3_isLetter c) = 0) (G := True) rfl trivial (fun h2 => ?_) (fun h2 => ?_)
    · skip
      have h2 := bz_b1 h2
      refine bz_wpn bT_X3_canStand 2 (b := (52, [some (.int c), some (.int a)], [.int 1], σ)) (G := True) rfl trivial ?_
      refine bz_wpr bT_X3_canStand rfl rfl (show (1 : Int32) = 0 ∨ (1 : Int32) = 1 by decide) ?_
      have e9 : f_X3_canStand c a = true := by rw [f_X3_canStand, if_pos (w1), if_pos (h2)]
      exact ⟨by rw [e9]; rfl, rfl⟩
    · skip
      have h2 := bz_b0 (Decidable.not_not.mp h2)
      refine bz_wpb bT_X3_canStand 3 (b1 := (47, [some (.int c), some (.int a)], [], σ)) (b2 := (41, [some (.int c), some (.int a)], [], σ)) (C := c = 126) (G := True) rfl trivial (fun h3 => ?_) (fun h3 => ?_)
      · skip
        refine bz_wpn bT_X3_canStand 2 (b := (52, [some (.int c), some (.int a)], [.int 1], σ)) (G := True) rfl trivial ?_
        refine bz_wpr bT_X3_canStand rfl rfl (show (1 : Int32) = 0 ∨ (1 : Int32) = 1 by decide) ?_
        have e9 : f_X3_canStand c a = true := by rw [f_X3_canStand, if_pos (w1), if_neg (bz_ff h2), if_pos (h3)]
        exact ⟨by rw [e9]; rfl, rfl⟩
      · skip
        refine bz_wpb bT_X3_canStand 3 (b1 := (51, [some (.int c), some (.int a)], [], σ)) (b2 := (47, [some (.int c), some (.int a)], [], σ)) (C := ¬ c = 46) (G := True) rfl trivial (fun h4 => ?_) (fun h4 => ?_)
        · skip
          refine bz_wpn bT_X3_canStand 1 (b := (52, [some (.int c), some (.int a)], [.int 0], σ)) (G := True) rfl trivial ?_
          refine bz_wpr bT_X3_canStand rfl rfl (show (0 : Int32) = 0 ∨ (0 : Int32) = 1 by decide) ?_
          have e9 : f_X3_canStand c a = false := by rw [f_X3_canStand, if_pos (w1), if_neg (bz_ff h2), if_neg (h3), if_neg (h4)]
          exact ⟨by rw [e9]; rfl, rfl⟩
        · skip
          refine bz_wpn bT_X3_canStand 2 (b := (52, [some (.int c), some (.int a)], [.int 1], σ)) (G := True) rfl trivial ?_
          refine bz_wpr bT_X3_canStand rfl rfl (show (1 : Int32) = 0 ∨ (1 : Int32) = 1 by decide) ?_
          have e9 : f_X3_canStand c a = true := by rw [f_X3_canStand, if_pos (w1), if_neg (bz_ff h2), if_neg (h3), if_pos ((Decidable.not_not.mp h4))]
          exact ⟨by rw [e9]; rfl, rfl⟩
  by_cases w5 : a = 1
  · rw [show bz_sw (a).toInt [(0, 28), (1, 53)] 76 = 53 from by rw [w5]; decide]
    refine bz_wpn bT_X3_canStand 3 (b := (58, [some (.int c), some (.int a)], [.int 55, .int 48, .int c], σ)) (G := True) rfl trivial ?_
    refine bz_wci bT_X3_canStand [.int c, .int 48, .int 55] (pc' := 61) (rest := []) rfl rfl (Nat.le_of_ble_eq_true rfl) rfl (Nat.le_of_ble_eq_true rfl) rfl (s_X10_isWithin σ c 48 55) rfl ?_
    refine bz_wpb bT_X3_canStand 1 (b1 := (70, [some (.int c), some (.int a)], [], σ)) (b2 := (64, [some (.int c), some (.int a)], [], σ)) (C := ¬ bz_b (f_X10_isWithin c 48 55) = 0) (G := True) rfl trivial (fun h6 => ?_) (fun h6 => ?_)
    · skip
      have h6 := bz_b1 h6
      refine bz_wpn bT_X3_canStand 2 (b := (75, [some (.int c), some (.int a)], [.int 1], σ)) (G := True) rfl trivial ?_
      refine bz_wpr bT_X3_canStand rfl rfl (show (1 : Int32) = 0 ∨ (1 : Int32) = 1 by decide) ?_
      have e9 : f_X3_canStand c a = true := by rw [f_X3_canStand, if_neg (w1), if_pos (w5), if_pos (h6)]
      exact ⟨by rw [e9]; rfl, rfl⟩
    · skip
      have h6 := bz_b0 (Decidable.not_not.mp h6)
      refine bz_wpb bT_X3_canStand 3 (b1 := (74, [some (.int c), some (.int a)], [], σ)) (b2 := (70, [some (.int c), some (.int a)], [], σ)) (C := ¬ c = 94) (G := True) rfl trivial (fun h7 => ?_) (fun h7 => ?_)
      · skip
        refine bz_wpn bT_X3_canStand 1 (b := (75, [some (.int c), some (.int a)], [.int 0], σ)) (G := True) rfl trivial ?_
        refine bz_wpr bT_X3_canStand rfl rfl (show (0 : Int32) = 0 ∨ (0 : Int32) = 1 by decide) ?_
        have e9 : f_X3_canStand c a = false := by rw [f_X3_canStand, if_neg (w1), if_pos (w5), if_neg (bz_ff h6), if_neg (h7)]
        exact ⟨by rw [e9]; rfl, rfl⟩
      · skip
        refine bz_wpn bT_X3_canStand 2 (b := (75, [some (.int c), some (.int a)], [.int 1], σ)) (G := True) rfl trivial ?_
        refine bz_wpr bT_X3_canStand rfl rfl (show (1 : Int32) = 0 ∨ (1 : Int32) = 1 by decide) ?_
        have e9 : f_X3_canStand c a = true := by rw [f_X3_canStand, if_neg (w1), if_pos (w5), if_neg (bz_ff h6), if_pos ((Decidable.not_not.mp h7))]
        exact ⟨by rw [e9]; rfl, rfl⟩
  · rw [show bz_sw (a).toInt [(0, 28), (1, 53)] 76 = 76 from by simp only [bz_mk, bz_sw]; rw [if_neg (lv_neT w1 (by decide)), if_neg (lv_neT w5 (by decide))]]
    refine bz_wpn bT_X3_canStand 3 (b := (81, [some (.int c), some (.int a)], [.int 57, .int 49, .int c], σ)) (G := True) rfl trivial ?_
    refine bz_wci bT_X3_canStand [.int c, .int 49, .int 57] (pc' := 84) (rest := []) rfl rfl (Nat.le_of_ble_eq_true rfl) rfl (Nat.le_of_ble_eq_true rfl) rfl (s_X10_isWithin σ c 49 57) rfl ?_
    refine bz_wpr bT_X3_canStand rfl rfl (bz_b01 _) ?_
    have e9 : f_X3_canStand c a = f_X10_isWithin c 49 57 := by rw [f_X3_canStand, if_neg (w1), if_neg (w5)]
    exact ⟨by rw [e9], rfl⟩

def f_X3_isActAt (c : Int32) (a : Int32) : Bool := if a = 0 then if f_X3_isLetter c = true then false else true else (if a = 1 then if c = 94 then true else false else true)
set_option maxRecDepth 100000 in
theorem s_X3_isActAt {X : bz_X} (σ : bz_S) (c : Int32) (a : Int32) : bz_C bz_P X mX3_isActAt [.int c, .int a] σ (bz_pi (bz_b (f_X3_isActAt c a)) σ) := by
  show bz_wp bz_P X mX3_isActAt (bz_pi (bz_b (f_X3_isActAt c a)) σ) (0, [some (.int c), some (.int a)], [], σ)
  refine bz_wpn bT_X3_isActAt 2 (b := (bz_sw (a).toInt [(0, 28), (1, 41)] 53, [some (.int c), some (.int a)], [], σ)) (G := True) rfl trivial ?_
  by_cases w1 : a = 0
  · rw [show bz_sw (a).toInt [(0, 28), (1, 41)] 53 = 28 from by rw [w1]; decide]
    refine bz_wpn bT_X3_isActAt 1 (b := (29, [some (.int c), some (.int a)], [.int c], σ)) (G := True) rfl trivial ?_
    refine bz_wci bT_X3_isActAt [.int c] (pc' := 32) (rest := []) rfl rfl (Nat.le_of_ble_eq_true rfl) rfl (Nat.le_of_ble_eq_true rfl) rfl (s_X3_isLetter σ c) rfl ?_
    refine bz_wpb bT_X3_isActAt 1 (b1 := (39, [some (.int c), some (.int a)], [], σ)) (b2 := (35, [some (.int c), some (.int a)], [], σ)) (C := ¬ bz_b (f_X3_isLetter c) = 0) (G := True) rfl trivial (fun h2 => ?_) (fun h2 => ?_)
    · skip
      have h2 := bz_b1 h2
      refine bz_wpn bT_X3_isActAt 1 (b := (40, [some (.int c), some (.int a)], [.int 0], σ)) (G := True) rfl trivial ?_
      refine bz_wpr bT_X3_isActAt rfl rfl (show (0 : Int32) = 0 ∨ (0 : Int32) = 1 by decide) ?_
      have e9 : f_X3_isActAt c a = false := by rw [f_X3_isActAt, if_pos (w1), if_pos (h2)]
      exact ⟨by rw [e9]; rfl, rfl⟩
    · skip
      have h2 := bz_b0 (Decidable.not_not.mp h2)
      refine bz_wpn bT_X3_isActAt 2 (b := (40, [some (.int c), some (.int a)], [.int 1], σ)) (G := True) rfl trivial ?_
      refine bz_wpr bT_X3_isActAt rfl rfl (show (1 : Int32) = 0 ∨ (1 : Int32) = 1 by decide) ?_
      have e9 : f_X3_isActAt c a = true := by rw [f_X3_isActAt, if_pos (w1), if_neg (bz_ff h2)]
      exact ⟨by rw [e9]; rfl, rfl⟩
  by_cases w3 : a = 1
  · rw [show bz_sw (a).toInt [(0, 28), (1, 41)] 53 = 41 from by rw [w3]; decide]
    refine bz_wpb bT_X3_isActAt 3 (b1 := (51, [some (.int c), some (.int a)], [], σ)) (b2 := (47, [some (.int c), some (.int a)], [], σ)) (C := ¬ c = 94) (G := True) rfl trivial (fun h4 => ?_) (fun h4 => ?_)
    · skip
      refine bz_wpn bT_X3_isActAt 1 (b := (52, [some (.int c), some (.int a)], [.int 0], σ)) (G := True) rfl trivial ?_
      refine bz_wpr bT_X3_isActAt rfl rfl (show (0 : Int32) = 0 ∨ (0 : Int32) = 1 by decide) ?_
      have e9 : f_X3_isActAt c a = false := by rw [f_X3_isActAt, if_neg (w1), if_pos (w3), if_neg (h4)]
      exact ⟨by rw [e9]; rfl, rfl⟩
    · skip
      refine bz_wpn bT_X3_isActAt 2 (b := (52, [some (.int c), some (.int a)], [.int 1], σ)) (G := True) rfl trivial ?_
      refine bz_wpr bT_X3_isActAt rfl rfl (show (1 : Int32) = 0 ∨ (1 : Int32) = 1 by decide) ?_
      have e9 : f_X3_isActAt c a = true := by rw [f_X3_isActAt, if_neg (w1), if_pos (w3), if_pos ((Decidable.not_not.mp h4))]
      exact ⟨by rw [e9]; rfl, rfl⟩
  · rw [show bz_sw (a).toInt [(0, 28), (1, 41)] 53 = 53 from by simp only [bz_mk, bz_sw]; rw [if_neg (lv_neT w1 (by decide)), if_neg (lv_neT w3 (by decide))]]
    refine bz_wpn bT_X3_isActAt 1 (b := (54, [some (.int c), some (.int a)], [.int 1], σ)) (G := True) rfl trivial ?_
    refine bz_wpr bT_X3_isActAt rfl rfl (show (1 : Int32) = 0 ∨ (1 : Int32) = 1 by decide) ?_
    have e9 : f_X3_isActAt c a = true := by rw [f_X3_isActAt, if_neg (w1), if_neg (w3)]
    exact ⟨by rw [e9]; rfl, rfl⟩

def f_X3_actKind_6 (σ : bz_S) (p : Int32) : Int32 := if f_X3_isLetter (f_X3_signAt_6 σ p) = true then if (f_X3_signAt_6 σ (p + 1)) = 94 then 1 else 0 else (if (f_X3_signAt_6 σ p) = 126 then 2 else 3)
set_option maxRecDepth 100000 in
theorem s_X3_actKind_6 {X : bz_X} (σ : bz_S) (p : Int32) (hc : σ.1 6 1 - 1 < 60) : bz_C bz_P X mX3_actKind [.ref 6, .int p] σ (bz_pi (f_X3_actKind_6 σ p) σ) := by
  show bz_wp bz_P X mX3_actKind (bz_pi (f_X3_actKind_6 σ p) σ) (0, [some (.ref 6), some (.int p)], [], σ)
  refine bz_wpn bT_X3_actKind 2 (b := (2, [some (.ref 6), some (.int p)], [.int p, .ref 6], σ)) (G := True) rfl trivial ?_
  refine bz_wci bT_X3_actKind [.ref 6, .int p] (pc' := 5) (rest := []) rfl rfl (Nat.le_of_ble_eq_true rfl) rfl (Nat.le_of_ble_eq_true rfl) rfl (s_X3_signAt_6 σ p hc) rfl ?_
  refine bz_wci bT_X3_actKind [.int (f_X3_signAt_6 σ p)] (pc' := 8) (rest := []) rfl rfl (Nat.le_of_ble_eq_true rfl) rfl (Nat.le_of_ble_eq_true rfl) rfl (s_X3_isLetter σ (f_X3_signAt_6 σ p)) rfl ?_
  refine bz_wpb bT_X3_actKind 1 (b1 := (27, [some (.ref 6), some (.int p)], [], σ)) (b2 := (11, [some (.ref 6), some (.int p)], [], σ)) (C := ¬ bz_b (f_X3_isLetter (f_X3_signAt_6 σ p)) = 0) (G := True) rfl trivial (fun h1 => ?_) (fun h1 => ?_)
  · skip
    have h1 := bz_b1 h1
    refine bz_wpn bT_X3_actKind 4 (b := (31, [some (.ref 6), some (.int p)], [.int (p + 1), .ref 6], σ)) (G := True) rfl trivial ?_
    refine bz_wci bT_X3_actKind [.ref 6, .int (p + 1)] (pc' := 34) (rest := []) rfl rfl (Nat.le_of_ble_eq_true rfl) rfl (Nat.le_of_ble_eq_true rfl) rfl (s_X3_signAt_6 σ (p + 1) hc) rfl ?_
    refine bz_wpb bT_X3_actKind 2 (b1 := (43, [some (.ref 6), some (.int p)], [], σ)) (b2 := (39, [some (.ref 6), some (.int p)], [], σ)) (C := ¬ (f_X3_signAt_6 σ (p + 1)) = 94) (G := True) rfl trivial (fun h2 => ?_) (fun h2 => ?_)
    · skip
      refine bz_wpn bT_X3_actKind 1 (b := (44, [some (.ref 6), some (.int p)], [.int 0], σ)) (G := True) rfl trivial ?_
      refine bz_wpr bT_X3_actKind rfl rfl trivial ?_
      have e9 : f_X3_actKind_6 σ p = 0 := by rw [f_X3_actKind_6, if_pos (h1), if_neg (h2)]
      exact ⟨by rw [e9], rfl⟩
    · skip
      refine bz_wpn bT_X3_actKind 2 (b := (44, [some (.ref 6), some (.int p)], [.int 1], σ)) (G := True) rfl trivial ?_
      refine bz_wpr bT_X3_actKind rfl rfl trivial ?_
      have e9 : f_X3_actKind_6 σ p = 1 := by rw [f_X3_actKind_6, if_pos (h1), if_pos ((Decidable.not_not.mp h2))]
      exact ⟨by rw [e9], rfl⟩
  · skip
    have h1 := bz_b0 (Decidable.not_not.mp h1)
    refine bz_wpn bT_X3_actKind 2 (b := (13, [some (.ref 6), some (.int p)], [.int p, .ref 6], σ)) (G := True) rfl trivial ?_
    refine bz_wci bT_X3_actKind [.ref 6, .int p] (pc' := 16) (rest := []) rfl rfl (Nat.le_of_ble_eq_true rfl) rfl (Nat.le_of_ble_eq_true rfl) rfl (s_X3_signAt_6 σ p hc) rfl ?_
    refine bz_wpb bT_X3_actKind 2 (b1 := (25, [some (.ref 6), some (.int p)], [], σ)) (b2 := (21, [some (.ref 6), some (.int p)], [], σ)) (C := ¬ (f_X3_signAt_6 σ p) = 126) (G := True) rfl trivial (fun h3 => ?_) (fun h3 => ?_)
    · skip
      refine bz_wpn bT_X3_actKind 1 (b := (26, [some (.ref 6), some (.int p)], [.int 3], σ)) (G := True) rfl trivial ?_
      refine bz_wpr bT_X3_actKind rfl rfl trivial ?_
      have e9 : f_X3_actKind_6 σ p = 3 := by rw [f_X3_actKind_6, if_neg (bz_ff h1), if_neg (h3)]
      exact ⟨by rw [e9], rfl⟩
    · skip
      refine bz_wpn bT_X3_actKind 2 (b := (26, [some (.ref 6), some (.int p)], [.int 2], σ)) (G := True) rfl trivial ?_
      refine bz_wpr bT_X3_actKind rfl rfl trivial ?_
      have e9 : f_X3_actKind_6 σ p = 2 := by rw [f_X3_actKind_6, if_neg (bz_ff h1), if_pos ((Decidable.not_not.mp h3))]
      exact ⟨by rw [e9], rfl⟩

def f_X3_actLength_6 (σ : bz_S) (p : Int32) : Int32 := if (f_X3_actKind_6 σ p) = 0 then 3 else (if (f_X3_actKind_6 σ p) = 1 then 2 else 1)
set_option maxRecDepth 100000 in
theorem s_X3_actLength_6 {X : bz_X} (σ : bz_S) (p : Int32) (hc : σ.1 6 1 - 1 < 60) : bz_C bz_P X mX3_actLength [.ref 6, .int p] σ (bz_pi (f_X3_actLength_6 σ p) σ) := by
  show bz_wp bz_P X mX3_actLength (bz_pi (f_X3_actLength_6 σ p) σ) (0, [some (.ref 6), some (.int p)], [], σ)
  refine bz_wpn bT_X3_actLength 2 (b := (2, [some (.ref 6), some (.int p)], [.int p, .ref 6], σ)) (G := True) rfl trivial ?_
  refine bz_wci bT_X3_actLength [.ref 6, .int p] (pc' := 5) (rest := []) rfl rfl (Nat.le_of_ble_eq_true rfl) rfl (Nat.le_of_ble_eq_true rfl) rfl (s_X3_actKind_6 σ p hc) rfl ?_
  refine bz_wpn bT_X3_actLength 1 (b := (bz_sw ((f_X3_actKind_6 σ p)).toInt [(0, 32), (1, 34)] 36, [some (.ref 6), some (.int p)], [], σ)) (G := True) rfl trivial ?_
  by_cases w1 : (f_X3_actKind_6 σ p) = 0
  · rw [show bz_sw ((f_X3_actKind_6 σ p)).toInt [(0, 32), (1, 34)] 36 = 32 from by rw [w1]; decide]
    refine bz_wpn bT_X3_actLength 1 (b := (33, [some (.ref 6), some (.int p)], [.int 3], σ)) (G := True) rfl trivial ?_
    refine bz_wpr bT_X3_actLength rfl rfl trivial ?_
    have e9 : f_X3_actLength_6 σ p = 3 := by rw [f_X3_actLength_6, if_pos (w1)]
    exact ⟨by rw [e9], rfl⟩
  by_cases w2 : (f_X3_actKind_6 σ p) = 1
  · rw [show bz_sw ((f_X3_actKind_6 σ p)).toInt [(0, 32), (1, 34)] 36 = 34 from by rw [w2]; decide]
    refine bz_wpn bT_X3_actLength 1 (b := (35, [some (.ref 6), some (.int p)], [.int 2], σ)) (G := True) rfl trivial ?_
    refine bz_wpr bT_X3_actLength rfl rfl trivial ?_
    have e9 : f_X3_actLength_6 σ p = 2 := by rw [f_X3_actLength_6, if_neg (w1), if_pos (w2)]
    exact ⟨by rw [e9], rfl⟩
  · rw [show bz_sw ((f_X3_actKind_6 σ p)).toInt [(0, 32), (1, 34)] 36 = 36 from by simp only [bz_mk, bz_sw]; rw [if_neg (lv_neT w1 (by decide)), if_neg (lv_neT w2 (by decide))]]
    refine bz_wpn bT_X3_actLength 1 (b := (37, [some (.ref 6), some (.int p)], [.int 1], σ)) (G := True) rfl trivial ?_
    refine bz_wpr bT_X3_actLength rfl rfl trivial ?_
    have e9 : f_X3_actLength_6 σ p = 1 := by rw [f_X3_actLength_6, if_neg (w1), if_neg (w2)]
    exact ⟨by rw [e9], rfl⟩

def f_J9_floorMod_7cf53 (a : Int32) (b : Int32) : Int32 := if 0 ≤ (a ^^^ b) then (a % b) else (if (a % b) = 0 then (a % b) else ((a % b) + b))
set_option maxRecDepth 100000 in
theorem s_J9_floorMod_7cf53 {X : bz_X} (σ : bz_S) (a : Int32) (b : Int32) (hb : ¬ b = 0) : bz_C bz_P X mJ9_floorMod_7cf53 [.int a, .int b] σ (bz_pi (f_J9_floorMod_7cf53 a b) σ) := by
  show bz_wp bz_P X mJ9_floorMod_7cf53 (bz_pi (f_J9_floorMod_7cf53 a b) σ) (0, [some (.int a), some (.int b), none], [], σ)
  refine bz_wpb bT_J9_floorMod_7cf53 8 (b1 := (18, [some (.int a), some (.int b), some (.int (a % b))], [], σ)) (b2 := (10, [some (.int a), some (.int b), some (.int (a % b))], [], σ)) (C := 0 ≤ (a ^^^ b)) (G := ¬ b = 0 ∧ True) rfl ⟨hb, trivial⟩ (fun h1 => ?_) (fun h1 => ?_)
  · skip
    refine bz_wpn bT_J9_floorMod_7cf53 1 (b := (19, [some (.int a), some (.int b), some (.int (a % b))], [.int (a % b)], σ)) (G := True) rfl trivial ?_
    refine bz_wpr bT_J9_floorMod_7cf53 rfl rfl trivial ?_
    have e9 : f_J9_floorMod_7cf53 a b = (a % b) := by rw [f_J9_floorMod_7cf53, if_pos (h1)]
    exact ⟨by rw [e9], rfl⟩
  · skip
    refine bz_wpb bT_J9_floorMod_7cf53 2 (b1 := (18, [some (.int a), some (.int b), some (.int (a % b))], [], σ)) (b2 := (14, [some (.int a), some (.int b), some (.int (a % b))], [], σ)) (C := (a % b) = 0) (G := True) rfl trivial (fun h2 => ?_) (fun h2 => ?_)
    · skip
      refine bz_wpn bT_J9_floorMod_7cf53 1 (b := (19, [some (.int a), some (.int b), some (.int (a % b))], [.int (a % b)], σ)) (G := True) rfl trivial ?_
      refine bz_wpr bT_J9_floorMod_7cf53 rfl rfl trivial ?_
      have e9 : f_J9_floorMod_7cf53 a b = (a % b) := by rw [f_J9_floorMod_7cf53, if_neg (h1), if_pos (h2)]
      exact ⟨by rw [e9], rfl⟩
    · skip
      refine bz_wpn bT_J9_floorMod_7cf53 3 (b := (17, [some (.int a), some (.int b), some (.int (a % b))], [.int ((a % b) + b)], σ)) (G := True) rfl trivial ?_
      refine bz_wpr bT_J9_floorMod_7cf53 rfl rfl trivial ?_
      have e9 : f_J9_floorMod_7cf53 a b = ((a % b) + b) := by rw [f_J9_floorMod_7cf53, if_neg (h1), if_neg (h2)]
      exact ⟨by rw [e9], rfl⟩

theorem bz_xneg (a b : Int32) : (a ^^^ b).toInt < 0 ↔ ¬ (a.toInt < 0 ↔ b.toInt < 0) := by
  have h : (a ^^^ b).toBitVec.msb = (a.toBitVec.msb ^^ b.toBitVec.msb) := BitVec.msb_xor
  rw [BitVec.msb_eq_toInt, BitVec.msb_eq_toInt, BitVec.msb_eq_toInt] at h
  change decide ((a ^^^ b).toInt < 0) = (decide (a.toInt < 0) ^^ decide (b.toInt < 0)) at h
  by_cases h1 : (a ^^^ b).toInt < 0 <;> by_cases h2 : a.toInt < 0 <;> by_cases h3 : b.toInt < 0 <;> simp [h1, h2, h3] at h ⊢
theorem bz_fm16 (n : Int32) : vp_in (f_J9_floorMod_7cf53 n 16) 16 := by
  have e16 : (16 : Int32).toInt = 16 := by decide
  have e0 : (0 : Int32).toInt = 0 := by decide
  have h0 : (n % 16).toInt = n.toInt.tmod 16 := by rw [Int32.toInt_mod]; rfl
  obtain ⟨hb1, hb2⟩ := tmod_bounds (a := n.toInt) (M := 16) (by decide)
  have hx := bz_xneg n 16
  rw [e16] at hx
  unfold f_J9_floorMod_7cf53
  split
  · rename_i h1
    have h2 := Int32.le_iff_toInt_le.mp h1
    rw [e0] at h2
    have h3 : 0 ≤ n.toInt := by
      have := mt hx.mpr (by omega)
      omega
    have h4 := Int.tmod_nonneg 16 h3
    exact vp_in_iff.mpr ⟨by omega, by omega⟩
  · rename_i h1
    split
    · rename_i h2
      rw [h2]
      exact bz_lit (by decide)
    · rename_i h2
      have h3 : n.toInt < 0 := by
        have := mt Int32.le_iff_toInt_le.mpr h1
        rw [e0] at this
        have := hx.mp (by omega)
        omega
      have h4 : n.toInt.tmod 16 ≤ 0 := by
        have e : n.toInt.tmod 16 = -((-n.toInt).tmod 16) := by rw [Int.neg_tmod, Int.neg_neg]
        have := Int.tmod_nonneg 16 (show 0 ≤ -n.toInt by omega)
        omega
      have h5 : (n % 16).toInt ≠ 0 := fun z => h2 (Int32.toInt_inj.mp (by rw [z]; rfl))
      have h6 : (n % 16 + 16).toInt = (n % 16).toInt + 16 := by
        rw [Int32.toInt_add, e16]
        exact Int.bmod_eq_of_le_mul_two (by omega) (by omega)
      exact vp_in_iff.mpr ⟨by omega, by omega⟩

def f_X7_cellBehind_12 (σ : bz_S) (n : Int32) : Int32 := (σ.1 13 ((f_J9_floorMod_7cf53 n 16).toNatClampNeg))
set_option maxRecDepth 100000 in
theorem s_X7_cellBehind_12 {X : bz_X} (σ : bz_S) (n : Int32) : bz_C bz_P X mX7_cellBehind [.ref 12, .int n] σ (bz_pi (f_X7_cellBehind_12 σ n) σ) := by
  show bz_wp bz_P X mX7_cellBehind (bz_pi (f_X7_cellBehind_12 σ n) σ) (0, [some (.ref 12), some (.int n)], [], σ)
  refine bz_wpn bT_X7_cellBehind 4 (b := (7, [some (.ref 12), some (.int n)], [.int 16, .int n, .ref 13], σ)) (G := True) rfl trivial ?_
  refine bz_wci bT_X7_cellBehind [.int n, .int 16] (pc' := 10) (rest := [.ref 13]) rfl rfl (Nat.le_of_ble_eq_true rfl) rfl (Nat.le_of_ble_eq_true rfl) rfl (s_J9_floorMod_7cf53 σ n 16 (by decide)) rfl ?_
  refine bz_wpn bT_X7_cellBehind 1 (b := (11, [some (.ref 12), some (.int n)], [.int (σ.1 13 ((f_J9_floorMod_7cf53 n 16).toNatClampNeg))], σ)) (G := vp_in (f_J9_floorMod_7cf53 n 16) 16 ∧ True) rfl ⟨(bz_fm16 n), trivial⟩ ?_
  refine bz_wpr bT_X7_cellBehind rfl rfl trivial ?_
  have e9 : f_X7_cellBehind_12 σ n = (σ.1 13 ((f_J9_floorMod_7cf53 n 16).toNatClampNeg)) := by rw [f_X7_cellBehind_12]
  exact ⟨by rw [e9], rfl⟩

def f_X4_add_3 (σ : bz_S) (st : Int32) (c : Int32) : Bool × bz_S := if (σ.1 3 2) < 8 then (true, ((bz_up (bz_up (bz_up σ.1 4 ((σ.1 3 2).toNatClampNeg) st) 5 ((σ.1 3 2).toNatClampNeg) c) 3 2 ((σ.1 3 2) + 1)), σ.2)) else (false, σ)
set_option maxRecDepth 100000 in
theorem s_X4_add_3 {X : bz_X} (σ : bz_S) (st : Int32) (c : Int32) (hc : ¬ σ.1 3 2 < 0) : bz_C bz_P X mX4_add [.ref 3, .int st, .int c] σ (bz_pi (bz_b (f_X4_add_3 σ st c).1) (f_X4_add_3 σ st c).2) := by
  show bz_wp bz_P X mX4_add (bz_pi (bz_b (f_X4_add_3 σ st c).1) (f_X4_add_3 σ st c).2) (0, [some (.ref 3), some (.int st), some (.int c)], [], σ)
  refine bz_wpb bT_X4_add 4 (b1 := (11, [some (.ref 3), some (.int st), some (.int c)], [], σ)) (b2 := (9, [some (.ref 3), some (.int st), some (.int c)], [], σ)) (C := (σ.1 3 2) < 8) (G := True) rfl trivial (fun h1 => ?_) (fun h1 => ?_)
  · skip
    refine bz_wpn bT_X4_add 11 (b := (30, [some (.ref 3), some (.int st), some (.int c)], [.int c, .int (σ.1 3 2), .ref 5], ((bz_up σ.1 4 ((σ.1 3 2).toNatClampNeg) st), σ.2))) (G := vp_in (σ.1 3 2) 8 ∧ True) rfl ⟨(bz_inn (m := 8) hc h1 (by decide)), trivial⟩ ?_
    refine bz_wpn bT_X4_add 8 (b := (42, [some (.ref 3), some (.int st), some (.int c)], [.int 1], ((bz_up (bz_up (bz_up σ.1 4 ((σ.1 3 2).toNatClampNeg) st) 5 ((σ.1 3 2).toNatClampNeg) c) 3 2 ((σ.1 3 2) + 1)), σ.2))) (G := vp_in (σ.1 3 2) 8 ∧ True) rfl ⟨(bz_inn (m := 8) hc h1 (by decide)), trivial⟩ ?_
    refine bz_wpr bT_X4_add rfl rfl (show (1 : Int32) = 0 ∨ (1 : Int32) = 1 by decide) ?_
    have e9 : f_X4_add_3 σ st c = (true, ((bz_up (bz_up (bz_up σ.1 4 ((σ.1 3 2).toNatClampNeg) st) 5 ((σ.1 3 2).toNatClampNeg) c) 3 2 ((σ.1 3 2) + 1)), σ.2)) := by rw [f_X4_add_3, if_pos (h1)]
    exact ⟨by rw [e9]; rfl, by rw [e9]⟩
  · skip
    refine bz_wpn bT_X4_add 1 (b := (10, [some (.ref 3), some (.int st), some (.int c)], [.int 0], σ)) (G := True) rfl trivial ?_
    refine bz_wpr bT_X4_add rfl rfl (show (0 : Int32) = 0 ∨ (0 : Int32) = 1 by decide) ?_
    have e9 : f_X4_add_3 σ st c = (false, σ) := by rw [f_X4_add_3, if_neg (h1)]
    exact ⟨by rw [e9]; rfl, by rw [e9]⟩
theorem rf_X4_add_3 (σ : bz_S) (st : Int32) (c : Int32) : bz_fr [3, 4, 5] σ (f_X4_add_3 σ st c).2 := by
  unfold f_X4_add_3
  exact (bz_ite2 ⟨(bz_f1_up (bz_f1_up (bz_f1_up (bz_fr_rf).1 (by decide)) (by decide)) (by decide)), (bz_fr_rf).2⟩ bz_fr_rf)

def f_X1_keep_20_1_3_b (σ : bz_S) (τ1 : bz_S) (τ2 : bz_S) : bz_S := ((bz_up τ2.1 20 2 1), τ2.2)
def f_X1_keep_20_1_3_a (σ : bz_S) (τ1 : bz_S) : bz_S := (f_X1_keep_20_1_3_b σ τ1 (f_X4_copy_23_3 τ1))
def f_X1_keep_20_1_3 (σ : bz_S)  : bz_S := (f_X1_keep_20_1_3_a σ (f_X6_copy_21_1 σ))
set_option maxRecDepth 100000 in
theorem s_X1_keep_20_1_3 {X : bz_X} (σ : bz_S) : bz_C bz_P X mX1_keep [.ref 20, .ref 1, .ref 3] σ (bz_pv (f_X1_keep_20_1_3 σ)) := by
  show bz_wp bz_P X mX1_keep (bz_pv (f_X1_keep_20_1_3 σ)) (0, [some (.ref 20), some (.ref 1), some (.ref 3)], [], σ)
  refine bz_wpn bT_X1_keep 3 (b := (5, [some (.ref 20), some (.ref 1), some (.ref 3)], [.ref 1, .ref 21], σ)) (G := True) rfl trivial ?_
  refine bz_wcv bT_X1_keep [.ref 21, .ref 1] (pc' := 8) (rest := []) rfl rfl (Nat.le_of_ble_eq_true rfl) rfl (Nat.le_of_ble_eq_true rfl) rfl (s_X6_copy_21_1 σ) rfl ?_
  generalize hτ1 : f_X6_copy_21_1 σ = τ1
  refine bz_wpn bT_X1_keep 3 (b := (13, [some (.ref 20), some (.ref 1), some (.ref 3)], [.ref 3, .ref 23], τ1)) (G := True) rfl trivial ?_
  refine bz_wcv bT_X1_keep [.ref 23, .ref 3] (pc' := 16) (rest := []) rfl rfl (Nat.le_of_ble_eq_true rfl) rfl (Nat.le_of_ble_eq_true rfl) rfl (s_X4_copy_23_3 τ1) rfl ?_
  generalize hτ2 : f_X4_copy_23_3 τ1 = τ2
  refine bz_wpn bT_X1_keep 3 (b := (21, [some (.ref 20), some (.ref 1), some (.ref 3)], [], ((bz_up τ2.1 20 2 1), τ2.2))) (G := ((1 : Int32) = 0 ∨ (1 : Int32) = 1) ∧ True) rfl ⟨(by decide), trivial⟩ ?_
  refine bz_wpr bT_X1_keep rfl rfl trivial ?_
  have e9 : f_X1_keep_20_1_3 σ = ((bz_up τ2.1 20 2 1), τ2.2) := by rw [f_X1_keep_20_1_3, hτ1, f_X1_keep_20_1_3_a, hτ2, f_X1_keep_20_1_3_b]
  exact ⟨rfl, by rw [e9]⟩
theorem rf_X1_keep_20_1_3_b (σ : bz_S) (τ1 : bz_S) (τ2 : bz_S) (fτ1 : bz_fr [20, 21, 22, 23, 24, 25] σ τ1) (fτ2 : bz_fr [20, 21, 22, 23, 24, 25] σ τ2) : bz_fr [20, 21, 22, 23, 24, 25] σ (f_X1_keep_20_1_3_b σ τ1 τ2) := by
  unfold f_X1_keep_20_1_3_b
  exact ⟨(bz_f1_up (fτ2).1 (by decide)), (fτ2).2⟩
theorem rf_X1_keep_20_1_3_a (σ : bz_S) (τ1 : bz_S) (fτ1 : bz_fr [20, 21, 22, 23, 24, 25] σ τ1) : bz_fr [20, 21, 22, 23, 24, 25] σ (f_X1_keep_20_1_3_a σ τ1) := by
  unfold f_X1_keep_20_1_3_a
  exact (rf_X1_keep_20_1_3_b σ τ1 (f_X4_copy_23_3 τ1) fτ1 (bz_fr_tr (τ := τ1) fτ1 (bz_fr_mo (rf_X4_copy_23_3 τ1) (by decide))))
theorem rf_X1_keep_20_1_3 (σ : bz_S)  : bz_fr [20, 21, 22, 23, 24, 25] σ (f_X1_keep_20_1_3 σ) := by
  unfold f_X1_keep_20_1_3
  exact (rf_X1_keep_20_1_3_a σ (f_X6_copy_21_1 σ) (bz_fr_mo (rf_X6_copy_21_1 σ) (by decide)))

def f_X1_keep_26_1_3_b (σ : bz_S) (τ1 : bz_S) (τ2 : bz_S) : bz_S := ((bz_up τ2.1 26 2 1), τ2.2)
def f_X1_keep_26_1_3_a (σ : bz_S) (τ1 : bz_S) : bz_S := (f_X1_keep_26_1_3_b σ τ1 (f_X4_copy_29_3 τ1))
def f_X1_keep_26_1_3 (σ : bz_S)  : bz_S := (f_X1_keep_26_1_3_a σ (f_X6_copy_27_1 σ))
set_option maxRecDepth 100000 in
theorem s_X1_keep_26_1_3 {X : bz_X} (σ : bz_S) : bz_C bz_P X mX1_keep [.ref 26, .ref 1, .ref 3] σ (bz_pv (f_X1_keep_26_1_3 σ)) := by
  show bz_wp bz_P X mX1_keep (bz_pv (f_X1_keep_26_1_3 σ)) (0, [some (.ref 26), some (.ref 1), some (.ref 3)], [], σ)
  refine bz_wpn bT_X1_keep 3 (b := (5, [some (.ref 26), some (.ref 1), some (.ref 3)], [.ref 1, .ref 27], σ)) (G := True) rfl trivial ?_
  refine bz_wcv bT_X1_keep [.ref 27, .ref 1] (pc' := 8) (rest := []) rfl rfl (Nat.le_of_ble_eq_true rfl) rfl (Nat.le_of_ble_eq_true rfl) rfl (s_X6_copy_27_1 σ) rfl ?_
  generalize hτ1 : f_X6_copy_27_1 σ = τ1
  refine bz_wpn bT_X1_keep 3 (b := (13, [some (.ref 26), some (.ref 1), some (.ref 3)], [.ref 3, .ref 29], τ1)) (G := True) rfl trivial ?_
  refine bz_wcv bT_X1_keep [.ref 29, .ref 3] (pc' := 16) (rest := []) rfl rfl (Nat.le_of_ble_eq_true rfl) rfl (Nat.le_of_ble_eq_true rfl) rfl (s_X4_copy_29_3 τ1) rfl ?_
  generalize hτ2 : f_X4_copy_29_3 τ1 = τ2
  refine bz_wpn bT_X1_keep 3 (b := (21, [some (.ref 26), some (.ref 1), some (.ref 3)], [], ((bz_up τ2.1 26 2 1), τ2.2))) (G := ((1 : Int32) = 0 ∨ (1 : Int32) = 1) ∧ True) rfl ⟨(by decide), trivial⟩ ?_
  refine bz_wpr bT_X1_keep rfl rfl trivial ?_
  have e9 : f_X1_keep_26_1_3 σ = ((bz_up τ2.1 26 2 1), τ2.2) := by rw [f_X1_keep_26_1_3, hτ1, f_X1_keep_26_1_3_a, hτ2, f_X1_keep_26_1_3_b]
  exact ⟨rfl, by rw [e9]⟩
theorem rf_X1_keep_26_1_3_b (σ : bz_S) (τ1 : bz_S) (τ2 : bz_S) (fτ1 : bz_fr [26, 27, 28, 29, 30, 31] σ τ1) (fτ2 : bz_fr [26, 27, 28, 29, 30, 31] σ τ2) : bz_fr [26, 27, 28, 29, 30, 31] σ (f_X1_keep_26_1_3_b σ τ1 τ2) := by
  unfold f_X1_keep_26_1_3_b
  exact ⟨(bz_f1_up (fτ2).1 (by decide)), (fτ2).2⟩
theorem rf_X1_keep_26_1_3_a (σ : bz_S) (τ1 : bz_S) (fτ1 : bz_fr [26, 27, 28, 29, 30, 31] σ τ1) : bz_fr [26, 27, 28, 29, 30, 31] σ (f_X1_keep_26_1_3_a σ τ1) := by
  unfold f_X1_keep_26_1_3_a
  exact (rf_X1_keep_26_1_3_b σ τ1 (f_X4_copy_29_3 τ1) fτ1 (bz_fr_tr (τ := τ1) fτ1 (bz_fr_mo (rf_X4_copy_29_3 τ1) (by decide))))
theorem rf_X1_keep_26_1_3 (σ : bz_S)  : bz_fr [26, 27, 28, 29, 30, 31] σ (f_X1_keep_26_1_3 σ) := by
  unfold f_X1_keep_26_1_3
  exact (rf_X1_keep_26_1_3_a σ (f_X6_copy_27_1 σ) (bz_fr_mo (rf_X6_copy_27_1 σ) (by decide)))

theorem bz_divN {a d : Nat} (ha : a < 2 ^ 31) (h0 : 0 < d) (hd : d < 2 ^ 31) : nI a / nI d = nI (a / d) := pk_div ha h0 hd
theorem bz_modN {a d : Nat} (ha : a < 2 ^ 31) (h0 : 0 < d) (hd : d < 2 ^ 31) : nI a % nI d = nI (a % d) := by rw [← irem_eq_mod]; exact pk_rem ha h0 hd
theorem bz_i100 {r : Int32} (h : ¬ r < 0) : vp_in ((r / 10) % 100) 100 := by
  obtain ⟨k, hk, rfl⟩ := nI_of h
  show vp_in (nI k / nI 10 % nI 100) 100
  rw [bz_divN hk (by decide) (by decide), bz_modN (by omega) (by decide) (by decide)]
  exact vp_in_nI (Nat.mod_lt _ (by decide)) (by decide)

def f_X0_isLost_17 (σ : bz_S) (r : Int32) (mf : Int32) : Bool := if mf = 0 then if (((((r / 10) % 100) / 10) ^^^ (((r / 10) % 100) % 10)) ^^^ (r % 10)) = 0 then true else false else (if (σ.1 18 (((r / 10) % 100).toNatClampNeg)) = (r % 10) then true else false)
set_option maxRecDepth 100000 in
theorem s_X0_isLost_17 {X : bz_X} (σ : bz_S) (r : Int32) (mf : Int32) (hr : ¬ r < 0) : bz_C bz_P X mX0_isLost [.ref 17, .int r, .int mf] σ (bz_pi (bz_b (f_X0_isLost_17 σ r mf)) σ) := by
  show bz_wp bz_P X mX0_isLost (bz_pi (bz_b (f_X0_isLost_17 σ r mf)) σ) (0, [some (.ref 17), some (.int r), some (.int mf), none, none], [], σ)
  refine bz_wpb bT_X0_isLost 12 (b1 := (35, [some (.ref 17), some (.int r), some (.int mf), some (.int (r % 10)), some (.int ((r / 10) % 100))], [], σ)) (b2 := (18, [some (.ref 17), some (.int r), some (.int mf), some (.int (r % 10)), some (.int ((r / 10) % 100))], [], σ)) (C := mf = 0) (G := ¬ (10 : Int32) = 0 ∧ ¬ (10 : Int32) = 0 ∧ ¬ (100 : Int32) = 0 ∧ True) rfl ⟨(by decide), (by decide), (by decide), trivial⟩ (fun h1 => ?_) (fun h1 => ?_)
  · skip
    refine bz_wpb bT_X0_isLost 10 (b1 := (55, [some (.ref 17), some (.int r), some (.int mf), some (.int (r % 10)), some (.int ((r / 10) % 100))], [], σ)) (b2 := (51, [some (.ref 17), some (.int r), some (.int mf), some (.int (r % 10)), some (.int ((r / 10) % 100))], [], σ)) (C := ¬ (((((r / 10) % 100) / 10) ^^^ (((r / 10) % 100) % 10)) ^^^ (r % 10)) = 0) (G := ¬ (10 : Int32) = 0 ∧ ¬ (10 : Int32) = 0 ∧ True) rfl ⟨(by decide), (by decide), trivial⟩ (fun h2 => ?_) (fun h2 => ?_)
    · skip
      refine bz_wpn bT_X0_isLost 1 (b := (56, [some (.ref 17), some (.int r), some (.int mf), some (.int (r % 10)), some (.int ((r / 10) % 100))], [.int 0], σ)) (G := True) rfl trivial ?_
      refine bz_wpr bT_X0_isLost rfl rfl (show (0 : Int32) = 0 ∨ (0 : Int32) = 1 by decide) ?_
      have e9 : f_X0_isLost_17 σ r mf = false := by rw [f_X0_isLost_17, if_pos (h1), if_neg (h2)]
      exact ⟨by rw [e9]; rfl, rfl⟩
    · skip
      refine bz_wpn bT_X0_isLost 2 (b := (56, [some (.ref 17), some (.int r), some (.int mf), some (.int (r % 10)), some (.int ((r / 10) % 100))], [.int 1], σ)) (G := True) rfl trivial ?_
      refine bz_wpr bT_X0_isLost rfl rfl (show (1 : Int32) = 0 ∨ (1 : Int32) = 1 by decide) ?_
      have e9 : f_X0_isLost_17 σ r mf = true := by rw [f_X0_isLost_17, if_pos (h1), if_pos ((Decidable.not_not.mp h2))]
      exact ⟨by rw [e9]; rfl, rfl⟩
  · skip
    refine bz_wpb bT_X0_isLost 6 (b1 := (33, [some (.ref 17), some (.int r), some (.int mf), some (.int (r % 10)), some (.int ((r / 10) % 100))], [], σ)) (b2 := (29, [some (.ref 17), some (.int r), some (.int mf), some (.int (r % 10)), some (.int ((r / 10) % 100))], [], σ)) (C := ¬ (σ.1 18 (((r / 10) % 100).toNatClampNeg)) = (r % 10)) (G := vp_in ((r / 10) % 100) 100 ∧ True) rfl ⟨(bz_i100 hr), trivial⟩ (fun h3 => ?_) (fun h3 => ?_)
    · skip
      refine bz_wpn bT_X0_isLost 1 (b := (34, [some (.ref 17), some (.int r), some (.int mf), some (.int (r % 10)), some (.int ((r / 10) % 100))], [.int 0], σ)) (G := True) rfl trivial ?_
      refine bz_wpr bT_X0_isLost rfl rfl (show (0 : Int32) = 0 ∨ (0 : Int32) = 1 by decide) ?_
      have e9 : f_X0_isLost_17 σ r mf = false := by rw [f_X0_isLost_17, if_neg (h1), if_neg (h3)]
      exact ⟨by rw [e9]; rfl, rfl⟩
    · skip
      refine bz_wpn bT_X0_isLost 2 (b := (34, [some (.ref 17), some (.int r), some (.int mf), some (.int (r % 10)), some (.int ((r / 10) % 100))], [.int 1], σ)) (G := True) rfl trivial ?_
      refine bz_wpr bT_X0_isLost rfl rfl (show (1 : Int32) = 0 ∨ (1 : Int32) = 1 by decide) ?_
      have e9 : f_X0_isLost_17 σ r mf = true := by rw [f_X0_isLost_17, if_neg (h1), if_pos ((Decidable.not_not.mp h3))]
      exact ⟨by rw [e9]; rfl, rfl⟩

def f_X10_bit (c : Int32) : Int64 := (bz_lshl_f 1 c)
set_option maxRecDepth 100000 in
theorem s_X10_bit {X : bz_X} (σ : bz_S) (c : Int32) : bz_C bz_P X mX10_bit [.int c] σ (bz_pl (f_X10_bit c) σ) := by
  show bz_wp bz_P X mX10_bit (bz_pl (f_X10_bit c) σ) (0, [some (.int c)], [], σ)
  refine bz_wpn bT_X10_bit 3 (b := (3, [some (.int c)], [.long (bz_lshl_f 1 c)], σ)) (G := True) rfl trivial ?_
  refine bz_wpr bT_X10_bit rfl rfl trivial ?_
  have e9 : f_X10_bit c = (bz_lshl_f 1 c) := by rw [f_X10_bit]
  exact ⟨by rw [e9], rfl⟩
