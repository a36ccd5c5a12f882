def lp_drift1_a (rc : bz_S → Int32 → bz_S) (col : Int32) (σ : bz_S) (ball : Int32) (τ1 : bz_S) : bz_S := (rc τ1 (ball + 1))
def lp_drift1 (col : Int32) : Nat → bz_S → Int32 → bz_S
  | 0, σ, ball => σ
  | n + 1, σ, ball => if f_X6_isDown_9 σ ball = true then (lp_drift1 col n σ (ball + 1)) else (if ((σ.1 10 ball.toNatClampNeg) % 9) = col then (lp_drift1_a (lp_drift1 col n) col σ ball (f_X6_driftOne_9 σ ball)) else (lp_drift1 col n σ (ball + 1)))
set_option maxRecDepth 100000 in
theorem s_lp_drift1 {X : bz_X} (col : Int32) {Q : bz_Q} : ∀ (n : Nat) (σ : bz_S) (ball : Int32) (j9 : Nat) (hi : ball = nI j9) (hj : j9 + n = 3) (kk : bz_wp bz_P X mX6_drift Q (47, [some (.ref 9), some (.int col), none], [], (lp_drift1 col n σ ball))), bz_wp bz_P X mX6_drift (Q) (10, [some (.ref 9), some (.int col), some (.int ball)], [], σ) := by
  intro n
  induction n with
  | zero =>
    intro σ ball j9 hi hj kk
    refine bz_wpb bT_X6_drift 3 (b1 := (47, [some (.ref 9), some (.int col), some (.int ball)], [], σ)) (b2 := (15, [some (.ref 9), some (.int col), some (.int ball)], [], σ)) (C := 3 ≤ ball) (G := True) rfl trivial (fun _ => ?_) (fun z => absurd (show (3 : Int32) ≤ ball from by rw [hi, show j9 = 3 from by omega]; decide) z)
    have e9 : lp_drift1 col 0 σ ball = σ := by rw [lp_drift1]
    rw [e9] at kk
    refine bz_wpw (by exact ⟨rfl, rfl, trivial⟩) kk
  | succ n ih =>
    intro σ ball j9 hi hj kk
    refine bz_wpb bT_X6_drift 3 (b1 := (47, [some (.ref 9), some (.int col), some (.int ball)], [], σ)) (b2 := (15, [some (.ref 9), some (.int col), some (.int ball)], [], σ)) (C := 3 ≤ ball) (G := True) rfl trivial (fun z => absurd z (show ¬ (3 : Int32) ≤ ball from by rw [hi]; exact nI_ge (b := 3) (by omega) (by decide))) (fun _ => ?_)
    refine bz_wpn bT_X6_drift 2 (b := (17, [some (.ref 9), some (.int col), some (.int ball)], [.int ball, .ref 9], σ)) (G := True) rfl trivial ?_
    refine bz_wci bT_X6_drift [.ref 9, .int ball] (pc' := 20) (rest := []) rfl rfl (Nat.le_of_ble_eq_true rfl) rfl (Nat.le_of_ble_eq_true rfl) rfl (s_X6_isDown_9 σ ball) rfl ?_
    refine bz_wpb bT_X6_drift 1 (b1 := (41, [some (.ref 9), some (.int col), some (.int ball)], [], σ)) (b2 := (23, [some (.ref 9), some (.int col), some (.int ball)], [], σ)) (C := ¬ bz_b (f_X6_isDown_9 σ ball) = 0) (G := True) rfl trivial (fun h1 => ?_) (fun h1 => ?_)
    · skip
      have h1 := bz_b1 h1
      refine bz_wpn bT_X6_drift 2 (b := (10, [some (.ref 9), some (.int col), some (.int (ball + 1))], [], σ)) (G := True) rfl trivial ?_
      have e9 : lp_drift1 col (n + 1) σ ball = (lp_drift1 col n σ (ball + 1)) := by rw [lp_drift1, if_pos (h1)]
      rw [e9] at kk
      exact ih σ (ball + 1) (j9 + 1) (by rw [hi]; exact nI_1 j9) (by omega) kk
    · skip
      have h1 := bz_b0 (Decidable.not_not.mp h1)
      refine bz_wpb bT_X6_drift 8 (b1 := (41, [some (.ref 9), some (.int col), some (.int ball)], [], σ)) (b2 := (36, [some (.ref 9), some (.int col), some (.int ball)], [], σ)) (C := ¬ ((σ.1 10 ball.toNatClampNeg) % 9) = col) (G := vp_in ball 3 ∧ ¬ (9 : Int32) = 0 ∧ True) rfl ⟨(by rw [hi]; exact vp_in_nI (by omega) (by decide)), (by decide), trivial⟩ (fun h2 => ?_) (fun h2 => ?_)
      · skip
        refine bz_wpn bT_X6_drift 2 (b := (10, [some (.ref 9), some (.int col), some (.int (ball + 1))], [], σ)) (G := True) rfl trivial ?_
        have e9 : lp_drift1 col (n + 1) σ ball = (lp_drift1 col n σ (ball + 1)) := by rw [lp_drift1, if_neg (bz_ff h1), if_neg (h2)]
        rw [e9] at kk
        exact ih σ (ball + 1) (j9 + 1) (by rw [hi]; exact nI_1 j9) (by omega) kk
      · skip
        refine bz_wpn bT_X6_drift 2 (b := (38, [some (.ref 9), some (.int col), some (.int ball)], [.int ball, .ref 9], σ)) (G := True) rfl trivial ?_
        refine bz_wcv bT_X6_drift [.ref 9, .int ball] (pc' := 41) (rest := []) rfl rfl (Nat.le_of_ble_eq_true rfl) rfl (Nat.le_of_ble_eq_true rfl) rfl (s_X6_driftOne_9 σ ball (by rw [hi]; exact vp_in_nI (by omega) (by decide))) rfl ?_
        generalize hτ1 : f_X6_driftOne_9 σ ball = τ1
        refine bz_wpn bT_X6_drift 2 (b := (10, [some (.ref 9), some (.int col), some (.int (ball + 1))], [], τ1)) (G := True) rfl trivial ?_
        have e9 : lp_drift1 col (n + 1) σ ball = (lp_drift1 col n τ1 (ball + 1)) := by rw [lp_drift1, if_neg (bz_ff h1), if_pos ((Decidable.not_not.mp h2)), hτ1, lp_drift1_a]
        rw [e9] at kk
        exact ih τ1 (ball + 1) (j9 + 1) (by rw [hi]; exact nI_1 j9) (by omega) kk
theorem rlp_drift1_a (rc : bz_S → Int32 → bz_S) (col : Int32) (σ : bz_S) (ball : Int32) (τ1 : bz_S) (ihc : ∀ (σ : bz_S) (ball : Int32), bz_fr [10] σ (rc σ ball)) (fτ1 : bz_fr [10] σ τ1) : bz_fr [10] σ (lp_drift1_a rc col σ ball τ1) := by
  unfold lp_drift1_a
  exact (bz_fr_tr (τ := τ1) fτ1 (ihc τ1 (ball + 1)))
theorem rlp_drift1 (col : Int32) : ∀ (n : Nat) (σ : bz_S) (ball : Int32), bz_fr [10] σ (lp_drift1 col n σ ball) := by
  intro n
  induction n with
  | zero =>
    intro σ ball
    rw [lp_drift1]
    exact bz_fr_rf
  | succ n ihc =>
    intro σ ball
    rw [lp_drift1]
    exact (bz_ite (bz_fr_tr (τ := σ) bz_fr_rf (ihc σ (ball + 1))) (bz_ite (rlp_drift1_a (lp_drift1 col n) col σ ball (f_X6_driftOne_9 σ ball) ihc (bz_fr_mo (rf_X6_driftOne_9 σ ball) (by decide))) (bz_fr_tr (τ := σ) bz_fr_rf (ihc σ (ball + 1)))))

def lp_drift_a (rc : bz_S → Int32 → bz_S) (σ : bz_S) (col : Int32) (τ1 : bz_S) : bz_S := (rc τ1 (col + 1))
def lp_drift : Nat → bz_S → Int32 → bz_S
  | 0, σ, col => σ
  | n + 1, σ, col => (lp_drift_a (lp_drift n) σ col ((lp_drift1 col (bz_k 3) σ 0)))
set_option maxRecDepth 100000 in
theorem s_lp_drift {X : bz_X} : ∀ (n : Nat) (σ : bz_S) (col : Int32) (j9 : Nat) (hi : col = nI j9) (hj : j9 + n = 9), bz_wp bz_P X mX6_drift (bz_pv (lp_drift n σ col)) (2, [some (.ref 9), some (.int col), none], [], σ) := by
  intro n
  induction n with
  | zero =>
    intro σ col j9 hi hj
    refine bz_wpb bT_X6_drift 3 (b1 := (53, [some (.ref 9), some (.int col), none], [], σ)) (b2 := (8, [some (.ref 9), some (.int col), none], [], σ)) (C := 9 ≤ col) (G := True) rfl trivial (fun _ => ?_) (fun z => absurd (show (9 : Int32) ≤ col from by rw [hi, show j9 = 9 from by omega]; decide) z)
    refine bz_wpr bT_X6_drift rfl rfl trivial ?_
    have e9 : lp_drift 0 σ col = σ := by rw [lp_drift]
    exact ⟨rfl, by rw [e9]⟩
  | succ n ih =>
    intro σ col j9 hi hj
    refine bz_wpb bT_X6_drift 3 (b1 := (53, [some (.ref 9), some (.int col), none], [], σ)) (b2 := (8, [some (.ref 9), some (.int col), none], [], σ)) (C := 9 ≤ col) (G := True) rfl trivial (fun z => absurd z (show ¬ (9 : Int32) ≤ col from by rw [hi]; exact nI_ge (b := 9) (by omega) (by decide))) (fun _ => ?_)
    refine bz_wpn bT_X6_drift 2 (b := (10, [some (.ref 9), some (.int col), some (.int 0)], [], σ)) (G := True) rfl trivial ?_
    refine s_lp_drift1 col (bz_k 3) σ 0 0 rfl (by rw [bz_k_eq]) ?_
    generalize hτ1 : (lp_drift1 col (bz_k 3) σ 0) = τ1
    refine bz_wpn bT_X6_drift 2 (b := (2, [some (.ref 9), some (.int (col + 1)), none], [], τ1)) (G := True) rfl trivial ?_
    have e9 : lp_drift (n + 1) σ col = (lp_drift n τ1 (col + 1)) := by rw [lp_drift, hτ1, lp_drift_a]
    rw [e9]
    exact ih τ1 (col + 1) (j9 + 1) (by rw [hi]; exact nI_1 j9) (by omega)
theorem rlp_drift_a (rc : bz_S → Int32 → bz_S) (σ : bz_S) (col : Int32) (τ1 : bz_S) (ihc : ∀ (σ : bz_S) (col : Int32), bz_fr [10] σ (rc σ col)) (fτ1 : bz_fr [10] σ τ1) : bz_fr [10] σ (lp_drift_a rc σ col τ1) := by
  unfold lp_drift_a
  exact (bz_fr_tr (τ := τ1) fτ1 (ihc τ1 (col + 1)))
theorem rlp_drift : ∀ (n : Nat) (σ : bz_S) (col : Int32), bz_fr [10] σ (lp_drift n σ col) := by
  intro n
  induction n with
  | zero =>
    intro σ col
    rw [lp_drift]
    exact bz_fr_rf
  | succ n ihc =>
    intro σ col
    rw [lp_drift]
    exact (rlp_drift_a (lp_drift n) σ col ((lp_drift1 col (bz_k 3) σ 0)) ihc (bz_fr_mo (rlp_drift1 col (bz_k 3) σ 0) (by decide)))

def f_X6_drift_9 (σ : bz_S)  : bz_S := lp_drift (bz_k 8) σ 1
set_option maxRecDepth 100000 in
theorem s_X6_drift_9 {X : bz_X} (σ : bz_S) : bz_C bz_P X mX6_drift [.ref 9] σ (bz_pv (f_X6_drift_9 σ)) := by
  show bz_wp bz_P X mX6_drift (bz_pv (f_X6_drift_9 σ)) (0, [some (.ref 9), none, none], [], σ)
  refine bz_wpn bT_X6_drift 2 (b := (2, [some (.ref 9), some (.int 1), none], [], σ)) (G := True) rfl trivial ?_
  have e9 : f_X6_drift_9 σ = lp_drift (bz_k 8) σ 1 := by rw [f_X6_drift_9]
  rw [e9]
  exact bz_wpw (by exact ⟨rfl, rfl, trivial⟩) (s_lp_drift (bz_k 8) σ 1 1 rfl (by rw [bz_k_eq]))
theorem rf_X6_drift_9 (σ : bz_S)  : bz_fr [10] σ (f_X6_drift_9 σ) := by
  unfold f_X6_drift_9
  exact (bz_fr_tr (τ := σ) bz_fr_rf (bz_fr_mo (rlp_drift (bz_k 8) σ 1) (by decide)))

def lp_walk (cell : Int32) (way : Int32) : Nat → bz_S → Int32 → Int32 → Int32 → bz_S
  | 0, σ, at_, by_, sp => σ
  | n + 1, σ, at_, by_, sp => if (σ.1 12 1) = (-6) then if (f_X10_next at_ (f_X10_turned at_ by_)) = cell then if (f_X10_turned at_ by_) = way then (lp_walk cell way n ((bz_up (bz_up σ.1 13 sp.toNatClampNeg at_) 12 1 (sp + 1)), (bz_up σ.2 12 2 ((σ.2 12 2) ||| (f_X10_bit at_)))) (f_X10_next at_ (f_X10_turned at_ by_)) (f_X10_turned at_ by_) (sp + 1)) else (lp_walk cell way n ((bz_up σ.1 13 sp.toNatClampNeg at_), (bz_up σ.2 12 2 ((σ.2 12 2) ||| (f_X10_bit at_)))) (f_X10_next at_ (f_X10_turned at_ by_)) (f_X10_turned at_ by_) (sp + 1)) else (lp_walk cell way n ((bz_up σ.1 13 sp.toNatClampNeg at_), (bz_up σ.2 12 2 ((σ.2 12 2) ||| (f_X10_bit at_)))) (f_X10_next at_ (f_X10_turned at_ by_)) (f_X10_turned at_ by_) (sp + 1)) else (lp_walk cell way n ((bz_up σ.1 13 sp.toNatClampNeg at_), (bz_up σ.2 12 2 ((σ.2 12 2) ||| (f_X10_bit at_)))) (f_X10_next at_ (f_X10_turned at_ by_)) (f_X10_turned at_ by_) (sp + 1))
set_option maxRecDepth 100000 in
theorem s_lp_walk {X : bz_X} (cell : Int32) (way : Int32) : ∀ (n : Nat) (σ : bz_S) (at_ : Int32) (by_ : Int32) (sp : Int32) (j9 : Nat) (hi : sp = nI j9) (hj : j9 + n = 16), bz_wp bz_P X mX7_walk (bz_pv (lp_walk cell way n σ at_ by_ sp)) (19, [some (.ref 12), some (.int cell), some (.int way), some (.int at_), some (.int by_), some (.int sp)], [], σ) := by
  intro n
  induction n with
  | zero =>
    intro σ at_ by_ sp j9 hi hj
    refine bz_wpb bT_X7_walk 3 (b1 := (96, [some (.ref 12), some (.int cell), some (.int way), some (.int at_), some (.int by_), some (.int sp)], [], σ)) (b2 := (26, [some (.ref 12), some (.int cell), some (.int way), some (.int at_), some (.int by_), some (.int sp)], [], σ)) (C := 16 ≤ sp) (G := True) rfl trivial (fun _ => ?_) (fun z => absurd (show (16 : Int32) ≤ sp from by rw [hi, show j9 = 16 from by omega]; decide) z)
    refine bz_wpr bT_X7_walk rfl rfl trivial ?_
    have e9 : lp_walk cell way 0 σ at_ by_ sp = σ := by rw [lp_walk]
    exact ⟨rfl, by rw [e9]⟩
  | succ n ih =>
    intro σ at_ by_ sp j9 hi hj
    refine bz_wpb bT_X7_walk 3 (b1 := (96, [some (.ref 12), some (.int cell), some (.int way), some (.int at_), some (.int by_), some (.int sp)], [], σ)) (b2 := (26, [some (.ref 12), some (.int cell), some (.int way), some (.int at_), some (.int by_), some (.int sp)], [], σ)) (C := 16 ≤ sp) (G := True) rfl trivial (fun z => absurd z (show ¬ (16 : Int32) ≤ sp from by rw [hi]; exact nI_ge (b := 16) (by omega) (by decide))) (fun _ => ?_)
    refine bz_wpn bT_X7_walk 9 (b := (40, [some (.ref 12), some (.int cell), some (.int way), some (.int at_), some (.int by_), some (.int sp)], [.int at_, .long (σ.2 12 2), .ref 12], ((bz_up σ.1 13 sp.toNatClampNeg at_), σ.2))) (G := vp_in sp 16 ∧ True) rfl ⟨(by rw [hi]; exact vp_in_nI (by omega) (by decide)), trivial⟩ ?_
    refine bz_wcl bT_X7_walk [.int at_] (pc' := 43) (rest := [.long (σ.2 12 2), .ref 12]) rfl rfl (Nat.le_of_ble_eq_true rfl) rfl (Nat.le_of_ble_eq_true rfl) rfl (s_X10_bit ((bz_up σ.1 13 sp.toNatClampNeg at_), σ.2) at_) rfl ?_
    refine bz_wpn bT_X7_walk 4 (b := (50, [some (.ref 12), some (.int cell), some (.int way), some (.int at_), some (.int by_), some (.int sp)], [.int by_, .int at_], ((bz_up σ.1 13 sp.toNatClampNeg at_), (bz_up σ.2 12 2 ((σ.2 12 2) ||| (f_X10_bit at_)))))) (G := True) rfl trivial ?_
    refine bz_wci bT_X7_walk [.int at_, .int by_] (pc' := 53) (rest := []) rfl rfl (Nat.le_of_ble_eq_true rfl) rfl (Nat.le_of_ble_eq_true rfl) rfl (s_X10_turned ((bz_up σ.1 13 sp.toNatClampNeg at_), (bz_up σ.2 12 2 ((σ.2 12 2) ||| (f_X10_bit at_)))) at_ by_) rfl ?_
    refine bz_wpn bT_X7_walk 3 (b := (58, [some (.ref 12), some (.int cell), some (.int way), some (.int at_), some (.int (f_X10_turned at_ by_)), some (.int sp)], [.int (f_X10_turned at_ by_), .int at_], ((bz_up σ.1 13 sp.toNatClampNeg at_), (bz_up σ.2 12 2 ((σ.2 12 2) ||| (f_X10_bit at_)))))) (G := True) rfl trivial ?_
    refine bz_wci bT_X7_walk [.int at_, .int (f_X10_turned at_ by_)] (pc' := 61) (rest := []) rfl rfl (Nat.le_of_ble_eq_true rfl) rfl (Nat.le_of_ble_eq_true rfl) rfl (s_X10_next ((bz_up σ.1 13 sp.toNatClampNeg at_), (bz_up σ.2 12 2 ((σ.2 12 2) ||| (f_X10_bit at_)))) at_ (f_X10_turned at_ by_)) rfl ?_
    refine bz_wpb bT_X7_walk 5 (b1 := (90, [some (.ref 12), some (.int cell), some (.int way), some (.int (f_X10_next at_ (f_X10_turned at_ by_))), some (.int (f_X10_turned at_ by_)), some (.int sp)], [], ((bz_up σ.1 13 sp.toNatClampNeg at_), (bz_up σ.2 12 2 ((σ.2 12 2) ||| (f_X10_bit at_)))))) (b2 := (71, [some (.ref 12), some (.int cell), some (.int way), some (.int (f_X10_next at_ (f_X10_turned at_ by_))), some (.int (f_X10_turned at_ by_)), some (.int sp)], [], ((bz_up σ.1 13 sp.toNatClampNeg at_), (bz_up σ.2 12 2 ((σ.2 12 2) ||| (f_X10_bit at_)))))) (C := ¬ (σ.1 12 1) = (-6)) (G := True) rfl trivial (fun h1 => ?_) (fun h1 => ?_)
    · skip
      refine bz_wpn bT_X7_walk 2 (b := (19, [some (.ref 12), some (.int cell), some (.int way), some (.int (f_X10_next at_ (f_X10_turned at_ by_))), some (.int (f_X10_turned at_ by_)), some (.int (sp + 1))], [], ((bz_up σ.1 13 sp.toNatClampNeg at_), (bz_up σ.2 12 2 ((σ.2 12 2) ||| (f_X10_bit at_)))))) (G := True) rfl trivial ?_
      have e9 : lp_walk cell way (n + 1) σ at_ by_ sp = (lp_walk cell way n ((bz_up σ.1 13 sp.toNatClampNeg at_), (bz_up σ.2 12 2 ((σ.2 12 2) ||| (f_X10_bit at_)))) (f_X10_next at_ (f_X10_turned at_ by_)) (f_X10_turned at_ by_) (sp + 1)) := by rw [lp_walk, if_neg (h1)]
      rw [e9]
      exact ih ((bz_up σ.1 13 sp.toNatClampNeg at_), (bz_up σ.2 12 2 ((σ.2 12 2) ||| (f_X10_bit at_)))) (f_X10_next at_ (f_X10_turned at_ by_)) (f_X10_turned at_ by_) (sp + 1) (j9 + 1) (by rw [hi]; exact nI_1 j9) (by omega)
    · skip
      refine bz_wpb bT_X7_walk 3 (b1 := (90, [some (.ref 12), some (.int cell), some (.int way), some (.int (f_X10_next at_ (f_X10_turned at_ by_))), some (.int (f_X10_turned at_ by_)), some (.int sp)], [], ((bz_up σ.1 13 sp.toNatClampNeg at_), (bz_up σ.2 12 2 ((σ.2 12 2) ||| (f_X10_bit at_)))))) (b2 := (76, [some (.ref 12), some (.int cell), some (.int way), some (.int (f_X10_next at_ (f_X10_turned at_ by_))), some (.int (f_X10_turned at_ by_)), some (.int sp)], [], ((bz_up σ.1 13 sp.toNatClampNeg at_), (bz_up σ.2 12 2 ((σ.2 12 2) ||| (f_X10_bit at_)))))) (C := ¬ (f_X10_next at_ (f_X10_turned at_ by_)) = cell) (G := True) rfl trivial (fun h2 => ?_) (fun h2 => ?_)
      · skip
        refine bz_wpn bT_X7_walk 2 (b := (19, [some (.ref 12), some (.int cell), some (.int way), some (.int (f_X10_next at_ (f_X10_turned at_ by_))), some (.int (f_X10_turned at_ by_)), some (.int (sp + 1))], [], ((bz_up σ.1 13 sp.toNatClampNeg at_), (bz_up σ.2 12 2 ((σ.2 12 2) ||| (f_X10_bit at_)))))) (G := True) rfl trivial ?_
        have e9 : lp_walk cell way (n + 1) σ at_ by_ sp = (lp_walk cell way n ((bz_up σ.1 13 sp.toNatClampNeg at_), (bz_up σ.2 12 2 ((σ.2 12 2) ||| (f_X10_bit at_)))) (f_X10_next at_ (f_X10_turned at_ by_)) (f_X10_turned at_ by_) (sp + 1)) := by rw [lp_walk, if_pos ((Decidable.not_not.mp h1)), if_neg (h2)]
        rw [e9]
        exact ih ((bz_up σ.1 13 sp.toNatClampNeg at_), (bz_up σ.2 12 2 ((σ.2 12 2) ||| (f_X10_bit at_)))) (f_X10_next at_ (f_X10_turned at_ by_)) (f_X10_turned at_ by_) (sp + 1) (j9 + 1) (by rw [hi]; exact nI_1 j9) (by omega)
      · skip
        refine bz_wpb bT_X7_walk 3 (b1 := (90, [some (.ref 12), some (.int cell), some (.int way), some (.int (f_X10_next at_ (f_X10_turned at_ by_))), some (.int (f_X10_turned at_ by_)), some (.int sp)], [], ((bz_up σ.1 13 sp.toNatClampNeg at_), (bz_up σ.2 12 2 ((σ.2 12 2) ||| (f_X10_bit at_)))))) (b2 := (82, [some (.ref 12), some (.int cell), some (.int way), some (.int (f_X10_next at_ (f_X10_turned at_ by_))), some (.int (f_X10_turned at_ by_)), some (.int sp)], [], ((bz_up σ.1 13 sp.toNatClampNeg at_), (bz_up σ.2 12 2 ((σ.2 12 2) ||| (f_X10_bit at_)))))) (C := ¬ (f_X10_turned at_ by_) = way) (G := True) rfl trivial (fun h3 => ?_) (fun h3 => ?_)
        · skip
          refine bz_wpn bT_X7_walk 2 (b := (19, [some (.ref 12), some (.int cell), some (.int way), some (.int (f_X10_next at_ (f_X10_turned at_ by_))), some (.int (f_X10_turned at_ by_)), some (.int (sp + 1))], [], ((bz_up σ.1 13 sp.toNatClampNeg at_), (bz_up σ.2 12 2 ((σ.2 12 2) ||| (f_X10_bit at_)))))) (G := True) rfl trivial ?_
          have e9 : lp_walk cell way (n + 1) σ at_ by_ sp = (lp_walk cell way n ((bz_up σ.1 13 sp.toNatClampNeg at_), (bz_up σ.2 12 2 ((σ.2 12 2) ||| (f_X10_bit at_)))) (f_X10_next at_ (f_X10_turned at_ by_)) (f_X10_turned at_ by_) (sp + 1)) := by rw [lp_walk, if_pos ((Decidable.not_not.mp h1)), if_pos ((Decidable.not_not.mp h2)), if_neg (h3)]
          rw [e9]
          exact ih ((bz_up σ.1 13 sp.toNatClampNeg at_), (bz_up σ.2 12 2 ((σ.2 12 2) ||| (f_X10_bit at_)))) (f_X10_next at_ (f_X10_turned at_ by_)) (f_X10_turned at_ by_) (sp + 1) (j9 + 1) (by rw [hi]; exact nI_1 j9) (by omega)
        · skip
          refine bz_wpn bT_X7_walk 7 (b := (19, [some (.ref 12), some (.int cell), some (.int way), some (.int (f_X10_next at_ (f_X10_turned at_ by_))), some (.int (f_X10_turned at_ by_)), some (.int (sp + 1))], [], ((bz_up (bz_up σ.1 13 sp.toNatClampNeg at_) 12 1 (sp + 1)), (bz_up σ.2 12 2 ((σ.2 12 2) ||| (f_X10_bit at_)))))) (G := True) rfl trivial ?_
          have e9 : lp_walk cell way (n + 1) σ at_ by_ sp = (lp_walk cell way n ((bz_up (bz_up σ.1 13 sp.toNatClampNeg at_) 12 1 (sp + 1)), (bz_up σ.2 12 2 ((σ.2 12 2) ||| (f_X10_bit at_)))) (f_X10_next at_ (f_X10_turned at_ by_)) (f_X10_turned at_ by_) (sp + 1)) := by rw [lp_walk, if_pos ((Decidable.not_not.mp h1)), if_pos ((Decidable.not_not.mp h2)), if_pos ((Decidable.not_not.mp h3))]
          rw [e9]
          exact ih ((bz_up (bz_up σ.1 13 sp.toNatClampNeg at_) 12 1 (sp + 1)), (bz_up σ.2 12 2 ((σ.2 12 2) ||| (f_X10_bit at_)))) (f_X10_next at_ (f_X10_turned at_ by_)) (f_X10_turned at_ by_) (sp + 1) (j9 + 1) (by rw [hi]; exact nI_1 j9) (by omega)
theorem rlp_walk (cell : Int32) (way : Int32) : ∀ (n : Nat) (σ : bz_S) (at_ : Int32) (by_ : Int32) (sp : Int32), bz_fr [12, 13] σ (lp_walk cell way n σ at_ by_ sp) := by
  intro n
  induction n with
  | zero =>
    intro σ at_ by_ sp
    rw [lp_walk]
    exact bz_fr_rf
  | succ n ihc =>
    intro σ at_ by_ sp
    rw [lp_walk]
    exact (bz_ite (bz_ite (bz_ite (bz_fr_tr (τ := ((bz_up (bz_up σ.1 13 sp.toNatClampNeg at_) 12 1 (sp + 1)), (bz_up σ.2 12 2 ((σ.2 12 2) ||| (f_X10_bit at_))))) ⟨(bz_f1_up (bz_f1_up (bz_fr_rf).1 (by decide)) (by decide)), (bz_f1_up (bz_fr_rf).2 (by decide))⟩ (ihc ((bz_up (bz_up σ.1 13 sp.toNatClampNeg at_) 12 1 (sp + 1)), (bz_up σ.2 12 2 ((σ.2 12 2) ||| (f_X10_bit at_)))) (f_X10_next at_ (f_X10_turned at_ by_)) (f_X10_turned at_ by_) (sp + 1))) (bz_fr_tr (τ := ((bz_up σ.1 13 sp.toNatClampNeg at_), (bz_up σ.2 12 2 ((σ.2 12 2) ||| (f_X10_bit at_))))) ⟨(bz_f1_up (bz_fr_rf).1 (by decide)), (bz_f1_up (bz_fr_rf).2 (by decide))⟩ (ihc ((bz_up σ.1 13 sp.toNatClampNeg at_), (bz_up σ.2 12 2 ((σ.2 12 2) ||| (f_X10_bit at_)))) (f_X10_next at_ (f_X10_turned at_ by_)) (f_X10_turned at_ by_) (sp + 1)))) (bz_fr_tr (τ := ((bz_up σ.1 13 sp.toNatClampNeg at_), (bz_up σ.2 12 2 ((σ.2 12 2) ||| (f_X10_bit at_))))) ⟨(bz_f1_up (bz_fr_rf).1 (by decide)), (bz_f1_up (bz_fr_rf).2 (by decide))⟩ (ihc ((bz_up σ.1 13 sp.toNatClampNeg at_), (bz_up σ.2 12 2 ((σ.2 12 2) ||| (f_X10_bit at_)))) (f_X10_next at_ (f_X10_turned at_ by_)) (f_X10_turned at_ by_) (sp + 1)))) (bz_fr_tr (τ := ((bz_up σ.1 13 sp.toNatClampNeg at_), (bz_up σ.2 12 2 ((σ.2 12 2) ||| (f_X10_bit at_))))) ⟨(bz_f1_up (bz_fr_rf).1 (by decide)), (bz_f1_up (bz_fr_rf).2 (by decide))⟩ (ihc ((bz_up σ.1 13 sp.toNatClampNeg at_), (bz_up σ.2 12 2 ((σ.2 12 2) ||| (f_X10_bit at_)))) (f_X10_next at_ (f_X10_turned at_ by_)) (f_X10_turned at_ by_) (sp + 1))))

def f_X7_walk_12 (σ : bz_S) (cell : Int32) (way : Int32) : bz_S := lp_walk cell way (bz_k 16) ((bz_up σ.1 12 1 (-6)), (bz_up σ.2 12 2 0)) cell way 0
set_option maxRecDepth 100000 in
theorem s_X7_walk_12 {X : bz_X} (σ : bz_S) (cell : Int32) (way : Int32) : bz_C bz_P X mX7_walk [.ref 12, .int cell, .int way] σ (bz_pv (f_X7_walk_12 σ cell way)) := by
  show bz_wp bz_P X mX7_walk (bz_pv (f_X7_walk_12 σ cell way)) (0, [some (.ref 12), some (.int cell), some (.int way), none, none, none], [], σ)
  refine bz_wpn bT_X7_walk 12 (b := (19, [some (.ref 12), some (.int cell), some (.int way), some (.int cell), some (.int way), some (.int 0)], [], ((bz_up σ.1 12 1 (-6)), (bz_up σ.2 12 2 0)))) (G := True) rfl trivial ?_
  have e9 : f_X7_walk_12 σ cell way = lp_walk cell way (bz_k 16) ((bz_up σ.1 12 1 (-6)), (bz_up σ.2 12 2 0)) cell way 0 := by rw [f_X7_walk_12]
  rw [e9]
  exact s_lp_walk cell way (bz_k 16) ((bz_up σ.1 12 1 (-6)), (bz_up σ.2 12 2 0)) cell way 0 0 rfl (by rw [bz_k_eq])
theorem rf_X7_walk_12 (σ : bz_S) (cell : Int32) (way : Int32) : bz_fr [12, 13] σ (f_X7_walk_12 σ cell way) := by
  unfold f_X7_walk_12
  exact (bz_fr_tr (τ := ((bz_up σ.1 12 1 (-6)), (bz_up σ.2 12 2 0))) ⟨(bz_f1_up (bz_fr_rf).1 (by decide)), (bz_f1_up (bz_fr_rf).2 (by decide))⟩ (bz_fr_mo (rlp_walk cell way (bz_k 16) ((bz_up σ.1 12 1 (-6)), (bz_up σ.2 12 2 0)) cell way 0) (by decide)))

def f_X8_begin_8_1_a (σ : bz_S) (τ1 : bz_S) : bz_S := ((bz_up (bz_up (bz_up (bz_up (bz_up (bz_up τ1.1 8 2 0) 8 3 (-6)) 8 4 (-6)) 8 5 0) 8 6 0) 8 7 (-6)), τ1.2)
def f_X8_begin_8_1 (σ : bz_S)  : bz_S := (f_X8_begin_8_1_a σ (f_X6_copy_9_1 σ))
set_option maxRecDepth 100000 in
theorem s_X8_begin_8_1 {X : bz_X} (σ : bz_S) : bz_C bz_P X mX8_begin [.ref 8, .ref 1] σ (bz_pv (f_X8_begin_8_1 σ)) := by
  show bz_wp bz_P X mX8_begin (bz_pv (f_X8_begin_8_1 σ)) (0, [some (.ref 8), some (.ref 1)], [], σ)
  refine bz_wpn bT_X8_begin 3 (b := (5, [some (.ref 8), some (.ref 1)], [.ref 1, .ref 9], σ)) (G := True) rfl trivial ?_
  refine bz_wcv bT_X8_begin [.ref 9, .ref 1] (pc' := 8) (rest := []) rfl rfl (Nat.le_of_ble_eq_true rfl) rfl (Nat.le_of_ble_eq_true rfl) rfl (s_X6_copy_9_1 σ) rfl ?_
  generalize hτ1 : f_X6_copy_9_1 σ = τ1
  refine bz_wpn bT_X8_begin 18 (b := (41, [some (.ref 8), some (.ref 1)], [], ((bz_up (bz_up (bz_up (bz_up (bz_up (bz_up τ1.1 8 2 0) 8 3 (-6)) 8 4 (-6)) 8 5 0) 8 6 0) 8 7 (-6)), τ1.2))) (G := True) rfl trivial ?_
  refine bz_wpr bT_X8_begin rfl rfl trivial ?_
  have e9 : f_X8_begin_8_1 σ = ((bz_up (bz_up (bz_up (bz_up (bz_up (bz_up τ1.1 8 2 0) 8 3 (-6)) 8 4 (-6)) 8 5 0) 8 6 0) 8 7 (-6)), τ1.2) := by rw [f_X8_begin_8_1, hτ1, f_X8_begin_8_1_a]
  exact ⟨rfl, by rw [e9]⟩
theorem rf_X8_begin_8_1_a (σ : bz_S) (τ1 : bz_S) (fτ1 : bz_fr [8, 9, 10] σ τ1) : bz_fr [8, 9, 10] σ (f_X8_begin_8_1_a σ τ1) := by
  unfold f_X8_begin_8_1_a
  exact ⟨(bz_f1_up (bz_f1_up (bz_f1_up (bz_f1_up (bz_f1_up (bz_f1_up (fτ1).1 (by decide)) (by decide)) (by decide)) (by decide)) (by decide)) (by decide)), (fτ1).2⟩
theorem rf_X8_begin_8_1 (σ : bz_S)  : bz_fr [8, 9, 10] σ (f_X8_begin_8_1 σ) := by
  unfold f_X8_begin_8_1
  exact (rf_X8_begin_8_1_a σ (f_X6_copy_9_1 σ) (bz_fr_mo (rf_X6_copy_9_1 σ) (by decide)))

def f_X8_play_8_a (σ : bz_S) (ball : Int32) (way : Int32) (force : Int32) (τ1 : bz_S) : bz_S := ((bz_up (bz_up (bz_up (bz_up τ1.1 9 1 ((τ1.1 9 1) + (f_X5_pointsMore_11 τ1))) 9 2 ((τ1.1 9 2) + (f_X5_foulsMore_11 ((bz_up τ1.1 9 1 ((τ1.1 9 1) + (f_X5_pointsMore_11 τ1))), τ1.2)))) 8 5 ((τ1.1 8 5) + (τ1.1 11 1))) 8 6 ((τ1.1 8 6) + (τ1.1 11 2))), τ1.2)
def f_X8_play_8 (σ : bz_S) (ball : Int32) (way : Int32) (force : Int32) : bz_S := (f_X8_play_8_a σ ball way force (f_X5_run_11_9 σ ball way force))
set_option maxRecDepth 100000 in
theorem s_X8_play_8 {X : bz_X} (σ : bz_S) (ball : Int32) (way : Int32) (force : Int32) (hf : ¬ force < 0) (hf2 : force < 100) (hb : vp_in ball 3) : bz_C bz_P X mX8_play [.ref 8, .int ball, .int way, .int force] σ (bz_pv (f_X8_play_8 σ ball way force)) := by
  show bz_wp bz_P X mX8_play (bz_pv (f_X8_play_8 σ ball way force)) (0, [some (.ref 8), some (.int ball), some (.int way), some (.int force)], [], σ)
  refine bz_wpn bT_X8_play 7 (b := (11, [some (.ref 8), some (.int ball), some (.int way), some (.int force)], [.int force, .int way, .int ball, .ref 9, .ref 11], σ)) (G := True) rfl trivial ?_
  refine bz_wcv bT_X8_play [.ref 11, .ref 9, .int ball, .int way, .int force] (pc' := 14) (rest := []) rfl rfl (Nat.le_of_ble_eq_true rfl) rfl (Nat.le_of_ble_eq_true rfl) rfl (s_X5_run_11_9 σ ball way force hf hf2 hb) rfl ?_
  generalize hτ1 : f_X5_run_11_9 σ ball way force = τ1
  refine bz_wpn bT_X8_play 6 (b := (26, [some (.ref 8), some (.int ball), some (.int way), some (.int force)], [.ref 11, .int (τ1.1 9 1), .ref 9], τ1)) (G := True) rfl trivial ?_
  refine bz_wci bT_X8_play [.ref 11] (pc' := 29) (rest := [.int (τ1.1 9 1), .ref 9]) rfl rfl (Nat.le_of_ble_eq_true rfl) rfl (Nat.le_of_ble_eq_true rfl) rfl (s_X5_pointsMore_11 τ1) rfl ?_
  refine bz_wpn bT_X8_play 8 (b := (45, [some (.ref 8), some (.int ball), some (.int way), some (.int force)], [.ref 11, .int (τ1.1 9 2), .ref 9], ((bz_up τ1.1 9 1 ((τ1.1 9 1) + (f_X5_pointsMore_11 τ1))), τ1.2))) (G := True) rfl trivial ?_
  refine bz_wci bT_X8_play [.ref 11] (pc' := 48) (rest := [.int (τ1.1 9 2), .ref 9]) rfl rfl (Nat.le_of_ble_eq_true rfl) rfl (Nat.le_of_ble_eq_true rfl) rfl (s_X5_foulsMore_11 ((bz_up τ1.1 9 1 ((τ1.1 9 1) + (f_X5_pointsMore_11 τ1))), τ1.2)) rfl ?_
  refine bz_wpn bT_X8_play 18 (b := (84, [some (.ref 8), some (.int ball), some (.int way), some (.int force)], [], ((bz_up (bz_up (bz_up (bz_up τ1.1 9 1 ((τ1.1 9 1) + (f_X5_pointsMore_11 τ1))) 9 2 ((τ1.1 9 2) + (f_X5_foulsMore_11 ((bz_up τ1.1 9 1 ((τ1.1 9 1) + (f_X5_pointsMore_11 τ1))), τ1.2)))) 8 5 ((τ1.1 8 5) + (τ1.1 11 1))) 8 6 ((τ1.1 8 6) + (τ1.1 11 2))), τ1.2))) (G := True) rfl trivial ?_
  refine bz_wpr bT_X8_play rfl rfl trivial ?_
  have e9 : f_X8_play_8 σ ball way force = ((bz_up (bz_up (bz_up (bz_up τ1.1 9 1 ((τ1.1 9 1) + (f_X5_pointsMore_11 τ1))) 9 2 ((τ1.1 9 2) + (f_X5_foulsMore_11 ((bz_up τ1.1 9 1 ((τ1.1 9 1) + (f_X5_pointsMore_11 τ1))), τ1.2)))) 8 5 ((τ1.1 8 5) + (τ1.1 11 1))) 8 6 ((τ1.1 8 6) + (τ1.1 11 2))), τ1.2) := by rw [f_X8_play_8, hτ1, f_X8_play_8_a]
  exact ⟨rfl, by rw [e9]⟩
theorem rf_X8_play_8_a (σ : bz_S) (ball : Int32) (way : Int32) (force : Int32) (τ1 : bz_S) (fτ1 : bz_fr [8, 9, 10, 11] σ τ1) : bz_fr [8, 9, 10, 11] σ (f_X8_play_8_a σ ball way force τ1) := by
  unfold f_X8_play_8_a
  exact ⟨(bz_f1_up (bz_f1_up (bz_f1_up (bz_f1_up (fτ1).1 (by decide)) (by decide)) (by decide)) (by decide)), (fτ1).2⟩
theorem rf_X8_play_8 (σ : bz_S) (ball : Int32) (way : Int32) (force : Int32) : bz_fr [8, 9, 10, 11] σ (f_X8_play_8 σ ball way force) := by
  unfold f_X8_play_8
  exact (rf_X8_play_8_a σ ball way force (f_X5_run_11_9 σ ball way force) (bz_fr_mo (rf_X5_run_11_9 σ ball way force) (by decide)))

def f_X8_tryAct_8_b (σ : bz_S) (kd : Int32) (ball : Int32) (way : Int32) (force : Int32) (τ2 : bz_S) : Int32 × bz_S := (0, τ2)
def f_X8_tryAct_8_a (σ : bz_S) (kd : Int32) (ball : Int32) (way : Int32) (force : Int32) (τ1 : bz_S) : Int32 × bz_S := (0, τ1)
def f_X8_tryAct_8 (σ : bz_S) (kd : Int32) (ball : Int32) (way : Int32) (force : Int32) : Int32 × bz_S := if (f_X6_reasonAgainst_9 σ kd ball) = 0 then if kd = 0 then (f_X8_tryAct_8_a σ kd ball way force (f_X8_play_8 σ ball way force)) else (if kd = 1 then (0, ((bz_up σ.1 10 ball.toNatClampNeg (f_tv0 ball.toNatClampNeg)), σ.2)) else (if kd = 2 then (f_X8_tryAct_8_b σ kd ball way force (f_X6_drift_9 σ)) else (0, ((bz_up σ.1 9 3 ((σ.1 9 3) + 1)), σ.2)))) else ((f_X6_reasonAgainst_9 σ kd ball), σ)
set_option maxRecDepth 100000 in
theorem s_X8_tryAct_8 {X : bz_X} (σ : bz_S) (kd : Int32) (ball : Int32) (way : Int32) (force : Int32) (hb : kd = 0 ∨ kd = 1 → vp_in ball 3) (hf : kd = 0 → ¬ force < 0 ∧ force < 100) : bz_C bz_P X mX8_tryAct [.ref 8, .int kd, .int ball, .int way, .int force] σ (bz_pi (f_X8_tryAct_8 σ kd ball way force).1 (f_X8_tryAct_8 σ kd ball way force).2) := by
  show bz_wp bz_P X mX8_tryAct (bz_pi (f_X8_tryAct_8 σ kd ball way force).1 (f_X8_tryAct_8 σ kd ball way force).2) (0, [some (.ref 8), some (.int kd), some (.int ball), some (.int way), some (.int force), none], [], σ)
  refine bz_wpn bT_X8_tryAct 4 (b := (6, [some (.ref 8), some (.int kd), some (.int ball), some (.int way), some (.int force), none], [.int ball, .int kd, .ref 9], σ)) (G := True) rfl trivial ?_
  refine bz_wci bT_X8_tryAct [.ref 9, .int kd, .int ball] (pc' := 9) (rest := []) rfl rfl (Nat.le_of_ble_eq_true rfl) rfl (Nat.le_of_ble_eq_true rfl) rfl (s_X6_reasonAgainst_9 σ kd ball) rfl ?_
  refine bz_wpb bT_X8_tryAct 3 (b1 := (19, [some (.ref 8), some (.int kd), some (.int ball), some (.int way), some (.int force), some (.int (f_X6_reasonAgainst_9 σ kd ball))], [], σ)) (b2 := (16, [some (.ref 8), some (.int kd), some (.int ball), some (.int way), some (.int force), some (.int (f_X6_reasonAgainst_9 σ kd ball))], [], σ)) (C := (f_X6_reasonAgainst_9 σ kd ball) = 0) (G := True) rfl trivial (fun h1 => ?_) (fun h1 => ?_)
  · skip
    refine bz_wpn bT_X8_tryAct 2 (b := (bz_sw (kd).toInt (bz_mk 0 [48, 59, 76]) 86, [some (.ref 8), some (.int kd), some (.int ball), some (.int way), some (.int force), some (.int (f_X6_reasonAgainst_9 σ kd ball))], [], σ)) (G := True) rfl trivial ?_
    by_cases w2 : kd = 0
    · rw [show bz_sw (kd).toInt (bz_mk 0 [48, 59, 76]) 86 = 48 from by rw [w2]; decide]
      refine bz_wpn bT_X8_tryAct 4 (b := (53, [some (.ref 8), some (.int kd), some (.int ball), some (.int way), some (.int force), some (.int (f_X6_reasonAgainst_9 σ kd ball))], [.int force, .int way, .int ball, .ref 8], σ)) (G := True) rfl trivial ?_
      refine bz_wcv bT_X8_tryAct [.ref 8, .int ball, .int way, .int force] (pc' := 56) (rest := []) rfl rfl (Nat.le_of_ble_eq_true rfl) rfl (Nat.le_of_ble_eq_true rfl) rfl (s_X8_play_8 σ ball way force (hf w2).1 (hf w2).2 (hb (Or.inl w2))) rfl ?_
      generalize hτ1 : f_X8_play_8 σ ball way force = τ1
      refine bz_wpn bT_X8_tryAct 2 (b := (100, [some (.ref 8), some (.int kd), some (.int ball), some (.int way), some (.int force), some (.int (f_X6_reasonAgainst_9 σ kd ball))], [.int 0], τ1)) (G := True) rfl trivial ?_
      refine bz_wpr bT_X8_tryAct rfl rfl trivial ?_
      have e9 : f_X8_tryAct_8 σ kd ball way force = (0, τ1) := by rw [f_X8_tryAct_8, if_pos (h1), if_pos (w2), hτ1, f_X8_tryAct_8_a]
      exact ⟨by rw [e9], by rw [e9]⟩
    by_cases w3 : kd = 1
    · rw [show bz_sw (kd).toInt (bz_mk 0 [48, 59, 76]) 86 = 59 from by rw [w3]; decide]
      refine bz_wpn bT_X8_tryAct 10 (b := (100, [some (.ref 8), some (.int kd), some (.int ball), some (.int way), some (.int force), some (.int (f_X6_reasonAgainst_9 σ kd ball))], [.int 0], ((bz_up σ.1 10 ball.toNatClampNeg (f_tv0 ball.toNatClampNeg)), σ.2))) (G := vp_in ball 3 ∧ vp_in ball 3 ∧ True) rfl ⟨(hb (Or.inr w3)), (hb (Or.inr w3)), trivial⟩ ?_
      refine bz_wpr bT_X8_tryAct rfl rfl trivial ?_
      have e9 : f_X8_tryAct_8 σ kd ball way force = (0, ((bz_up σ.1 10 ball.toNatClampNeg (f_tv0 ball.toNatClampNeg)), σ.2)) := by rw [f_X8_tryAct_8, if_pos (h1), if_neg (w2), if_pos (w3)]
      exact ⟨by rw [e9], by rw [e9]⟩
    by_cases w4 : kd = 2
    · rw [show bz_sw (kd).toInt (bz_mk 0 [48, 59, 76]) 86 = 76 from by rw [w4]; decide]
      refine bz_wpn bT_X8_tryAct 2 (b := (80, [some (.ref 8), some (.int kd), some (.int ball), some (.int way), some (.int force), some (.int (f_X6_reasonAgainst_9 σ kd ball))], [.ref 9], σ)) (G := True) rfl trivial ?_
      refine bz_wcv bT_X8_tryAct [.ref 9] (pc' := 83) (rest := []) rfl rfl (Nat.le_of_ble_eq_true rfl) rfl (Nat.le_of_ble_eq_true rfl) rfl (s_X6_drift_9 σ) rfl ?_
      generalize hτ2 : f_X6_drift_9 σ = τ2
      refine bz_wpn bT_X8_tryAct 2 (b := (100, [some (.ref 8), some (.int kd), some (.int ball), some (.int way), some (.int force), some (.int (f_X6_reasonAgainst_9 σ kd ball))], [.int 0], τ2)) (G := True) rfl trivial ?_
      refine bz_wpr bT_X8_tryAct rfl rfl trivial ?_
      have e9 : f_X8_tryAct_8 σ kd ball way force = (0, τ2) := by rw [f_X8_tryAct_8, if_pos (h1), if_neg (w2), if_neg (w3), if_pos (w4), hτ2, f_X8_tryAct_8_b]
      exact ⟨by rw [e9], by rw [e9]⟩
    · rw [show bz_sw (kd).toInt (bz_mk 0 [48, 59, 76]) 86 = 86 from by simp only [bz_mk, bz_sw]; rw [if_neg (lv_neT w2 (by decide)), if_neg (lv_neT w3 (by decide)), if_neg (lv_neT w4 (by decide))]]
      refine bz_wpn bT_X8_tryAct 8 (b := (100, [some (.ref 8), some (.int kd), some (.int ball), some (.int way), some (.int force), some (.int (f_X6_reasonAgainst_9 σ kd ball))], [.int 0], ((bz_up σ.1 9 3 ((σ.1 9 3) + 1)), σ.2))) (G := True) rfl trivial ?_
      refine bz_wpr bT_X8_tryAct rfl rfl trivial ?_
      have e9 : f_X8_tryAct_8 σ kd ball way force = (0, ((bz_up σ.1 9 3 ((σ.1 9 3) + 1)), σ.2)) := by rw [f_X8_tryAct_8, if_pos (h1), if_neg (w2), if_neg (w3), if_neg (w4)]
      exact ⟨by rw [e9], by rw [e9]⟩
  · skip
    refine bz_wpn bT_X8_tryAct 1 (b := (18, [some (.ref 8), some (.int kd), some (.int ball), some (.int way), some (.int force), some (.int (f_X6_reasonAgainst_9 σ kd ball))], [.int (f_X6_reasonAgainst_9 σ kd ball)], σ)) (G := True) rfl trivial ?_
    refine bz_wpr bT_X8_tryAct rfl rfl trivial ?_
    have e9 : f_X8_tryAct_8 σ kd ball way force = ((f_X6_reasonAgainst_9 σ kd ball), σ) := by rw [f_X8_tryAct_8, if_neg (h1)]
    exact ⟨by rw [e9], by rw [e9]⟩
theorem rf_X8_tryAct_8_a (σ : bz_S) (kd : Int32) (ball : Int32) (way : Int32) (force : Int32) (τ1 : bz_S) (fτ1 : bz_fr [8, 9, 10, 11] σ τ1) : bz_fr [8, 9, 10, 11] σ (f_X8_tryAct_8_a σ kd ball way force τ1).2 := by
  unfold f_X8_tryAct_8_a
  exact fτ1
theorem rf_X8_tryAct_8_b (σ : bz_S) (kd : Int32) (ball : Int32) (way : Int32) (force : Int32) (τ2 : bz_S) (fτ2 : bz_fr [8, 9, 10, 11] σ τ2) : bz_fr [8, 9, 10, 11] σ (f_X8_tryAct_8_b σ kd ball way force τ2).2 := by
  unfold f_X8_tryAct_8_b
  exact fτ2
theorem rf_X8_tryAct_8 (σ : bz_S) (kd : Int32) (ball : Int32) (way : Int32) (force : Int32) : bz_fr [8, 9, 10, 11] σ (f_X8_tryAct_8 σ kd ball way force).2 := by
  unfold f_X8_tryAct_8
  exact (bz_ite2 (bz_ite2 (rf_X8_tryAct_8_a σ kd ball way force (f_X8_play_8 σ ball way force) (bz_fr_mo (rf_X8_play_8 σ ball way force) (by decide))) (bz_ite2 ⟨(bz_f1_up (bz_fr_rf).1 (by decide)), (bz_fr_rf).2⟩ (bz_ite2 (rf_X8_tryAct_8_b σ kd ball way force (f_X6_drift_9 σ) (bz_fr_mo (rf_X6_drift_9 σ) (by decide))) ⟨(bz_f1_up (bz_fr_rf).1 (by decide)), (bz_fr_rf).2⟩))) bz_fr_rf)

def f_X8_forceToTouch_8_1_b (σ : bz_S) (ball : Int32) (way : Int32) (other : Int32) (c : Int32) (τ1 : bz_S) (τ2 : bz_S) : Int32 × bz_S := if (τ2.1 11 4) = other then if (τ2.1 11 6) = c then ((τ2.1 11 5), τ2) else ((-6), τ2) else ((-6), τ2)
def f_X8_forceToTouch_8_1_a (σ : bz_S) (ball : Int32) (way : Int32) (other : Int32) (c : Int32) (τ1 : bz_S) : Int32 × bz_S := (f_X8_forceToTouch_8_1_b σ ball way other c τ1 (f_X5_run_11_9 τ1 ball way 9))
def f_X8_forceToTouch_8_1 (σ : bz_S) (ball : Int32) (way : Int32) (other : Int32) (c : Int32) : Int32 × bz_S := (f_X8_forceToTouch_8_1_a σ ball way other c (f_X8_begin_8_1 σ))
set_option maxRecDepth 100000 in
theorem s_X8_forceToTouch_8_1 {X : bz_X} (σ : bz_S) (ball : Int32) (way : Int32) (other : Int32) (c : Int32) (hb : vp_in ball 3) : bz_C bz_P X mX8_forceToTouch [.ref 8, .ref 1, .int ball, .int way, .int other, .int c] σ (bz_pi (f_X8_forceToTouch_8_1 σ ball way other c).1 (f_X8_forceToTouch_8_1 σ ball way other c).2) := by
  show bz_wp bz_P X mX8_forceToTouch (bz_pi (f_X8_forceToTouch_8_1 σ ball way other c).1 (f_X8_forceToTouch_8_1 σ ball way other c).2) (0, [some (.ref 8), some (.ref 1), some (.int ball), some (.int way), some (.int other), some (.int c)], [], σ)
  refine bz_wpn bT_X8_forceToTouch 2 (b := (2, [some (.ref 8), some (.ref 1), some (.int ball), some (.int way), some (.int other), some (.int c)], [.ref 1, .ref 8], σ)) (G := True) rfl trivial ?_
  refine bz_wcv bT_X8_forceToTouch [.ref 8, .ref 1] (pc' := 5) (rest := []) rfl rfl (Nat.le_of_ble_eq_true rfl) rfl (Nat.le_of_ble_eq_true rfl) rfl (s_X8_begin_8_1 σ) rfl ?_
  generalize hτ1 : f_X8_begin_8_1 σ = τ1
  refine bz_wpn bT_X8_forceToTouch 7 (b := (17, [some (.ref 8), some (.ref 1), some (.int ball), some (.int way), some (.int other), some (.int c)], [.int 9, .int way, .int ball, .ref 9, .ref 11], τ1)) (G := True) rfl trivial ?_
  refine bz_wcv bT_X8_forceToTouch [.ref 11, .ref 9, .int ball, .int way, .int 9] (pc' := 20) (rest := []) rfl rfl (Nat.le_of_ble_eq_true rfl) rfl (Nat.le_of_ble_eq_true rfl) rfl (s_X5_run_11_9 τ1 ball way 9 (by decide) (by decide) hb) rfl ?_
  generalize hτ2 : f_X5_run_11_9 τ1 ball way 9 = τ2
  refine bz_wpb bT_X8_forceToTouch 5 (b1 := (54, [some (.ref 8), some (.ref 1), some (.int ball), some (.int way), some (.int other), some (.int c)], [], τ2)) (b2 := (32, [some (.ref 8), some (.ref 1), some (.int ball), some (.int way), some (.int other), some (.int c)], [], τ2)) (C := ¬ (τ2.1 11 4) = other) (G := True) rfl trivial (fun h1 => ?_) (fun h1 => ?_)
  · skip
    refine bz_wpn bT_X8_forceToTouch 1 (b := (56, [some (.ref 8), some (.ref 1), some (.int ball), some (.int way), some (.int other), some (.int c)], [.int (-6)], τ2)) (G := True) rfl trivial ?_
    refine bz_wpr bT_X8_forceToTouch rfl rfl trivial ?_
    have e9 : f_X8_forceToTouch_8_1 σ ball way other c = ((-6), τ2) := by rw [f_X8_forceToTouch_8_1, hτ1, f_X8_forceToTouch_8_1_a, hτ2, f_X8_forceToTouch_8_1_b, if_neg (h1)]
    exact ⟨by rw [e9], by rw [e9]⟩
  · skip
    refine bz_wpb bT_X8_forceToTouch 5 (b1 := (54, [some (.ref 8), some (.ref 1), some (.int ball), some (.int way), some (.int other), some (.int c)], [], τ2)) (b2 := (44, [some (.ref 8), some (.ref 1), some (.int ball), some (.int way), some (.int other), some (.int c)], [], τ2)) (C := ¬ (τ2.1 11 6) = c) (G := True) rfl trivial (fun h2 => ?_) (fun h2 => ?_)
    · skip
      refine bz_wpn bT_X8_forceToTouch 1 (b := (56, [some (.ref 8), some (.ref 1), some (.int ball), some (.int way), some (.int other), some (.int c)], [.int (-6)], τ2)) (G := True) rfl trivial ?_
      refine bz_wpr bT_X8_forceToTouch rfl rfl trivial ?_
      have e9 : f_X8_forceToTouch_8_1 σ ball way other c = ((-6), τ2) := by rw [f_X8_forceToTouch_8_1, hτ1, f_X8_forceToTouch_8_1_a, hτ2, f_X8_forceToTouch_8_1_b, if_pos ((Decidable.not_not.mp h1)), if_neg (h2)]
      exact ⟨by rw [e9], by rw [e9]⟩
    · skip
      refine bz_wpn bT_X8_forceToTouch 4 (b := (56, [some (.ref 8), some (.ref 1), some (.int ball), some (.int way), some (.int other), some (.int c)], [.int (τ2.1 11 5)], τ2)) (G := True) rfl trivial ?_
      refine bz_wpr bT_X8_forceToTouch rfl rfl trivial ?_
      have e9 : f_X8_forceToTouch_8_1 σ ball way other c = ((τ2.1 11 5), τ2) := by rw [f_X8_forceToTouch_8_1, hτ1, f_X8_forceToTouch_8_1_a, hτ2, f_X8_forceToTouch_8_1_b, if_pos ((Decidable.not_not.mp h1)), if_pos ((Decidable.not_not.mp h2))]
      exact ⟨by rw [e9], by rw [e9]⟩
theorem rf_X8_forceToTouch_8_1_b (σ : bz_S) (ball : Int32) (way : Int32) (other : Int32) (c : Int32) (τ1 : bz_S) (τ2 : bz_S) (fτ1 : bz_fr [8, 9, 10, 11] σ τ1) (fτ2 : bz_fr [8, 9, 10, 11] σ τ2) : bz_fr [8, 9, 10, 11] σ (f_X8_forceToTouch_8_1_b σ ball way other c τ1 τ2).2 := by
  unfold f_X8_forceToTouch_8_1_b
  exact (bz_ite2 (bz_ite2 fτ2 fτ2) fτ2)
theorem rf_X8_forceToTouch_8_1_a (σ : bz_S) (ball : Int32) (way : Int32) (other : Int32) (c : Int32) (τ1 : bz_S) (fτ1 : bz_fr [8, 9, 10, 11] σ τ1) : bz_fr [8, 9, 10, 11] σ (f_X8_forceToTouch_8_1_a σ ball way other c τ1).2 := by
  unfold f_X8_forceToTouch_8_1_a
  exact (rf_X8_forceToTouch_8_1_b σ ball way other c τ1 (f_X5_run_11_9 τ1 ball way 9) fτ1 (bz_fr_tr (τ := τ1) fτ1 (bz_fr_mo (rf_X5_run_11_9 τ1 ball way 9) (by decide))))
theorem rf_X8_forceToTouch_8_1 (σ : bz_S) (ball : Int32) (way : Int32) (other : Int32) (c : Int32) : bz_fr [8, 9, 10, 11] σ (f_X8_forceToTouch_8_1 σ ball way other c).2 := by
  unfold f_X8_forceToTouch_8_1
  exact (rf_X8_forceToTouch_8_1_a σ ball way other c (f_X8_begin_8_1 σ) (bz_fr_mo (rf_X8_begin_8_1 σ) (by decide)))
