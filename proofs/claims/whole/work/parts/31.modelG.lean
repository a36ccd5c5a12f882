theorem bz_pm (n : Nat) : nI (n + 1) + -1 = nI n := by
  rw [nI_succ, Int32.add_assoc]
  show nI n + 0 = nI n
  exact Int32.add_zero _
/-- a heap's digit and what it weighs -/
theorem bz_dg {row he : Int32} {R H : Nat} (hR : row = nI R) (hR2 : R < 1000) (hH : he = nI H) (hH2 : H < 3) : ∃ D U, D ≤ 9 ∧ D * U ≤ R ∧ f_X11_digit row he = nI D ∧ f_X11_tenTo he = nI U := by
  have d1 : nI R / 100 = nI (R / 100) := bz_divN (d := 100) (by omega) (by decide) (by decide)
  have d2 : (nI R / 10) % 10 = nI (R / 10 % 10) := by
    show (nI R / nI 10) % nI 10 = _
    rw [bz_divN (by omega) (by decide) (by decide), bz_modN (by omega) (by decide) (by decide)]
  have d3 : nI R % 10 = nI (R % 10) := bz_modN (d := 10) (by omega) (by decide) (by decide)
  rcases (show H = 0 ∨ H = 1 ∨ H = 2 by omega) with rfl | rfl | rfl
  · refine ⟨R / 100, 100, by omega, by omega, ?_, ?_⟩
    · rw [hR, hH]; unfold f_X11_digit; rw [if_pos (show nI 0 = 0 from rfl)]; exact d1
    · rw [hH]; rfl
  · refine ⟨R / 10 % 10, 10, by omega, by omega, ?_, ?_⟩
    · rw [hR, hH]; unfold f_X11_digit; rw [if_neg (by decide), if_pos (show nI 1 = 1 from rfl)]; exact d2
    · rw [hH]; rfl
  · refine ⟨R % 10, 1, by omega, by omega, ?_, ?_⟩
    · rw [hR, hH]; unfold f_X11_digit; rw [if_neg (by decide), if_neg (by decide)]; exact d3
    · rw [hH]; rfl
theorem bz_lt2 {row k9 he miss : Int32} {R n U MI : Nat} (hR : row = nI R) (hR2 : R < 1000) (hM : miss = nI MI) (hM2 : MI ≤ 1) (hi : k9 = nI (n + 1)) (hU : f_X11_tenTo he = nI U) (gb : (n + 1) * U ≤ R) : vp_in ((2 * (row - (k9 * (f_X11_tenTo he)))) + miss) 2000 := by
  rw [hR, hM, hi, hU, bz_mulN, bz_subN gb]
  show vp_in (nI 2 * nI (R - (n + 1) * U) + nI MI) 2000
  rw [bz_mulN, nI_add]
  exact vp_in_nI (by omega) (by decide)
theorem bz_2r {row : Int32} {R : Nat} (hR : row = nI R) (hR2 : R < 1000) : vp_in (2 * row) 2000 ∧ vp_in ((2 * row) + 1) 2000 := by
  have e : 2 * row = nI (2 * R) := by rw [hR]; exact bz_mulN 2 R
  rw [e, nI_1]
  exact ⟨vp_in_nI (by omega) (by decide), vp_in_nI (by omega) (by decide)⟩
theorem bz_mul_le {n U R : Nat} (h : (n + 1) * U ≤ R) : n * U ≤ R := Nat.le_trans (Nat.mul_le_mul_right U (Nat.le_succ n)) h

def lp_lk1 (row : Int32) (miss : Int32) (he : Int32) : Nat → bz_S → Int32 → Int32 → bz_S × Int32
  | 0, σ, fi, k9 => (σ, fi)
  | n + 1, σ, fi, k9 => if (σ.1 48 (((2 * (row - (k9 * (f_X11_tenTo he)))) + miss).toNatClampNeg)) = 0 then (lp_lk1 row miss he n σ ((10 * he) + k9) (k9 + (-1))) else (lp_lk1 row miss he n σ fi (k9 + (-1)))
set_option maxRecDepth 100000 in
theorem lp_lk10_blk1 {X : bz_X} (row : Int32) (miss : Int32) (he : Int32) (σ : bz_S) (fi : Int32) (k9 : Int32) : bz_run X bt_X11_leastTake 2 (44, [some (.ref 32), some (.int row), some (.int miss), some (.int fi), some (.int he), some (.int k9), none], [], σ) = some (True, if k9 ≤ 0 then (94, [some (.ref 32), some (.int row), some (.int miss), some (.int fi), some (.int he), some (.int k9), none], [], σ) else (49, [some (.ref 32), some (.int row), some (.int miss), some (.int fi), some (.int he), some (.int k9), none], [], σ)) := rfl
set_option maxRecDepth 100000 in
theorem lp_lk1_blk1 {X : bz_X} (row : Int32) (miss : Int32) (he : Int32) (σ : bz_S) (fi : Int32) (k9 : Int32) : bz_run X bt_X11_leastTake 2 (44, [some (.ref 32), some (.int row), some (.int miss), some (.int fi), some (.int he), some (.int k9), none], [], σ) = some (True, if k9 ≤ 0 then (94, [some (.ref 32), some (.int row), some (.int miss), some (.int fi), some (.int he), some (.int k9), none], [], σ) else (49, [some (.ref 32), some (.int row), some (.int miss), some (.int fi), some (.int he), some (.int k9), none], [], σ)) := rfl
set_option maxRecDepth 100000 in
theorem lp_lk1_blk2 {X : bz_X} (row : Int32) (miss : Int32) (he : Int32) (σ : bz_S) (fi : Int32) (k9 : Int32) : bz_run X bt_X11_leastTake 3 (49, [some (.ref 32), some (.int row), some (.int miss), some (.int fi), some (.int he), some (.int k9), none], [], σ) = some (True, (54, [some (.ref 32), some (.int row), some (.int miss), some (.int fi), some (.int he), some (.int k9), none], [.int he, .int k9, .int row], σ)) := rfl
set_option maxRecDepth 100000 in
theorem lp_lk1_blk3 {X : bz_X} (row : Int32) (miss : Int32) (he : Int32) (σ : bz_S) (fi : Int32) (k9 : Int32) : bz_run X bt_X11_leastTake 12 (57, [some (.ref 32), some (.int row), some (.int miss), some (.int fi), some (.int he), some (.int k9), none], [.int (f_X11_tenTo he), .int k9, .int row], σ) = some (vp_in ((2 * (row - (k9 * (f_X11_tenTo he)))) + miss) 2000 ∧ True, if (σ.1 48 (((2 * (row - (k9 * (f_X11_tenTo he)))) + miss).toNatClampNeg)) = 0 then (79, [some (.ref 32), some (.int row), some (.int miss), some (.int fi), some (.int he), some (.int k9), some (.int (row - (k9 * (f_X11_tenTo he))))], [], σ) else (75, [some (.ref 32), some (.int row), some (.int miss), some (.int fi), some (.int he), some (.int k9), some (.int (row - (k9 * (f_X11_tenTo he))))], [], σ)) := rfl
set_option maxRecDepth 100000 in
theorem lp_lk1_blk4 {X : bz_X} (row : Int32) (miss : Int32) (he : Int32) (σ : bz_S) (fi : Int32) (k9 : Int32) : bz_run X bt_X11_leastTake 8 (79, [some (.ref 32), some (.int row), some (.int miss), some (.int fi), some (.int he), some (.int k9), some (.int (row - (k9 * (f_X11_tenTo he))))], [], σ) = some (True, (44, [some (.ref 32), some (.int row), some (.int miss), some (.int ((10 * he) + k9)), some (.int he), some (.int (k9 + (-1))), some (.int (row - (k9 * (f_X11_tenTo he))))], [], σ)) := rfl
set_option maxRecDepth 100000 in
theorem lp_lk1_blk5 {X : bz_X} (row : Int32) (miss : Int32) (he : Int32) (σ : bz_S) (fi : Int32) (k9 : Int32) : bz_run X bt_X11_leastTake 5 (75, [some (.ref 32), some (.int row), some (.int miss), some (.int fi), some (.int he), some (.int k9), some (.int (row - (k9 * (f_X11_tenTo he))))], [], σ) = some (True, (44, [some (.ref 32), some (.int row), some (.int miss), some (.int fi), some (.int he), some (.int (k9 + (-1))), some (.int (row - (k9 * (f_X11_tenTo he))))], [], σ)) := rfl
set_option maxRecDepth 100000 in
theorem s_lp_lk1 {X : bz_X} (row : Int32) (miss : Int32) (he : Int32) {Q : bz_Q} (R : Nat) (hR : row = nI R) (hR2 : R < 1000) (MI : Nat) (hM : miss = nI MI) (hM2 : MI ≤ 1) (U : Nat) (hU : f_X11_tenTo he = nI U) : ∀ (n : Nat) (σ : bz_S) (fi : Int32) (k9 : Int32) (hi : k9 = nI n) (hn : n ≤ 9) (gb : n * U ≤ R) (kk : bz_wp bz_P X mX11_leastTake Q (94, [some (.ref 32), some (.int row), some (.int miss), some (.int ((lp_lk1 row miss he n σ fi k9).2)), some (.int he), none, none], [], (lp_lk1 row miss he n σ fi k9).1)), bz_wp bz_P X mX11_leastTake (Q) (44, [some (.ref 32), some (.int row), some (.int miss), some (.int fi), some (.int he), some (.int k9), none], [], σ) := by
  intro n
  induction n with
  | zero =>
    intro σ fi k9 hi hn gb kk
    refine bz_wpb bT_X11_leastTake 2 (b1 := (94, [some (.ref 32), some (.int row), some (.int miss), some (.int fi), some (.int he), some (.int k9), none], [], σ)) (b2 := (49, [some (.ref 32), some (.int row), some (.int miss), some (.int fi), some (.int he), some (.int k9), none], [], σ)) (C := k9 ≤ 0) (G := True) (lp_lk10_blk1 row miss he σ fi k9) trivial (fun _ => ?_) (fun z => absurd (show k9 ≤ 0 from by rw [hi]; decide) z)
    have e9 : lp_lk1 row miss he 0 σ fi k9 = (σ, fi) := by rw [lp_lk1]
    rw [e9] at kk
    refine bz_wpw (by exact ⟨rfl, rfl, rfl, rfl, rfl, trivial⟩) kk
  | succ n ih =>
    intro σ fi k9 hi hn gb kk
    refine bz_wpb bT_X11_leastTake 2 (b1 := (94, [some (.ref 32), some (.int row), some (.int miss), some (.int fi), some (.int he), some (.int k9), none], [], σ)) (b2 := (49, [some (.ref 32), some (.int row), some (.int miss), some (.int fi), some (.int he), some (.int k9), none], [], σ)) (C := k9 ≤ 0) (G := True) (lp_lk1_blk1 row miss he σ fi k9) trivial (fun z => absurd z (show ¬ k9 ≤ 0 from by rw [hi]; exact nI_gt0 (by omega))) (fun _ => ?_)
    refine bz_wpn bT_X11_leastTake 3 (b := (54, [some (.ref 32), some (.int row), some (.int miss), some (.int fi), some (.int he), some (.int k9), none], [.int he, .int k9, .int row], σ)) (G := True) (lp_lk1_blk2 row miss he σ fi k9) trivial ?_
    refine bz_wci bT_X11_leastTake [.int he] (pc' := 57) (rest := [.int k9, .int row]) rfl rfl (Nat.le_of_ble_eq_true rfl) rfl (Nat.le_of_ble_eq_true rfl) rfl (s_X11_tenTo σ he) rfl ?_
    refine bz_wpb bT_X11_leastTake 12 (b1 := (79, [some (.ref 32), some (.int row), some (.int miss), some (.int fi), some (.int he), some (.int k9), some (.int (row - (k9 * (f_X11_tenTo he))))], [], σ)) (b2 := (75, [some (.ref 32), some (.int row), some (.int miss), some (.int fi), some (.int he), some (.int k9), some (.int (row - (k9 * (f_X11_tenTo he))))], [], σ)) (C := (σ.1 48 (((2 * (row - (k9 * (f_X11_tenTo he)))) + miss).toNatClampNeg)) = 0) (G := vp_in ((2 * (row - (k9 * (f_X11_tenTo he)))) + miss) 2000 ∧ True) (lp_lk1_blk3 row miss he σ fi k9) ⟨(bz_lt2 hR hR2 hM hM2 hi hU gb), trivial⟩ (fun h1 => ?_) (fun h1 => ?_)
    · skip
      refine bz_wpn bT_X11_leastTake 8 (b := (44, [some (.ref 32), some (.int row), some (.int miss), some (.int ((10 * he) + k9)), some (.int he), some (.int (k9 + (-1))), some (.int (row - (k9 * (f_X11_tenTo he))))], [], σ)) (G := True) (lp_lk1_blk4 row miss he σ fi k9) trivial ?_
      have e9 : lp_lk1 row miss he (n + 1) σ fi k9 = (lp_lk1 row miss he n σ ((10 * he) + k9) (k9 + (-1))) := by rw [lp_lk1, if_pos (h1)]
      rw [e9] at kk
      refine bz_wpw (L' := [some (.ref 32), some (.int row), some (.int miss), some (.int ((10 * he) + k9)), some (.int he), some (.int (k9 + (-1))), none]) (by exact ⟨rfl, rfl, rfl, rfl, rfl, rfl, trivial⟩) ?_
      exact ih σ ((10 * he) + k9) (k9 + (-1)) (by rw [hi]; exact bz_pm n) (by omega) (bz_mul_le gb) kk
    · skip
      refine bz_wpn bT_X11_leastTake 5 (b := (44, [some (.ref 32), some (.int row), some (.int miss), some (.int fi), some (.int he), some (.int (k9 + (-1))), some (.int (row - (k9 * (f_X11_tenTo he))))], [], σ)) (G := True) (lp_lk1_blk5 row miss he σ fi k9) trivial ?_
      have e9 : lp_lk1 row miss he (n + 1) σ fi k9 = (lp_lk1 row miss he n σ fi (k9 + (-1))) := by rw [lp_lk1, if_neg (h1)]
      rw [e9] at kk
      refine bz_wpw (L' := [some (.ref 32), some (.int row), some (.int miss), some (.int fi), some (.int he), some (.int (k9 + (-1))), none]) (by exact ⟨rfl, rfl, rfl, rfl, rfl, rfl, trivial⟩) ?_
      exact ih σ fi (k9 + (-1)) (by rw [hi]; exact bz_pm n) (by omega) (bz_mul_le gb) kk
theorem rlp_lk1 (row : Int32) (miss : Int32) (he : Int32) : ∀ (n : Nat) (σ : bz_S) (fi : Int32) (k9 : Int32), bz_fr [] σ (lp_lk1 row miss he n σ fi k9).1 := by
  intro n
  induction n with
  | zero =>
    intro σ fi k9
    rw [lp_lk1]
    exact bz_fr_rf
  | succ n ihc =>
    intro σ fi k9
    rw [lp_lk1]
    exact (bz_ite1 (bz_fr_tr (τ := σ) bz_fr_rf (ihc σ ((10 * he) + k9) (k9 + (-1)))) (bz_fr_tr (τ := σ) bz_fr_rf (ihc σ fi (k9 + (-1)))))
theorem qlp_lk1 (row : Int32) (miss : Int32) (he : Int32) : ∀ (n : Nat) (σ : bz_S) (fi : Int32) (k9 : Int32), bz_fo ([] : List Nat) σ (lp_lk1 row miss he n σ fi k9).1 := by
  intro n
  induction n with
  | zero =>
    intro σ fi k9
    rw [lp_lk1]
    exact bz_fo_rf
  | succ n ihc =>
    intro σ fi k9
    rw [lp_lk1]
    exact (bz_ite1 (bz_fo_tr (τ := σ) bz_fo_rf (ihc σ ((10 * he) + k9) (k9 + (-1)))) (bz_fo_tr (τ := σ) bz_fo_rf (ihc σ fi (k9 + (-1)))))

def lp_lk_a (rc : bz_S → Int32 → Int32 → (Int32 × bz_S)) (row : Int32) (miss : Int32) (σ : bz_S) (fi : Int32) (he : Int32) (τ1 : bz_S × Int32) : Int32 × bz_S := (rc τ1.1 τ1.2 (he + (-1)))
def lp_lk (row : Int32) (miss : Int32) : Nat → bz_S → Int32 → Int32 → Int32 × bz_S
  | 0, σ, fi, he => (fi, σ)
  | n + 1, σ, fi, he => (lp_lk_a (lp_lk row miss n) row miss σ fi he ((lp_lk1 row miss he (f_X11_digit row he).toNatClampNeg σ fi (f_X11_digit row he))))
set_option maxRecDepth 100000 in
theorem lp_lk0_blk1 {X : bz_X} (row : Int32) (miss : Int32) (σ : bz_S) (fi : Int32) (he : Int32) : bz_run X bt_X11_leastTake 2 (31, [some (.ref 32), some (.int row), some (.int miss), some (.int fi), some (.int he), none, none], [], σ) = some (True, if he < 0 then (100, [some (.ref 32), some (.int row), some (.int miss), some (.int fi), some (.int he), none, none], [], σ) else (36, [some (.ref 32), some (.int row), some (.int miss), some (.int fi), some (.int he), none, none], [], σ)) := rfl
set_option maxRecDepth 100000 in
theorem lp_lk0_blk2 {X : bz_X} (row : Int32) (miss : Int32) (σ : bz_S) (fi : Int32) (he : Int32) : bz_run X bt_X11_leastTake 1 (100, [some (.ref 32), some (.int row), some (.int miss), some (.int fi), some (.int he), none, none], [], σ) = some (True, (101, [some (.ref 32), some (.int row), some (.int miss), some (.int fi), some (.int he), none, none], [.int fi], σ)) := rfl
set_option maxRecDepth 100000 in
theorem lp_lk_blk1 {X : bz_X} (row : Int32) (miss : Int32) (σ : bz_S) (fi : Int32) (he : Int32) : bz_run X bt_X11_leastTake 2 (31, [some (.ref 32), some (.int row), some (.int miss), some (.int fi), some (.int he), none, none], [], σ) = some (True, if he < 0 then (100, [some (.ref 32), some (.int row), some (.int miss), some (.int fi), some (.int he), none, none], [], σ) else (36, [some (.ref 32), some (.int row), some (.int miss), some (.int fi), some (.int he), none, none], [], σ)) := rfl
set_option maxRecDepth 100000 in
theorem lp_lk_blk2 {X : bz_X} (row : Int32) (miss : Int32) (σ : bz_S) (fi : Int32) (he : Int32) : bz_run X bt_X11_leastTake 2 (36, [some (.ref 32), some (.int row), some (.int miss), some (.int fi), some (.int he), none, none], [], σ) = some (True, (39, [some (.ref 32), some (.int row), some (.int miss), some (.int fi), some (.int he), none, none], [.int he, .int row], σ)) := rfl
set_option maxRecDepth 100000 in
theorem lp_lk_blk3 {X : bz_X} (row : Int32) (miss : Int32) (σ : bz_S) (fi : Int32) (he : Int32) : bz_run X bt_X11_leastTake 1 (42, [some (.ref 32), some (.int row), some (.int miss), some (.int fi), some (.int he), none, none], [.int (f_X11_digit row he)], σ) = some (True, (44, [some (.ref 32), some (.int row), some (.int miss), some (.int fi), some (.int he), some (.int (f_X11_digit row he)), none], [], σ)) := rfl
set_option maxRecDepth 100000 in
theorem lp_lk_blk4 {X : bz_X} (row : Int32) (miss : Int32) (σ : bz_S) (fi : Int32) (he : Int32) (τ1 : bz_S × Int32) : bz_run X bt_X11_leastTake 2 (94, [some (.ref 32), some (.int row), some (.int miss), some (.int τ1.2), some (.int he), none, none], [], τ1.1) = some (True, (31, [some (.ref 32), some (.int row), some (.int miss), some (.int τ1.2), some (.int (he + (-1))), none, none], [], τ1.1)) := rfl
set_option maxRecDepth 100000 in
theorem s_lp_lk {X : bz_X} (row : Int32) (miss : Int32) (R : Nat) (hR : row = nI R) (hR2 : R < 1000) (MI : Nat) (hM : miss = nI MI) (hM2 : MI ≤ 1) : ∀ (n : Nat) (σ : bz_S) (fi : Int32) (he : Int32) (hi : he + 1 = nI n) (hn : n ≤ 3), bz_wp bz_P X mX11_leastTake (bz_pi (lp_lk row miss n σ fi he).1 (lp_lk row miss n σ fi he).2) (31, [some (.ref 32), some (.int row), some (.int miss), some (.int fi), some (.int he), none, none], [], σ) := by
  intro n
  induction n with
  | zero =>
    intro σ fi he hi hn
    refine bz_wpb bT_X11_leastTake 2 (b1 := (100, [some (.ref 32), some (.int row), some (.int miss), some (.int fi), some (.int he), none, none], [], σ)) (b2 := (36, [some (.ref 32), some (.int row), some (.int miss), some (.int fi), some (.int he), none, none], [], σ)) (C := he < 0) (G := True) (lp_lk0_blk1 row miss σ fi he) trivial (fun _ => ?_) (fun z => absurd (show he < 0 from by rw [show he = -1 from by have := hi; rw [show nI 0 = (-1 : Int32) + 1 from by decide] at this; exact (Int32.add_left_inj 1).mp this]; decide) z)
    refine bz_wpn bT_X11_leastTake 1 (b := (101, [some (.ref 32), some (.int row), some (.int miss), some (.int fi), some (.int he), none, none], [.int fi], σ)) (G := True) (lp_lk0_blk2 row miss σ fi he) trivial ?_
    refine bz_wpr bT_X11_leastTake rfl rfl trivial ?_
    have e9 : lp_lk row miss 0 σ fi he = (fi, σ) := by rw [lp_lk]
    exact ⟨by rw [e9], by rw [e9]⟩
  | succ n ih =>
    intro σ fi he hi hn
    refine bz_wpb bT_X11_leastTake 2 (b1 := (100, [some (.ref 32), some (.int row), some (.int miss), some (.int fi), some (.int he), none, none], [], σ)) (b2 := (36, [some (.ref 32), some (.int row), some (.int miss), some (.int fi), some (.int he), none, none], [], σ)) (C := he < 0) (G := True) (lp_lk_blk1 row miss σ fi he) trivial (fun z => absurd z (show ¬ he < 0 from by rw [bz_dn hi]; exact nI_pos (by omega))) (fun _ => ?_)
    refine bz_wpn bT_X11_leastTake 2 (b := (39, [some (.ref 32), some (.int row), some (.int miss), some (.int fi), some (.int he), none, none], [.int he, .int row], σ)) (G := True) (lp_lk_blk2 row miss σ fi he) trivial ?_
    refine bz_wci bT_X11_leastTake [.int row, .int he] (pc' := 42) (rest := []) rfl rfl (Nat.le_of_ble_eq_true rfl) rfl (Nat.le_of_ble_eq_true rfl) rfl (s_X11_digit σ row he) rfl ?_
    refine bz_wpn bT_X11_leastTake 1 (b := (44, [some (.ref 32), some (.int row), some (.int miss), some (.int fi), some (.int he), some (.int (f_X11_digit row he)), none], [], σ)) (G := True) (lp_lk_blk3 row miss σ fi he) trivial ?_
    refine s_lp_lk1 row miss he R hR hR2 MI hM hM2 (bz_dg hR hR2 (bz_dn hi) (by omega)).choose_spec.choose (bz_dg hR hR2 (bz_dn hi) (by omega)).choose_spec.choose_spec.2.2.2 (f_X11_digit row he).toNatClampNeg σ fi (f_X11_digit row he) (by have q := (bz_dg hR hR2 (bz_dn hi) (by omega)).choose_spec.choose_spec; rw [congrArg Int32.toNatClampNeg q.2.2.1, nI_clamp (by omega)]; exact q.2.2.1) (by have q := (bz_dg hR hR2 (bz_dn hi) (by omega)).choose_spec.choose_spec; rw [congrArg Int32.toNatClampNeg q.2.2.1, nI_clamp (by omega)]; exact q.1) (by have q := (bz_dg hR hR2 (bz_dn hi) (by omega)).choose_spec.choose_spec; rw [congrArg Int32.toNatClampNeg q.2.2.1, nI_clamp (by omega)]; exact q.2.1) ?_
    generalize hτ1 : (lp_lk1 row miss he (f_X11_digit row he).toNatClampNeg σ fi (f_X11_digit row he)) = τ1
    refine bz_wpn bT_X11_leastTake 2 (b := (31, [some (.ref 32), some (.int row), some (.int miss), some (.int τ1.2), some (.int (he + (-1))), none, none], [], τ1.1)) (G := True) (lp_lk_blk4 row miss σ fi he τ1) trivial ?_
    have e9 : lp_lk row miss (n + 1) σ fi he = (lp_lk row miss n τ1.1 τ1.2 (he + (-1))) := by rw [lp_lk, hτ1, lp_lk_a]
    rw [e9]
    exact ih τ1.1 τ1.2 (he + (-1)) (bz_dn' hi) (by omega)
theorem rlp_lk_a (rc : bz_S → Int32 → Int32 → (Int32 × bz_S)) (row : Int32) (miss : Int32) (σ : bz_S) (fi : Int32) (he : Int32) (τ1 : bz_S × Int32) (ihc : ∀ (σ : bz_S) (fi : Int32) (he : Int32), bz_fr [] σ (rc σ fi he).2) (fτ1 : bz_fr [] σ τ1.1) : bz_fr [] σ (lp_lk_a rc row miss σ fi he τ1).2 := by
  unfold lp_lk_a
  exact (bz_fr_tr (τ := τ1.1) fτ1 (ihc τ1.1 τ1.2 (he + (-1))))
theorem rlp_lk (row : Int32) (miss : Int32) : ∀ (n : Nat) (σ : bz_S) (fi : Int32) (he : Int32), bz_fr [] σ (lp_lk row miss n σ fi he).2 := by
  intro n
  induction n with
  | zero =>
    intro σ fi he
    rw [lp_lk]
    exact bz_fr_rf
  | succ n ihc =>
    intro σ fi he
    rw [lp_lk]
    exact (rlp_lk_a (lp_lk row miss n) row miss σ fi he ((lp_lk1 row miss he (f_X11_digit row he).toNatClampNeg σ fi (f_X11_digit row he))) ihc (bz_fr_mo (rlp_lk1 row miss he (f_X11_digit row he).toNatClampNeg σ fi (f_X11_digit row he)) (by decide)))
theorem qlp_lk_a (rc : bz_S → Int32 → Int32 → (Int32 × bz_S)) (row : Int32) (miss : Int32) (σ : bz_S) (fi : Int32) (he : Int32) (τ1 : bz_S × Int32) (ihc : ∀ (σ : bz_S) (fi : Int32) (he : Int32), bz_fo ([] : List Nat) σ (rc σ fi he).2) (fτ1 : bz_fo ([] : List Nat) σ τ1.1) : bz_fo ([] : List Nat) σ (lp_lk_a rc row miss σ fi he τ1).2 := by
  unfold lp_lk_a
  exact (bz_fo_tr (τ := τ1.1) fτ1 (ihc τ1.1 τ1.2 (he + (-1))))
theorem qlp_lk (row : Int32) (miss : Int32) : ∀ (n : Nat) (σ : bz_S) (fi : Int32) (he : Int32), bz_fo ([] : List Nat) σ (lp_lk row miss n σ fi he).2 := by
  intro n
  induction n with
  | zero =>
    intro σ fi he
    rw [lp_lk]
    exact bz_fo_rf
  | succ n ihc =>
    intro σ fi he
    rw [lp_lk]
    exact (qlp_lk_a (lp_lk row miss n) row miss σ fi he ((lp_lk1 row miss he (f_X11_digit row he).toNatClampNeg σ fi (f_X11_digit row he))) ihc (bz_fo_mo (qlp_lk1 row miss he (f_X11_digit row he).toNatClampNeg σ fi (f_X11_digit row he)) (by decide)))

def f_X11_leastTake_32 (σ : bz_S) (row : Int32) (miss : Int32) : Int32 × bz_S := if miss = 1 then if row ≤ 0 then lp_lk row miss (bz_k 3) σ (-6) 2 else (if (σ.1 48 ((2 * row).toNatClampNeg)) = 0 then lp_lk row miss (bz_k 3) σ 99 2 else lp_lk row miss (bz_k 3) σ (-6) 2) else lp_lk row miss (bz_k 3) σ (-6) 2
set_option maxRecDepth 100000 in
theorem f_X11_leastTake_32_blk1 {X : bz_X} (σ : bz_S) (row : Int32) (miss : Int32) : bz_run X bt_X11_leastTake 3 (0, [some (.ref 32), some (.int row), some (.int miss), none, none, none, none], [], σ) = some (True, if ¬ miss = 1 then (25, [some (.ref 32), some (.int row), some (.int miss), none, none, none, none], [], σ) else (5, [some (.ref 32), some (.int row), some (.int miss), none, none, none, none], [], σ)) := rfl
set_option maxRecDepth 100000 in
theorem f_X11_leastTake_32_blk2 {X : bz_X} (σ : bz_S) (row : Int32) (miss : Int32) : bz_run X bt_X11_leastTake 4 (25, [some (.ref 32), some (.int row), some (.int miss), none, none, none, none], [], σ) = some (True, (31, [some (.ref 32), some (.int row), some (.int miss), some (.int (-6)), some (.int 2), none, none], [], σ)) := rfl
set_option maxRecDepth 100000 in
theorem f_X11_leastTake_32_blk3 {X : bz_X} (σ : bz_S) (row : Int32) (miss : Int32) : bz_run X bt_X11_leastTake 2 (5, [some (.ref 32), some (.int row), some (.int miss), none, none, none, none], [], σ) = some (True, if row ≤ 0 then (25, [some (.ref 32), some (.int row), some (.int miss), none, none, none, none], [], σ) else (9, [some (.ref 32), some (.int row), some (.int miss), none, none, none, none], [], σ)) := rfl
set_option maxRecDepth 100000 in
theorem f_X11_leastTake_32_blk4 {X : bz_X} (σ : bz_S) (row : Int32) (miss : Int32) : bz_run X bt_X11_leastTake 4 (25, [some (.ref 32), some (.int row), some (.int miss), none, none, none, none], [], σ) = some (True, (31, [some (.ref 32), some (.int row), some (.int miss), some (.int (-6)), some (.int 2), none, none], [], σ)) := rfl
set_option maxRecDepth 100000 in
theorem f_X11_leastTake_32_blk5 {X : bz_X} (σ : bz_S) (row : Int32) (miss : Int32) : bz_run X bt_X11_leastTake 7 (9, [some (.ref 32), some (.int row), some (.int miss), none, none, none, none], [], σ) = some (vp_in (2 * row) 2000 ∧ True, if ¬ (σ.1 48 ((2 * row).toNatClampNeg)) = 0 then (25, [some (.ref 32), some (.int row), some (.int miss), none, none, none, none], [], σ) else (20, [some (.ref 32), some (.int row), some (.int miss), none, none, none, none], [], σ)) := rfl
set_option maxRecDepth 100000 in
theorem f_X11_leastTake_32_blk6 {X : bz_X} (σ : bz_S) (row : Int32) (miss : Int32) : bz_run X bt_X11_leastTake 4 (25, [some (.ref 32), some (.int row), some (.int miss), none, none, none, none], [], σ) = some (True, (31, [some (.ref 32), some (.int row), some (.int miss), some (.int (-6)), some (.int 2), none, none], [], σ)) := rfl
set_option maxRecDepth 100000 in
theorem f_X11_leastTake_32_blk7 {X : bz_X} (σ : bz_S) (row : Int32) (miss : Int32) : bz_run X bt_X11_leastTake 5 (20, [some (.ref 32), some (.int row), some (.int miss), none, none, none, none], [], σ) = some (True, (31, [some (.ref 32), some (.int row), some (.int miss), some (.int 99), some (.int 2), none, none], [], σ)) := rfl
set_option maxRecDepth 100000 in
theorem s_X11_leastTake_32 {X : bz_X} (σ : bz_S) (row : Int32) (miss : Int32) (hr : bz_lt 1000 row) (hm : ∃ N, N ≤ 1 ∧ miss = nI N) : bz_C bz_P X mX11_leastTake [.ref 32, .int row, .int miss] σ (bz_pi (f_X11_leastTake_32 σ row miss).1 (f_X11_leastTake_32 σ row miss).2) := by
  show bz_wp bz_P X mX11_leastTake (bz_pi (f_X11_leastTake_32 σ row miss).1 (f_X11_leastTake_32 σ row miss).2) (0, [some (.ref 32), some (.int row), some (.int miss), none, none, none, none], [], σ)
  refine bz_wpb bT_X11_leastTake 3 (b1 := (25, [some (.ref 32), some (.int row), some (.int miss), none, none, none, none], [], σ)) (b2 := (5, [some (.ref 32), some (.int row), some (.int miss), none, none, none, none], [], σ)) (C := ¬ miss = 1) (G := True) (f_X11_leastTake_32_blk1 σ row miss) trivial (fun h1 => ?_) (fun h1 => ?_)
  · skip
    refine bz_wpn bT_X11_leastTake 4 (b := (31, [some (.ref 32), some (.int row), some (.int miss), some (.int (-6)), some (.int 2), none, none], [], σ)) (G := True) (f_X11_leastTake_32_blk2 σ row miss) trivial ?_
    have e9 : f_X11_leastTake_32 σ row miss = lp_lk row miss (bz_k 3) σ (-6) 2 := by rw [f_X11_leastTake_32, if_neg (h1)]
    rw [e9]
    obtain ⟨R, hR2, hR⟩ := hr
    obtain ⟨MI, hM2, hM⟩ := hm
    exact s_lp_lk row miss R hR hR2 MI hM hM2 (bz_k 3) σ (-6) 2 (by rw [bz_k_eq]; decide) (by rw [bz_k_eq]; omega)
  · skip
    refine bz_wpb bT_X11_leastTake 2 (b1 := (25, [some (.ref 32), some (.int row), some (.int miss), none, none, none, none], [], σ)) (b2 := (9, [some (.ref 32), some (.int row), some (.int miss), none, none, none, none], [], σ)) (C := row ≤ 0) (G := True) (f_X11_leastTake_32_blk3 σ row miss) trivial (fun h2 => ?_) (fun h2 => ?_)
    · skip
      refine bz_wpn bT_X11_leastTake 4 (b := (31, [some (.ref 32), some (.int row), some (.int miss), some (.int (-6)), some (.int 2), none, none], [], σ)) (G := True) (f_X11_leastTake_32_blk4 σ row miss) trivial ?_
      have e9 : f_X11_leastTake_32 σ row miss = lp_lk row miss (bz_k 3) σ (-6) 2 := by rw [f_X11_leastTake_32, if_pos ((Decidable.not_not.mp h1)), if_pos (h2)]
      rw [e9]
      obtain ⟨R, hR2, hR⟩ := hr
      obtain ⟨MI, hM2, hM⟩ := hm
      exact s_lp_lk row miss R hR hR2 MI hM hM2 (bz_k 3) σ (-6) 2 (by rw [bz_k_eq]; decide) (by rw [bz_k_eq]; omega)
    · skip
      refine bz_wpb bT_X11_leastTake 7 (b1 := (25, [some (.ref 32), some (.int row), some (.int miss), none, none, none, none], [], σ)) (b2 := (20, [some (.ref 32), some (.int row), some (.int miss), none, none, none, none], [], σ)) (C := ¬ (σ.1 48 ((2 * row).toNatClampNeg)) = 0) (G := vp_in (2 * row) 2000 ∧ True) (f_X11_leastTake_32_blk5 σ row miss) ⟨(bz_2r hr.choose_spec.2 hr.choose_spec.1).1, trivial⟩ (fun h3 => ?_) (fun h3 => ?_)
      · skip
        refine bz_wpn bT_X11_leastTake 4 (b := (31, [some (.ref 32), some (.int row), some (.int miss), some (.int (-6)), some (.int 2), none, none], [], σ)) (G := True) (f_X11_leastTake_32_blk6 σ row miss) trivial ?_
        have e9 : f_X11_leastTake_32 σ row miss = lp_lk row miss (bz_k 3) σ (-6) 2 := by rw [f_X11_leastTake_32, if_pos ((Decidable.not_not.mp h1)), if_neg (h2), if_neg (h3)]
        rw [e9]
        obtain ⟨R, hR2, hR⟩ := hr
        obtain ⟨MI, hM2, hM⟩ := hm
        exact s_lp_lk row miss R hR hR2 MI hM hM2 (bz_k 3) σ (-6) 2 (by rw [bz_k_eq]; decide) (by rw [bz_k_eq]; omega)
      · skip
        refine bz_wpn bT_X11_leastTake 5 (b := (31, [some (.ref 32), some (.int row), some (.int miss), some (.int 99), some (.int 2), none, none], [], σ)) (G := True) (f_X11_leastTake_32_blk7 σ row miss) trivial ?_
        have e9 : f_X11_leastTake_32 σ row miss = lp_lk row miss (bz_k 3) σ 99 2 := by rw [f_X11_leastTake_32, if_pos ((Decidable.not_not.mp h1)), if_neg (h2), if_pos ((Decidable.not_not.mp h3))]
        rw [e9]
        obtain ⟨R, hR2, hR⟩ := hr
        obtain ⟨MI, hM2, hM⟩ := hm
        exact s_lp_lk row miss R hR hR2 MI hM hM2 (bz_k 3) σ 99 2 (by rw [bz_k_eq]; decide) (by rw [bz_k_eq]; omega)
theorem rf_X11_leastTake_32 (σ : bz_S) (row : Int32) (miss : Int32) : bz_fr [] σ (f_X11_leastTake_32 σ row miss).2 := by
  unfold f_X11_leastTake_32
  exact (bz_ite2 (bz_ite2 (bz_fr_tr (τ := σ) bz_fr_rf (bz_fr_mo (rlp_lk row miss (bz_k 3) σ (-6) 2) (by decide))) (bz_ite2 (bz_fr_tr (τ := σ) bz_fr_rf (bz_fr_mo (rlp_lk row miss (bz_k 3) σ 99 2) (by decide))) (bz_fr_tr (τ := σ) bz_fr_rf (bz_fr_mo (rlp_lk row miss (bz_k 3) σ (-6) 2) (by decide))))) (bz_fr_tr (τ := σ) bz_fr_rf (bz_fr_mo (rlp_lk row miss (bz_k 3) σ (-6) 2) (by decide))))
theorem qf_X11_leastTake_32 (σ : bz_S) (row : Int32) (miss : Int32) : bz_fo ([] : List Nat) σ (f_X11_leastTake_32 σ row miss).2 := by
  unfold f_X11_leastTake_32
  exact (bz_ite2 (bz_ite2 (bz_fo_tr (τ := σ) bz_fo_rf (bz_fo_mo (qlp_lk row miss (bz_k 3) σ (-6) 2) (by decide))) (bz_ite2 (bz_fo_tr (τ := σ) bz_fo_rf (bz_fo_mo (qlp_lk row miss (bz_k 3) σ 99 2) (by decide))) (bz_fo_tr (τ := σ) bz_fo_rf (bz_fo_mo (qlp_lk row miss (bz_k 3) σ (-6) 2) (by decide))))) (bz_fo_tr (τ := σ) bz_fo_rf (bz_fo_mo (qlp_lk row miss (bz_k 3) σ (-6) 2) (by decide))))

theorem bz_mr999 {x : Int32} (h : f_X11_in (Int32.toInt64 x) 0 999 = true) : bz_lt 1000 x := bz_r999 ((bz_inW (lo := 0) (hi := 999) (by decide) (by decide)).symm.trans h)
theorem bz_m01 {x : Int32} (h : f_X11_in (Int32.toInt64 x) 0 1 = true) : ∃ N, N ≤ 1 ∧ x = nI N := by
  rcases bz_w01 ((bz_inW (lo := 0) (hi := 1) (by decide) (by decide)).symm.trans h) with h | h
  · exact ⟨0, by decide, h⟩
  · exact ⟨1, by decide, h⟩
theorem lp_lk1_s (row miss he : Int32) : ∀ (n : Nat) (σ : bz_S) (fi k9 : Int32), (lp_lk1 row miss he n σ fi k9).1 = σ := by
  intro n
  induction n with
  | zero => intro σ fi k9; rw [lp_lk1]
  | succ n ih =>
    intro σ fi k9
    rw [lp_lk1]
    split
    · exact ih _ _ _
    · exact ih _ _ _
theorem lp_lk_s (row miss : Int32) : ∀ (n : Nat) (σ : bz_S) (fi he : Int32), (lp_lk row miss n σ fi he).2 = σ := by
  intro n
  induction n with
  | zero => intro σ fi he; rw [lp_lk]
  | succ n ih =>
    intro σ fi he
    rw [lp_lk, lp_lk_a, ih, lp_lk1_s]
theorem m_take_s (σ : bz_S) (row miss : Int32) : (f_X11_leastTake_32 σ row miss).2 = σ := by
  unfold f_X11_leastTake_32
  repeat' split
  all_goals exact lp_lk_s _ _ _ _ _ _

def lp_chk_c (rc : bz_S → Int32 → bz_S) (row : Int32) (σ : bz_S) (e : Int32) (τ1 : Int32 × bz_S) (τ3 : Int32 × bz_S) : bz_S := if τ3.1 < 0 then (rc ((bz_up τ3.2.1 48 (((2 * e) + 1).toNatClampNeg) 0), τ3.2.2) (e + 1)) else (rc ((bz_up τ3.2.1 48 (((2 * e) + 1).toNatClampNeg) 1), τ3.2.2) (e + 1))
def lp_chk_b (rc : bz_S → Int32 → bz_S) (row : Int32) (σ : bz_S) (e : Int32) (τ1 : Int32 × bz_S) (τ2 : Int32 × bz_S) : bz_S := if τ2.1 < 0 then (rc ((bz_up τ2.2.1 48 (((2 * e) + 1).toNatClampNeg) 0), τ2.2.2) (e + 1)) else (rc ((bz_up τ2.2.1 48 (((2 * e) + 1).toNatClampNeg) 1), τ2.2.2) (e + 1))
def lp_chk_a (rc : bz_S → Int32 → bz_S) (row : Int32) (σ : bz_S) (e : Int32) (τ1 : Int32 × bz_S) : bz_S := if τ1.1 < 0 then (lp_chk_b rc row σ e τ1 (f_X11_leastTake_32 ((bz_up τ1.2.1 48 ((2 * e).toNatClampNeg) 0), τ1.2.2) e 1)) else (lp_chk_c rc row σ e τ1 (f_X11_leastTake_32 ((bz_up τ1.2.1 48 ((2 * e).toNatClampNeg) 1), τ1.2.2) e 1))
def lp_chk (row : Int32) : Nat → bz_S → Int32 → bz_S
  | 0, σ, e => σ
  | n + 1, σ, e => (lp_chk_a (lp_chk row n) row σ e (f_X11_leastTake_32 σ e 0))
set_option maxRecDepth 100000 in
theorem lp_chk0_blk1 {X : bz_X} (row : Int32) (miss : Int32) (what : Int32) (σ : bz_S) (e : Int32) : bz_run X bt_X11_chalk 3 (38, [some (.ref 32), some (.int row), some (.int miss), some (.int what), some (.int e)], [], σ) = some (True, if row < e then (100, [some (.ref 32), some (.int row), some (.int miss), some (.int what), some (.int e)], [], σ) else (44, [some (.ref 32), some (.int row), some (.int miss), some (.int what), some (.int e)], [], σ)) := rfl
set_option maxRecDepth 100000 in
theorem lp_chk_blk1 {X : bz_X} (row : Int32) (miss : Int32) (what : Int32) (σ : bz_S) (e : Int32) : bz_run X bt_X11_chalk 3 (38, [some (.ref 32), some (.int row), some (.int miss), some (.int what), some (.int e)], [], σ) = some (True, if row < e then (100, [some (.ref 32), some (.int row), some (.int miss), some (.int what), some (.int e)], [], σ) else (44, [some (.ref 32), some (.int row), some (.int miss), some (.int what), some (.int e)], [], σ)) := rfl
set_option maxRecDepth 100000 in
theorem lp_chk_blk2 {X : bz_X} (row : Int32) (miss : Int32) (what : Int32) (σ : bz_S) (e : Int32) : bz_run X bt_X11_chalk 8 (44, [some (.ref 32), some (.int row), some (.int miss), some (.int what), some (.int e)], [], σ) = some (True, (56, [some (.ref 32), some (.int row), some (.int miss), some (.int what), some (.int e)], [.int 0, .int e, .ref 32, .int (2 * e), .ref 48], σ)) := rfl
set_option maxRecDepth 100000 in
theorem lp_chk_blk3 {X : bz_X} (row : Int32) (miss : Int32) (what : Int32) (σ : bz_S) (e : Int32) (τ1 : Int32 × bz_S) : bz_run X bt_X11_chalk 1 (59, [some (.ref 32), some (.int row), some (.int miss), some (.int what), some (.int e)], [.int τ1.1, .int (2 * e), .ref 48], τ1.2) = some (True, if τ1.1 < 0 then (66, [some (.ref 32), some (.int row), some (.int miss), some (.int what), some (.int e)], [.int (2 * e), .ref 48], τ1.2) else (62, [some (.ref 32), some (.int row), some (.int miss), some (.int what), some (.int e)], [.int (2 * e), .ref 48], τ1.2)) := rfl
set_option maxRecDepth 100000 in
theorem lp_chk_blk4 {X : bz_X} (row : Int32) (miss : Int32) (what : Int32) (σ : bz_S) (e : Int32) (τ1 : Int32 × bz_S) : bz_run X bt_X11_chalk 12 (66, [some (.ref 32), some (.int row), some (.int miss), some (.int what), some (.int e)], [.int (2 * e), .ref 48], τ1.2) = some ((vp_in (2 * e) 2000 ∧ ((0 : Int32) = 0 ∨ (0 : Int32) = 1)) ∧ True, (82, [some (.ref 32), some (.int row), some (.int miss), some (.int what), some (.int e)], [.int 1, .int e, .ref 32, .int ((2 * e) + 1), .ref 48], ((bz_up τ1.2.1 48 ((2 * e).toNatClampNeg) 0), τ1.2.2))) := rfl
set_option maxRecDepth 100000 in
theorem lp_chk_blk5 {X : bz_X} (row : Int32) (miss : Int32) (what : Int32) (σ : bz_S) (e : Int32) (τ1 : Int32 × bz_S) (τ2 : Int32 × bz_S) : bz_run X bt_X11_chalk 1 (85, [some (.ref 32), some (.int row), some (.int miss), some (.int what), some (.int e)], [.int τ2.1, .int ((2 * e) + 1), .ref 48], τ2.2) = some (True, if τ2.1 < 0 then (92, [some (.ref 32), some (.int row), some (.int miss), some (.int what), some (.int e)], [.int ((2 * e) + 1), .ref 48], τ2.2) else (88, [some (.ref 32), some (.int row), some (.int miss), some (.int what), some (.int e)], [.int ((2 * e) + 1), .ref 48], τ2.2)) := rfl
set_option maxRecDepth 100000 in
theorem lp_chk_blk6 {X : bz_X} (row : Int32) (miss : Int32) (what : Int32) (σ : bz_S) (e : Int32) (τ1 : Int32 × bz_S) (τ2 : Int32 × bz_S) : bz_run X bt_X11_chalk 4 (92, [some (.ref 32), some (.int row), some (.int miss), some (.int what), some (.int e)], [.int ((2 * e) + 1), .ref 48], τ2.2) = some ((vp_in ((2 * e) + 1) 2000 ∧ ((0 : Int32) = 0 ∨ (0 : Int32) = 1)) ∧ True, (38, [some (.ref 32), some (.int row), some (.int miss), some (.int what), some (.int (e + 1))], [], ((bz_up τ2.2.1 48 (((2 * e) + 1).toNatClampNeg) 0), τ2.2.2))) := rfl
set_option maxRecDepth 100000 in
theorem lp_chk_blk7 {X : bz_X} (row : Int32) (miss : Int32) (what : Int32) (σ : bz_S) (e : Int32) (τ1 : Int32 × bz_S) (τ2 : Int32 × bz_S) : bz_run X bt_X11_chalk 5 (88, [some (.ref 32), some (.int row), some (.int miss), some (.int what), some (.int e)], [.int ((2 * e) + 1), .ref 48], τ2.2) = some ((vp_in ((2 * e) + 1) 2000 ∧ ((1 : Int32) = 0 ∨ (1 : Int32) = 1)) ∧ True, (38, [some (.ref 32), some (.int row), some (.int miss), some (.int what), some (.int (e + 1))], [], ((bz_up τ2.2.1 48 (((2 * e) + 1).toNatClampNeg) 1), τ2.2.2))) := rfl
set_option maxRecDepth 100000 in
theorem lp_chk_blk8 {X : bz_X} (row : Int32) (miss : Int32) (what : Int32) (σ : bz_S) (e : Int32) (τ1 : Int32 × bz_S) : bz_run X bt_X11_chalk 13 (62, [some (.ref 32), some (.int row), some (.int miss), some (.int what), some (.int e)], [.int (2 * e), .ref 48], τ1.2) = some ((vp_in (2 * e) 2000 ∧ ((1 : Int32) = 0 ∨ (1 : Int32) = 1)) ∧ True, (82, [some (.ref 32), some (.int row), some (.int miss), some (.int what), some (.int e)], [.int 1, .int e, .ref 32, .int ((2 * e) + 1), .ref 48], ((bz_up τ1.2.1 48 ((2 * e).toNatClampNeg) 1), τ1.2.2))) := rfl
set_option maxRecDepth 100000 in
theorem lp_chk_blk9 {X : bz_X} (row : Int32) (miss : Int32) (what : Int32) (σ : bz_S) (e : Int32) (τ1 : Int32 × bz_S) (τ3 : Int32 × bz_S) : bz_run X bt_X11_chalk 1 (85, [some (.ref 32), some (.int row), some (.int miss), some (.int what), some (.int e)], [.int τ3.1, .int ((2 * e) + 1), .ref 48], τ3.2) = some (True, if τ3.1 < 0 then (92, [some (.ref 32), some (.int row), some (.int miss), some (.int what), some (.int e)], [.int ((2 * e) + 1), .ref 48], τ3.2) else (88, [some (.ref 32), some (.int row), some (.int miss), some (.int what), some (.int e)], [.int ((2 * e) + 1), .ref 48], τ3.2)) := rfl
set_option maxRecDepth 100000 in
theorem lp_chk_blk10 {X : bz_X} (row : Int32) (miss : Int32) (what : Int32) (σ : bz_S) (e : Int32) (τ1 : Int32 × bz_S) (τ3 : Int32 × bz_S) : bz_run X bt_X11_chalk 4 (92, [some (.ref 32), some (.int row), some (.int miss), some (.int what), some (.int e)], [.int ((2 * e) + 1), .ref 48], τ3.2) = some ((vp_in ((2 * e) + 1) 2000 ∧ ((0 : Int32) = 0 ∨ (0 : Int32) = 1)) ∧ True, (38, [some (.ref 32), some (.int row), some (.int miss), some (.int what), some (.int (e + 1))], [], ((bz_up τ3.2.1 48 (((2 * e) + 1).toNatClampNeg) 0), τ3.2.2))) := rfl
set_option maxRecDepth 100000 in
theorem lp_chk_blk11 {X : bz_X} (row : Int32) (miss : Int32) (what : Int32) (σ : bz_S) (e : Int32) (τ1 : Int32 × bz_S) (τ3 : Int32 × bz_S) : bz_run X bt_X11_chalk 5 (88, [some (.ref 32), some (.int row), some (.int miss), some (.int what), some (.int e)], [.int ((2 * e) + 1), .ref 48], τ3.2) = some ((vp_in ((2 * e) + 1) 2000 ∧ ((1 : Int32) = 0 ∨ (1 : Int32) = 1)) ∧ True, (38, [some (.ref 32), some (.int row), some (.int miss), some (.int what), some (.int (e + 1))], [], ((bz_up τ3.2.1 48 (((2 * e) + 1).toNatClampNeg) 1), τ3.2.2))) := rfl
set_option maxRecDepth 100000 in
theorem s_lp_chk {X : bz_X} (row : Int32) {Q : bz_Q} (miss what : Int32) (R : Nat) (hR : row = nI R) (hR2 : R < 1000) : ∀ (n : Nat) (σ : bz_S) (e : Int32) (j9 : Nat) (hi : e = nI j9) (hj : j9 + n = R + 1) (kk : bz_wp bz_P X mX11_chalk Q (100, [some (.ref 32), some (.int row), some (.int miss), some (.int what), none], [], (lp_chk row n σ e))), bz_wp bz_P X mX11_chalk (Q) (38, [some (.ref 32), some (.int row), some (.int miss), some (.int what), some (.int e)], [], σ) := by
  intro n
  induction n with
  | zero =>
    intro σ e j9 hi hj kk
    refine bz_wpb bT_X11_chalk 3 (b1 := (100, [some (.ref 32), some (.int row), some (.int miss), some (.int what), some (.int e)], [], σ)) (b2 := (44, [some (.ref 32), some (.int row), some (.int miss), some (.int what), some (.int e)], [], σ)) (C := row < e) (G := True) (lp_chk0_blk1 row miss what σ e) trivial (fun _ => ?_) (fun z => absurd (show row < e from by rw [hi, hR]; exact nI_lt (by omega) (by omega)) z)
    have e9 : lp_chk row 0 σ e = σ := by rw [lp_chk]
    rw [e9] at kk
    refine bz_wpw (by exact ⟨rfl, rfl, rfl, rfl, trivial⟩) kk
  | succ n ih =>
    intro σ e j9 hi hj kk
    refine bz_wpb bT_X11_chalk 3 (b1 := (100, [some (.ref 32), some (.int row), some (.int miss), some (.int what), some (.int e)], [], σ)) (b2 := (44, [some (.ref 32), some (.int row), some (.int miss), some (.int what), some (.int e)], [], σ)) (C := row < e) (G := True) (lp_chk_blk1 row miss what σ e) trivial (fun z => absurd z (show ¬ row < e from by rw [hi, hR]; exact nI_nlt (by omega) (by omega))) (fun _ => ?_)
    refine bz_wpn bT_X11_chalk 8 (b := (56, [some (.ref 32), some (.int row), some (.int miss), some (.int what), some (.int e)], [.int 0, .int e, .ref 32, .int (2 * e), .ref 48], σ)) (G := True) (lp_chk_blk2 row miss what σ e) trivial ?_
    refine bz_wci bT_X11_chalk [.ref 32, .int e, .int 0] (pc' := 59) (rest := [.int (2 * e), .ref 48]) rfl rfl (Nat.le_of_ble_eq_true rfl) rfl (Nat.le_of_ble_eq_true rfl) rfl (s_X11_leastTake_32 σ e 0 ⟨j9, by omega, hi⟩ ⟨0, by decide, rfl⟩) rfl ?_
    generalize hτ1 : f_X11_leastTake_32 σ e 0 = τ1
    refine bz_wpb bT_X11_chalk 1 (b1 := (66, [some (.ref 32), some (.int row), some (.int miss), some (.int what), some (.int e)], [.int (2 * e), .ref 48], τ1.2)) (b2 := (62, [some (.ref 32), some (.int row), some (.int miss), some (.int what), some (.int e)], [.int (2 * e), .ref 48], τ1.2)) (C := τ1.1 < 0) (G := True) (lp_chk_blk3 row miss what σ e τ1) trivial (fun h1 => ?_) (fun h1 => ?_)
    · skip
      refine bz_wpn bT_X11_chalk 12 (b := (82, [some (.ref 32), some (.int row), some (.int miss), some (.int what), some (.int e)], [.int 1, .int e, .ref 32, .int ((2 * e) + 1), .ref 48], ((bz_up τ1.2.1 48 ((2 * e).toNatClampNeg) 0), τ1.2.2))) (G := (vp_in (2 * e) 2000 ∧ ((0 : Int32) = 0 ∨ (0 : Int32) = 1)) ∧ True) (lp_chk_blk4 row miss what σ e τ1) ⟨⟨(bz_2r hi (by omega)).1, by decide⟩, trivial⟩ ?_
      refine bz_wci bT_X11_chalk [.ref 32, .int e, .int 1] (pc' := 85) (rest := [.int ((2 * e) + 1), .ref 48]) rfl rfl (Nat.le_of_ble_eq_true rfl) rfl (Nat.le_of_ble_eq_true rfl) rfl (s_X11_leastTake_32 ((bz_up τ1.2.1 48 ((2 * e).toNatClampNeg) 0), τ1.2.2) e 1 ⟨j9, by omega, hi⟩ ⟨1, by decide, rfl⟩) rfl ?_
      generalize hτ2 : f_X11_leastTake_32 ((bz_up τ1.2.1 48 ((2 * e).toNatClampNeg) 0), τ1.2.2) e 1 = τ2
      refine bz_wpb bT_X11_chalk 1 (b1 := (92, [some (.ref 32), some (.int row), some (.int miss), some (.int what), some (.int e)], [.int ((2 * e) + 1), .ref 48], τ2.2)) (b2 := (88, [some (.ref 32), some (.int row), some (.int miss), some (.int what), some (.int e)], [.int ((2 * e) + 1), .ref 48], τ2.2)) (C := τ2.1 < 0) (G := True) (lp_chk_blk5 row miss what σ e τ1 τ2) trivial (fun h2 => ?_) (fun h2 => ?_)
      · skip
        refine bz_wpn bT_X11_chalk 4 (b := (38, [some (.ref 32), some (.int row), some (.int miss), some (.int what), some (.int (e + 1))], [], ((bz_up τ2.2.1 48 (((2 * e) + 1).toNatClampNeg) 0), τ2.2.2))) (G := (vp_in ((2 * e) + 1) 2000 ∧ ((0 : Int32) = 0 ∨ (0 : Int32) = 1)) ∧ True) (lp_chk_blk6 row miss what σ e τ1 τ2) ⟨⟨(bz_2r hi (by omega)).2, by decide⟩, trivial⟩ ?_
        have e9 : lp_chk row (n + 1) σ e = (lp_chk row n ((bz_up τ2.2.1 48 (((2 * e) + 1).toNatClampNeg) 0), τ2.2.2) (e + 1)) := by rw [lp_chk, hτ1, lp_chk_a, if_pos (h1), hτ2, lp_chk_b, if_pos (h2)]
        rw [e9] at kk
        exact ih ((bz_up τ2.2.1 48 (((2 * e) + 1).toNatClampNeg) 0), τ2.2.2) (e + 1) (j9 + 1) (by rw [hi]; exact nI_1 j9) (by omega) kk
      · skip
        refine bz_wpn bT_X11_chalk 5 (b := (38, [some (.ref 32), some (.int row), some (.int miss), some (.int what), some (.int (e + 1))], [], ((bz_up τ2.2.1 48 (((2 * e) + 1).toNatClampNeg) 1), τ2.2.2))) (G := (vp_in ((2 * e) + 1) 2000 ∧ ((1 : Int32) = 0 ∨ (1 : Int32) = 1)) ∧ True) (lp_chk_blk7 row miss what σ e τ1 τ2) ⟨⟨(bz_2r hi (by omega)).2, by decide⟩, trivial⟩ ?_
        have e9 : lp_chk row (n + 1) σ e = (lp_chk row n ((bz_up τ2.2.1 48 (((2 * e) + 1).toNatClampNeg) 1), τ2.2.2) (e + 1)) := by rw [lp_chk, hτ1, lp_chk_a, if_pos (h1), hτ2, lp_chk_b, if_neg (h2)]
        rw [e9] at kk
        exact ih ((bz_up τ2.2.1 48 (((2 * e) + 1).toNatClampNeg) 1), τ2.2.2) (e + 1) (j9 + 1) (by rw [hi]; exact nI_1 j9) (by omega) kk
    · skip
      refine bz_wpn bT_X11_chalk 13 (b := (82, [some (.ref 32), some (.int row), some (.int miss), some (.int what), some (.int e)], [.int 1, .int e, .ref 32, .int ((2 * e) + 1), .ref 48], ((bz_up τ1.2.1 48 ((2 * e).toNatClampNeg) 1), τ1.2.2))) (G := (vp_in (2 * e) 2000 ∧ ((1 : Int32) = 0 ∨ (1 : Int32) = 1)) ∧ True) (lp_chk_blk8 row miss what σ e τ1) ⟨⟨(bz_2r hi (by omega)).1, by decide⟩, trivial⟩ ?_
      refine bz_wci bT_X11_chalk [.ref 32, .int e, .int 1] (pc' := 85) (rest := [.int ((2 * e) + 1), .ref 48]) rfl rfl (Nat.le_of_ble_eq_true rfl) rfl (Nat.le_of_ble_eq_true rfl) rfl (s_X11_leastTake_32 ((bz_up τ1.2.1 48 ((2 * e).toNatClampNeg) 1), τ1.2.2) e 1 ⟨j9, by omega, hi⟩ ⟨1, by decide, rfl⟩) rfl ?_
      generalize hτ3 : f_X11_leastTake_32 ((bz_up τ1.2.1 48 ((2 * e).toNatClampNeg) 1), τ1.2.2) e 1 = τ3
      refine bz_wpb bT_X11_chalk 1 (b1 := (92, [some (.ref 32), some (.int row), some (.int miss), some (.int what), some (.int e)], [.int ((2 * e) + 1), .ref 48], τ3.2)) (b2 := (88, [some (.ref 32), some (.int row), some (.int miss), some (.int what), some (.int e)], [.int ((2 * e) + 1), .ref 48], τ3.2)) (C := τ3.1 < 0) (G := True) (lp_chk_blk9 row miss what σ e τ1 τ3) trivial (fun h3 => ?_) (fun h3 => ?_)
      · skip
        refine bz_wpn bT_X11_chalk 4 (b := (38, [some (.ref 32), some (.int row), some (.int miss), some (.int what), some (.int (e + 1))], [], ((bz_up τ3.2.1 48 (((2 * e) + 1).toNatClampNeg) 0), τ3.2.2))) (G := (vp_in ((2 * e) + 1) 2000 ∧ ((0 : Int32) = 0 ∨ (0 : Int32) = 1)) ∧ True) (lp_chk_blk10 row miss what σ e τ1 τ3) ⟨⟨(bz_2r hi (by omega)).2, by decide⟩, trivial⟩ ?_
        have e9 : lp_chk row (n + 1) σ e = (lp_chk row n ((bz_up τ3.2.1 48 (((2 * e) + 1).toNatClampNeg) 0), τ3.2.2) (e + 1)) := by rw [lp_chk, hτ1, lp_chk_a, if_neg (h1), hτ3, lp_chk_c, if_pos (h3)]
        rw [e9] at kk
        exact ih ((bz_up τ3.2.1 48 (((2 * e) + 1).toNatClampNeg) 0), τ3.2.2) (e + 1) (j9 + 1) (by rw [hi]; exact nI_1 j9) (by omega) kk
      · skip
        refine bz_wpn bT_X11_chalk 5 (b := (38, [some (.ref 32), some (.int row), some (.int miss), some (.int what), some (.int (e + 1))], [], ((bz_up τ3.2.1 48 (((2 * e) + 1).toNatClampNeg) 1), τ3.2.2))) (G := (vp_in ((2 * e) + 1) 2000 ∧ ((1 : Int32) = 0 ∨ (1 : Int32) = 1)) ∧ True) (lp_chk_blk11 row miss what σ e τ1 τ3) ⟨⟨(bz_2r hi (by omega)).2, by decide⟩, trivial⟩ ?_
        have e9 : lp_chk row (n + 1) σ e = (lp_chk row n ((bz_up τ3.2.1 48 (((2 * e) + 1).toNatClampNeg) 1), τ3.2.2) (e + 1)) := by rw [lp_chk, hτ1, lp_chk_a, if_neg (h1), hτ3, lp_chk_c, if_neg (h3)]
        rw [e9] at kk
        exact ih ((bz_up τ3.2.1 48 (((2 * e) + 1).toNatClampNeg) 1), τ3.2.2) (e + 1) (j9 + 1) (by rw [hi]; exact nI_1 j9) (by omega) kk
theorem rlp_chk_b (rc : bz_S → Int32 → bz_S) (row : Int32) (σ : bz_S) (e : Int32) (τ1 : Int32 × bz_S) (τ2 : Int32 × bz_S) (ihc : ∀ (σ : bz_S) (e : Int32), bz_fr [48] σ (rc σ e)) (fτ1 : bz_fr [48] σ τ1.2) (fτ2 : bz_fr [48] σ τ2.2) : bz_fr [48] σ (lp_chk_b rc row σ e τ1 τ2) := by
  unfold lp_chk_b
  exact (bz_ite (bz_fr_tr (τ := ((bz_up τ2.2.1 48 (((2 * e) + 1).toNatClampNeg) 0), τ2.2.2)) ⟨(bz_f1_up (fτ2).1 (by decide)), (fτ2).2⟩ (ihc ((bz_up τ2.2.1 48 (((2 * e) + 1).toNatClampNeg) 0), τ2.2.2) (e + 1))) (bz_fr_tr (τ := ((bz_up τ2.2.1 48 (((2 * e) + 1).toNatClampNeg) 1), τ2.2.2)) ⟨(bz_f1_up (fτ2).1 (by decide)), (fτ2).2⟩ (ihc ((bz_up τ2.2.1 48 (((2 * e) + 1).toNatClampNeg) 1), τ2.2.2) (e + 1))))
theorem rlp_chk_c (rc : bz_S → Int32 → bz_S) (row : Int32) (σ : bz_S) (e : Int32) (τ1 : Int32 × bz_S) (τ3 : Int32 × bz_S) (ihc : ∀ (σ : bz_S) (e : Int32), bz_fr [48] σ (rc σ e)) (fτ1 : bz_fr [48] σ τ1.2) (fτ3 : bz_fr [48] σ τ3.2) : bz_fr [48] σ (lp_chk_c rc row σ e τ1 τ3) := by
  unfold lp_chk_c
  exact (bz_ite (bz_fr_tr (τ := ((bz_up τ3.2.1 48 (((2 * e) + 1).toNatClampNeg) 0), τ3.2.2)) ⟨(bz_f1_up (fτ3).1 (by decide)), (fτ3).2⟩ (ihc ((bz_up τ3.2.1 48 (((2 * e) + 1).toNatClampNeg) 0), τ3.2.2) (e + 1))) (bz_fr_tr (τ := ((bz_up τ3.2.1 48 (((2 * e) + 1).toNatClampNeg) 1), τ3.2.2)) ⟨(bz_f1_up (fτ3).1 (by decide)), (fτ3).2⟩ (ihc ((bz_up τ3.2.1 48 (((2 * e) + 1).toNatClampNeg) 1), τ3.2.2) (e + 1))))
theorem rlp_chk_a (rc : bz_S → Int32 → bz_S) (row : Int32) (σ : bz_S) (e : Int32) (τ1 : Int32 × bz_S) (ihc : ∀ (σ : bz_S) (e : Int32), bz_fr [48] σ (rc σ e)) (fτ1 : bz_fr [48] σ τ1.2) : bz_fr [48] σ (lp_chk_a rc row σ e τ1) := by
  unfold lp_chk_a
  exact (bz_ite (rlp_chk_b rc row σ e τ1 (f_X11_leastTake_32 ((bz_up τ1.2.1 48 ((2 * e).toNatClampNeg) 0), τ1.2.2) e 1) ihc fτ1 (bz_fr_tr (τ := ((bz_up τ1.2.1 48 ((2 * e).toNatClampNeg) 0), τ1.2.2)) ⟨(bz_f1_up (fτ1).1 (by decide)), (fτ1).2⟩ (bz_fr_mo (rf_X11_leastTake_32 ((bz_up τ1.2.1 48 ((2 * e).toNatClampNeg) 0), τ1.2.2) e 1) (by decide)))) (rlp_chk_c rc row σ e τ1 (f_X11_leastTake_32 ((bz_up τ1.2.1 48 ((2 * e).toNatClampNeg) 1), τ1.2.2) e 1) ihc fτ1 (bz_fr_tr (τ := ((bz_up τ1.2.1 48 ((2 * e).toNatClampNeg) 1), τ1.2.2)) ⟨(bz_f1_up (fτ1).1 (by decide)), (fτ1).2⟩ (bz_fr_mo (rf_X11_leastTake_32 ((bz_up τ1.2.1 48 ((2 * e).toNatClampNeg) 1), τ1.2.2) e 1) (by decide)))))
theorem rlp_chk (row : Int32) : ∀ (n : Nat) (σ : bz_S) (e : Int32), bz_fr [48] σ (lp_chk row n σ e) := by
  intro n
  induction n with
  | zero =>
    intro σ e
    rw [lp_chk]
    exact bz_fr_rf
  | succ n ihc =>
    intro σ e
    rw [lp_chk]
    exact (rlp_chk_a (lp_chk row n) row σ e (f_X11_leastTake_32 σ e 0) ihc (bz_fr_mo (rf_X11_leastTake_32 σ e 0) (by decide)))
theorem qlp_chk_b (rc : bz_S → Int32 → bz_S) (row : Int32) (σ : bz_S) (e : Int32) (τ1 : Int32 × bz_S) (τ2 : Int32 × bz_S) (ihc : ∀ (σ : bz_S) (e : Int32), bz_fo ([] : List Nat) σ (rc σ e)) (fτ1 : bz_fo ([] : List Nat) σ τ1.2) (fτ2 : bz_fo ([] : List Nat) σ τ2.2) : bz_fo ([] : List Nat) σ (lp_chk_b rc row σ e τ1 τ2) := by
  unfold lp_chk_b
  exact (bz_ite (bz_fo_tr (τ := ((bz_up τ2.2.1 48 (((2 * e) + 1).toNatClampNeg) 0), τ2.2.2)) (bz_fo_no (f := _) fτ2 (by decide)) (ihc ((bz_up τ2.2.1 48 (((2 * e) + 1).toNatClampNeg) 0), τ2.2.2) (e + 1))) (bz_fo_tr (τ := ((bz_up τ2.2.1 48 (((2 * e) + 1).toNatClampNeg) 1), τ2.2.2)) (bz_fo_no (f := _) fτ2 (by decide)) (ihc ((bz_up τ2.2.1 48 (((2 * e) + 1).toNatClampNeg) 1), τ2.2.2) (e + 1))))
theorem qlp_chk_c (rc : bz_S → Int32 → bz_S) (row : Int32) (σ : bz_S) (e : Int32) (τ1 : Int32 × bz_S) (τ3 : Int32 × bz_S) (ihc : ∀ (σ : bz_S) (e : Int32), bz_fo ([] : List Nat) σ (rc σ e)) (fτ1 : bz_fo ([] : List Nat) σ τ1.2) (fτ3 : bz_fo ([] : List Nat) σ τ3.2) : bz_fo ([] : List Nat) σ (lp_chk_c rc row σ e τ1 τ3) := by
  unfold lp_chk_c
  exact (bz_ite (bz_fo_tr (τ := ((bz_up τ3.2.1 48 (((2 * e) + 1).toNatClampNeg) 0), τ3.2.2)) (bz_fo_no (f := _) fτ3 (by decide)) (ihc ((bz_up τ3.2.1 48 (((2 * e) + 1).toNatClampNeg) 0), τ3.2.2) (e + 1))) (bz_fo_tr (τ := ((bz_up τ3.2.1 48 (((2 * e) + 1).toNatClampNeg) 1), τ3.2.2)) (bz_fo_no (f := _) fτ3 (by decide)) (ihc ((bz_up τ3.2.1 48 (((2 * e) + 1).toNatClampNeg) 1), τ3.2.2) (e + 1))))
theorem qlp_chk_a (rc : bz_S → Int32 → bz_S) (row : Int32) (σ : bz_S) (e : Int32) (τ1 : Int32 × bz_S) (ihc : ∀ (σ : bz_S) (e : Int32), bz_fo ([] : List Nat) σ (rc σ e)) (fτ1 : bz_fo ([] : List Nat) σ τ1.2) : bz_fo ([] : List Nat) σ (lp_chk_a rc row σ e τ1) := by
  unfold lp_chk_a
  exact (bz_ite (qlp_chk_b rc row σ e τ1 (f_X11_leastTake_32 ((bz_up τ1.2.1 48 ((2 * e).toNatClampNeg) 0), τ1.2.2) e 1) ihc fτ1 (bz_fo_tr (τ := ((bz_up τ1.2.1 48 ((2 * e).toNatClampNeg) 0), τ1.2.2)) (bz_fo_no (f := _) fτ1 (by decide)) (bz_fo_mo (qf_X11_leastTake_32 ((bz_up τ1.2.1 48 ((2 * e).toNatClampNeg) 0), τ1.2.2) e 1) (by decide)))) (qlp_chk_c rc row σ e τ1 (f_X11_leastTake_32 ((bz_up τ1.2.1 48 ((2 * e).toNatClampNeg) 1), τ1.2.2) e 1) ihc fτ1 (bz_fo_tr (τ := ((bz_up τ1.2.1 48 ((2 * e).toNatClampNeg) 1), τ1.2.2)) (bz_fo_no (f := _) fτ1 (by decide)) (bz_fo_mo (qf_X11_leastTake_32 ((bz_up τ1.2.1 48 ((2 * e).toNatClampNeg) 1), τ1.2.2) e 1) (by decide)))))
theorem qlp_chk (row : Int32) : ∀ (n : Nat) (σ : bz_S) (e : Int32), bz_fo ([] : List Nat) σ (lp_chk row n σ e) := by
  intro n
  induction n with
  | zero =>
    intro σ e
    rw [lp_chk]
    exact bz_fo_rf
  | succ n ihc =>
    intro σ e
    rw [lp_chk]
    exact (qlp_chk_a (lp_chk row n) row σ e (f_X11_leastTake_32 σ e 0) ihc (bz_fo_mo (qf_X11_leastTake_32 σ e 0) (by decide)))

def f_X11_chalk_32_b (σ : bz_S) (row : Int32) (miss : Int32) (what : Int32) (τ1 : bz_S) (τ2 : Int32 × bz_S) : Int32 × bz_S := if what = 1 then (τ2.1, τ2.2) else (if 0 ≤ τ2.1 then (1, τ2.2) else (0, τ2.2))
def f_X11_chalk_32_a (σ : bz_S) (row : Int32) (miss : Int32) (what : Int32) (τ1 : bz_S) : Int32 × bz_S := (f_X11_chalk_32_b σ row miss what τ1 (f_X11_leastTake_32 τ1 row miss))
def f_X11_chalk_32 (σ : bz_S) (row : Int32) (miss : Int32) (what : Int32) : Int32 × bz_S := if f_X11_in (Int32.toInt64 row) 0 999 = true then if f_X11_in (Int32.toInt64 miss) 0 1 = true then if f_X11_in (Int32.toInt64 what) 0 1 = true then (f_X11_chalk_32_a σ row miss what ((lp_chk row (row.toNatClampNeg + 1) σ 0))) else ((-2), σ) else ((-2), σ) else ((-2), σ)
set_option maxRecDepth 100000 in
theorem f_X11_chalk_32_blk1 {X : bz_X} (σ : bz_S) (row : Int32) (miss : Int32) (what : Int32) : bz_run X bt_X11_chalk 4 (0, [some (.ref 32), some (.int row), some (.int miss), some (.int what), none], [], σ) = some (True, (6, [some (.ref 32), some (.int row), some (.int miss), some (.int what), none], [.long 999, .long 0, .long (Int32.toInt64 row)], σ)) := rfl
set_option maxRecDepth 100000 in
theorem f_X11_chalk_32_blk2 {X : bz_X} (σ : bz_S) (row : Int32) (miss : Int32) (what : Int32) : bz_run X bt_X11_chalk 1 (9, [some (.ref 32), some (.int row), some (.int miss), some (.int what), none], [.int (bz_b (f_X11_in (Int32.toInt64 row) 0 999))], σ) = some (True, if bz_b (f_X11_in (Int32.toInt64 row) 0 999) = 0 then (32, [some (.ref 32), some (.int row), some (.int miss), some (.int what), none], [], σ) else (12, [some (.ref 32), some (.int row), some (.int miss), some (.int what), none], [], σ)) := rfl
set_option maxRecDepth 100000 in
theorem f_X11_chalk_32_blk3 {X : bz_X} (σ : bz_S) (row : Int32) (miss : Int32) (what : Int32) : bz_run X bt_X11_chalk 1 (32, [some (.ref 32), some (.int row), some (.int miss), some (.int what), none], [], σ) = some (True, (34, [some (.ref 32), some (.int row), some (.int miss), some (.int what), none], [.int (-2)], σ)) := rfl
set_option maxRecDepth 100000 in
theorem f_X11_chalk_32_blk4 {X : bz_X} (σ : bz_S) (row : Int32) (miss : Int32) (what : Int32) : bz_run X bt_X11_chalk 4 (12, [some (.ref 32), some (.int row), some (.int miss), some (.int what), none], [], σ) = some (True, (16, [some (.ref 32), some (.int row), some (.int miss), some (.int what), none], [.long 1, .long 0, .long (Int32.toInt64 miss)], σ)) := rfl
set_option maxRecDepth 100000 in
theorem f_X11_chalk_32_blk5 {X : bz_X} (σ : bz_S) (row : Int32) (miss : Int32) (what : Int32) : bz_run X bt_X11_chalk 1 (19, [some (.ref 32), some (.int row), some (.int miss), some (.int what), none], [.int (bz_b (f_X11_in (Int32.toInt64 miss) 0 1))], σ) = some (True, if bz_b (f_X11_in (Int32.toInt64 miss) 0 1) = 0 then (32, [some (.ref 32), some (.int row), some (.int miss), some (.int what), none], [], σ) else (22, [some (.ref 32), some (.int row), some (.int miss), some (.int what), none], [], σ)) := rfl
set_option maxRecDepth 100000 in
theorem f_X11_chalk_32_blk6 {X : bz_X} (σ : bz_S) (row : Int32) (miss : Int32) (what : Int32) : bz_run X bt_X11_chalk 1 (32, [some (.ref 32), some (.int row), some (.int miss), some (.int what), none], [], σ) = some (True, (34, [some (.ref 32), some (.int row), some (.int miss), some (.int what), none], [.int (-2)], σ)) := rfl
set_option maxRecDepth 100000 in
theorem f_X11_chalk_32_blk7 {X : bz_X} (σ : bz_S) (row : Int32) (miss : Int32) (what : Int32) : bz_run X bt_X11_chalk 4 (22, [some (.ref 32), some (.int row), some (.int miss), some (.int what), none], [], σ) = some (True, (26, [some (.ref 32), some (.int row), some (.int miss), some (.int what), none], [.long 1, .long 0, .long (Int32.toInt64 what)], σ)) := rfl
set_option maxRecDepth 100000 in
theorem f_X11_chalk_32_blk8 {X : bz_X} (σ : bz_S) (row : Int32) (miss : Int32) (what : Int32) : bz_run X bt_X11_chalk 1 (29, [some (.ref 32), some (.int row), some (.int miss), some (.int what), none], [.int (bz_b (f_X11_in (Int32.toInt64 what) 0 1))], σ) = some (True, if ¬ bz_b (f_X11_in (Int32.toInt64 what) 0 1) = 0 then (35, [some (.ref 32), some (.int row), some (.int miss), some (.int what), none], [], σ) else (32, [some (.ref 32), some (.int row), some (.int miss), some (.int what), none], [], σ)) := rfl
set_option maxRecDepth 100000 in
theorem f_X11_chalk_32_blk9 {X : bz_X} (σ : bz_S) (row : Int32) (miss : Int32) (what : Int32) : bz_run X bt_X11_chalk 2 (35, [some (.ref 32), some (.int row), some (.int miss), some (.int what), none], [], σ) = some (True, (38, [some (.ref 32), some (.int row), some (.int miss), some (.int what), some (.int 0)], [], σ)) := rfl
set_option maxRecDepth 100000 in
theorem f_X11_chalk_32_blk10 {X : bz_X} (σ : bz_S) (row : Int32) (miss : Int32) (what : Int32) (τ1 : bz_S) : bz_run X bt_X11_chalk 3 (100, [some (.ref 32), some (.int row), some (.int miss), some (.int what), none], [], τ1) = some (True, (103, [some (.ref 32), some (.int row), some (.int miss), some (.int what), none], [.int miss, .int row, .ref 32], τ1)) := rfl
set_option maxRecDepth 100000 in
theorem f_X11_chalk_32_blk11 {X : bz_X} (σ : bz_S) (row : Int32) (miss : Int32) (what : Int32) (τ1 : bz_S) (τ2 : Int32 × bz_S) : bz_run X bt_X11_chalk 4 (106, [some (.ref 32), some (.int row), some (.int miss), some (.int what), none], [.int τ2.1], τ2.2) = some (True, if ¬ what = 1 then (118, [some (.ref 32), some (.int row), some (.int miss), some (.int what), some (.int τ2.1)], [], τ2.2) else (113, [some (.ref 32), some (.int row), some (.int miss), some (.int what), some (.int τ2.1)], [], τ2.2)) := rfl
set_option maxRecDepth 100000 in
theorem f_X11_chalk_32_blk12 {X : bz_X} (σ : bz_S) (row : Int32) (miss : Int32) (what : Int32) (τ1 : bz_S) (τ2 : Int32 × bz_S) : bz_run X bt_X11_chalk 2 (118, [some (.ref 32), some (.int row), some (.int miss), some (.int what), some (.int τ2.1)], [], τ2.2) = some (True, if 0 ≤ τ2.1 then (127, [some (.ref 32), some (.int row), some (.int miss), some (.int what), some (.int τ2.1)], [], τ2.2) else (123, [some (.ref 32), some (.int row), some (.int miss), some (.int what), some (.int τ2.1)], [], τ2.2)) := rfl
set_option maxRecDepth 100000 in
theorem f_X11_chalk_32_blk13 {X : bz_X} (σ : bz_S) (row : Int32) (miss : Int32) (what : Int32) (τ1 : bz_S) (τ2 : Int32 × bz_S) : bz_run X bt_X11_chalk 1 (127, [some (.ref 32), some (.int row), some (.int miss), some (.int what), some (.int τ2.1)], [], τ2.2) = some (True, (128, [some (.ref 32), some (.int row), some (.int miss), some (.int what), some (.int τ2.1)], [.int 1], τ2.2)) := rfl
set_option maxRecDepth 100000 in
theorem f_X11_chalk_32_blk14 {X : bz_X} (σ : bz_S) (row : Int32) (miss : Int32) (what : Int32) (τ1 : bz_S) (τ2 : Int32 × bz_S) : bz_run X bt_X11_chalk 2 (123, [some (.ref 32), some (.int row), some (.int miss), some (.int what), some (.int τ2.1)], [], τ2.2) = some (True, (128, [some (.ref 32), some (.int row), some (.int miss), some (.int what), some (.int τ2.1)], [.int 0], τ2.2)) := rfl
set_option maxRecDepth 100000 in
theorem f_X11_chalk_32_blk15 {X : bz_X} (σ : bz_S) (row : Int32) (miss : Int32) (what : Int32) (τ1 : bz_S) (τ2 : Int32 × bz_S) : bz_run X bt_X11_chalk 2 (113, [some (.ref 32), some (.int row), some (.int miss), some (.int what), some (.int τ2.1)], [], τ2.2) = some (True, (128, [some (.ref 32), some (.int row), some (.int miss), some (.int what), some (.int τ2.1)], [.int τ2.1], τ2.2)) := rfl
set_option maxRecDepth 100000 in
theorem f_X11_chalk_32_blk16 {X : bz_X} (σ : bz_S) (row : Int32) (miss : Int32) (what : Int32) : bz_run X bt_X11_chalk 1 (32, [some (.ref 32), some (.int row), some (.int miss), some (.int what), none], [], σ) = some (True, (34, [some (.ref 32), some (.int row), some (.int miss), some (.int what), none], [.int (-2)], σ)) := rfl
set_option maxRecDepth 100000 in
theorem s_X11_chalk_32 {X : bz_X} (σ : bz_S) (row : Int32) (miss : Int32) (what : Int32) : bz_C bz_P X mX11_chalk [.ref 32, .int row, .int miss, .int what] σ (bz_pi (f_X11_chalk_32 σ row miss what).1 (f_X11_chalk_32 σ row miss what).2) := by
  show bz_wp bz_P X mX11_chalk (bz_pi (f_X11_chalk_32 σ row miss what).1 (f_X11_chalk_32 σ row miss what).2) (0, [some (.ref 32), some (.int row), some (.int miss), some (.int what), none], [], σ)
  refine bz_wpn bT_X11_chalk 4 (b := (6, [some (.ref 32), some (.int row), some (.int miss), some (.int what), none], [.long 999, .long 0, .long (Int32.toInt64 row)], σ)) (G := True) (f_X11_chalk_32_blk1 σ row miss what) trivial ?_
  refine bz_wci bT_X11_chalk [.long (Int32.toInt64 row), .long 0, .long 999] (pc' := 9) (rest := []) rfl rfl (Nat.le_of_ble_eq_true rfl) rfl (Nat.le_of_ble_eq_true rfl) rfl (s_X11_in σ (Int32.toInt64 row) 0 999) rfl ?_
  refine bz_wpb bT_X11_chalk 1 (b1 := (32, [some (.ref 32), some (.int row), some (.int miss), some (.int what), none], [], σ)) (b2 := (12, [some (.ref 32), some (.int row), some (.int miss), some (.int what), none], [], σ)) (C := bz_b (f_X11_in (Int32.toInt64 row) 0 999) = 0) (G := True) (f_X11_chalk_32_blk2 σ row miss what) trivial (fun h1 => ?_) (fun h1 => ?_)
  · skip
    have h1 := bz_b0 h1
    refine bz_wpn bT_X11_chalk 1 (b := (34, [some (.ref 32), some (.int row), some (.int miss), some (.int what), none], [.int (-2)], σ)) (G := True) (f_X11_chalk_32_blk3 σ row miss what) trivial ?_
    refine bz_wpr bT_X11_chalk rfl rfl trivial ?_
    have e9 : f_X11_chalk_32 σ row miss what = ((-2), σ) := by rw [f_X11_chalk_32, if_neg (bz_ff h1)]
    exact ⟨by rw [e9], by rw [e9]⟩
  · skip
    have h1 := bz_b1 h1
    refine bz_wpn bT_X11_chalk 4 (b := (16, [some (.ref 32), some (.int row), some (.int miss), some (.int what), none], [.long 1, .long 0, .long (Int32.toInt64 miss)], σ)) (G := True) (f_X11_chalk_32_blk4 σ row miss what) trivial ?_
    refine bz_wci bT_X11_chalk [.long (Int32.toInt64 miss), .long 0, .long 1] (pc' := 19) (rest := []) rfl rfl (Nat.le_of_ble_eq_true rfl) rfl (Nat.le_of_ble_eq_true rfl) rfl (s_X11_in σ (Int32.toInt64 miss) 0 1) rfl ?_
    refine bz_wpb bT_X11_chalk 1 (b1 := (32, [some (.ref 32), some (.int row), some (.int miss), some (.int what), none], [], σ)) (b2 := (22, [some (.ref 32), some (.int row), some (.int miss), some (.int what), none], [], σ)) (C := bz_b (f_X11_in (Int32.toInt64 miss) 0 1) = 0) (G := True) (f_X11_chalk_32_blk5 σ row miss what) trivial (fun h2 => ?_) (fun h2 => ?_)
    · skip
      have h2 := bz_b0 h2
      refine bz_wpn bT_X11_chalk 1 (b := (34, [some (.ref 32), some (.int row), some (.int miss), some (.int what), none], [.int (-2)], σ)) (G := True) (f_X11_chalk_32_blk6 σ row miss what) trivial ?_
      refine bz_wpr bT_X11_chalk rfl rfl trivial ?_
      have e9 : f_X11_chalk_32 σ row miss what = ((-2), σ) := by rw [f_X11_chalk_32, if_pos (h1), if_neg (bz_ff h2)]
      exact ⟨by rw [e9], by rw [e9]⟩
    · skip
      have h2 := bz_b1 h2
      refine bz_wpn bT_X11_chalk 4 (b := (26, [some (.ref 32), some (.int row), some (.int miss), some (.int what), none], [.long 1, .long 0, .long (Int32.toInt64 what)], σ)) (G := True) (f_X11_chalk_32_blk7 σ row miss what) trivial ?_
      refine bz_wci bT_X11_chalk [.long (Int32.toInt64 what), .long 0, .long 1] (pc' := 29) (rest := []) rfl rfl (Nat.le_of_ble_eq_true rfl) rfl (Nat.le_of_ble_eq_true rfl) rfl (s_X11_in σ (Int32.toInt64 what) 0 1) rfl ?_
      refine bz_wpb bT_X11_chalk 1 (b1 := (35, [some (.ref 32), some (.int row), some (.int miss), some (.int what), none], [], σ)) (b2 := (32, [some (.ref 32), some (.int row), some (.int miss), some (.int what), none], [], σ)) (C := ¬ bz_b (f_X11_in (Int32.toInt64 what) 0 1) = 0) (G := True) (f_X11_chalk_32_blk8 σ row miss what) trivial (fun h3 => ?_) (fun h3 => ?_)
      · skip
        have h3 := bz_b1 h3
        refine bz_wpn bT_X11_chalk 2 (b := (38, [some (.ref 32), some (.int row), some (.int miss), some (.int what), some (.int 0)], [], σ)) (G := True) (f_X11_chalk_32_blk9 σ row miss what) trivial ?_
        refine s_lp_chk row miss what (bz_mr999 (x := row) (by assumption)).choose (bz_mr999 (x := row) (by assumption)).choose_spec.2 (bz_mr999 (x := row) (by assumption)).choose_spec.1 (row.toNatClampNeg + 1) σ 0 0 rfl (by have q := (bz_mr999 (x := row) (by assumption)).choose_spec; rw [congrArg Int32.toNatClampNeg q.2, nI_clamp (by omega)]; omega) ?_
        generalize hτ1 : (lp_chk row (row.toNatClampNeg + 1) σ 0) = τ1
        refine bz_wpn bT_X11_chalk 3 (b := (103, [some (.ref 32), some (.int row), some (.int miss), some (.int what), none], [.int miss, .int row, .ref 32], τ1)) (G := True) (f_X11_chalk_32_blk10 σ row miss what τ1) trivial ?_
        refine bz_wci bT_X11_chalk [.ref 32, .int row, .int miss] (pc' := 106) (rest := []) rfl rfl (Nat.le_of_ble_eq_true rfl) rfl (Nat.le_of_ble_eq_true rfl) rfl (s_X11_leastTake_32 τ1 row miss (bz_mr999 (by assumption)) (bz_m01 (x := miss) (by assumption))) rfl ?_
        generalize hτ2 : f_X11_leastTake_32 τ1 row miss = τ2
        refine bz_wpb bT_X11_chalk 4 (b1 := (118, [some (.ref 32), some (.int row), some (.int miss), some (.int what), some (.int τ2.1)], [], τ2.2)) (b2 := (113, [some (.ref 32), some (.int row), some (.int miss), some (.int what), some (.int τ2.1)], [], τ2.2)) (C := ¬ what = 1) (G := True) (f_X11_chalk_32_blk11 σ row miss what τ1 τ2) trivial (fun h4 => ?_) (fun h4 => ?_)
        · skip
          refine bz_wpb bT_X11_chalk 2 (b1 := (127, [some (.ref 32), some (.int row), some (.int miss), some (.int what), some (.int τ2.1)], [], τ2.2)) (b2 := (123, [some (.ref 32), some (.int row), some (.int miss), some (.int what), some (.int τ2.1)], [], τ2.2)) (C := 0 ≤ τ2.1) (G := True) (f_X11_chalk_32_blk12 σ row miss what τ1 τ2) trivial (fun h5 => ?_) (fun h5 => ?_)
          · skip
            refine bz_wpn bT_X11_chalk 1 (b := (128, [some (.ref 32), some (.int row), some (.int miss), some (.int what), some (.int τ2.1)], [.int 1], τ2.2)) (G := True) (f_X11_chalk_32_blk13 σ row miss what τ1 τ2) trivial ?_
            refine bz_wpr bT_X11_chalk rfl rfl trivial ?_
            have e9 : f_X11_chalk_32 σ row miss what = (1, τ2.2) := by rw [f_X11_chalk_32, if_pos (h1), if_pos (h2), if_pos (h3), hτ1, f_X11_chalk_32_a, hτ2, f_X11_chalk_32_b, if_neg (h4), if_pos (h5)]
            exact ⟨by rw [e9], by rw [e9]⟩
          · skip
            refine bz_wpn bT_X11_chalk 2 (b := (128, [some (.ref 32), some (.int row), some (.int miss), some (.int what), some (.int τ2.1)], [.int 0], τ2.2)) (G := True) (f_X11_chalk_32_blk14 σ row miss what τ1 τ2) trivial ?_
            refine bz_wpr bT_X11_chalk rfl rfl trivial ?_
            have e9 : f_X11_chalk_32 σ row miss what = (0, τ2.2) := by rw [f_X11_chalk_32, if_pos (h1), if_pos (h2), if_pos (h3), hτ1, f_X11_chalk_32_a, hτ2, f_X11_chalk_32_b, if_neg (h4), if_neg (h5)]
            exact ⟨by rw [e9], by rw [e9]⟩
        · skip
          refine bz_wpn bT_X11_chalk 2 (b := (128, [some (.ref 32), some (.int row), some (.int miss), some (.int what), some (.int τ2.1)], [.int τ2.1], τ2.2)) (G := True) (f_X11_chalk_32_blk15 σ row miss what τ1 τ2) trivial ?_
          refine bz_wpr bT_X11_chalk rfl rfl trivial ?_
          have e9 : f_X11_chalk_32 σ row miss what = (τ2.1, τ2.2) := by rw [f_X11_chalk_32, if_pos (h1), if_pos (h2), if_pos (h3), hτ1, f_X11_chalk_32_a, hτ2, f_X11_chalk_32_b, if_pos ((Decidable.not_not.mp h4))]
          exact ⟨by rw [e9], by rw [e9]⟩
      · skip
        have h3 := bz_b0 (Decidable.not_not.mp h3)
        refine bz_wpn bT_X11_chalk 1 (b := (34, [some (.ref 32), some (.int row), some (.int miss), some (.int what), none], [.int (-2)], σ)) (G := True) (f_X11_chalk_32_blk16 σ row miss what) trivial ?_
        refine bz_wpr bT_X11_chalk rfl rfl trivial ?_
        have e9 : f_X11_chalk_32 σ row miss what = ((-2), σ) := by rw [f_X11_chalk_32, if_pos (h1), if_pos (h2), if_neg (bz_ff h3)]
        exact ⟨by rw [e9], by rw [e9]⟩
theorem rf_X11_chalk_32_b (σ : bz_S) (row : Int32) (miss : Int32) (what : Int32) (τ1 : bz_S) (τ2 : Int32 × bz_S) (fτ1 : bz_fr [48] σ τ1) (fτ2 : bz_fr [48] σ τ2.2) : bz_fr [48] σ (f_X11_chalk_32_b σ row miss what τ1 τ2).2 := by
  unfold f_X11_chalk_32_b
  exact (bz_ite2 fτ2 (bz_ite2 fτ2 fτ2))
theorem rf_X11_chalk_32_a (σ : bz_S) (row : Int32) (miss : Int32) (what : Int32) (τ1 : bz_S) (fτ1 : bz_fr [48] σ τ1) : bz_fr [48] σ (f_X11_chalk_32_a σ row miss what τ1).2 := by
  unfold f_X11_chalk_32_a
  exact (rf_X11_chalk_32_b σ row miss what τ1 (f_X11_leastTake_32 τ1 row miss) fτ1 (bz_fr_tr (τ := τ1) fτ1 (bz_fr_mo (rf_X11_leastTake_32 τ1 row miss) (by decide))))
theorem rf_X11_chalk_32 (σ : bz_S) (row : Int32) (miss : Int32) (what : Int32) : bz_fr [48] σ (f_X11_chalk_32 σ row miss what).2 := by
  unfold f_X11_chalk_32
  exact (bz_ite2 (bz_ite2 (bz_ite2 (rf_X11_chalk_32_a σ row miss what ((lp_chk row (row.toNatClampNeg + 1) σ 0)) (bz_fr_mo (rlp_chk row (row.toNatClampNeg + 1) σ 0) (by decide))) bz_fr_rf) bz_fr_rf) bz_fr_rf)
theorem qf_X11_chalk_32_b (σ : bz_S) (row : Int32) (miss : Int32) (what : Int32) (τ1 : bz_S) (τ2 : Int32 × bz_S) (fτ1 : bz_fo ([] : List Nat) σ τ1) (fτ2 : bz_fo ([] : List Nat) σ τ2.2) : bz_fo ([] : List Nat) σ (f_X11_chalk_32_b σ row miss what τ1 τ2).2 := by
  unfold f_X11_chalk_32_b
  exact (bz_ite2 fτ2 (bz_ite2 fτ2 fτ2))
theorem qf_X11_chalk_32_a (σ : bz_S) (row : Int32) (miss : Int32) (what : Int32) (τ1 : bz_S) (fτ1 : bz_fo ([] : List Nat) σ τ1) : bz_fo ([] : List Nat) σ (f_X11_chalk_32_a σ row miss what τ1).2 := by
  unfold f_X11_chalk_32_a
  exact (qf_X11_chalk_32_b σ row miss what τ1 (f_X11_leastTake_32 τ1 row miss) fτ1 (bz_fo_tr (τ := τ1) fτ1 (bz_fo_mo (qf_X11_leastTake_32 τ1 row miss) (by decide))))
theorem qf_X11_chalk_32 (σ : bz_S) (row : Int32) (miss : Int32) (what : Int32) : bz_fo ([] : List Nat) σ (f_X11_chalk_32 σ row miss what).2 := by
  unfold f_X11_chalk_32
  exact (bz_ite2 (bz_ite2 (bz_ite2 (qf_X11_chalk_32_a σ row miss what ((lp_chk row (row.toNatClampNeg + 1) σ 0)) (bz_fo_mo (qlp_chk row (row.toNatClampNeg + 1) σ 0) (by decide))) bz_fo_rf) bz_fo_rf) bz_fo_rf)
