theorem bz_cu (R U : Nat) : R / U % 10 * U ≤ R := Nat.le_trans (Nat.mul_le_mul_right U (Nat.mod_le _ _)) (Nat.div_mul_le_self R U)
theorem bz_wmi {row ta un : Int32} {R T U C : Nat} (hR : row = nI R) (hT : ta = nI T) (hU : un = nI U) (h : C * U ≤ R) (h2 : T ≤ C) : ¬ row - (ta * un) < 0 ∨ 2 ^ 31 ≤ R := by
  by_cases hb : R < 2 ^ 31
  · refine Or.inl ?_
    have h3 : T * U ≤ R := Nat.le_trans (Nat.mul_le_mul_right U h2) h
    rw [hR, hT, hU, bz_mulN, bz_subN h3]
    exact nI_pos (by omega)
  · exact Or.inr (by omega)

def lp_wm (row : Int32) (mf : Int32) : Nat → bz_S → Int32 → Int32 → Int32 → Int32 → Int32
  | 0, σ, he, un, ch, ta => 0
  | n + 1, σ, he, un, ch, ta => if ch < ta then if 3 ≤ (he + 1) then if mf = 0 then (-6) else (if row = 0 then (-6) else (if f_X0_isLost_17 σ row 0 = true then 99 else (-6))) else (if (he + 1) = 0 then (lp_wm row mf n σ (he + 1) 100 ((row / 100) % 10) 1) else (if (he + 1) = 1 then (lp_wm row mf n σ (he + 1) 10 ((row / 10) % 10) 1) else (lp_wm row mf n σ (he + 1) 1 ((row / 1) % 10) 1))) else (if f_X0_isLost_17 σ (row - (ta * un)) mf = true then ((10 * he) + ta) else (lp_wm row mf n σ he un ch (ta + 1)))
set_option maxRecDepth 100000 in
theorem s_lp_wm {X : bz_X} (row : Int32) (mf : Int32) (R : Nat) (hR : row = nI R) (hR2 : R < 1000) : ∀ (n : Nat) (σ : bz_S) (he : Int32) (un : Int32) (ch : Int32) (ta : Int32) (H9 : Nat) (U9 : Nat) (C9 : Nat) (T9 : Nat) (gH : he = nI H9) (gU : un = nI U9) (gC : ch = nI C9) (gT : ta = nI T9) (gb : H9 ≤ 2 ∧ 0 < U9 ∧ C9 * U9 ≤ R ∧ C9 ≤ 9 ∧ 1 ≤ T9 ∧ T9 ≤ C9 + 1 ∧ (2 - H9) * 10 + (10 - T9) + 1 ≤ n), bz_wp bz_P X mX0_winningMove (bz_pi (lp_wm row mf n σ he un ch ta) σ) (45, [some (.ref 17), some (.int row), some (.int mf), some (.int he), some (.int un), some (.int ch), some (.int ta)], [], σ) := by
  intro n
  induction n with
  | zero =>
    intro σ he un ch ta H9 U9 C9 T9 gH gU gC gT gb
    exact absurd gb.2.2.2.2.2.2 (by omega)
  | succ n ih =>
    intro σ he un ch ta H9 U9 C9 T9 gH gU gC gT gb
    refine bz_wpb bT_X0_winningMove 3 (b1 := (81, [some (.ref 17), some (.int row), some (.int mf), some (.int he), some (.int un), some (.int ch), some (.int ta)], [], σ)) (b2 := (52, [some (.ref 17), some (.int row), some (.int mf), some (.int he), some (.int un), some (.int ch), some (.int ta)], [], σ)) (C := ch < ta) (G := True) rfl trivial (fun h1 => ?_) (fun h1 => ?_)
    · skip
      refine bz_wpb bT_X0_winningMove 5 (b1 := (87, [some (.ref 17), some (.int row), some (.int mf), some (.int (he + 1)), some (.int un), some (.int ch), some (.int ta)], [], σ)) (b2 := (11, [some (.ref 17), some (.int row), some (.int mf), some (.int (he + 1)), some (.int un), some (.int ch), some (.int ta)], [], σ)) (C := 3 ≤ (he + 1)) (G := True) rfl trivial (fun h2 => ?_) (fun h2 => ?_)
      · skip
        refine bz_wpb bT_X0_winningMove 2 (b1 := (109, [some (.ref 17), some (.int row), some (.int mf), some (.int (he + 1)), some (.int un), some (.int ch), some (.int ta)], [], σ)) (b2 := (91, [some (.ref 17), some (.int row), some (.int mf), some (.int (he + 1)), some (.int un), some (.int ch), some (.int ta)], [], σ)) (C := mf = 0) (G := True) rfl trivial (fun h3 => ?_) (fun h3 => ?_)
        · skip
          refine bz_wpn bT_X0_winningMove 1 (b := (111, [some (.ref 17), some (.int row), some (.int mf), some (.int (he + 1)), some (.int un), some (.int ch), some (.int ta)], [.int (-6)], σ)) (G := True) rfl trivial ?_
          refine bz_wpr bT_X0_winningMove rfl rfl trivial ?_
          have e9 : lp_wm row mf (n + 1) σ he un ch ta = (-6) := by rw [lp_wm, if_pos (h1), if_pos (h2), if_pos (h3)]
          exact ⟨by rw [e9], rfl⟩
        · skip
          refine bz_wpb bT_X0_winningMove 2 (b1 := (109, [some (.ref 17), some (.int row), some (.int mf), some (.int (he + 1)), some (.int un), some (.int ch), some (.int ta)], [], σ)) (b2 := (95, [some (.ref 17), some (.int row), some (.int mf), some (.int (he + 1)), some (.int un), some (.int ch), some (.int ta)], [], σ)) (C := row = 0) (G := True) rfl trivial (fun h4 => ?_) (fun h4 => ?_)
          · skip
            refine bz_wpn bT_X0_winningMove 1 (b := (111, [some (.ref 17), some (.int row), some (.int mf), some (.int (he + 1)), some (.int un), some (.int ch), some (.int ta)], [.int (-6)], σ)) (G := True) rfl trivial ?_
            refine bz_wpr bT_X0_winningMove rfl rfl trivial ?_
            have e9 : lp_wm row mf (n + 1) σ he un ch ta = (-6) := by rw [lp_wm, if_pos (h1), if_pos (h2), if_neg (h3), if_pos (h4)]
            exact ⟨by rw [e9], rfl⟩
          · skip
            refine bz_wpn bT_X0_winningMove 3 (b := (98, [some (.ref 17), some (.int row), some (.int mf), some (.int (he + 1)), some (.int un), some (.int ch), some (.int ta)], [.int 0, .int row, .ref 17], σ)) (G := True) rfl trivial ?_
            refine bz_wci bT_X0_winningMove [.ref 17, .int row, .int 0] (pc' := 101) (rest := []) rfl rfl (Nat.le_of_ble_eq_true rfl) rfl (Nat.le_of_ble_eq_true rfl) rfl (s_X0_isLost_17 σ row 0 (by rw [hR]; exact nI_pos (by omega))) rfl ?_
            refine bz_wpb bT_X0_winningMove 1 (b1 := (109, [some (.ref 17), some (.int row), some (.int mf), some (.int (he + 1)), some (.int un), some (.int ch), some (.int ta)], [], σ)) (b2 := (104, [some (.ref 17), some (.int row), some (.int mf), some (.int (he + 1)), some (.int un), some (.int ch), some (.int ta)], [], σ)) (C := bz_b (f_X0_isLost_17 σ row 0) = 0) (G := True) rfl trivial (fun h5 => ?_) (fun h5 => ?_)
            · skip
              have h5 := bz_b0 h5
              refine bz_wpn bT_X0_winningMove 1 (b := (111, [some (.ref 17), some (.int row), some (.int mf), some (.int (he + 1)), some (.int un), some (.int ch), some (.int ta)], [.int (-6)], σ)) (G := True) rfl trivial ?_
              refine bz_wpr bT_X0_winningMove rfl rfl trivial ?_
              have e9 : lp_wm row mf (n + 1) σ he un ch ta = (-6) := by rw [lp_wm, if_pos (h1), if_pos (h2), if_neg (h3), if_neg (h4), if_neg (bz_ff h5)]
              exact ⟨by rw [e9], rfl⟩
            · skip
              have h5 := bz_b1 h5
              refine bz_wpn bT_X0_winningMove 2 (b := (111, [some (.ref 17), some (.int row), some (.int mf), some (.int (he + 1)), some (.int un), some (.int ch), some (.int ta)], [.int 99], σ)) (G := True) rfl trivial ?_
              refine bz_wpr bT_X0_winningMove rfl rfl trivial ?_
              have e9 : lp_wm row mf (n + 1) σ he un ch ta = 99 := by rw [lp_wm, if_pos (h1), if_pos (h2), if_neg (h3), if_neg (h4), if_pos (h5)]
              exact ⟨by rw [e9], rfl⟩
      · skip
        refine bz_wpb bT_X0_winningMove 2 (b1 := (20, [some (.ref 17), some (.int row), some (.int mf), some (.int (he + 1)), some (.int un), some (.int ch), some (.int ta)], [], σ)) (b2 := (15, [some (.ref 17), some (.int row), some (.int mf), some (.int (he + 1)), some (.int un), some (.int ch), some (.int ta)], [], σ)) (C := ¬ (he + 1) = 0) (G := True) rfl trivial (fun h6 => ?_) (fun h6 => ?_)
        · skip
          refine bz_wpb bT_X0_winningMove 3 (b1 := (30, [some (.ref 17), some (.int row), some (.int mf), some (.int (he + 1)), some (.int un), some (.int ch), some (.int ta)], [], σ)) (b2 := (25, [some (.ref 17), some (.int row), some (.int mf), some (.int (he + 1)), some (.int un), some (.int ch), some (.int ta)], [], σ)) (C := ¬ (he + 1) = 1) (G := True) rfl trivial (fun h7 => ?_) (fun h7 => ?_)
          · skip
            refine bz_wpn bT_X0_winningMove 10 (b := (45, [some (.ref 17), some (.int row), some (.int mf), some (.int (he + 1)), some (.int 1), some (.int ((row / 1) % 10)), some (.int 1)], [], σ)) (G := ¬ (1 : Int32) = 0 ∧ ¬ (10 : Int32) = 0 ∧ True) rfl ⟨(by decide), (by decide), trivial⟩ ?_
            have e9 : lp_wm row mf (n + 1) σ he un ch ta = (lp_wm row mf n σ (he + 1) 1 ((row / 1) % 10) 1) := by rw [lp_wm, if_pos (h1), if_neg (h2), if_neg (h6), if_neg (h7)]
            rw [e9]
            exact ih σ (he + 1) 1 ((row / 1) % 10) 1 (H9 + 1) 1 (R / 1 % 10) 1 (by rw [gH]; exact nI_1 H9) rfl (by rw [hR]; exact (congrArg (fun z => z % 10) (bz_divN (d := 1) (by omega) (by decide) (by decide))).trans (bz_modN (d := 10) (by omega) (by decide) (by decide))) rfl (by have := bz_cu R 1; have q1 : H9 + 1 < 3 := by { have := (mt (nI_leI (a := 3) (b := H9 + 1) (by decide) (by omega)).mpr (by rw [show nI (H9 + 1) = he + 1 from by rw [gH]; exact (nI_1 H9).symm]; exact h2)); omega }; exact ⟨by omega, by decide, this, by omega, by omega, by omega, by omega⟩)
          · skip
            refine bz_wpn bT_X0_winningMove 11 (b := (45, [some (.ref 17), some (.int row), some (.int mf), some (.int (he + 1)), some (.int 10), some (.int ((row / 10) % 10)), some (.int 1)], [], σ)) (G := ¬ (10 : Int32) = 0 ∧ ¬ (10 : Int32) = 0 ∧ True) rfl ⟨(by decide), (by decide), trivial⟩ ?_
            have e9 : lp_wm row mf (n + 1) σ he un ch ta = (lp_wm row mf n σ (he + 1) 10 ((row / 10) % 10) 1) := by rw [lp_wm, if_pos (h1), if_neg (h2), if_neg (h6), if_pos ((Decidable.not_not.mp h7))]
            rw [e9]
            exact ih σ (he + 1) 10 ((row / 10) % 10) 1 (H9 + 1) 10 (R / 10 % 10) 1 (by rw [gH]; exact nI_1 H9) rfl (by rw [hR]; exact (congrArg (fun z => z % 10) (bz_divN (d := 10) (by omega) (by decide) (by decide))).trans (bz_modN (d := 10) (by omega) (by decide) (by decide))) rfl (by have := bz_cu R 10; have q1 : H9 + 1 < 3 := by { have := (mt (nI_leI (a := 3) (b := H9 + 1) (by decide) (by omega)).mpr (by rw [show nI (H9 + 1) = he + 1 from by rw [gH]; exact (nI_1 H9).symm]; exact h2)); omega }; exact ⟨by omega, by decide, this, by omega, by omega, by omega, by omega⟩)
        · skip
          refine bz_wpn bT_X0_winningMove 11 (b := (45, [some (.ref 17), some (.int row), some (.int mf), some (.int (he + 1)), some (.int 100), some (.int ((row / 100) % 10)), some (.int 1)], [], σ)) (G := ¬ (100 : Int32) = 0 ∧ ¬ (10 : Int32) = 0 ∧ True) rfl ⟨(by decide), (by decide), trivial⟩ ?_
          have e9 : lp_wm row mf (n + 1) σ he un ch ta = (lp_wm row mf n σ (he + 1) 100 ((row / 100) % 10) 1) := by rw [lp_wm, if_pos (h1), if_neg (h2), if_pos ((Decidable.not_not.mp h6))]
          rw [e9]
          exact ih σ (he + 1) 100 ((row / 100) % 10) 1 (H9 + 1) 100 (R / 100 % 10) 1 (by rw [gH]; exact nI_1 H9) rfl (by rw [hR]; exact (congrArg (fun z => z % 10) (bz_divN (d := 100) (by omega) (by decide) (by decide))).trans (bz_modN (d := 10) (by omega) (by decide) (by decide))) rfl (by have := bz_cu R 100; have q1 : H9 + 1 < 3 := by { have := (mt (nI_leI (a := 3) (b := H9 + 1) (by decide) (by omega)).mpr (by rw [show nI (H9 + 1) = he + 1 from by rw [gH]; exact (nI_1 H9).symm]; exact h2)); omega }; exact ⟨by omega, by decide, this, by omega, by omega, by omega, by omega⟩)
    · skip
      refine bz_wpn bT_X0_winningMove 7 (b := (61, [some (.ref 17), some (.int row), some (.int mf), some (.int he), some (.int un), some (.int ch), some (.int ta)], [.int mf, .int (row - (ta * un)), .ref 17], σ)) (G := True) rfl trivial ?_
      refine bz_wci bT_X0_winningMove [.ref 17, .int (row - (ta * un)), .int mf] (pc' := 64) (rest := []) rfl rfl (Nat.le_of_ble_eq_true rfl) rfl (Nat.le_of_ble_eq_true rfl) rfl (s_X0_isLost_17 σ (row - (ta * un)) mf ((bz_wmi hR gT gU gb.2.2.1 ((Nat.not_lt.mp (mt (nI_ltI (a := C9) (b := T9) (by omega) (by omega)).mpr (by rw [← gC, ← gT]; exact h1))))).resolve_right (by omega))) rfl ?_
      refine bz_wpb bT_X0_winningMove 1 (b1 := (75, [some (.ref 17), some (.int row), some (.int mf), some (.int he), some (.int un), some (.int ch), some (.int ta)], [], σ)) (b2 := (67, [some (.ref 17), some (.int row), some (.int mf), some (.int he), some (.int un), some (.int ch), some (.int ta)], [], σ)) (C := bz_b (f_X0_isLost_17 σ (row - (ta * un)) mf) = 0) (G := True) rfl trivial (fun h8 => ?_) (fun h8 => ?_)
      · skip
        have h8 := bz_b0 h8
        refine bz_wpn bT_X0_winningMove 2 (b := (45, [some (.ref 17), some (.int row), some (.int mf), some (.int he), some (.int un), some (.int ch), some (.int (ta + 1))], [], σ)) (G := True) rfl trivial ?_
        have e9 : lp_wm row mf (n + 1) σ he un ch ta = (lp_wm row mf n σ he un ch (ta + 1)) := by rw [lp_wm, if_neg (h1), if_neg (bz_ff h8)]
        rw [e9]
        exact ih σ he un ch (ta + 1) H9 U9 C9 (T9 + 1) gH gU gC (by rw [gT]; exact nI_1 T9) (by have := ((Nat.not_lt.mp (mt (nI_ltI (a := C9) (b := T9) (by omega) (by omega)).mpr (by rw [← gC, ← gT]; exact h1)))); omega)
      · skip
        have h8 := bz_b1 h8
        refine bz_wpn bT_X0_winningMove 5 (b := (74, [some (.ref 17), some (.int row), some (.int mf), some (.int he), some (.int un), some (.int ch), some (.int ta)], [.int ((10 * he) + ta)], σ)) (G := True) rfl trivial ?_
        refine bz_wpr bT_X0_winningMove rfl rfl trivial ?_
        have e9 : lp_wm row mf (n + 1) σ he un ch ta = ((10 * he) + ta) := by rw [lp_wm, if_neg (h1), if_pos (h8)]
        exact ⟨by rw [e9], rfl⟩

def f_X0_winningMove_17_a (σ : bz_S) (row : Int32) (mf : Int32) (τ1 : bz_S) : Int32 × bz_S := (lp_wm row mf (bz_k 30) τ1 0 100 ((row / 100) % 10) 1, τ1)
def f_X0_winningMove_17 (σ : bz_S) (row : Int32) (mf : Int32) : Int32 × bz_S := (f_X0_winningMove_17_a σ row mf (f_X0_learn_17 σ))
set_option maxRecDepth 100000 in
theorem s_X0_winningMove_17 {X : bz_X} (σ : bz_S) (row : Int32) (mf : Int32) (hr : bz_lt 1000 row) : bz_C bz_P X mX0_winningMove [.ref 17, .int row, .int mf] σ (bz_pi (f_X0_winningMove_17 σ row mf).1 (f_X0_winningMove_17 σ row mf).2) := by
  show bz_wp bz_P X mX0_winningMove (bz_pi (f_X0_winningMove_17 σ row mf).1 (f_X0_winningMove_17 σ row mf).2) (0, [some (.ref 17), some (.int row), some (.int mf), none, none, none, none], [], σ)
  refine bz_wpn bT_X0_winningMove 1 (b := (1, [some (.ref 17), some (.int row), some (.int mf), none, none, none, none], [.ref 17], σ)) (G := True) rfl trivial ?_
  refine bz_wcv bT_X0_winningMove [.ref 17] (pc' := 4) (rest := []) rfl rfl (Nat.le_of_ble_eq_true rfl) rfl (Nat.le_of_ble_eq_true rfl) rfl (s_X0_learn_17 σ) rfl ?_
  generalize hτ1 : f_X0_learn_17 σ = τ1
  refine bz_wpb bT_X0_winningMove 5 (b1 := (87, [some (.ref 17), some (.int row), some (.int mf), some (.int 0), none, none, none], [], τ1)) (b2 := (11, [some (.ref 17), some (.int row), some (.int mf), some (.int 0), none, none, none], [], τ1)) (C := 3 ≤ (0 : Int32)) (G := True) rfl trivial (fun z => absurd z (by decide)) (fun _ => ?_)
  refine bz_wpb bT_X0_winningMove 2 (b1 := (20, [some (.ref 17), some (.int row), some (.int mf), some (.int 0), none, none, none], [], τ1)) (b2 := (15, [some (.ref 17), some (.int row), some (.int mf), some (.int 0), none, none, none], [], τ1)) (C := ¬ (0 : Int32) = 0) (G := True) rfl trivial (fun z => absurd z (by decide)) (fun _ => ?_)
  refine bz_wpn bT_X0_winningMove 11 (b := (45, [some (.ref 17), some (.int row), some (.int mf), some (.int 0), some (.int 100), some (.int ((row / 100) % 10)), some (.int 1)], [], τ1)) (G := ¬ (100 : Int32) = 0 ∧ ¬ (10 : Int32) = 0 ∧ True) rfl ⟨(by decide), (by decide), trivial⟩ ?_
  have e9 : f_X0_winningMove_17 σ row mf = (lp_wm row mf (bz_k 30) τ1 0 100 ((row / 100) % 10) 1, τ1) := by rw [f_X0_winningMove_17, hτ1, f_X0_winningMove_17_a]
  rw [e9]
  obtain ⟨R, hR2, hR⟩ := hr
  exact s_lp_wm row mf R hR hR2 (bz_k 30) τ1 0 100 _ 1 0 100 (R / 100 % 10) 1 rfl rfl (by rw [hR]; exact (congrArg (fun z => z % 10) (bz_divN (d := 100) (by omega) (by decide) (by decide))).trans (bz_modN (d := 10) (by omega) (by decide) (by decide))) rfl (by have := bz_cu R 100; rw [bz_k_eq]; exact ⟨by omega, by decide, this, by omega, by omega, by omega, by omega⟩)
theorem rf_X0_winningMove_17_a (σ : bz_S) (row : Int32) (mf : Int32) (τ1 : bz_S) (fτ1 : bz_fr [17, 18] σ τ1) : bz_fr [17, 18] σ (f_X0_winningMove_17_a σ row mf τ1).2 := by
  unfold f_X0_winningMove_17_a
  exact fτ1
theorem rf_X0_winningMove_17 (σ : bz_S) (row : Int32) (mf : Int32) : bz_fr [17, 18] σ (f_X0_winningMove_17 σ row mf).2 := by
  unfold f_X0_winningMove_17
  exact (rf_X0_winningMove_17_a σ row mf (f_X0_learn_17 σ) (bz_fr_mo (rf_X0_learn_17 σ) (by decide)))

theorem bz_r999 {x : Int32} (h : f_X10_isWithin x 0 999 = true) : bz_lt 1000 x := by
  obtain ⟨j, h1, h2, h3⟩ := bz_wN (a := 0) (b := 999) (by decide) (by decide) (by decide) h
  exact ⟨j, by omega, h3⟩

def f_X10_chalk_0_a (σ : bz_S) (row : Int32) (miss : Int32) (what : Int32) (τ1 : Int32 × bz_S) : Int32 × bz_S := if what = 0 then if τ1.1 = (-6) then (0, τ1.2) else (1, τ1.2) else (τ1.1, τ1.2)
def f_X10_chalk_0_b (σ : bz_S) (row : Int32) (miss : Int32) (what : Int32) (τ2 : Int32 × bz_S) : Int32 × bz_S := if what = 0 then if τ2.1 = (-6) then (0, τ2.2) else (1, τ2.2) else (τ2.1, τ2.2)
def f_X10_chalk_0 (σ : bz_S) (row : Int32) (miss : Int32) (what : Int32) : Int32 × bz_S := if f_X10_isWithin row 0 999 = true then if f_X10_isWithin miss 0 1 = true then if f_X10_isWithin what 0 1 = true then if miss = 1 then (f_X10_chalk_0_b σ row miss what (f_X0_winningMove_17 σ row 1)) else (f_X10_chalk_0_a σ row miss what (f_X0_winningMove_17 σ row 0)) else ((-2), σ) else ((-2), σ) else ((-2), σ)
set_option maxRecDepth 100000 in
theorem s_X10_chalk_0 {X : bz_X} (σ : bz_S) (row : Int32) (miss : Int32) (what : Int32) : bz_C bz_P X mX10_chalk [.ref 0, .int row, .int miss, .int what] σ (bz_pi (f_X10_chalk_0 σ row miss what).1 (f_X10_chalk_0 σ row miss what).2) := by
  show bz_wp bz_P X mX10_chalk (bz_pi (f_X10_chalk_0 σ row miss what).1 (f_X10_chalk_0 σ row miss what).2) (0, [some (.ref 0), some (.int row), some (.int miss), some (.int what), none], [], σ)
  refine bz_wpn bT_X10_chalk 3 (b := (5, [some (.ref 0), some (.int row), some (.int miss), some (.int what), none], [.int 999, .int 0, .int row], σ)) (G := True) rfl trivial ?_
  refine bz_wci bT_X10_chalk [.int row, .int 0, .int 999] (pc' := 8) (rest := []) rfl rfl (Nat.le_of_ble_eq_true rfl) rfl (Nat.le_of_ble_eq_true rfl) rfl (s_X10_isWithin σ row 0 999) rfl ?_
  refine bz_wpb bT_X10_chalk 1 (b1 := (29, [some (.ref 0), some (.int row), some (.int miss), some (.int what), none], [], σ)) (b2 := (11, [some (.ref 0), some (.int row), some (.int miss), some (.int what), none], [], σ)) (C := bz_b (f_X10_isWithin row 0 999) = 0) (G := True) rfl trivial (fun h1 => ?_) (fun h1 => ?_)
  · skip
    have h1 := bz_b0 h1
    refine bz_wpn bT_X10_chalk 1 (b := (31, [some (.ref 0), some (.int row), some (.int miss), some (.int what), none], [.int (-2)], σ)) (G := True) rfl trivial ?_
    refine bz_wpr bT_X10_chalk rfl rfl trivial ?_
    have e9 : f_X10_chalk_0 σ row miss what = ((-2), σ) := by rw [f_X10_chalk_0, if_neg (bz_ff h1)]
    exact ⟨by rw [e9], by rw [e9]⟩
  · skip
    have h1 := bz_b1 h1
    refine bz_wpn bT_X10_chalk 3 (b := (14, [some (.ref 0), some (.int row), some (.int miss), some (.int what), none], [.int 1, .int 0, .int miss], σ)) (G := True) rfl trivial ?_
    refine bz_wci bT_X10_chalk [.int miss, .int 0, .int 1] (pc' := 17) (rest := []) rfl rfl (Nat.le_of_ble_eq_true rfl) rfl (Nat.le_of_ble_eq_true rfl) rfl (s_X10_isWithin σ miss 0 1) rfl ?_
    refine bz_wpb bT_X10_chalk 1 (b1 := (29, [some (.ref 0), some (.int row), some (.int miss), some (.int what), none], [], σ)) (b2 := (20, [some (.ref 0), some (.int row), some (.int miss), some (.int what), none], [], σ)) (C := bz_b (f_X10_isWithin miss 0 1) = 0) (G := True) rfl trivial (fun h2 => ?_) (fun h2 => ?_)
    · skip
      have h2 := bz_b0 h2
      refine bz_wpn bT_X10_chalk 1 (b := (31, [some (.ref 0), some (.int row), some (.int miss), some (.int what), none], [.int (-2)], σ)) (G := True) rfl trivial ?_
      refine bz_wpr bT_X10_chalk rfl rfl trivial ?_
      have e9 : f_X10_chalk_0 σ row miss what = ((-2), σ) := by rw [f_X10_chalk_0, if_pos (h1), if_neg (bz_ff h2)]
      exact ⟨by rw [e9], by rw [e9]⟩
    · skip
      have h2 := bz_b1 h2
      refine bz_wpn bT_X10_chalk 3 (b := (23, [some (.ref 0), some (.int row), some (.int miss), some (.int what), none], [.int 1, .int 0, .int what], σ)) (G := True) rfl trivial ?_
      refine bz_wci bT_X10_chalk [.int what, .int 0, .int 1] (pc' := 26) (rest := []) rfl rfl (Nat.le_of_ble_eq_true rfl) rfl (Nat.le_of_ble_eq_true rfl) rfl (s_X10_isWithin σ what 0 1) rfl ?_
      refine bz_wpb bT_X10_chalk 1 (b1 := (32, [some (.ref 0), some (.int row), some (.int miss), some (.int what), none], [], σ)) (b2 := (29, [some (.ref 0), some (.int row), some (.int miss), some (.int what), none], [], σ)) (C := ¬ bz_b (f_X10_isWithin what 0 1) = 0) (G := True) rfl trivial (fun h3 => ?_) (fun h3 => ?_)
      · skip
        have h3 := bz_b1 h3
        refine bz_wpb bT_X10_chalk 6 (b1 := (46, [some (.ref 0), some (.int row), some (.int miss), some (.int what), none], [.int row, .ref 17], σ)) (b2 := (42, [some (.ref 0), some (.int row), some (.int miss), some (.int what), none], [.int row, .ref 17], σ)) (C := ¬ miss = 1) (G := True) rfl trivial (fun h4 => ?_) (fun h4 => ?_)
        · skip
          refine bz_wpn bT_X10_chalk 1 (b := (47, [some (.ref 0), some (.int row), some (.int miss), some (.int what), none], [.int 0, .int row, .ref 17], σ)) (G := True) rfl trivial ?_
          refine bz_wci bT_X10_chalk [.ref 17, .int row, .int 0] (pc' := 50) (rest := []) rfl rfl (Nat.le_of_ble_eq_true rfl) rfl (Nat.le_of_ble_eq_true rfl) rfl (s_X0_winningMove_17 σ row 0 (bz_r999 h1)) rfl ?_
          generalize hτ1 : f_X0_winningMove_17 σ row 0 = τ1
          refine bz_wpb bT_X10_chalk 3 (b1 := (69, [some (.ref 0), some (.int row), some (.int miss), some (.int what), some (.int τ1.1)], [], τ1.2)) (b2 := (56, [some (.ref 0), some (.int row), some (.int miss), some (.int what), some (.int τ1.1)], [], τ1.2)) (C := ¬ what = 0) (G := True) rfl trivial (fun h5 => ?_) (fun h5 => ?_)
          · skip
            refine bz_wpn bT_X10_chalk 1 (b := (71, [some (.ref 0), some (.int row), some (.int miss), some (.int what), some (.int τ1.1)], [.int τ1.1], τ1.2)) (G := True) rfl trivial ?_
            refine bz_wpr bT_X10_chalk rfl rfl trivial ?_
            have e9 : f_X10_chalk_0 σ row miss what = (τ1.1, τ1.2) := by rw [f_X10_chalk_0, if_pos (h1), if_pos (h2), if_pos (h3), if_neg (h4), hτ1, f_X10_chalk_0_a, if_neg (h5)]
            exact ⟨by rw [e9], by rw [e9]⟩
          · skip
            refine bz_wpb bT_X10_chalk 3 (b1 := (67, [some (.ref 0), some (.int row), some (.int miss), some (.int what), some (.int τ1.1)], [], τ1.2)) (b2 := (63, [some (.ref 0), some (.int row), some (.int miss), some (.int what), some (.int τ1.1)], [], τ1.2)) (C := ¬ τ1.1 = (-6)) (G := True) rfl trivial (fun h6 => ?_) (fun h6 => ?_)
            · skip
              refine bz_wpn bT_X10_chalk 1 (b := (68, [some (.ref 0), some (.int row), some (.int miss), some (.int what), some (.int τ1.1)], [.int 1], τ1.2)) (G := True) rfl trivial ?_
              refine bz_wpr bT_X10_chalk rfl rfl trivial ?_
              have e9 : f_X10_chalk_0 σ row miss what = (1, τ1.2) := by rw [f_X10_chalk_0, if_pos (h1), if_pos (h2), if_pos (h3), if_neg (h4), hτ1, f_X10_chalk_0_a, if_pos ((Decidable.not_not.mp h5)), if_neg (h6)]
              exact ⟨by rw [e9], by rw [e9]⟩
            · skip
              refine bz_wpn bT_X10_chalk 2 (b := (68, [some (.ref 0), some (.int row), some (.int miss), some (.int what), some (.int τ1.1)], [.int 0], τ1.2)) (G := True) rfl trivial ?_
              refine bz_wpr bT_X10_chalk rfl rfl trivial ?_
              have e9 : f_X10_chalk_0 σ row miss what = (0, τ1.2) := by rw [f_X10_chalk_0, if_pos (h1), if_pos (h2), if_pos (h3), if_neg (h4), hτ1, f_X10_chalk_0_a, if_pos ((Decidable.not_not.mp h5)), if_pos ((Decidable.not_not.mp h6))]
              exact ⟨by rw [e9], by rw [e9]⟩
        · skip
          refine bz_wpn bT_X10_chalk 2 (b := (47, [some (.ref 0), some (.int row), some (.int miss), some (.int what), none], [.int 1, .int row, .ref 17], σ)) (G := True) rfl trivial ?_
          refine bz_wci bT_X10_chalk [.ref 17, .int row, .int 1] (pc' := 50) (rest := []) rfl rfl (Nat.le_of_ble_eq_true rfl) rfl (Nat.le_of_ble_eq_true rfl) rfl (s_X0_winningMove_17 σ row 1 (bz_r999 h1)) rfl ?_
          generalize hτ2 : f_X0_winningMove_17 σ row 1 = τ2
          refine bz_wpb bT_X10_chalk 3 (b1 := (69, [some (.ref 0), some (.int row), some (.int miss), some (.int what), some (.int τ2.1)], [], τ2.2)) (b2 := (56, [some (.ref 0), some (.int row), some (.int miss), some (.int what), some (.int τ2.1)], [], τ2.2)) (C := ¬ what = 0) (G := True) rfl trivial (fun h7 => ?_) (fun h7 => ?_)
          · skip
            refine bz_wpn bT_X10_chalk 1 (b := (71, [some (.ref 0), some (.int row), some (.int miss), some (.int what), some (.int τ2.1)], [.int τ2.1], τ2.2)) (G := True) rfl trivial ?_
            refine bz_wpr bT_X10_chalk rfl rfl trivial ?_
            have e9 : f_X10_chalk_0 σ row miss what = (τ2.1, τ2.2) := by rw [f_X10_chalk_0, if_pos (h1), if_pos (h2), if_pos (h3), if_pos ((Decidable.not_not.mp h4)), hτ2, f_X10_chalk_0_b, if_neg (h7)]
            exact ⟨by rw [e9], by rw [e9]⟩
          · skip
            refine bz_wpb bT_X10_chalk 3 (b1 := (67, [some (.ref 0), some (.int row), some (.int miss), some (.int what), some (.int τ2.1)], [], τ2.2)) (b2 := (63, [some (.ref 0), some (.int row), some (.int miss), some (.int what), some (.int τ2.1)], [], τ2.2)) (C := ¬ τ2.1 = (-6)) (G := True) rfl trivial (fun h8 => ?_) (fun h8 => ?_)
            · skip
              refine bz_wpn bT_X10_chalk 1 (b := (68, [some (.ref 0), some (.int row), some (.int miss), some (.int what), some (.int τ2.1)], [.int 1], τ2.2)) (G := True) rfl trivial ?_
              refine bz_wpr bT_X10_chalk rfl rfl trivial ?_
              have e9 : f_X10_chalk_0 σ row miss what = (1, τ2.2) := by rw [f_X10_chalk_0, if_pos (h1), if_pos (h2), if_pos (h3), if_pos ((Decidable.not_not.mp h4)), hτ2, f_X10_chalk_0_b, if_pos ((Decidable.not_not.mp h7)), if_neg (h8)]
              exact ⟨by rw [e9], by rw [e9]⟩
            · skip
              refine bz_wpn bT_X10_chalk 2 (b := (68, [some (.ref 0), some (.int row), some (.int miss), some (.int what), some (.int τ2.1)], [.int 0], τ2.2)) (G := True) rfl trivial ?_
              refine bz_wpr bT_X10_chalk rfl rfl trivial ?_
              have e9 : f_X10_chalk_0 σ row miss what = (0, τ2.2) := by rw [f_X10_chalk_0, if_pos (h1), if_pos (h2), if_pos (h3), if_pos ((Decidable.not_not.mp h4)), hτ2, f_X10_chalk_0_b, if_pos ((Decidable.not_not.mp h7)), if_pos ((Decidable.not_not.mp h8))]
              exact ⟨by rw [e9], by rw [e9]⟩
      · skip
        have h3 := bz_b0 (Decidable.not_not.mp h3)
        refine bz_wpn bT_X10_chalk 1 (b := (31, [some (.ref 0), some (.int row), some (.int miss), some (.int what), none], [.int (-2)], σ)) (G := True) rfl trivial ?_
        refine bz_wpr bT_X10_chalk rfl rfl trivial ?_
        have e9 : f_X10_chalk_0 σ row miss what = ((-2), σ) := by rw [f_X10_chalk_0, if_pos (h1), if_pos (h2), if_neg (bz_ff h3)]
        exact ⟨by rw [e9], by rw [e9]⟩
theorem rf_X10_chalk_0_b (σ : bz_S) (row : Int32) (miss : Int32) (what : Int32) (τ2 : Int32 × bz_S) (fτ2 : bz_fr [17, 18] σ τ2.2) : bz_fr [17, 18] σ (f_X10_chalk_0_b σ row miss what τ2).2 := by
  unfold f_X10_chalk_0_b
  exact (bz_ite2 (bz_ite2 fτ2 fτ2) fτ2)
theorem rf_X10_chalk_0_a (σ : bz_S) (row : Int32) (miss : Int32) (what : Int32) (τ1 : Int32 × bz_S) (fτ1 : bz_fr [17, 18] σ τ1.2) : bz_fr [17, 18] σ (f_X10_chalk_0_a σ row miss what τ1).2 := by
  unfold f_X10_chalk_0_a
  exact (bz_ite2 (bz_ite2 fτ1 fτ1) fτ1)
theorem rf_X10_chalk_0 (σ : bz_S) (row : Int32) (miss : Int32) (what : Int32) : bz_fr [17, 18] σ (f_X10_chalk_0 σ row miss what).2 := by
  unfold f_X10_chalk_0
  exact (bz_ite2 (bz_ite2 (bz_ite2 (bz_ite2 (rf_X10_chalk_0_b σ row miss what (f_X0_winningMove_17 σ row 1) (bz_fr_mo (rf_X0_winningMove_17 σ row 1) (by decide))) (rf_X10_chalk_0_a σ row miss what (f_X0_winningMove_17 σ row 0) (bz_fr_mo (rf_X0_winningMove_17 σ row 0) (by decide)))) bz_fr_rf) bz_fr_rf) bz_fr_rf)

def lp_fit : Nat → bz_S → Int32 → Bool
  | 0, σ, ix => true
  | n + 1, σ, ix => if (f_X7_cellBehind_12 σ (σ.1 4 ix.toNatClampNeg)) = (σ.1 5 ix.toNatClampNeg) then (lp_fit n σ (ix + 1)) else false
set_option maxRecDepth 100000 in
theorem s_lp_fit {X : bz_X} (N : Nat) (h8 : N ≤ 8) : ∀ (n : Nat) (σ : bz_S) (ix : Int32) (j9 : Nat) (hi : ix = nI j9) (hj : j9 + n = N) (hN : σ.1 3 2 = nI N), bz_wp bz_P X mX4_allFit (bz_pi (bz_b (lp_fit n σ ix)) σ) (2, [some (.ref 3), some (.ref 12), some (.int ix)], [], σ) := by
  intro n
  induction n with
  | zero =>
    intro σ ix j9 hi hj hN
    refine bz_wpb bT_X4_allFit 4 (b1 := (43, [some (.ref 3), some (.ref 12), some (.int ix)], [], σ)) (b2 := (10, [some (.ref 3), some (.ref 12), some (.int ix)], [], σ)) (C := (σ.1 3 2) ≤ ix) (G := True) rfl trivial (fun _ => ?_) (fun z => absurd (show (σ.1 3 2) ≤ ix from by rw [hi, hN]; exact nI_le (by omega) (by omega)) z)
    refine bz_wpn bT_X4_allFit 1 (b := (44, [some (.ref 3), some (.ref 12), some (.int ix)], [.int 1], σ)) (G := True) rfl trivial ?_
    refine bz_wpr bT_X4_allFit rfl rfl (show (1 : Int32) = 0 ∨ (1 : Int32) = 1 by decide) ?_
    have e9 : lp_fit 0 σ ix = true := by rw [lp_fit]
    exact ⟨by rw [e9]; rfl, rfl⟩
  | succ n ih =>
    intro σ ix j9 hi hj hN
    refine bz_wpb bT_X4_allFit 4 (b1 := (43, [some (.ref 3), some (.ref 12), some (.int ix)], [], σ)) (b2 := (10, [some (.ref 3), some (.ref 12), some (.int ix)], [], σ)) (C := (σ.1 3 2) ≤ ix) (G := True) rfl trivial (fun z => absurd z (show ¬ (σ.1 3 2) ≤ ix from by rw [hi, hN]; exact nI_ge (by omega) (by omega))) (fun _ => ?_)
    refine bz_wpb bT_X4_allFit 3 (b1 := (43, [some (.ref 3), some (.ref 12), some (.int ix)], [], σ)) (b2 := (16, [some (.ref 3), some (.ref 12), some (.int ix)], [], σ)) (C := 8 ≤ ix) (G := True) rfl trivial (fun z => absurd z (show ¬ (8 : Int32) ≤ ix from by rw [hi]; exact nI_ge (b := 8) (by omega) (by decide))) (fun _ => ?_)
    refine bz_wpn bT_X4_allFit 5 (b := (23, [some (.ref 3), some (.ref 12), some (.int ix)], [.int (σ.1 4 ix.toNatClampNeg), .ref 12], σ)) (G := vp_in ix 8 ∧ True) rfl ⟨(by rw [hi]; exact vp_in_nI (by omega) (by decide)), trivial⟩ ?_
    refine bz_wci bT_X4_allFit [.ref 12, .int (σ.1 4 ix.toNatClampNeg)] (pc' := 26) (rest := []) rfl rfl (Nat.le_of_ble_eq_true rfl) rfl (Nat.le_of_ble_eq_true rfl) rfl (s_X7_cellBehind_12 σ (σ.1 4 ix.toNatClampNeg)) rfl ?_
    refine bz_wpb bT_X4_allFit 5 (b1 := (37, [some (.ref 3), some (.ref 12), some (.int ix)], [], σ)) (b2 := (35, [some (.ref 3), some (.ref 12), some (.int ix)], [], σ)) (C := (f_X7_cellBehind_12 σ (σ.1 4 ix.toNatClampNeg)) = (σ.1 5 ix.toNatClampNeg)) (G := vp_in ix 8 ∧ True) rfl ⟨(by rw [hi]; exact vp_in_nI (by omega) (by decide)), trivial⟩ (fun h1 => ?_) (fun h1 => ?_)
    · skip
      refine bz_wpn bT_X4_allFit 2 (b := (2, [some (.ref 3), some (.ref 12), some (.int (ix + 1))], [], σ)) (G := True) rfl trivial ?_
      have e9 : lp_fit (n + 1) σ ix = (lp_fit n σ (ix + 1)) := by rw [lp_fit, if_pos (h1)]
      rw [e9]
      exact ih σ (ix + 1) (j9 + 1) (by rw [hi]; exact nI_1 j9) (by omega) hN
    · skip
      refine bz_wpn bT_X4_allFit 1 (b := (36, [some (.ref 3), some (.ref 12), some (.int ix)], [.int 0], σ)) (G := True) rfl trivial ?_
      refine bz_wpr bT_X4_allFit rfl rfl (show (0 : Int32) = 0 ∨ (0 : Int32) = 1 by decide) ?_
      have e9 : lp_fit (n + 1) σ ix = false := by rw [lp_fit, if_neg (h1)]
      exact ⟨by rw [e9]; rfl, rfl⟩

def f_X4_allFit_3_12 (σ : bz_S)  : Bool := lp_fit (σ.1 3 2).toNatClampNeg σ 0
set_option maxRecDepth 100000 in
theorem s_X4_allFit_3_12 {X : bz_X} (σ : bz_S) (hs : bz_sgh σ) : bz_C bz_P X mX4_allFit [.ref 3, .ref 12] σ (bz_pi (bz_b (f_X4_allFit_3_12 σ)) σ) := by
  show bz_wp bz_P X mX4_allFit (bz_pi (bz_b (f_X4_allFit_3_12 σ)) σ) (0, [some (.ref 3), some (.ref 12), none], [], σ)
  refine bz_wpn bT_X4_allFit 2 (b := (2, [some (.ref 3), some (.ref 12), some (.int 0)], [], σ)) (G := True) rfl trivial ?_
  have e9 : f_X4_allFit_3_12 σ = lp_fit (σ.1 3 2).toNatClampNeg σ 0 := by rw [f_X4_allFit_3_12]
  rw [e9]
  obtain ⟨N, h8, hN⟩ := hs
  exact s_lp_fit N h8 _ σ 0 0 rfl (by rw [hN, nI_clamp (by omega)]; omega) hN

theorem bz_sgh_c {σ τ : bz_S} (h : bz_sgh σ) (e : τ.1 3 = σ.1 3) : bz_sgh τ := by
  unfold bz_sgh at h ⊢
  rw [e]
  exact h
