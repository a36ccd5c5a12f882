def lp_were : Nat → bz_S → Int32 → bz_S
  | 0, σ, b => σ
  | n + 1, σ, b => (lp_were n ((bz_up σ.1 41 b.toNatClampNeg (f_X11_columnOf (σ.1 33 b.toNatClampNeg))), σ.2) (b + 1))
set_option maxRecDepth 100000 in
theorem lp_were0_blk1 {X : bz_X} (σ : bz_S) (b : Int32) : bz_run X bt_X11_nap 3 (2, [some (.ref 32), some (.int b), none], [], σ) = some (True, if 3 ≤ b then (28, [some (.ref 32), some (.int b), none], [], σ) else (7, [some (.ref 32), some (.int b), none], [], σ)) := rfl
set_option maxRecDepth 100000 in
theorem lp_were_blk1 {X : bz_X} (σ : bz_S) (b : Int32) : bz_run X bt_X11_nap 3 (2, [some (.ref 32), some (.int b), none], [], σ) = some (True, if 3 ≤ b then (28, [some (.ref 32), some (.int b), none], [], σ) else (7, [some (.ref 32), some (.int b), none], [], σ)) := rfl
set_option maxRecDepth 100000 in
theorem lp_were_blk2 {X : bz_X} (σ : bz_S) (b : Int32) : bz_run X bt_X11_nap 7 (7, [some (.ref 32), some (.int b), none], [], σ) = some (vp_in b 3 ∧ True, (18, [some (.ref 32), some (.int b), none], [.int (σ.1 33 b.toNatClampNeg), .int b, .ref 41], σ)) := rfl
set_option maxRecDepth 100000 in
theorem lp_were_blk3 {X : bz_X} (σ : bz_S) (b : Int32) : bz_run X bt_X11_nap 3 (21, [some (.ref 32), some (.int b), none], [.int (f_X11_columnOf (σ.1 33 b.toNatClampNeg)), .int b, .ref 41], σ) = some (vp_in b 3 ∧ True, (2, [some (.ref 32), some (.int (b + 1)), none], [], ((bz_up σ.1 41 b.toNatClampNeg (f_X11_columnOf (σ.1 33 b.toNatClampNeg))), σ.2))) := rfl
set_option maxRecDepth 100000 in
theorem s_lp_were {X : bz_X} {Q : bz_Q} : ∀ (n : Nat) (σ : bz_S) (b : Int32) (j9 : Nat) (hi : b = nI j9) (hj : j9 + n = 3) (kk : bz_wp bz_P X mX11_nap Q (28, [some (.ref 32), none, none], [], (lp_were n σ b))), bz_wp bz_P X mX11_nap (Q) (2, [some (.ref 32), some (.int b), none], [], σ) := by
  intro n
  induction n with
  | zero =>
    intro σ b j9 hi hj kk
    refine bz_wpb bT_X11_nap 3 (b1 := (28, [some (.ref 32), some (.int b), none], [], σ)) (b2 := (7, [some (.ref 32), some (.int b), none], [], σ)) (C := 3 ≤ b) (G := True) (lp_were0_blk1 σ b) trivial (fun _ => ?_) (fun z => absurd (show (3 : Int32) ≤ b from by rw [hi, show j9 = 3 from by omega]; decide) z)
    have e9 : lp_were 0 σ b = σ := by rw [lp_were]
    rw [e9] at kk
    refine bz_wpw (by exact ⟨rfl, trivial⟩) kk
  | succ n ih =>
    intro σ b j9 hi hj kk
    refine bz_wpb bT_X11_nap 3 (b1 := (28, [some (.ref 32), some (.int b), none], [], σ)) (b2 := (7, [some (.ref 32), some (.int b), none], [], σ)) (C := 3 ≤ b) (G := True) (lp_were_blk1 σ b) trivial (fun z => absurd z (show ¬ (3 : Int32) ≤ b from by rw [hi]; exact nI_ge (b := 3) (by omega) (by decide))) (fun _ => ?_)
    refine bz_wpn bT_X11_nap 7 (b := (18, [some (.ref 32), some (.int b), none], [.int (σ.1 33 b.toNatClampNeg), .int b, .ref 41], σ)) (G := vp_in b 3 ∧ True) (lp_were_blk2 σ b) ⟨(by rw [hi]; exact vp_in_nI (by omega) (by decide)), trivial⟩ ?_
    refine bz_wci bT_X11_nap [.int (σ.1 33 b.toNatClampNeg)] (pc' := 21) (rest := [.int b, .ref 41]) rfl rfl (Nat.le_of_ble_eq_true rfl) rfl (Nat.le_of_ble_eq_true rfl) rfl (s_X11_columnOf σ (σ.1 33 b.toNatClampNeg)) rfl ?_
    refine bz_wpn bT_X11_nap 3 (b := (2, [some (.ref 32), some (.int (b + 1)), none], [], ((bz_up σ.1 41 b.toNatClampNeg (f_X11_columnOf (σ.1 33 b.toNatClampNeg))), σ.2))) (G := vp_in b 3 ∧ True) (lp_were_blk3 σ b) ⟨(by rw [hi]; exact vp_in_nI (by omega) (by decide)), trivial⟩ ?_
    have e9 : lp_were (n + 1) σ b = (lp_were n ((bz_up σ.1 41 b.toNatClampNeg (f_X11_columnOf (σ.1 33 b.toNatClampNeg))), σ.2) (b + 1)) := by rw [lp_were]
    rw [e9] at kk
    exact ih ((bz_up σ.1 41 b.toNatClampNeg (f_X11_columnOf (σ.1 33 b.toNatClampNeg))), σ.2) (b + 1) (j9 + 1) (by rw [hi]; exact nI_1 j9) (by omega) kk
theorem rlp_were : ∀ (n : Nat) (σ : bz_S) (b : Int32), bz_fr [41] σ (lp_were n σ b) := by
  intro n
  induction n with
  | zero =>
    intro σ b
    rw [lp_were]
    exact bz_fr_rf
  | succ n ihc =>
    intro σ b
    rw [lp_were]
    exact (bz_fr_tr (τ := ((bz_up σ.1 41 b.toNatClampNeg (f_X11_columnOf (σ.1 33 b.toNatClampNeg))), σ.2)) ⟨(bz_f1_up (bz_fr_rf).1 (by decide)), (bz_fr_rf).2⟩ (ihc ((bz_up σ.1 41 b.toNatClampNeg (f_X11_columnOf (σ.1 33 b.toNatClampNeg))), σ.2) (b + 1)))
theorem qlp_were : ∀ (n : Nat) (σ : bz_S) (b : Int32), bz_fo ([] : List Nat) σ (lp_were n σ b) := by
  intro n
  induction n with
  | zero =>
    intro σ b
    rw [lp_were]
    exact bz_fo_rf
  | succ n ihc =>
    intro σ b
    rw [lp_were]
    exact (bz_fo_tr (τ := ((bz_up σ.1 41 b.toNatClampNeg (f_X11_columnOf (σ.1 33 b.toNatClampNeg))), σ.2)) (bz_fo_no (f := _) bz_fo_rf (by decide)) (ihc ((bz_up σ.1 41 b.toNatClampNeg (f_X11_columnOf (σ.1 33 b.toNatClampNeg))), σ.2) (b + 1)))

def lp_mnap1_a (rc : bz_S → Int32 → bz_S) (col : Int32) (σ : bz_S) (b : Int32) (τ1 : bz_S) : bz_S := (rc τ1 (b + 1))
def lp_mnap1 (col : Int32) : Nat → bz_S → Int32 → bz_S
  | 0, σ, b => σ
  | n + 1, σ, b => if (σ.1 41 b.toNatClampNeg) = col then (lp_mnap1_a (lp_mnap1 col n) col σ b (f_X11_drift_32 σ b)) else (lp_mnap1 col n σ (b + 1))
set_option maxRecDepth 100000 in
theorem lp_mnap10_blk1 {X : bz_X} (col : Int32) (σ : bz_S) (b : Int32) : bz_run X bt_X11_nap 3 (38, [some (.ref 32), some (.int col), some (.int b)], [], σ) = some (True, if 3 ≤ b then (64, [some (.ref 32), some (.int col), some (.int b)], [], σ) else (43, [some (.ref 32), some (.int col), some (.int b)], [], σ)) := rfl
set_option maxRecDepth 100000 in
theorem lp_mnap1_blk1 {X : bz_X} (col : Int32) (σ : bz_S) (b : Int32) : bz_run X bt_X11_nap 3 (38, [some (.ref 32), some (.int col), some (.int b)], [], σ) = some (True, if 3 ≤ b then (64, [some (.ref 32), some (.int col), some (.int b)], [], σ) else (43, [some (.ref 32), some (.int col), some (.int b)], [], σ)) := rfl
set_option maxRecDepth 100000 in
theorem lp_mnap1_blk2 {X : bz_X} (col : Int32) (σ : bz_S) (b : Int32) : bz_run X bt_X11_nap 6 (43, [some (.ref 32), some (.int col), some (.int b)], [], σ) = some (vp_in b 3 ∧ True, if ¬ (σ.1 41 b.toNatClampNeg) = col then (58, [some (.ref 32), some (.int col), some (.int b)], [], σ) else (53, [some (.ref 32), some (.int col), some (.int b)], [], σ)) := rfl
set_option maxRecDepth 100000 in
theorem lp_mnap1_blk3 {X : bz_X} (col : Int32) (σ : bz_S) (b : Int32) : bz_run X bt_X11_nap 2 (58, [some (.ref 32), some (.int col), some (.int b)], [], σ) = some (True, (38, [some (.ref 32), some (.int col), some (.int (b + 1))], [], σ)) := rfl
set_option maxRecDepth 100000 in
theorem lp_mnap1_blk4 {X : bz_X} (col : Int32) (σ : bz_S) (b : Int32) : bz_run X bt_X11_nap 2 (53, [some (.ref 32), some (.int col), some (.int b)], [], σ) = some (True, (55, [some (.ref 32), some (.int col), some (.int b)], [.int b, .ref 32], σ)) := rfl
set_option maxRecDepth 100000 in
theorem lp_mnap1_blk5 {X : bz_X} (col : Int32) (σ : bz_S) (b : Int32) (τ1 : bz_S) : bz_run X bt_X11_nap 2 (58, [some (.ref 32), some (.int col), some (.int b)], [], τ1) = some (True, (38, [some (.ref 32), some (.int col), some (.int (b + 1))], [], τ1)) := rfl
set_option maxRecDepth 100000 in
theorem s_lp_mnap1 {X : bz_X} (col : Int32) {Q : bz_Q} : ∀ (n : Nat) (σ : bz_S) (b : Int32) (j9 : Nat) (hi : b = nI j9) (hj : j9 + n = 3) (kk : bz_wp bz_P X mX11_nap Q (64, [some (.ref 32), some (.int col), none], [], (lp_mnap1 col n σ b))), bz_wp bz_P X mX11_nap (Q) (38, [some (.ref 32), some (.int col), some (.int b)], [], σ) := by
  intro n
  induction n with
  | zero =>
    intro σ b j9 hi hj kk
    refine bz_wpb bT_X11_nap 3 (b1 := (64, [some (.ref 32), some (.int col), some (.int b)], [], σ)) (b2 := (43, [some (.ref 32), some (.int col), some (.int b)], [], σ)) (C := 3 ≤ b) (G := True) (lp_mnap10_blk1 col σ b) trivial (fun _ => ?_) (fun z => absurd (show (3 : Int32) ≤ b from by rw [hi, show j9 = 3 from by omega]; decide) z)
    have e9 : lp_mnap1 col 0 σ b = σ := by rw [lp_mnap1]
    rw [e9] at kk
    refine bz_wpw (by exact ⟨rfl, rfl, trivial⟩) kk
  | succ n ih =>
    intro σ b j9 hi hj kk
    refine bz_wpb bT_X11_nap 3 (b1 := (64, [some (.ref 32), some (.int col), some (.int b)], [], σ)) (b2 := (43, [some (.ref 32), some (.int col), some (.int b)], [], σ)) (C := 3 ≤ b) (G := True) (lp_mnap1_blk1 col σ b) trivial (fun z => absurd z (show ¬ (3 : Int32) ≤ b from by rw [hi]; exact nI_ge (b := 3) (by omega) (by decide))) (fun _ => ?_)
    refine bz_wpb bT_X11_nap 6 (b1 := (58, [some (.ref 32), some (.int col), some (.int b)], [], σ)) (b2 := (53, [some (.ref 32), some (.int col), some (.int b)], [], σ)) (C := ¬ (σ.1 41 b.toNatClampNeg) = col) (G := vp_in b 3 ∧ True) (lp_mnap1_blk2 col σ b) ⟨(by rw [hi]; exact vp_in_nI (by omega) (by decide)), trivial⟩ (fun h1 => ?_) (fun h1 => ?_)
    · skip
      refine bz_wpn bT_X11_nap 2 (b := (38, [some (.ref 32), some (.int col), some (.int (b + 1))], [], σ)) (G := True) (lp_mnap1_blk3 col σ b) trivial ?_
      have e9 : lp_mnap1 col (n + 1) σ b = (lp_mnap1 col n σ (b + 1)) := by rw [lp_mnap1, if_neg (h1)]
      rw [e9] at kk
      exact ih σ (b + 1) (j9 + 1) (by rw [hi]; exact nI_1 j9) (by omega) kk
    · skip
      refine bz_wpn bT_X11_nap 2 (b := (55, [some (.ref 32), some (.int col), some (.int b)], [.int b, .ref 32], σ)) (G := True) (lp_mnap1_blk4 col σ b) trivial ?_
      refine bz_wcv bT_X11_nap [.ref 32, .int b] (pc' := 58) (rest := []) rfl rfl (Nat.le_of_ble_eq_true rfl) rfl (Nat.le_of_ble_eq_true rfl) rfl (s_X11_drift_32 σ b (by rw [hi]; exact vp_in_nI (by omega) (by decide))) rfl ?_
      generalize hτ1 : f_X11_drift_32 σ b = τ1
      refine bz_wpn bT_X11_nap 2 (b := (38, [some (.ref 32), some (.int col), some (.int (b + 1))], [], τ1)) (G := True) (lp_mnap1_blk5 col σ b τ1) trivial ?_
      have e9 : lp_mnap1 col (n + 1) σ b = (lp_mnap1 col n τ1 (b + 1)) := by rw [lp_mnap1, if_pos ((Decidable.not_not.mp h1)), hτ1, lp_mnap1_a]
      rw [e9] at kk
      exact ih τ1 (b + 1) (j9 + 1) (by rw [hi]; exact nI_1 j9) (by omega) kk
theorem rlp_mnap1_a (rc : bz_S → Int32 → bz_S) (col : Int32) (σ : bz_S) (b : Int32) (τ1 : bz_S) (ihc : ∀ (σ : bz_S) (b : Int32), bz_fr [33] σ (rc σ b)) (fτ1 : bz_fr [33] σ τ1) : bz_fr [33] σ (lp_mnap1_a rc col σ b τ1) := by
  unfold lp_mnap1_a
  exact (bz_fr_tr (τ := τ1) fτ1 (ihc τ1 (b + 1)))
theorem rlp_mnap1 (col : Int32) : ∀ (n : Nat) (σ : bz_S) (b : Int32), bz_fr [33] σ (lp_mnap1 col n σ b) := by
  intro n
  induction n with
  | zero =>
    intro σ b
    rw [lp_mnap1]
    exact bz_fr_rf
  | succ n ihc =>
    intro σ b
    rw [lp_mnap1]
    exact (bz_ite (rlp_mnap1_a (lp_mnap1 col n) col σ b (f_X11_drift_32 σ b) ihc (bz_fr_mo (rf_X11_drift_32 σ b) (by decide))) (bz_fr_tr (τ := σ) bz_fr_rf (ihc σ (b + 1))))
theorem qlp_mnap1_a (rc : bz_S → Int32 → bz_S) (col : Int32) (σ : bz_S) (b : Int32) (τ1 : bz_S) (ihc : ∀ (σ : bz_S) (b : Int32), bz_fo ([] : List Nat) σ (rc σ b)) (fτ1 : bz_fo ([] : List Nat) σ τ1) : bz_fo ([] : List Nat) σ (lp_mnap1_a rc col σ b τ1) := by
  unfold lp_mnap1_a
  exact (bz_fo_tr (τ := τ1) fτ1 (ihc τ1 (b + 1)))
theorem qlp_mnap1 (col : Int32) : ∀ (n : Nat) (σ : bz_S) (b : Int32), bz_fo ([] : List Nat) σ (lp_mnap1 col n σ b) := by
  intro n
  induction n with
  | zero =>
    intro σ b
    rw [lp_mnap1]
    exact bz_fo_rf
  | succ n ihc =>
    intro σ b
    rw [lp_mnap1]
    exact (bz_ite (qlp_mnap1_a (lp_mnap1 col n) col σ b (f_X11_drift_32 σ b) ihc (bz_fo_mo (qf_X11_drift_32 σ b) (by decide))) (bz_fo_tr (τ := σ) bz_fo_rf (ihc σ (b + 1))))

def lp_mnap_a (rc : bz_S → Int32 → bz_S) (σ : bz_S) (col : Int32) (τ1 : bz_S) : bz_S := (rc τ1 (col + 1))
def lp_mnap : Nat → bz_S → Int32 → bz_S
  | 0, σ, col => σ
  | n + 1, σ, col => (lp_mnap_a (lp_mnap n) σ col ((lp_mnap1 col (bz_k 3) σ 0)))
set_option maxRecDepth 100000 in
theorem lp_mnap0_blk1 {X : bz_X} (σ : bz_S) (col : Int32) : bz_run X bt_X11_nap 3 (30, [some (.ref 32), some (.int col), none], [], σ) = some (True, if 9 ≤ col then (70, [some (.ref 32), some (.int col), none], [], σ) else (36, [some (.ref 32), some (.int col), none], [], σ)) := rfl
set_option maxRecDepth 100000 in
theorem lp_mnap_blk1 {X : bz_X} (σ : bz_S) (col : Int32) : bz_run X bt_X11_nap 3 (30, [some (.ref 32), some (.int col), none], [], σ) = some (True, if 9 ≤ col then (70, [some (.ref 32), some (.int col), none], [], σ) else (36, [some (.ref 32), some (.int col), none], [], σ)) := rfl
set_option maxRecDepth 100000 in
theorem lp_mnap_blk2 {X : bz_X} (σ : bz_S) (col : Int32) : bz_run X bt_X11_nap 2 (36, [some (.ref 32), some (.int col), none], [], σ) = some (True, (38, [some (.ref 32), some (.int col), some (.int 0)], [], σ)) := rfl
set_option maxRecDepth 100000 in
theorem lp_mnap_blk3 {X : bz_X} (σ : bz_S) (col : Int32) (τ1 : bz_S) : bz_run X bt_X11_nap 2 (64, [some (.ref 32), some (.int col), none], [], τ1) = some (True, (30, [some (.ref 32), some (.int (col + 1)), none], [], τ1)) := rfl
set_option maxRecDepth 100000 in
theorem s_lp_mnap {X : bz_X} : ∀ (n : Nat) (σ : bz_S) (col : Int32) (j9 : Nat) (hi : col = nI j9) (hj : j9 + n = 9), bz_wp bz_P X mX11_nap (bz_pv (lp_mnap n σ col)) (30, [some (.ref 32), some (.int col), none], [], σ) := by
  intro n
  induction n with
  | zero =>
    intro σ col j9 hi hj
    refine bz_wpb bT_X11_nap 3 (b1 := (70, [some (.ref 32), some (.int col), none], [], σ)) (b2 := (36, [some (.ref 32), some (.int col), none], [], σ)) (C := 9 ≤ col) (G := True) (lp_mnap0_blk1 σ col) trivial (fun _ => ?_) (fun z => absurd (show (9 : Int32) ≤ col from by rw [hi, show j9 = 9 from by omega]; decide) z)
    refine bz_wpr bT_X11_nap rfl rfl trivial ?_
    have e9 : lp_mnap 0 σ col = σ := by rw [lp_mnap]
    exact ⟨rfl, by rw [e9]⟩
  | succ n ih =>
    intro σ col j9 hi hj
    refine bz_wpb bT_X11_nap 3 (b1 := (70, [some (.ref 32), some (.int col), none], [], σ)) (b2 := (36, [some (.ref 32), some (.int col), none], [], σ)) (C := 9 ≤ col) (G := True) (lp_mnap_blk1 σ col) trivial (fun z => absurd z (show ¬ (9 : Int32) ≤ col from by rw [hi]; exact nI_ge (b := 9) (by omega) (by decide))) (fun _ => ?_)
    refine bz_wpn bT_X11_nap 2 (b := (38, [some (.ref 32), some (.int col), some (.int 0)], [], σ)) (G := True) (lp_mnap_blk2 σ col) trivial ?_
    refine s_lp_mnap1 col (bz_k 3) σ 0 0 rfl (by rw [bz_k_eq]) ?_
    generalize hτ1 : (lp_mnap1 col (bz_k 3) σ 0) = τ1
    refine bz_wpn bT_X11_nap 2 (b := (30, [some (.ref 32), some (.int (col + 1)), none], [], τ1)) (G := True) (lp_mnap_blk3 σ col τ1) trivial ?_
    have e9 : lp_mnap (n + 1) σ col = (lp_mnap n τ1 (col + 1)) := by rw [lp_mnap, hτ1, lp_mnap_a]
    rw [e9]
    exact ih τ1 (col + 1) (j9 + 1) (by rw [hi]; exact nI_1 j9) (by omega)
theorem rlp_mnap_a (rc : bz_S → Int32 → bz_S) (σ : bz_S) (col : Int32) (τ1 : bz_S) (ihc : ∀ (σ : bz_S) (col : Int32), bz_fr [33] σ (rc σ col)) (fτ1 : bz_fr [33] σ τ1) : bz_fr [33] σ (lp_mnap_a rc σ col τ1) := by
  unfold lp_mnap_a
  exact (bz_fr_tr (τ := τ1) fτ1 (ihc τ1 (col + 1)))
theorem rlp_mnap : ∀ (n : Nat) (σ : bz_S) (col : Int32), bz_fr [33] σ (lp_mnap n σ col) := by
  intro n
  induction n with
  | zero =>
    intro σ col
    rw [lp_mnap]
    exact bz_fr_rf
  | succ n ihc =>
    intro σ col
    rw [lp_mnap]
    exact (rlp_mnap_a (lp_mnap n) σ col ((lp_mnap1 col (bz_k 3) σ 0)) ihc (bz_fr_mo (rlp_mnap1 col (bz_k 3) σ 0) (by decide)))
theorem qlp_mnap_a (rc : bz_S → Int32 → bz_S) (σ : bz_S) (col : Int32) (τ1 : bz_S) (ihc : ∀ (σ : bz_S) (col : Int32), bz_fo ([] : List Nat) σ (rc σ col)) (fτ1 : bz_fo ([] : List Nat) σ τ1) : bz_fo ([] : List Nat) σ (lp_mnap_a rc σ col τ1) := by
  unfold lp_mnap_a
  exact (bz_fo_tr (τ := τ1) fτ1 (ihc τ1 (col + 1)))
theorem qlp_mnap : ∀ (n : Nat) (σ : bz_S) (col : Int32), bz_fo ([] : List Nat) σ (lp_mnap n σ col) := by
  intro n
  induction n with
  | zero =>
    intro σ col
    rw [lp_mnap]
    exact bz_fo_rf
  | succ n ihc =>
    intro σ col
    rw [lp_mnap]
    exact (qlp_mnap_a (lp_mnap n) σ col ((lp_mnap1 col (bz_k 3) σ 0)) ihc (bz_fo_mo (qlp_mnap1 col (bz_k 3) σ 0) (by decide)))

def f_X11_nap_32_a (σ : bz_S) (τ1 : bz_S) : bz_S := lp_mnap (bz_k 9) τ1 0
def f_X11_nap_32 (σ : bz_S)  : bz_S := (f_X11_nap_32_a σ ((lp_were (bz_k 3) σ 0)))
set_option maxRecDepth 100000 in
theorem f_X11_nap_32_blk1 {X : bz_X} (σ : bz_S) : bz_run X bt_X11_nap 2 (0, [some (.ref 32), none, none], [], σ) = some (True, (2, [some (.ref 32), some (.int 0), none], [], σ)) := rfl
set_option maxRecDepth 100000 in
theorem f_X11_nap_32_blk2 {X : bz_X} (σ : bz_S) (τ1 : bz_S) : bz_run X bt_X11_nap 2 (28, [some (.ref 32), none, none], [], τ1) = some (True, (30, [some (.ref 32), some (.int 0), none], [], τ1)) := rfl
set_option maxRecDepth 100000 in
theorem s_X11_nap_32 {X : bz_X} (σ : bz_S) : bz_C bz_P X mX11_nap [.ref 32] σ (bz_pv (f_X11_nap_32 σ)) := by
  show bz_wp bz_P X mX11_nap (bz_pv (f_X11_nap_32 σ)) (0, [some (.ref 32), none, none], [], σ)
  refine bz_wpn bT_X11_nap 2 (b := (2, [some (.ref 32), some (.int 0), none], [], σ)) (G := True) (f_X11_nap_32_blk1 σ) trivial ?_
  refine s_lp_were (bz_k 3) σ 0 0 rfl (by rw [bz_k_eq]) ?_
  generalize hτ1 : (lp_were (bz_k 3) σ 0) = τ1
  refine bz_wpn bT_X11_nap 2 (b := (30, [some (.ref 32), some (.int 0), none], [], τ1)) (G := True) (f_X11_nap_32_blk2 σ τ1) trivial ?_
  have e9 : f_X11_nap_32 σ = lp_mnap (bz_k 9) τ1 0 := by rw [f_X11_nap_32, hτ1, f_X11_nap_32_a]
  rw [e9]
  exact s_lp_mnap (bz_k 9) τ1 0 0 rfl (by rw [bz_k_eq])
theorem rf_X11_nap_32_a (σ : bz_S) (τ1 : bz_S) (fτ1 : bz_fr [33, 41] σ τ1) : bz_fr [33, 41] σ (f_X11_nap_32_a σ τ1) := by
  unfold f_X11_nap_32_a
  exact (bz_fr_tr (τ := τ1) fτ1 (bz_fr_mo (rlp_mnap (bz_k 9) τ1 0) (by decide)))
theorem rf_X11_nap_32 (σ : bz_S)  : bz_fr [33, 41] σ (f_X11_nap_32 σ) := by
  unfold f_X11_nap_32
  exact (rf_X11_nap_32_a σ ((lp_were (bz_k 3) σ 0)) (bz_fr_mo (rlp_were (bz_k 3) σ 0) (by decide)))
theorem qf_X11_nap_32_a (σ : bz_S) (τ1 : bz_S) (fτ1 : bz_fo ([] : List Nat) σ τ1) : bz_fo ([] : List Nat) σ (f_X11_nap_32_a σ τ1) := by
  unfold f_X11_nap_32_a
  exact (bz_fo_tr (τ := τ1) fτ1 (bz_fo_mo (qlp_mnap (bz_k 9) τ1 0) (by decide)))
theorem qf_X11_nap_32 (σ : bz_S)  : bz_fo ([] : List Nat) σ (f_X11_nap_32 σ) := by
  unfold f_X11_nap_32
  exact (qf_X11_nap_32_a σ ((lp_were (bz_k 3) σ 0)) (bz_fo_mo (qlp_were (bz_k 3) σ 0) (by decide)))

def f_X11_happen_32_b (σ : bz_S) (wh : Int32) (b : Int32) (w : Int32) (fo : Int32) (τ2 : bz_S) : bz_S := τ2
def f_X11_happen_32_a (σ : bz_S) (wh : Int32) (b : Int32) (w : Int32) (fo : Int32) (τ1 : bz_S) : bz_S := τ1
def f_X11_happen_32 (σ : bz_S) (wh : Int32) (b : Int32) (w : Int32) (fo : Int32) : bz_S := if wh = 0 then (f_X11_happen_32_a σ wh b w fo (f_X11_stroke_32 σ b w fo)) else (if wh = 1 then ((bz_up σ.1 33 b.toNatClampNeg (f_X11_home b)), σ.2) else (if wh = 2 then (f_X11_happen_32_b σ wh b w fo (f_X11_nap_32 σ)) else ((bz_up σ.1 32 3 ((σ.1 32 3) + 1)), σ.2)))
set_option maxRecDepth 100000 in
theorem f_X11_happen_32_blk1 {X : bz_X} (σ : bz_S) (wh : Int32) (b : Int32) (w : Int32) (fo : Int32) : bz_run X bt_X11_happen 2 (0, [some (.ref 32), some (.int wh), some (.int b), some (.int w), some (.int fo)], [], σ) = some (True, (bz_sw (wh).toInt (bz_mk 0 [28, 39, 52]) 59, [some (.ref 32), some (.int wh), some (.int b), some (.int w), some (.int fo)], [], σ)) := rfl
set_option maxRecDepth 100000 in
theorem f_X11_happen_32_blk2 {X : bz_X} (σ : bz_S) (wh : Int32) (b : Int32) (w : Int32) (fo : Int32) : bz_run X bt_X11_happen 4 (28, [some (.ref 32), some (.int wh), some (.int b), some (.int w), some (.int fo)], [], σ) = some (True, (33, [some (.ref 32), some (.int wh), some (.int b), some (.int w), some (.int fo)], [.int fo, .int w, .int b, .ref 32], σ)) := rfl
set_option maxRecDepth 100000 in
theorem f_X11_happen_32_blk3 {X : bz_X} (σ : bz_S) (wh : Int32) (b : Int32) (w : Int32) (fo : Int32) (τ1 : bz_S) : bz_run X bt_X11_happen 1 (36, [some (.ref 32), some (.int wh), some (.int b), some (.int w), some (.int fo)], [], τ1) = some (True, (69, [some (.ref 32), some (.int wh), some (.int b), some (.int w), some (.int fo)], [], τ1)) := rfl
set_option maxRecDepth 100000 in
theorem f_X11_happen_32_blk4 {X : bz_X} (σ : bz_S) (wh : Int32) (b : Int32) (w : Int32) (fo : Int32) : bz_run X bt_X11_happen 4 (39, [some (.ref 32), some (.int wh), some (.int b), some (.int w), some (.int fo)], [], σ) = some (True, (45, [some (.ref 32), some (.int wh), some (.int b), some (.int w), some (.int fo)], [.int b, .int b, .ref 33], σ)) := rfl
set_option maxRecDepth 100000 in
theorem f_X11_happen_32_blk5 {X : bz_X} (σ : bz_S) (wh : Int32) (b : Int32) (w : Int32) (fo : Int32) : bz_run X bt_X11_happen 2 (48, [some (.ref 32), some (.int wh), some (.int b), some (.int w), some (.int fo)], [.int (f_X11_home b), .int b, .ref 33], σ) = some (vp_in b 3 ∧ True, (69, [some (.ref 32), some (.int wh), some (.int b), some (.int w), some (.int fo)], [], ((bz_up σ.1 33 b.toNatClampNeg (f_X11_home b)), σ.2))) := rfl
set_option maxRecDepth 100000 in
theorem f_X11_happen_32_blk6 {X : bz_X} (σ : bz_S) (wh : Int32) (b : Int32) (w : Int32) (fo : Int32) : bz_run X bt_X11_happen 1 (52, [some (.ref 32), some (.int wh), some (.int b), some (.int w), some (.int fo)], [], σ) = some (True, (53, [some (.ref 32), some (.int wh), some (.int b), some (.int w), some (.int fo)], [.ref 32], σ)) := rfl
set_option maxRecDepth 100000 in
theorem f_X11_happen_32_blk7 {X : bz_X} (σ : bz_S) (wh : Int32) (b : Int32) (w : Int32) (fo : Int32) (τ2 : bz_S) : bz_run X bt_X11_happen 1 (56, [some (.ref 32), some (.int wh), some (.int b), some (.int w), some (.int fo)], [], τ2) = some (True, (69, [some (.ref 32), some (.int wh), some (.int b), some (.int w), some (.int fo)], [], τ2)) := rfl
set_option maxRecDepth 100000 in
theorem f_X11_happen_32_blk8 {X : bz_X} (σ : bz_S) (wh : Int32) (b : Int32) (w : Int32) (fo : Int32) : bz_run X bt_X11_happen 6 (59, [some (.ref 32), some (.int wh), some (.int b), some (.int w), some (.int fo)], [], σ) = some (True, (69, [some (.ref 32), some (.int wh), some (.int b), some (.int w), some (.int fo)], [], ((bz_up σ.1 32 3 ((σ.1 32 3) + 1)), σ.2))) := rfl
set_option maxRecDepth 100000 in
theorem s_X11_happen_32 {X : bz_X} (σ : bz_S) (wh : Int32) (b : Int32) (w : Int32) (fo : Int32) (hb : vp_in b 3) (hf : ∃ N, N < 100 ∧ fo = nI N) : bz_C bz_P X mX11_happen [.ref 32, .int wh, .int b, .int w, .int fo] σ (bz_pv (f_X11_happen_32 σ wh b w fo)) := by
  show bz_wp bz_P X mX11_happen (bz_pv (f_X11_happen_32 σ wh b w fo)) (0, [some (.ref 32), some (.int wh), some (.int b), some (.int w), some (.int fo)], [], σ)
  refine bz_wpn bT_X11_happen 2 (b := (bz_sw (wh).toInt (bz_mk 0 [28, 39, 52]) 59, [some (.ref 32), some (.int wh), some (.int b), some (.int w), some (.int fo)], [], σ)) (G := True) (f_X11_happen_32_blk1 σ wh b w fo) trivial ?_
  by_cases w1 : wh = 0
  · rw [show bz_sw (wh).toInt (bz_mk 0 [28, 39, 52]) 59 = 28 from by rw [w1]; decide]
    refine bz_wpn bT_X11_happen 4 (b := (33, [some (.ref 32), some (.int wh), some (.int b), some (.int w), some (.int fo)], [.int fo, .int w, .int b, .ref 32], σ)) (G := True) (f_X11_happen_32_blk2 σ wh b w fo) trivial ?_
    refine bz_wcv bT_X11_happen [.ref 32, .int b, .int w, .int fo] (pc' := 36) (rest := []) rfl rfl (Nat.le_of_ble_eq_true rfl) rfl (Nat.le_of_ble_eq_true rfl) rfl (s_X11_stroke_32 σ b w fo hb hf) rfl ?_
    generalize hτ1 : f_X11_stroke_32 σ b w fo = τ1
    refine bz_wpn bT_X11_happen 1 (b := (69, [some (.ref 32), some (.int wh), some (.int b), some (.int w), some (.int fo)], [], τ1)) (G := True) (f_X11_happen_32_blk3 σ wh b w fo τ1) trivial ?_
    refine bz_wpr bT_X11_happen rfl rfl trivial ?_
    have e9 : f_X11_happen_32 σ wh b w fo = τ1 := by rw [f_X11_happen_32, if_pos (w1), hτ1, f_X11_happen_32_a]
    exact ⟨rfl, by rw [e9]⟩
  by_cases w2 : wh = 1
  · rw [show bz_sw (wh).toInt (bz_mk 0 [28, 39, 52]) 59 = 39 from by rw [w2]; decide]
    refine bz_wpn bT_X11_happen 4 (b := (45, [some (.ref 32), some (.int wh), some (.int b), some (.int w), some (.int fo)], [.int b, .int b, .ref 33], σ)) (G := True) (f_X11_happen_32_blk4 σ wh b w fo) trivial ?_
    refine bz_wci bT_X11_happen [.int b] (pc' := 48) (rest := [.int b, .ref 33]) rfl rfl (Nat.le_of_ble_eq_true rfl) rfl (Nat.le_of_ble_eq_true rfl) rfl (s_X11_home σ b) rfl ?_
    refine bz_wpn bT_X11_happen 2 (b := (69, [some (.ref 32), some (.int wh), some (.int b), some (.int w), some (.int fo)], [], ((bz_up σ.1 33 b.toNatClampNeg (f_X11_home b)), σ.2))) (G := vp_in b 3 ∧ True) (f_X11_happen_32_blk5 σ wh b w fo) ⟨hb, trivial⟩ ?_
    refine bz_wpr bT_X11_happen rfl rfl trivial ?_
    have e9 : f_X11_happen_32 σ wh b w fo = ((bz_up σ.1 33 b.toNatClampNeg (f_X11_home b)), σ.2) := by rw [f_X11_happen_32, if_neg (w1), if_pos (w2)]
    exact ⟨rfl, by rw [e9]⟩
  by_cases w3 : wh = 2
  · rw [show bz_sw (wh).toInt (bz_mk 0 [28, 39, 52]) 59 = 52 from by rw [w3]; decide]
    refine bz_wpn bT_X11_happen 1 (b := (53, [some (.ref 32), some (.int wh), some (.int b), some (.int w), some (.int fo)], [.ref 32], σ)) (G := True) (f_X11_happen_32_blk6 σ wh b w fo) trivial ?_
    refine bz_wcv bT_X11_happen [.ref 32] (pc' := 56) (rest := []) rfl rfl (Nat.le_of_ble_eq_true rfl) rfl (Nat.le_of_ble_eq_true rfl) rfl (s_X11_nap_32 σ) rfl ?_
    generalize hτ2 : f_X11_nap_32 σ = τ2
    refine bz_wpn bT_X11_happen 1 (b := (69, [some (.ref 32), some (.int wh), some (.int b), some (.int w), some (.int fo)], [], τ2)) (G := True) (f_X11_happen_32_blk7 σ wh b w fo τ2) trivial ?_
    refine bz_wpr bT_X11_happen rfl rfl trivial ?_
    have e9 : f_X11_happen_32 σ wh b w fo = τ2 := by rw [f_X11_happen_32, if_neg (w1), if_neg (w2), if_pos (w3), hτ2, f_X11_happen_32_b]
    exact ⟨rfl, by rw [e9]⟩
  · rw [show bz_sw (wh).toInt (bz_mk 0 [28, 39, 52]) 59 = 59 from by simp only [bz_mk, bz_sw]; rw [if_neg (lv_neT w1 (by decide)), if_neg (lv_neT w2 (by decide)), if_neg (lv_neT w3 (by decide))]]
    refine bz_wpn bT_X11_happen 6 (b := (69, [some (.ref 32), some (.int wh), some (.int b), some (.int w), some (.int fo)], [], ((bz_up σ.1 32 3 ((σ.1 32 3) + 1)), σ.2))) (G := True) (f_X11_happen_32_blk8 σ wh b w fo) trivial ?_
    refine bz_wpr bT_X11_happen rfl rfl trivial ?_
    have e9 : f_X11_happen_32 σ wh b w fo = ((bz_up σ.1 32 3 ((σ.1 32 3) + 1)), σ.2) := by rw [f_X11_happen_32, if_neg (w1), if_neg (w2), if_neg (w3)]
    exact ⟨rfl, by rw [e9]⟩
theorem rf_X11_happen_32_a (σ : bz_S) (wh : Int32) (b : Int32) (w : Int32) (fo : Int32) (τ1 : bz_S) (fτ1 : bz_fr [32, 33, 41] σ τ1) : bz_fr [32, 33, 41] σ (f_X11_happen_32_a σ wh b w fo τ1) := by
  unfold f_X11_happen_32_a
  exact fτ1
theorem rf_X11_happen_32_b (σ : bz_S) (wh : Int32) (b : Int32) (w : Int32) (fo : Int32) (τ2 : bz_S) (fτ2 : bz_fr [32, 33, 41] σ τ2) : bz_fr [32, 33, 41] σ (f_X11_happen_32_b σ wh b w fo τ2) := by
  unfold f_X11_happen_32_b
  exact fτ2
theorem rf_X11_happen_32 (σ : bz_S) (wh : Int32) (b : Int32) (w : Int32) (fo : Int32) : bz_fr [32, 33, 41] σ (f_X11_happen_32 σ wh b w fo) := by
  unfold f_X11_happen_32
  exact (bz_ite (rf_X11_happen_32_a σ wh b w fo (f_X11_stroke_32 σ b w fo) (bz_fr_mo (rf_X11_stroke_32 σ b w fo) (by decide))) (bz_ite ⟨(bz_f1_up (bz_fr_rf).1 (by decide)), (bz_fr_rf).2⟩ (bz_ite (rf_X11_happen_32_b σ wh b w fo (f_X11_nap_32 σ) (bz_fr_mo (rf_X11_nap_32 σ) (by decide))) ⟨(bz_f1_up (bz_fr_rf).1 (by decide)), (bz_fr_rf).2⟩)))
theorem qf_X11_happen_32_a (σ : bz_S) (wh : Int32) (b : Int32) (w : Int32) (fo : Int32) (τ1 : bz_S) (fτ1 : bz_fo [1, 2, 3, 14, 15, 16, 17, 18, 19, 20, 21, 22, 23, 24] σ τ1) : bz_fo [1, 2, 3, 14, 15, 16, 17, 18, 19, 20, 21, 22, 23, 24] σ (f_X11_happen_32_a σ wh b w fo τ1) := by
  unfold f_X11_happen_32_a
  exact fτ1
theorem qf_X11_happen_32_b (σ : bz_S) (wh : Int32) (b : Int32) (w : Int32) (fo : Int32) (τ2 : bz_S) (fτ2 : bz_fo [1, 2, 3, 14, 15, 16, 17, 18, 19, 20, 21, 22, 23, 24] σ τ2) : bz_fo [1, 2, 3, 14, 15, 16, 17, 18, 19, 20, 21, 22, 23, 24] σ (f_X11_happen_32_b σ wh b w fo τ2) := by
  unfold f_X11_happen_32_b
  exact fτ2
theorem qf_X11_happen_32 (σ : bz_S) (wh : Int32) (b : Int32) (w : Int32) (fo : Int32) : bz_fo [1, 2, 3, 14, 15, 16, 17, 18, 19, 20, 21, 22, 23, 24] σ (f_X11_happen_32 σ wh b w fo) := by
  unfold f_X11_happen_32
  exact (bz_ite (qf_X11_happen_32_a σ wh b w fo (f_X11_stroke_32 σ b w fo) (bz_fo_mo (qf_X11_stroke_32 σ b w fo) (by decide))) (bz_ite (bz_fo_no (f := _) bz_fo_rf (by decide)) (bz_ite (qf_X11_happen_32_b σ wh b w fo (f_X11_nap_32 σ) (bz_fo_mo (qf_X11_nap_32 σ) (by decide))) (bz_fo_up (f := _) bz_fo_rf (by decide)))))

theorem m_close_13 (σ : bz_S) (wh : Int32) : (f_X11_close_32 σ wh).2.1 32 13 = σ.1 32 13 + 1 := by
  unfold f_X11_close_32
  simp [bz_up]
theorem m_readOn_13 (σ : bz_S) (du c : Int32) : (f_X11_readOn_32 σ du c).2.1 32 13 = σ.1 32 13 ∨ (f_X11_readOn_32 σ du c).2.1 32 13 = σ.1 32 13 + 1 := by
  unfold f_X11_readOn_32 f_X11_readOn_32_a f_X11_readOn_32_b f_X11_readOn_32_c
  split
  · unfold f_X11_begin_32 f_X11_begin_32_a f_X11_begin_32_b f_X11_begin_32_c f_X11_begin_32_d
    repeat' split
    all_goals first | (refine Or.inr ?_; rw [m_close_13]; simp [bz_up]; done) | (exact Or.inl (by simp [bz_up]))
  · split
    · unfold f_X11_deed_32 f_X11_deed_32_a
      repeat' split
      all_goals first | (refine Or.inr ?_; rw [m_close_13]; done) | (exact Or.inl (by simp [bz_up]))
    · unfold f_X11_force_32 f_X11_force_32_a
      repeat' split
      all_goals first | (refine Or.inr ?_; rw [m_close_13]; simp [bz_up]; done) | (exact Or.inl (by simp [bz_up]))
theorem m_acts {σ : bz_S} {j : Nat} (hA : ∃ A, A ≤ j ∧ σ.1 32 13 = nI A) (du c : Int32) : ∃ A, A ≤ j + 1 ∧ (f_X11_readOn_32 σ du c).2.1 32 13 = nI A := by
  obtain ⟨A, h1, h2⟩ := hA
  rcases m_readOn_13 σ du c with h | h
  · exact ⟨A, by omega, h.trans h2⟩
  · exact ⟨A + 1, by omega, by rw [h, h2, nI_1]⟩
theorem m_acts_in {σ : bz_S} {j : Nat} (hA : ∃ A, A ≤ j ∧ σ.1 32 13 = nI A) (hj : j < 60) : vp_in (σ.1 32 13) 60 := by
  obtain ⟨A, h1, h2⟩ := hA
  rw [h2]
  exact vp_in_nI (by omega) (by decide)

def lp_mfault_a (rc : bz_S → Int32 → Int32 → (Int32 × bz_S)) (σ : bz_S) (du : Int32) (pl : Int32) (τ1 : Int32 × bz_S) : Int32 × bz_S := if 0 ≤ τ1.1 then (rc τ1.2 τ1.1 (pl + 1)) else (pl, τ1.2)
def lp_mfault : Nat → bz_S → Int32 → Int32 → Int32 × bz_S
  | 0, σ, du, pl => if du = 0 then ((-6), σ) else ((σ.1 32 8), σ)
  | n + 1, σ, du, pl => (lp_mfault_a (lp_mfault n) σ du pl (f_X11_readOn_32 σ du (σ.1 36 pl.toNatClampNeg)))
set_option maxRecDepth 100000 in
theorem lp_mfault0_blk1 {X : bz_X} (σ : bz_S) (du : Int32) (pl : Int32) : bz_run X bt_X11_fault 4 (9, [some (.ref 32), some (.int du), some (.int pl)], [], σ) = some (True, if (σ.1 32 8) ≤ pl then (41, [some (.ref 32), some (.int du), some (.int pl)], [], σ) else (17, [some (.ref 32), some (.int du), some (.int pl)], [], σ)) := rfl
set_option maxRecDepth 100000 in
theorem lp_mfault0_blk2 {X : bz_X} (σ : bz_S) (du : Int32) (pl : Int32) : bz_run X bt_X11_fault 2 (41, [some (.ref 32), some (.int du), some (.int pl)], [], σ) = some (True, if ¬ du = 0 then (50, [some (.ref 32), some (.int du), some (.int pl)], [], σ) else (45, [some (.ref 32), some (.int du), some (.int pl)], [], σ)) := rfl
set_option maxRecDepth 100000 in
theorem lp_mfault0_blk3 {X : bz_X} (σ : bz_S) (du : Int32) (pl : Int32) : bz_run X bt_X11_fault 2 (50, [some (.ref 32), some (.int du), some (.int pl)], [], σ) = some (True, (54, [some (.ref 32), some (.int du), some (.int pl)], [.int (σ.1 32 8)], σ)) := rfl
set_option maxRecDepth 100000 in
theorem lp_mfault0_blk4 {X : bz_X} (σ : bz_S) (du : Int32) (pl : Int32) : bz_run X bt_X11_fault 2 (45, [some (.ref 32), some (.int du), some (.int pl)], [], σ) = some (True, (54, [some (.ref 32), some (.int du), some (.int pl)], [.int (-6)], σ)) := rfl
set_option maxRecDepth 100000 in
theorem lp_mfault_blk1 {X : bz_X} (σ : bz_S) (du : Int32) (pl : Int32) : bz_run X bt_X11_fault 4 (9, [some (.ref 32), some (.int du), some (.int pl)], [], σ) = some (True, if (σ.1 32 8) ≤ pl then (41, [some (.ref 32), some (.int du), some (.int pl)], [], σ) else (17, [some (.ref 32), some (.int du), some (.int pl)], [], σ)) := rfl
set_option maxRecDepth 100000 in
theorem lp_mfault_blk2 {X : bz_X} (σ : bz_S) (du : Int32) (pl : Int32) : bz_run X bt_X11_fault 6 (17, [some (.ref 32), some (.int du), some (.int pl)], [], σ) = some (vp_in pl 60 ∧ True, (25, [some (.ref 32), some (.int du), some (.int pl)], [.int (σ.1 36 pl.toNatClampNeg), .int du, .ref 32], σ)) := rfl
set_option maxRecDepth 100000 in
theorem lp_mfault_blk3 {X : bz_X} (σ : bz_S) (du : Int32) (pl : Int32) (τ1 : Int32 × bz_S) : bz_run X bt_X11_fault 3 (28, [some (.ref 32), some (.int du), some (.int pl)], [.int τ1.1], τ1.2) = some (True, if 0 ≤ τ1.1 then (35, [some (.ref 32), some (.int τ1.1), some (.int pl)], [], τ1.2) else (33, [some (.ref 32), some (.int τ1.1), some (.int pl)], [], τ1.2)) := rfl
set_option maxRecDepth 100000 in
theorem lp_mfault_blk4 {X : bz_X} (σ : bz_S) (du : Int32) (pl : Int32) (τ1 : Int32 × bz_S) : bz_run X bt_X11_fault 2 (35, [some (.ref 32), some (.int τ1.1), some (.int pl)], [], τ1.2) = some (True, (9, [some (.ref 32), some (.int τ1.1), some (.int (pl + 1))], [], τ1.2)) := rfl
set_option maxRecDepth 100000 in
theorem lp_mfault_blk5 {X : bz_X} (σ : bz_S) (du : Int32) (pl : Int32) (τ1 : Int32 × bz_S) : bz_run X bt_X11_fault 1 (33, [some (.ref 32), some (.int τ1.1), some (.int pl)], [], τ1.2) = some (True, (34, [some (.ref 32), some (.int τ1.1), some (.int pl)], [.int pl], τ1.2)) := rfl
set_option maxRecDepth 100000 in
theorem s_lp_mfault {X : bz_X} (N : Nat) (h60 : N ≤ 60) : ∀ (n : Nat) (σ : bz_S) (du : Int32) (pl : Int32) (j9 : Nat) (hi : pl = nI j9) (hj : j9 + n = N) (hN : σ.1 32 8 = nI N) (hA : ∃ A, A ≤ j9 ∧ σ.1 32 13 = nI A), bz_wp bz_P X mX11_fault (bz_pi (lp_mfault n σ du pl).1 (lp_mfault n σ du pl).2) (9, [some (.ref 32), some (.int du), some (.int pl)], [], σ) := by
  intro n
  induction n with
  | zero =>
    intro σ du pl j9 hi hj hN hA
    refine bz_wpb bT_X11_fault 4 (b1 := (41, [some (.ref 32), some (.int du), some (.int pl)], [], σ)) (b2 := (17, [some (.ref 32), some (.int du), some (.int pl)], [], σ)) (C := (σ.1 32 8) ≤ pl) (G := True) (lp_mfault0_blk1 σ du pl) trivial (fun _ => ?_) (fun z => absurd (show (σ.1 32 8) ≤ pl from by rw [hi, hN]; exact nI_le (by omega) (by omega)) z)
    refine bz_wpb bT_X11_fault 2 (b1 := (50, [some (.ref 32), some (.int du), some (.int pl)], [], σ)) (b2 := (45, [some (.ref 32), some (.int du), some (.int pl)], [], σ)) (C := ¬ du = 0) (G := True) (lp_mfault0_blk2 σ du pl) trivial (fun h1 => ?_) (fun h1 => ?_)
    · skip
      refine bz_wpn bT_X11_fault 2 (b := (54, [some (.ref 32), some (.int du), some (.int pl)], [.int (σ.1 32 8)], σ)) (G := True) (lp_mfault0_blk3 σ du pl) trivial ?_
      refine bz_wpr bT_X11_fault rfl rfl trivial ?_
      have e9 : lp_mfault 0 σ du pl = ((σ.1 32 8), σ) := by rw [lp_mfault, if_neg (h1)]
      exact ⟨by rw [e9], by rw [e9]⟩
    · skip
      refine bz_wpn bT_X11_fault 2 (b := (54, [some (.ref 32), some (.int du), some (.int pl)], [.int (-6)], σ)) (G := True) (lp_mfault0_blk4 σ du pl) trivial ?_
      refine bz_wpr bT_X11_fault rfl rfl trivial ?_
      have e9 : lp_mfault 0 σ du pl = ((-6), σ) := by rw [lp_mfault, if_pos ((Decidable.not_not.mp h1))]
      exact ⟨by rw [e9], by rw [e9]⟩
  | succ n ih =>
    intro σ du pl j9 hi hj hN hA
    refine bz_wpb bT_X11_fault 4 (b1 := (41, [some (.ref 32), some (.int du), some (.int pl)], [], σ)) (b2 := (17, [some (.ref 32), some (.int du), some (.int pl)], [], σ)) (C := (σ.1 32 8) ≤ pl) (G := True) (lp_mfault_blk1 σ du pl) trivial (fun z => absurd z (show ¬ (σ.1 32 8) ≤ pl from by rw [hi, hN]; exact nI_ge (by omega) (by omega))) (fun _ => ?_)
    refine bz_wpn bT_X11_fault 6 (b := (25, [some (.ref 32), some (.int du), some (.int pl)], [.int (σ.1 36 pl.toNatClampNeg), .int du, .ref 32], σ)) (G := vp_in pl 60 ∧ True) (lp_mfault_blk2 σ du pl) ⟨(by rw [hi]; exact vp_in_nI (by omega) (by decide)), trivial⟩ ?_
    refine bz_wci bT_X11_fault [.ref 32, .int du, .int (σ.1 36 pl.toNatClampNeg)] (pc' := 28) (rest := []) rfl rfl (Nat.le_of_ble_eq_true rfl) rfl (Nat.le_of_ble_eq_true rfl) rfl (s_X11_readOn_32 σ du (σ.1 36 pl.toNatClampNeg) (m_acts_in hA (by omega))) rfl ?_
    generalize hτ1 : f_X11_readOn_32 σ du (σ.1 36 pl.toNatClampNeg) = τ1
    refine bz_wpb bT_X11_fault 3 (b1 := (35, [some (.ref 32), some (.int τ1.1), some (.int pl)], [], τ1.2)) (b2 := (33, [some (.ref 32), some (.int τ1.1), some (.int pl)], [], τ1.2)) (C := 0 ≤ τ1.1) (G := True) (lp_mfault_blk3 σ du pl τ1) trivial (fun h1 => ?_) (fun h1 => ?_)
    · skip
      refine bz_wpn bT_X11_fault 2 (b := (9, [some (.ref 32), some (.int τ1.1), some (.int (pl + 1))], [], τ1.2)) (G := True) (lp_mfault_blk4 σ du pl τ1) trivial ?_
      have e9 : lp_mfault (n + 1) σ du pl = (lp_mfault n τ1.2 τ1.1 (pl + 1)) := by rw [lp_mfault, hτ1, lp_mfault_a, if_pos (h1)]
      rw [e9]
      exact ih τ1.2 τ1.1 (pl + 1) (j9 + 1) (by rw [hi]; exact nI_1 j9) (by omega) (by rw [← hτ1]; exact (qf_X11_readOn_32 σ _ _ 8 (by decide)).trans hN) (by rw [← hτ1]; exact m_acts hA _ _)
    · skip
      refine bz_wpn bT_X11_fault 1 (b := (34, [some (.ref 32), some (.int τ1.1), some (.int pl)], [.int pl], τ1.2)) (G := True) (lp_mfault_blk5 σ du pl τ1) trivial ?_
      refine bz_wpr bT_X11_fault rfl rfl trivial ?_
      have e9 : lp_mfault (n + 1) σ du pl = (pl, τ1.2) := by rw [lp_mfault, hτ1, lp_mfault_a, if_neg (h1)]
      exact ⟨by rw [e9], by rw [e9]⟩
theorem rlp_mfault_a (rc : bz_S → Int32 → Int32 → (Int32 × bz_S)) (σ : bz_S) (du : Int32) (pl : Int32) (τ1 : Int32 × bz_S) (ihc : ∀ (σ : bz_S) (du : Int32) (pl : Int32), bz_fr [32, 37, 38, 39, 40] σ (rc σ du pl).2) (fτ1 : bz_fr [32, 37, 38, 39, 40] σ τ1.2) : bz_fr [32, 37, 38, 39, 40] σ (lp_mfault_a rc σ du pl τ1).2 := by
  unfold lp_mfault_a
  exact (bz_ite2 (bz_fr_tr (τ := τ1.2) fτ1 (ihc τ1.2 τ1.1 (pl + 1))) fτ1)
theorem rlp_mfault : ∀ (n : Nat) (σ : bz_S) (du : Int32) (pl : Int32), bz_fr [32, 37, 38, 39, 40] σ (lp_mfault n σ du pl).2 := by
  intro n
  induction n with
  | zero =>
    intro σ du pl
    rw [lp_mfault]
    exact (bz_ite2 bz_fr_rf bz_fr_rf)
  | succ n ihc =>
    intro σ du pl
    rw [lp_mfault]
    exact (rlp_mfault_a (lp_mfault n) σ du pl (f_X11_readOn_32 σ du (σ.1 36 pl.toNatClampNeg)) ihc (bz_fr_mo (rf_X11_readOn_32 σ du (σ.1 36 pl.toNatClampNeg)) (by decide)))
theorem qlp_mfault_a (rc : bz_S → Int32 → Int32 → (Int32 × bz_S)) (σ : bz_S) (du : Int32) (pl : Int32) (τ1 : Int32 × bz_S) (ihc : ∀ (σ : bz_S) (du : Int32) (pl : Int32), bz_fo [13] σ (rc σ du pl).2) (fτ1 : bz_fo [13] σ τ1.2) : bz_fo [13] σ (lp_mfault_a rc σ du pl τ1).2 := by
  unfold lp_mfault_a
  exact (bz_ite2 (bz_fo_tr (τ := τ1.2) fτ1 (ihc τ1.2 τ1.1 (pl + 1))) fτ1)
theorem qlp_mfault : ∀ (n : Nat) (σ : bz_S) (du : Int32) (pl : Int32), bz_fo [13] σ (lp_mfault n σ du pl).2 := by
  intro n
  induction n with
  | zero =>
    intro σ du pl
    rw [lp_mfault]
    exact (bz_ite2 bz_fo_rf bz_fo_rf)
  | succ n ihc =>
    intro σ du pl
    rw [lp_mfault]
    exact (qlp_mfault_a (lp_mfault n) σ du pl (f_X11_readOn_32 σ du (σ.1 36 pl.toNatClampNeg)) ihc (bz_fo_mo (qf_X11_readOn_32 σ du (σ.1 36 pl.toNatClampNeg)) (by decide)))

def f_X11_fault_32 (σ : bz_S)  : Int32 × bz_S := lp_mfault (σ.1 32 8).toNatClampNeg ((bz_up σ.1 32 13 0), σ.2) 0 0
set_option maxRecDepth 100000 in
theorem f_X11_fault_32_blk1 {X : bz_X} (σ : bz_S) : bz_run X bt_X11_fault 7 (0, [some (.ref 32), none, none], [], σ) = some (True, (9, [some (.ref 32), some (.int 0), some (.int 0)], [], ((bz_up σ.1 32 13 0), σ.2))) := rfl
set_option maxRecDepth 100000 in
theorem s_X11_fault_32 {X : bz_X} (σ : bz_S) (hp : bz_padM σ) : bz_C bz_P X mX11_fault [.ref 32] σ (bz_pi (f_X11_fault_32 σ).1 (f_X11_fault_32 σ).2) := by
  show bz_wp bz_P X mX11_fault (bz_pi (f_X11_fault_32 σ).1 (f_X11_fault_32 σ).2) (0, [some (.ref 32), none, none], [], σ)
  refine bz_wpn bT_X11_fault 7 (b := (9, [some (.ref 32), some (.int 0), some (.int 0)], [], ((bz_up σ.1 32 13 0), σ.2))) (G := True) (f_X11_fault_32_blk1 σ) trivial ?_
  have e9 : f_X11_fault_32 σ = lp_mfault (σ.1 32 8).toNatClampNeg ((bz_up σ.1 32 13 0), σ.2) 0 0 := by rw [f_X11_fault_32]
  rw [e9]
  obtain ⟨N, h60, hN⟩ := hp
  exact s_lp_mfault N h60 _ ((bz_up σ.1 32 13 0), σ.2) 0 0 0 rfl (by rw [hN, nI_clamp (by omega)]; omega) (by simpa [bz_up] using hN) ⟨0, by omega, (by simp [bz_up]; rfl)⟩
theorem rf_X11_fault_32 (σ : bz_S)  : bz_fr [32, 37, 38, 39, 40] σ (f_X11_fault_32 σ).2 := by
  unfold f_X11_fault_32
  exact (bz_fr_tr (τ := ((bz_up σ.1 32 13 0), σ.2)) ⟨(bz_f1_up (bz_fr_rf).1 (by decide)), (bz_fr_rf).2⟩ (bz_fr_mo (rlp_mfault (σ.1 32 8).toNatClampNeg ((bz_up σ.1 32 13 0), σ.2) 0 0) (by decide)))
theorem qf_X11_fault_32 (σ : bz_S)  : bz_fo [13] σ (f_X11_fault_32 σ).2 := by
  unfold f_X11_fault_32
  exact (bz_fo_tr (τ := ((bz_up σ.1 32 13 0), σ.2)) (bz_fo_up (f := _) bz_fo_rf (by decide)) (bz_fo_mo (qlp_mfault (σ.1 32 8).toNatClampNeg ((bz_up σ.1 32 13 0), σ.2) 0 0) (by decide)))
