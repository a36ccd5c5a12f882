def f_X11_pass_32 (σ : bz_S) (v : Int32) : Int32 × bz_S := if (σ.1 32 41) = 0 then ((σ.1 50 ((σ.1 32 40).toNatClampNeg)), ((bz_up (bz_up σ.1 50 ((σ.1 32 40).toNatClampNeg) (σ.1 50 ((σ.1 32 40).toNatClampNeg))) 32 40 ((σ.1 32 40) + 1)), σ.2)) else (v, ((bz_up (bz_up σ.1 50 ((σ.1 32 40).toNatClampNeg) v) 32 40 ((σ.1 32 40) + 1)), σ.2))
set_option maxRecDepth 100000 in
theorem f_X11_pass_32_blk1 {X : bz_X} (σ : bz_S) (v : Int32) : bz_run X bt_X11_pass 3 (0, [some (.ref 32), some (.int v), none], [], σ) = some (True, if (σ.1 32 41) = 0 then (11, [some (.ref 32), some (.int v), none], [], σ) else (7, [some (.ref 32), some (.int v), none], [], σ)) := rfl
set_option maxRecDepth 100000 in
theorem f_X11_pass_32_blk2 {X : bz_X} (σ : bz_S) (v : Int32) : bz_run X bt_X11_pass 19 (11, [some (.ref 32), some (.int v), none], [], σ) = some (vp_in (σ.1 32 40) 60 ∧ vp_in (σ.1 32 40) 60 ∧ True, (42, [some (.ref 32), some (.int v), some (.int (σ.1 50 ((σ.1 32 40).toNatClampNeg)))], [.int (σ.1 50 ((σ.1 32 40).toNatClampNeg))], ((bz_up (bz_up σ.1 50 ((σ.1 32 40).toNatClampNeg) (σ.1 50 ((σ.1 32 40).toNatClampNeg))) 32 40 ((σ.1 32 40) + 1)), σ.2))) := rfl
set_option maxRecDepth 100000 in
theorem f_X11_pass_32_blk3 {X : bz_X} (σ : bz_S) (v : Int32) : bz_run X bt_X11_pass 16 (7, [some (.ref 32), some (.int v), none], [], σ) = some (vp_in (σ.1 32 40) 60 ∧ True, (42, [some (.ref 32), some (.int v), some (.int v)], [.int v], ((bz_up (bz_up σ.1 50 ((σ.1 32 40).toNatClampNeg) v) 32 40 ((σ.1 32 40) + 1)), σ.2))) := rfl
set_option maxRecDepth 100000 in
theorem s_X11_pass_32 {X : bz_X} (σ : bz_S) (v : Int32) (hk : vp_in (σ.1 32 40) 60) : bz_C bz_P X mX11_pass [.ref 32, .int v] σ (bz_pi (f_X11_pass_32 σ v).1 (f_X11_pass_32 σ v).2) := by
  show bz_wp bz_P X mX11_pass (bz_pi (f_X11_pass_32 σ v).1 (f_X11_pass_32 σ v).2) (0, [some (.ref 32), some (.int v), none], [], σ)
  refine bz_wpb bT_X11_pass 3 (b1 := (11, [some (.ref 32), some (.int v), none], [], σ)) (b2 := (7, [some (.ref 32), some (.int v), none], [], σ)) (C := (σ.1 32 41) = 0) (G := True) (f_X11_pass_32_blk1 σ v) trivial (fun h1 => ?_) (fun h1 => ?_)
  · skip
    refine bz_wpn bT_X11_pass 19 (b := (42, [some (.ref 32), some (.int v), some (.int (σ.1 50 ((σ.1 32 40).toNatClampNeg)))], [.int (σ.1 50 ((σ.1 32 40).toNatClampNeg))], ((bz_up (bz_up σ.1 50 ((σ.1 32 40).toNatClampNeg) (σ.1 50 ((σ.1 32 40).toNatClampNeg))) 32 40 ((σ.1 32 40) + 1)), σ.2))) (G := vp_in (σ.1 32 40) 60 ∧ vp_in (σ.1 32 40) 60 ∧ True) (f_X11_pass_32_blk2 σ v) ⟨hk, hk, trivial⟩ ?_
    refine bz_wpr bT_X11_pass rfl rfl trivial ?_
    have e9 : f_X11_pass_32 σ v = ((σ.1 50 ((σ.1 32 40).toNatClampNeg)), ((bz_up (bz_up σ.1 50 ((σ.1 32 40).toNatClampNeg) (σ.1 50 ((σ.1 32 40).toNatClampNeg))) 32 40 ((σ.1 32 40) + 1)), σ.2)) := by rw [f_X11_pass_32, if_pos (h1)]
    exact ⟨by rw [e9], by rw [e9]⟩
  · skip
    refine bz_wpn bT_X11_pass 16 (b := (42, [some (.ref 32), some (.int v), some (.int v)], [.int v], ((bz_up (bz_up σ.1 50 ((σ.1 32 40).toNatClampNeg) v) 32 40 ((σ.1 32 40) + 1)), σ.2))) (G := vp_in (σ.1 32 40) 60 ∧ True) (f_X11_pass_32_blk3 σ v) ⟨hk, trivial⟩ ?_
    refine bz_wpr bT_X11_pass rfl rfl trivial ?_
    have e9 : f_X11_pass_32 σ v = (v, ((bz_up (bz_up σ.1 50 ((σ.1 32 40).toNatClampNeg) v) 32 40 ((σ.1 32 40) + 1)), σ.2)) := by rw [f_X11_pass_32, if_neg (h1)]
    exact ⟨by rw [e9], by rw [e9]⟩
theorem rf_X11_pass_32 (σ : bz_S) (v : Int32) : bz_fr [32, 50] σ (f_X11_pass_32 σ v).2 := by
  unfold f_X11_pass_32
  exact (bz_ite2 ⟨(bz_f1_up (bz_f1_up (bz_fr_rf).1 (by decide)) (by decide)), (bz_fr_rf).2⟩ ⟨(bz_f1_up (bz_f1_up (bz_fr_rf).1 (by decide)) (by decide)), (bz_fr_rf).2⟩)
theorem qf_X11_pass_32 (σ : bz_S) (v : Int32) : bz_fo [40] σ (f_X11_pass_32 σ v).2 := by
  unfold f_X11_pass_32
  exact (bz_ite2 (bz_fo_up (f := _) (bz_fo_no (f := _) bz_fo_rf (by decide)) (by decide)) (bz_fo_up (f := _) (bz_fo_no (f := _) bz_fo_rf (by decide)) (by decide)))

theorem m_pass_40 {σ : bz_S} {v : Int32} {τ : Int32 × bz_S} (h : f_X11_pass_32 σ v = τ) : τ.2.1 32 40 = σ.1 32 40 + 1 := by
  subst h
  unfold f_X11_pass_32
  split <;> simp [bz_up]

def lp_pr33_a (rc : bz_S → Int32 → bz_S) (σ : bz_S) (e : Int32) (τ1 : Int32 × bz_S) : bz_S := (rc ((bz_up τ1.2.1 33 e.toNatClampNeg τ1.1), τ1.2.2) (e + 1))
def lp_pr33 : Nat → bz_S → Int32 → bz_S
  | 0, σ, e => σ
  | n + 1, σ, e => (lp_pr33_a (lp_pr33 n) σ e (f_X11_pass_32 σ (σ.1 33 e.toNatClampNeg)))
set_option maxRecDepth 100000 in
theorem lp_pr330_blk1 {X : bz_X} (mn : Int32) (σ : bz_S) (e : Int32) : bz_run X bt_X11_passRow 3 (2, [some (.ref 32), some (.ref 33), some (.int mn), some (.int e)], [], σ) = some (True, if mn ≤ e then (23, [some (.ref 32), some (.ref 33), some (.int mn), some (.int e)], [], σ) else (7, [some (.ref 32), some (.ref 33), some (.int mn), some (.int e)], [], σ)) := rfl
set_option maxRecDepth 100000 in
theorem lp_pr33_blk1 {X : bz_X} (mn : Int32) (σ : bz_S) (e : Int32) : bz_run X bt_X11_passRow 3 (2, [some (.ref 32), some (.ref 33), some (.int mn), some (.int e)], [], σ) = some (True, if mn ≤ e then (23, [some (.ref 32), some (.ref 33), some (.int mn), some (.int e)], [], σ) else (7, [some (.ref 32), some (.ref 33), some (.int mn), some (.int e)], [], σ)) := rfl
set_option maxRecDepth 100000 in
theorem lp_pr33_blk2 {X : bz_X} (mn : Int32) (σ : bz_S) (e : Int32) : bz_run X bt_X11_passRow 6 (7, [some (.ref 32), some (.ref 33), some (.int mn), some (.int e)], [], σ) = some (vp_in e 3 ∧ True, (13, [some (.ref 32), some (.ref 33), some (.int mn), some (.int e)], [.int (σ.1 33 e.toNatClampNeg), .ref 32, .int e, .ref 33], σ)) := rfl
set_option maxRecDepth 100000 in
theorem lp_pr33_blk3 {X : bz_X} (mn : Int32) (σ : bz_S) (e : Int32) (τ1 : Int32 × bz_S) : bz_run X bt_X11_passRow 3 (16, [some (.ref 32), some (.ref 33), some (.int mn), some (.int e)], [.int τ1.1, .int e, .ref 33], τ1.2) = some (vp_in e 3 ∧ True, (2, [some (.ref 32), some (.ref 33), some (.int mn), some (.int (e + 1))], [], ((bz_up τ1.2.1 33 e.toNatClampNeg τ1.1), τ1.2.2))) := rfl
set_option maxRecDepth 100000 in
theorem s_lp_pr33 {X : bz_X} (mn : Int32) (MN : Nat) (hM : mn = nI MN) (hM2 : MN ≤ 3) : ∀ (n : Nat) (σ : bz_S) (e : Int32) (j9 : Nat) (hi : e = nI j9) (hj : j9 + n = MN) (K9 : Nat) (hk : σ.1 32 40 = nI K9) (hk2 : K9 + n ≤ 60), bz_wp bz_P X mX11_passRow (bz_pv (lp_pr33 n σ e)) (2, [some (.ref 32), some (.ref 33), some (.int mn), some (.int e)], [], σ) := by
  intro n
  induction n with
  | zero =>
    intro σ e j9 hi hj K9 hk hk2
    refine bz_wpb bT_X11_passRow 3 (b1 := (23, [some (.ref 32), some (.ref 33), some (.int mn), some (.int e)], [], σ)) (b2 := (7, [some (.ref 32), some (.ref 33), some (.int mn), some (.int e)], [], σ)) (C := mn ≤ e) (G := True) (lp_pr330_blk1 mn σ e) trivial (fun _ => ?_) (fun z => absurd (show mn ≤ e from by rw [hi, hM]; exact nI_le (by omega) (by omega)) z)
    refine bz_wpr bT_X11_passRow rfl rfl trivial ?_
    have e9 : lp_pr33 0 σ e = σ := by rw [lp_pr33]
    exact ⟨rfl, by rw [e9]⟩
  | succ n ih =>
    intro σ e j9 hi hj K9 hk hk2
    refine bz_wpb bT_X11_passRow 3 (b1 := (23, [some (.ref 32), some (.ref 33), some (.int mn), some (.int e)], [], σ)) (b2 := (7, [some (.ref 32), some (.ref 33), some (.int mn), some (.int e)], [], σ)) (C := mn ≤ e) (G := True) (lp_pr33_blk1 mn σ e) trivial (fun z => absurd z (show ¬ mn ≤ e from by rw [hi, hM]; exact nI_ge (by omega) (by omega))) (fun _ => ?_)
    refine bz_wpn bT_X11_passRow 6 (b := (13, [some (.ref 32), some (.ref 33), some (.int mn), some (.int e)], [.int (σ.1 33 e.toNatClampNeg), .ref 32, .int e, .ref 33], σ)) (G := vp_in e 3 ∧ True) (lp_pr33_blk2 mn σ e) ⟨(by rw [hi]; exact vp_in_nI (by omega) (by decide)), trivial⟩ ?_
    refine bz_wci bT_X11_passRow [.ref 32, .int (σ.1 33 e.toNatClampNeg)] (pc' := 16) (rest := [.int e, .ref 33]) rfl rfl (Nat.le_of_ble_eq_true rfl) rfl (Nat.le_of_ble_eq_true rfl) rfl (s_X11_pass_32 σ (σ.1 33 e.toNatClampNeg) (by rw [hk]; exact vp_in_nI (by omega) (by decide))) rfl ?_
    generalize hτ1 : f_X11_pass_32 σ (σ.1 33 e.toNatClampNeg) = τ1
    refine bz_wpn bT_X11_passRow 3 (b := (2, [some (.ref 32), some (.ref 33), some (.int mn), some (.int (e + 1))], [], ((bz_up τ1.2.1 33 e.toNatClampNeg τ1.1), τ1.2.2))) (G := vp_in e 3 ∧ True) (lp_pr33_blk3 mn σ e τ1) ⟨(by rw [hi]; exact vp_in_nI (by omega) (by decide)), trivial⟩ ?_
    have e9 : lp_pr33 (n + 1) σ e = (lp_pr33 n ((bz_up τ1.2.1 33 e.toNatClampNeg τ1.1), τ1.2.2) (e + 1)) := by rw [lp_pr33, hτ1, lp_pr33_a]
    rw [e9]
    exact ih ((bz_up τ1.2.1 33 e.toNatClampNeg τ1.1), τ1.2.2) (e + 1) (j9 + 1) (by rw [hi]; exact nI_1 j9) (by omega) (K9 + 1) ((show ((bz_up τ1.2.1 33 e.toNatClampNeg τ1.1), τ1.2.2).1 32 40 = τ1.2.1 32 40 from by simp [bz_up]).trans ((m_pass_40 hτ1).trans (by rw [hk, nI_1]))) (by omega)
theorem rlp_pr33_a (rc : bz_S → Int32 → bz_S) (σ : bz_S) (e : Int32) (τ1 : Int32 × bz_S) (ihc : ∀ (σ : bz_S) (e : Int32), bz_fr [32, 33, 50] σ (rc σ e)) (fτ1 : bz_fr [32, 33, 50] σ τ1.2) : bz_fr [32, 33, 50] σ (lp_pr33_a rc σ e τ1) := by
  unfold lp_pr33_a
  exact (bz_fr_tr (τ := ((bz_up τ1.2.1 33 e.toNatClampNeg τ1.1), τ1.2.2)) ⟨(bz_f1_up (fτ1).1 (by decide)), (fτ1).2⟩ (ihc ((bz_up τ1.2.1 33 e.toNatClampNeg τ1.1), τ1.2.2) (e + 1)))
theorem rlp_pr33 : ∀ (n : Nat) (σ : bz_S) (e : Int32), bz_fr [32, 33, 50] σ (lp_pr33 n σ e) := by
  intro n
  induction n with
  | zero =>
    intro σ e
    rw [lp_pr33]
    exact bz_fr_rf
  | succ n ihc =>
    intro σ e
    rw [lp_pr33]
    exact (rlp_pr33_a (lp_pr33 n) σ e (f_X11_pass_32 σ (σ.1 33 e.toNatClampNeg)) ihc (bz_fr_mo (rf_X11_pass_32 σ (σ.1 33 e.toNatClampNeg)) (by decide)))
theorem qlp_pr33_a (rc : bz_S → Int32 → bz_S) (σ : bz_S) (e : Int32) (τ1 : Int32 × bz_S) (ihc : ∀ (σ : bz_S) (e : Int32), bz_fo [40] σ (rc σ e)) (fτ1 : bz_fo [40] σ τ1.2) : bz_fo [40] σ (lp_pr33_a rc σ e τ1) := by
  unfold lp_pr33_a
  exact (bz_fo_tr (τ := ((bz_up τ1.2.1 33 e.toNatClampNeg τ1.1), τ1.2.2)) (bz_fo_no (f := _) fτ1 (by decide)) (ihc ((bz_up τ1.2.1 33 e.toNatClampNeg τ1.1), τ1.2.2) (e + 1)))
theorem qlp_pr33 : ∀ (n : Nat) (σ : bz_S) (e : Int32), bz_fo [40] σ (lp_pr33 n σ e) := by
  intro n
  induction n with
  | zero =>
    intro σ e
    rw [lp_pr33]
    exact bz_fo_rf
  | succ n ihc =>
    intro σ e
    rw [lp_pr33]
    exact (qlp_pr33_a (lp_pr33 n) σ e (f_X11_pass_32 σ (σ.1 33 e.toNatClampNeg)) ihc (bz_fo_mo (qf_X11_pass_32 σ (σ.1 33 e.toNatClampNeg)) (by decide)))

def f_X11_passRow_32_33 (σ : bz_S) (mn : Int32) : bz_S := lp_pr33 mn.toNatClampNeg σ 0
set_option maxRecDepth 100000 in
theorem f_X11_passRow_32_33_blk1 {X : bz_X} (σ : bz_S) (mn : Int32) : bz_run X bt_X11_passRow 2 (0, [some (.ref 32), some (.ref 33), some (.int mn), none], [], σ) = some (True, (2, [some (.ref 32), some (.ref 33), some (.int mn), some (.int 0)], [], σ)) := rfl
set_option maxRecDepth 100000 in
theorem s_X11_passRow_32_33 {X : bz_X} (σ : bz_S) (mn : Int32) (MN K : Nat) (hM : mn = nI MN) (hM2 : MN ≤ 3) (hk : σ.1 32 40 = nI K) (hk2 : K + MN ≤ 60) : bz_C bz_P X mX11_passRow [.ref 32, .ref 33, .int mn] σ (bz_pv (f_X11_passRow_32_33 σ mn)) := by
  show bz_wp bz_P X mX11_passRow (bz_pv (f_X11_passRow_32_33 σ mn)) (0, [some (.ref 32), some (.ref 33), some (.int mn), none], [], σ)
  refine bz_wpn bT_X11_passRow 2 (b := (2, [some (.ref 32), some (.ref 33), some (.int mn), some (.int 0)], [], σ)) (G := True) (f_X11_passRow_32_33_blk1 σ mn) trivial ?_
  have e9 : f_X11_passRow_32_33 σ mn = lp_pr33 mn.toNatClampNeg σ 0 := by rw [f_X11_passRow_32_33]
  rw [e9]
  exact s_lp_pr33 mn MN hM hM2 mn.toNatClampNeg σ 0 0 rfl (by rw [hM, nI_clamp (by omega)]; omega) K hk (by rw [hM, nI_clamp (by omega)]; exact hk2)
theorem rf_X11_passRow_32_33 (σ : bz_S) (mn : Int32) : bz_fr [32, 33, 50] σ (f_X11_passRow_32_33 σ mn) := by
  unfold f_X11_passRow_32_33
  exact (bz_fr_tr (τ := σ) bz_fr_rf (bz_fr_mo (rlp_pr33 mn.toNatClampNeg σ 0) (by decide)))
theorem qf_X11_passRow_32_33 (σ : bz_S) (mn : Int32) : bz_fo [40] σ (f_X11_passRow_32_33 σ mn) := by
  unfold f_X11_passRow_32_33
  exact (bz_fo_tr (τ := σ) bz_fo_rf (bz_fo_mo (qlp_pr33 mn.toNatClampNeg σ 0) (by decide)))

theorem lp_pr33_40 : ∀ (n : Nat) (σ : bz_S) (e : Int32) (K : Nat), σ.1 32 40 = nI K → (lp_pr33 n σ e).1 32 40 = nI (K + n) := by
  intro n
  induction n with
  | zero => intro σ e K h; rw [lp_pr33]; exact h
  | succ n ih =>
    intro σ e K h
    rw [lp_pr33]
    generalize hτ : f_X11_pass_32 σ _ = τ
    rw [lp_pr33_a, ih _ _ (K + 1) ?_]
    · congr 1; omega
    · show bz_up τ.2.1 33 e.toNatClampNeg τ.1 32 40 = nI (K + 1)
      rw [bz_up_o (by decide), m_pass_40 hτ, h, nI_1]
theorem m_row33_40 {σ τ : bz_S} {mn : Int32} {MN K : Nat} (hM : mn = nI MN) (hM2 : MN ≤ 3) (hk : σ.1 32 40 = nI K) (h : f_X11_passRow_32_33 σ mn = τ) : τ.1 32 40 = nI (K + MN) := by
  subst h
  unfold f_X11_passRow_32_33
  rw [lp_pr33_40 _ σ 0 K hk, hM, nI_clamp (by omega)]

def lp_pr34_a (rc : bz_S → Int32 → bz_S) (σ : bz_S) (e : Int32) (τ1 : Int32 × bz_S) : bz_S := (rc ((bz_up τ1.2.1 34 e.toNatClampNeg τ1.1), τ1.2.2) (e + 1))
def lp_pr34 : Nat → bz_S → Int32 → bz_S
  | 0, σ, e => σ
  | n + 1, σ, e => (lp_pr34_a (lp_pr34 n) σ e (f_X11_pass_32 σ (σ.1 34 e.toNatClampNeg)))
set_option maxRecDepth 100000 in
theorem lp_pr340_blk1 {X : bz_X} (mn : Int32) (σ : bz_S) (e : Int32) : bz_run X bt_X11_passRow 3 (2, [some (.ref 32), some (.ref 34), some (.int mn), some (.int e)], [], σ) = some (True, if mn ≤ e then (23, [some (.ref 32), some (.ref 34), some (.int mn), some (.int e)], [], σ) else (7, [some (.ref 32), some (.ref 34), some (.int mn), some (.int e)], [], σ)) := rfl
set_option maxRecDepth 100000 in
theorem lp_pr34_blk1 {X : bz_X} (mn : Int32) (σ : bz_S) (e : Int32) : bz_run X bt_X11_passRow 3 (2, [some (.ref 32), some (.ref 34), some (.int mn), some (.int e)], [], σ) = some (True, if mn ≤ e then (23, [some (.ref 32), some (.ref 34), some (.int mn), some (.int e)], [], σ) else (7, [some (.ref 32), some (.ref 34), some (.int mn), some (.int e)], [], σ)) := rfl
set_option maxRecDepth 100000 in
theorem lp_pr34_blk2 {X : bz_X} (mn : Int32) (σ : bz_S) (e : Int32) : bz_run X bt_X11_passRow 6 (7, [some (.ref 32), some (.ref 34), some (.int mn), some (.int e)], [], σ) = some (vp_in e 8 ∧ True, (13, [some (.ref 32), some (.ref 34), some (.int mn), some (.int e)], [.int (σ.1 34 e.toNatClampNeg), .ref 32, .int e, .ref 34], σ)) := rfl
set_option maxRecDepth 100000 in
theorem lp_pr34_blk3 {X : bz_X} (mn : Int32) (σ : bz_S) (e : Int32) (τ1 : Int32 × bz_S) : bz_run X bt_X11_passRow 3 (16, [some (.ref 32), some (.ref 34), some (.int mn), some (.int e)], [.int τ1.1, .int e, .ref 34], τ1.2) = some (vp_in e 8 ∧ True, (2, [some (.ref 32), some (.ref 34), some (.int mn), some (.int (e + 1))], [], ((bz_up τ1.2.1 34 e.toNatClampNeg τ1.1), τ1.2.2))) := rfl
set_option maxRecDepth 100000 in
theorem s_lp_pr34 {X : bz_X} (mn : Int32) (MN : Nat) (hM : mn = nI MN) (hM2 : MN ≤ 8) : ∀ (n : Nat) (σ : bz_S) (e : Int32) (j9 : Nat) (hi : e = nI j9) (hj : j9 + n = MN) (K9 : Nat) (hk : σ.1 32 40 = nI K9) (hk2 : K9 + n ≤ 60), bz_wp bz_P X mX11_passRow (bz_pv (lp_pr34 n σ e)) (2, [some (.ref 32), some (.ref 34), some (.int mn), some (.int e)], [], σ) := by
  intro n
  induction n with
  | zero =>
    intro σ e j9 hi hj K9 hk hk2
    refine bz_wpb bT_X11_passRow 3 (b1 := (23, [some (.ref 32), some (.ref 34), some (.int mn), some (.int e)], [], σ)) (b2 := (7, [some (.ref 32), some (.ref 34), some (.int mn), some (.int e)], [], σ)) (C := mn ≤ e) (G := True) (lp_pr340_blk1 mn σ e) trivial (fun _ => ?_) (fun z => absurd (show mn ≤ e from by rw [hi, hM]; exact nI_le (by omega) (by omega)) z)
    refine bz_wpr bT_X11_passRow rfl rfl trivial ?_
    have e9 : lp_pr34 0 σ e = σ := by rw [lp_pr34]
    exact ⟨rfl, by rw [e9]⟩
  | succ n ih =>
    intro σ e j9 hi hj K9 hk hk2
    refine bz_wpb bT_X11_passRow 3 (b1 := (23, [some (.ref 32), some (.ref 34), some (.int mn), some (.int e)], [], σ)) (b2 := (7, [some (.ref 32), some (.ref 34), some (.int mn), some (.int e)], [], σ)) (C := mn ≤ e) (G := True) (lp_pr34_blk1 mn σ e) trivial (fun z => absurd z (show ¬ mn ≤ e from by rw [hi, hM]; exact nI_ge (by omega) (by omega))) (fun _ => ?_)
    refine bz_wpn bT_X11_passRow 6 (b := (13, [some (.ref 32), some (.ref 34), some (.int mn), some (.int e)], [.int (σ.1 34 e.toNatClampNeg), .ref 32, .int e, .ref 34], σ)) (G := vp_in e 8 ∧ True) (lp_pr34_blk2 mn σ e) ⟨(by rw [hi]; exact vp_in_nI (by omega) (by decide)), trivial⟩ ?_
    refine bz_wci bT_X11_passRow [.ref 32, .int (σ.1 34 e.toNatClampNeg)] (pc' := 16) (rest := [.int e, .ref 34]) rfl rfl (Nat.le_of_ble_eq_true rfl) rfl (Nat.le_of_ble_eq_true rfl) rfl (s_X11_pass_32 σ (σ.1 34 e.toNatClampNeg) (by rw [hk]; exact vp_in_nI (by omega) (by decide))) rfl ?_
    generalize hτ1 : f_X11_pass_32 σ (σ.1 34 e.toNatClampNeg) = τ1
    refine bz_wpn bT_X11_passRow 3 (b := (2, [some (.ref 32), some (.ref 34), some (.int mn), some (.int (e + 1))], [], ((bz_up τ1.2.1 34 e.toNatClampNeg τ1.1), τ1.2.2))) (G := vp_in e 8 ∧ True) (lp_pr34_blk3 mn σ e τ1) ⟨(by rw [hi]; exact vp_in_nI (by omega) (by decide)), trivial⟩ ?_
    have e9 : lp_pr34 (n + 1) σ e = (lp_pr34 n ((bz_up τ1.2.1 34 e.toNatClampNeg τ1.1), τ1.2.2) (e + 1)) := by rw [lp_pr34, hτ1, lp_pr34_a]
    rw [e9]
    exact ih ((bz_up τ1.2.1 34 e.toNatClampNeg τ1.1), τ1.2.2) (e + 1) (j9 + 1) (by rw [hi]; exact nI_1 j9) (by omega) (K9 + 1) ((show ((bz_up τ1.2.1 34 e.toNatClampNeg τ1.1), τ1.2.2).1 32 40 = τ1.2.1 32 40 from by simp [bz_up]).trans ((m_pass_40 hτ1).trans (by rw [hk, nI_1]))) (by omega)
theorem rlp_pr34_a (rc : bz_S → Int32 → bz_S) (σ : bz_S) (e : Int32) (τ1 : Int32 × bz_S) (ihc : ∀ (σ : bz_S) (e : Int32), bz_fr [32, 34, 50] σ (rc σ e)) (fτ1 : bz_fr [32, 34, 50] σ τ1.2) : bz_fr [32, 34, 50] σ (lp_pr34_a rc σ e τ1) := by
  unfold lp_pr34_a
  exact (bz_fr_tr (τ := ((bz_up τ1.2.1 34 e.toNatClampNeg τ1.1), τ1.2.2)) ⟨(bz_f1_up (fτ1).1 (by decide)), (fτ1).2⟩ (ihc ((bz_up τ1.2.1 34 e.toNatClampNeg τ1.1), τ1.2.2) (e + 1)))
theorem rlp_pr34 : ∀ (n : Nat) (σ : bz_S) (e : Int32), bz_fr [32, 34, 50] σ (lp_pr34 n σ e) := by
  intro n
  induction n with
  | zero =>
    intro σ e
    rw [lp_pr34]
    exact bz_fr_rf
  | succ n ihc =>
    intro σ e
    rw [lp_pr34]
    exact (rlp_pr34_a (lp_pr34 n) σ e (f_X11_pass_32 σ (σ.1 34 e.toNatClampNeg)) ihc (bz_fr_mo (rf_X11_pass_32 σ (σ.1 34 e.toNatClampNeg)) (by decide)))
theorem qlp_pr34_a (rc : bz_S → Int32 → bz_S) (σ : bz_S) (e : Int32) (τ1 : Int32 × bz_S) (ihc : ∀ (σ : bz_S) (e : Int32), bz_fo [40] σ (rc σ e)) (fτ1 : bz_fo [40] σ τ1.2) : bz_fo [40] σ (lp_pr34_a rc σ e τ1) := by
  unfold lp_pr34_a
  exact (bz_fo_tr (τ := ((bz_up τ1.2.1 34 e.toNatClampNeg τ1.1), τ1.2.2)) (bz_fo_no (f := _) fτ1 (by decide)) (ihc ((bz_up τ1.2.1 34 e.toNatClampNeg τ1.1), τ1.2.2) (e + 1)))
theorem qlp_pr34 : ∀ (n : Nat) (σ : bz_S) (e : Int32), bz_fo [40] σ (lp_pr34 n σ e) := by
  intro n
  induction n with
  | zero =>
    intro σ e
    rw [lp_pr34]
    exact bz_fo_rf
  | succ n ihc =>
    intro σ e
    rw [lp_pr34]
    exact (qlp_pr34_a (lp_pr34 n) σ e (f_X11_pass_32 σ (σ.1 34 e.toNatClampNeg)) ihc (bz_fo_mo (qf_X11_pass_32 σ (σ.1 34 e.toNatClampNeg)) (by decide)))

def f_X11_passRow_32_34 (σ : bz_S) (mn : Int32) : bz_S := lp_pr34 mn.toNatClampNeg σ 0
set_option maxRecDepth 100000 in
theorem f_X11_passRow_32_34_blk1 {X : bz_X} (σ : bz_S) (mn : Int32) : bz_run X bt_X11_passRow 2 (0, [some (.ref 32), some (.ref 34), some (.int mn), none], [], σ) = some (True, (2, [some (.ref 32), some (.ref 34), some (.int mn), some (.int 0)], [], σ)) := rfl
set_option maxRecDepth 100000 in
theorem s_X11_passRow_32_34 {X : bz_X} (σ : bz_S) (mn : Int32) (MN K : Nat) (hM : mn = nI MN) (hM2 : MN ≤ 8) (hk : σ.1 32 40 = nI K) (hk2 : K + MN ≤ 60) : bz_C bz_P X mX11_passRow [.ref 32, .ref 34, .int mn] σ (bz_pv (f_X11_passRow_32_34 σ mn)) := by
  show bz_wp bz_P X mX11_passRow (bz_pv (f_X11_passRow_32_34 σ mn)) (0, [some (.ref 32), some (.ref 34), some (.int mn), none], [], σ)
  refine bz_wpn bT_X11_passRow 2 (b := (2, [some (.ref 32), some (.ref 34), some (.int mn), some (.int 0)], [], σ)) (G := True) (f_X11_passRow_32_34_blk1 σ mn) trivial ?_
  have e9 : f_X11_passRow_32_34 σ mn = lp_pr34 mn.toNatClampNeg σ 0 := by rw [f_X11_passRow_32_34]
  rw [e9]
  exact s_lp_pr34 mn MN hM hM2 mn.toNatClampNeg σ 0 0 rfl (by rw [hM, nI_clamp (by omega)]; omega) K hk (by rw [hM, nI_clamp (by omega)]; exact hk2)
theorem rf_X11_passRow_32_34 (σ : bz_S) (mn : Int32) : bz_fr [32, 34, 50] σ (f_X11_passRow_32_34 σ mn) := by
  unfold f_X11_passRow_32_34
  exact (bz_fr_tr (τ := σ) bz_fr_rf (bz_fr_mo (rlp_pr34 mn.toNatClampNeg σ 0) (by decide)))
theorem qf_X11_passRow_32_34 (σ : bz_S) (mn : Int32) : bz_fo [40] σ (f_X11_passRow_32_34 σ mn) := by
  unfold f_X11_passRow_32_34
  exact (bz_fo_tr (τ := σ) bz_fo_rf (bz_fo_mo (qlp_pr34 mn.toNatClampNeg σ 0) (by decide)))

theorem lp_pr34_40 : ∀ (n : Nat) (σ : bz_S) (e : Int32) (K : Nat), σ.1 32 40 = nI K → (lp_pr34 n σ e).1 32 40 = nI (K + n) := by
  intro n
  induction n with
  | zero => intro σ e K h; rw [lp_pr34]; exact h
  | succ n ih =>
    intro σ e K h
    rw [lp_pr34]
    generalize hτ : f_X11_pass_32 σ _ = τ
    rw [lp_pr34_a, ih _ _ (K + 1) ?_]
    · congr 1; omega
    · show bz_up τ.2.1 34 e.toNatClampNeg τ.1 32 40 = nI (K + 1)
      rw [bz_up_o (by decide), m_pass_40 hτ, h, nI_1]
theorem m_row34_40 {σ τ : bz_S} {mn : Int32} {MN K : Nat} (hM : mn = nI MN) (hM2 : MN ≤ 8) (hk : σ.1 32 40 = nI K) (h : f_X11_passRow_32_34 σ mn = τ) : τ.1 32 40 = nI (K + MN) := by
  subst h
  unfold f_X11_passRow_32_34
  rw [lp_pr34_40 _ σ 0 K hk, hM, nI_clamp (by omega)]

def lp_pr35_a (rc : bz_S → Int32 → bz_S) (σ : bz_S) (e : Int32) (τ1 : Int32 × bz_S) : bz_S := (rc ((bz_up τ1.2.1 35 e.toNatClampNeg τ1.1), τ1.2.2) (e + 1))
def lp_pr35 : Nat → bz_S → Int32 → bz_S
  | 0, σ, e => σ
  | n + 1, σ, e => (lp_pr35_a (lp_pr35 n) σ e (f_X11_pass_32 σ (σ.1 35 e.toNatClampNeg)))
set_option maxRecDepth 100000 in
theorem lp_pr350_blk1 {X : bz_X} (mn : Int32) (σ : bz_S) (e : Int32) : bz_run X bt_X11_passRow 3 (2, [some (.ref 32), some (.ref 35), some (.int mn), some (.int e)], [], σ) = some (True, if mn ≤ e then (23, [some (.ref 32), some (.ref 35), some (.int mn), some (.int e)], [], σ) else (7, [some (.ref 32), some (.ref 35), some (.int mn), some (.int e)], [], σ)) := rfl
set_option maxRecDepth 100000 in
theorem lp_pr35_blk1 {X : bz_X} (mn : Int32) (σ : bz_S) (e : Int32) : bz_run X bt_X11_passRow 3 (2, [some (.ref 32), some (.ref 35), some (.int mn), some (.int e)], [], σ) = some (True, if mn ≤ e then (23, [some (.ref 32), some (.ref 35), some (.int mn), some (.int e)], [], σ) else (7, [some (.ref 32), some (.ref 35), some (.int mn), some (.int e)], [], σ)) := rfl
set_option maxRecDepth 100000 in
theorem lp_pr35_blk2 {X : bz_X} (mn : Int32) (σ : bz_S) (e : Int32) : bz_run X bt_X11_passRow 6 (7, [some (.ref 32), some (.ref 35), some (.int mn), some (.int e)], [], σ) = some (vp_in e 8 ∧ True, (13, [some (.ref 32), some (.ref 35), some (.int mn), some (.int e)], [.int (σ.1 35 e.toNatClampNeg), .ref 32, .int e, .ref 35], σ)) := rfl
set_option maxRecDepth 100000 in
theorem lp_pr35_blk3 {X : bz_X} (mn : Int32) (σ : bz_S) (e : Int32) (τ1 : Int32 × bz_S) : bz_run X bt_X11_passRow 3 (16, [some (.ref 32), some (.ref 35), some (.int mn), some (.int e)], [.int τ1.1, .int e, .ref 35], τ1.2) = some (vp_in e 8 ∧ True, (2, [some (.ref 32), some (.ref 35), some (.int mn), some (.int (e + 1))], [], ((bz_up τ1.2.1 35 e.toNatClampNeg τ1.1), τ1.2.2))) := rfl
set_option maxRecDepth 100000 in
theorem s_lp_pr35 {X : bz_X} (mn : Int32) (MN : Nat) (hM : mn = nI MN) (hM2 : MN ≤ 8) : ∀ (n : Nat) (σ : bz_S) (e : Int32) (j9 : Nat) (hi : e = nI j9) (hj : j9 + n = MN) (K9 : Nat) (hk : σ.1 32 40 = nI K9) (hk2 : K9 + n ≤ 60), bz_wp bz_P X mX11_passRow (bz_pv (lp_pr35 n σ e)) (2, [some (.ref 32), some (.ref 35), some (.int mn), some (.int e)], [], σ) := by
  intro n
  induction n with
  | zero =>
    intro σ e j9 hi hj K9 hk hk2
    refine bz_wpb bT_X11_passRow 3 (b1 := (23, [some (.ref 32), some (.ref 35), some (.int mn), some (.int e)], [], σ)) (b2 := (7, [some (.ref 32), some (.ref 35), some (.int mn), some (.int e)], [], σ)) (C := mn ≤ e) (G := True) (lp_pr350_blk1 mn σ e) trivial (fun _ => ?_) (fun z => absurd (show mn ≤ e from by rw [hi, hM]; exact nI_le (by omega) (by omega)) z)
    refine bz_wpr bT_X11_passRow rfl rfl trivial ?_
    have e9 : lp_pr35 0 σ e = σ := by rw [lp_pr35]
    exact ⟨rfl, by rw [e9]⟩
  | succ n ih =>
    intro σ e j9 hi hj K9 hk hk2
    refine bz_wpb bT_X11_passRow 3 (b1 := (23, [some (.ref 32), some (.ref 35), some (.int mn), some (.int e)], [], σ)) (b2 := (7, [some (.ref 32), some (.ref 35), some (.int mn), some (.int e)], [], σ)) (C := mn ≤ e) (G := True) (lp_pr35_blk1 mn σ e) trivial (fun z => absurd z (show ¬ mn ≤ e from by rw [hi, hM]; exact nI_ge (by omega) (by omega))) (fun _ => ?_)
    refine bz_wpn bT_X11_passRow 6 (b := (13, [some (.ref 32), some (.ref 35), some (.int mn), some (.int e)], [.int (σ.1 35 e.toNatClampNeg), .ref 32, .int e, .ref 35], σ)) (G := vp_in e 8 ∧ True) (lp_pr35_blk2 mn σ e) ⟨(by rw [hi]; exact vp_in_nI (by omega) (by decide)), trivial⟩ ?_
    refine bz_wci bT_X11_passRow [.ref 32, .int (σ.1 35 e.toNatClampNeg)] (pc' := 16) (rest := [.int e, .ref 35]) rfl rfl (Nat.le_of_ble_eq_true rfl) rfl (Nat.le_of_ble_eq_true rfl) rfl (s_X11_pass_32 σ (σ.1 35 e.toNatClampNeg) (by rw [hk]; exact vp_in_nI (by omega) (by decide))) rfl ?_
    generalize hτ1 : f_X11_pass_32 σ (σ.1 35 e.toNatClampNeg) = τ1
    refine bz_wpn bT_X11_passRow 3 (b := (2, [some (.ref 32), some (.ref 35), some (.int mn), some (.int (e + 1))], [], ((bz_up τ1.2.1 35 e.toNatClampNeg τ1.1), τ1.2.2))) (G := vp_in e 8 ∧ True) (lp_pr35_blk3 mn σ e τ1) ⟨(by rw [hi]; exact vp_in_nI (by omega) (by decide)), trivial⟩ ?_
    have e9 : lp_pr35 (n + 1) σ e = (lp_pr35 n ((bz_up τ1.2.1 35 e.toNatClampNeg τ1.1), τ1.2.2) (e + 1)) := by rw [lp_pr35, hτ1, lp_pr35_a]
    rw [e9]
    exact ih ((bz_up τ1.2.1 35 e.toNatClampNeg τ1.1), τ1.2.2) (e + 1) (j9 + 1) (by rw [hi]; exact nI_1 j9) (by omega) (K9 + 1) ((show ((bz_up τ1.2.1 35 e.toNatClampNeg τ1.1), τ1.2.2).1 32 40 = τ1.2.1 32 40 from by simp [bz_up]).trans ((m_pass_40 hτ1).trans (by rw [hk, nI_1]))) (by omega)
theorem rlp_pr35_a (rc : bz_S → Int32 → bz_S) (σ : bz_S) (e : Int32) (τ1 : Int32 × bz_S) (ihc : ∀ (σ : bz_S) (e : Int32), bz_fr [32, 35, 50] σ (rc σ e)) (fτ1 : bz_fr [32, 35, 50] σ τ1.2) : bz_fr [32, 35, 50] σ (lp_pr35_a rc σ e τ1) := by
  unfold lp_pr35_a
  exact (bz_fr_tr (τ := ((bz_up τ1.2.1 35 e.toNatClampNeg τ1.1), τ1.2.2)) ⟨(bz_f1_up (fτ1).1 (by decide)), (fτ1).2⟩ (ihc ((bz_up τ1.2.1 35 e.toNatClampNeg τ1.1), τ1.2.2) (e + 1)))
theorem rlp_pr35 : ∀ (n : Nat) (σ : bz_S) (e : Int32), bz_fr [32, 35, 50] σ (lp_pr35 n σ e) := by
  intro n
  induction n with
  | zero =>
    intro σ e
    rw [lp_pr35]
    exact bz_fr_rf
  | succ n ihc =>
    intro σ e
    rw [lp_pr35]
    exact (rlp_pr35_a (lp_pr35 n) σ e (f_X11_pass_32 σ (σ.1 35 e.toNatClampNeg)) ihc (bz_fr_mo (rf_X11_pass_32 σ (σ.1 35 e.toNatClampNeg)) (by decide)))
theorem qlp_pr35_a (rc : bz_S → Int32 → bz_S) (σ : bz_S) (e : Int32) (τ1 : Int32 × bz_S) (ihc : ∀ (σ : bz_S) (e : Int32), bz_fo [40] σ (rc σ e)) (fτ1 : bz_fo [40] σ τ1.2) : bz_fo [40] σ (lp_pr35_a rc σ e τ1) := by
  unfold lp_pr35_a
  exact (bz_fo_tr (τ := ((bz_up τ1.2.1 35 e.toNatClampNeg τ1.1), τ1.2.2)) (bz_fo_no (f := _) fτ1 (by decide)) (ihc ((bz_up τ1.2.1 35 e.toNatClampNeg τ1.1), τ1.2.2) (e + 1)))
theorem qlp_pr35 : ∀ (n : Nat) (σ : bz_S) (e : Int32), bz_fo [40] σ (lp_pr35 n σ e) := by
  intro n
  induction n with
  | zero =>
    intro σ e
    rw [lp_pr35]
    exact bz_fo_rf
  | succ n ihc =>
    intro σ e
    rw [lp_pr35]
    exact (qlp_pr35_a (lp_pr35 n) σ e (f_X11_pass_32 σ (σ.1 35 e.toNatClampNeg)) ihc (bz_fo_mo (qf_X11_pass_32 σ (σ.1 35 e.toNatClampNeg)) (by decide)))

def f_X11_passRow_32_35 (σ : bz_S) (mn : Int32) : bz_S := lp_pr35 mn.toNatClampNeg σ 0
set_option maxRecDepth 100000 in
theorem f_X11_passRow_32_35_blk1 {X : bz_X} (σ : bz_S) (mn : Int32) : bz_run X bt_X11_passRow 2 (0, [some (.ref 32), some (.ref 35), some (.int mn), none], [], σ) = some (True, (2, [some (.ref 32), some (.ref 35), some (.int mn), some (.int 0)], [], σ)) := rfl
set_option maxRecDepth 100000 in
theorem s_X11_passRow_32_35 {X : bz_X} (σ : bz_S) (mn : Int32) (MN K : Nat) (hM : mn = nI MN) (hM2 : MN ≤ 8) (hk : σ.1 32 40 = nI K) (hk2 : K + MN ≤ 60) : bz_C bz_P X mX11_passRow [.ref 32, .ref 35, .int mn] σ (bz_pv (f_X11_passRow_32_35 σ mn)) := by
  show bz_wp bz_P X mX11_passRow (bz_pv (f_X11_passRow_32_35 σ mn)) (0, [some (.ref 32), some (.ref 35), some (.int mn), none], [], σ)
  refine bz_wpn bT_X11_passRow 2 (b := (2, [some (.ref 32), some (.ref 35), some (.int mn), some (.int 0)], [], σ)) (G := True) (f_X11_passRow_32_35_blk1 σ mn) trivial ?_
  have e9 : f_X11_passRow_32_35 σ mn = lp_pr35 mn.toNatClampNeg σ 0 := by rw [f_X11_passRow_32_35]
  rw [e9]
  exact s_lp_pr35 mn MN hM hM2 mn.toNatClampNeg σ 0 0 rfl (by rw [hM, nI_clamp (by omega)]; omega) K hk (by rw [hM, nI_clamp (by omega)]; exact hk2)
theorem rf_X11_passRow_32_35 (σ : bz_S) (mn : Int32) : bz_fr [32, 35, 50] σ (f_X11_passRow_32_35 σ mn) := by
  unfold f_X11_passRow_32_35
  exact (bz_fr_tr (τ := σ) bz_fr_rf (bz_fr_mo (rlp_pr35 mn.toNatClampNeg σ 0) (by decide)))
theorem qf_X11_passRow_32_35 (σ : bz_S) (mn : Int32) : bz_fo [40] σ (f_X11_passRow_32_35 σ mn) := by
  unfold f_X11_passRow_32_35
  exact (bz_fo_tr (τ := σ) bz_fo_rf (bz_fo_mo (qlp_pr35 mn.toNatClampNeg σ 0) (by decide)))

theorem lp_pr35_40 : ∀ (n : Nat) (σ : bz_S) (e : Int32) (K : Nat), σ.1 32 40 = nI K → (lp_pr35 n σ e).1 32 40 = nI (K + n) := by
  intro n
  induction n with
  | zero => intro σ e K h; rw [lp_pr35]; exact h
  | succ n ih =>
    intro σ e K h
    rw [lp_pr35]
    generalize hτ : f_X11_pass_32 σ _ = τ
    rw [lp_pr35_a, ih _ _ (K + 1) ?_]
    · congr 1; omega
    · show bz_up τ.2.1 35 e.toNatClampNeg τ.1 32 40 = nI (K + 1)
      rw [bz_up_o (by decide), m_pass_40 hτ, h, nI_1]
theorem m_row35_40 {σ τ : bz_S} {mn : Int32} {MN K : Nat} (hM : mn = nI MN) (hM2 : MN ≤ 8) (hk : σ.1 32 40 = nI K) (h : f_X11_passRow_32_35 σ mn = τ) : τ.1 32 40 = nI (K + MN) := by
  subst h
  unfold f_X11_passRow_32_35
  rw [lp_pr35_40 _ σ 0 K hk, hM, nI_clamp (by omega)]

def f_X11_passAll_32_g (σ : bz_S) (τ1 : Int32 × bz_S) (τ2 : Int32 × bz_S) (τ3 : Int32 × bz_S) (τ4 : Int32 × bz_S) (τ5 : bz_S) (τ6 : bz_S) (τ7 : bz_S) : bz_S := τ7
def f_X11_passAll_32_f (σ : bz_S) (τ1 : Int32 × bz_S) (τ2 : Int32 × bz_S) (τ3 : Int32 × bz_S) (τ4 : Int32 × bz_S) (τ5 : bz_S) (τ6 : bz_S) : bz_S := (f_X11_passAll_32_g σ τ1 τ2 τ3 τ4 τ5 τ6 (f_X11_passRow_32_35 τ6 8))
def f_X11_passAll_32_e (σ : bz_S) (τ1 : Int32 × bz_S) (τ2 : Int32 × bz_S) (τ3 : Int32 × bz_S) (τ4 : Int32 × bz_S) (τ5 : bz_S) : bz_S := (f_X11_passAll_32_f σ τ1 τ2 τ3 τ4 τ5 (f_X11_passRow_32_34 τ5 8))
def f_X11_passAll_32_d (σ : bz_S) (τ1 : Int32 × bz_S) (τ2 : Int32 × bz_S) (τ3 : Int32 × bz_S) (τ4 : Int32 × bz_S) : bz_S := (f_X11_passAll_32_e σ τ1 τ2 τ3 τ4 (f_X11_passRow_32_33 ((bz_up τ4.2.1 32 6 τ4.1), τ4.2.2) 3))
def f_X11_passAll_32_c (σ : bz_S) (τ1 : Int32 × bz_S) (τ2 : Int32 × bz_S) (τ3 : Int32 × bz_S) : bz_S := (f_X11_passAll_32_d σ τ1 τ2 τ3 (f_X11_pass_32 ((bz_up τ3.2.1 32 3 τ3.1), τ3.2.2) (τ3.2.1 32 6)))
def f_X11_passAll_32_b (σ : bz_S) (τ1 : Int32 × bz_S) (τ2 : Int32 × bz_S) : bz_S := (f_X11_passAll_32_c σ τ1 τ2 (f_X11_pass_32 ((bz_up τ2.2.1 32 2 τ2.1), τ2.2.2) (τ2.2.1 32 3)))
def f_X11_passAll_32_a (σ : bz_S) (τ1 : Int32 × bz_S) : bz_S := (f_X11_passAll_32_b σ τ1 (f_X11_pass_32 ((bz_up τ1.2.1 32 1 τ1.1), τ1.2.2) (τ1.2.1 32 2)))
def f_X11_passAll_32 (σ : bz_S)  : bz_S := (f_X11_passAll_32_a σ (f_X11_pass_32 σ (σ.1 32 1)))
set_option maxRecDepth 100000 in
theorem f_X11_passAll_32_blk1 {X : bz_X} (σ : bz_S) : bz_run X bt_X11_passAll 4 (0, [some (.ref 32)], [], σ) = some (True, (6, [some (.ref 32)], [.int (σ.1 32 1), .ref 32, .ref 32], σ)) := rfl
set_option maxRecDepth 100000 in
theorem f_X11_passAll_32_blk2 {X : bz_X} (σ : bz_S) (τ1 : Int32 × bz_S) : bz_run X bt_X11_passAll 5 (9, [some (.ref 32)], [.int τ1.1, .ref 32], τ1.2) = some (True, (18, [some (.ref 32)], [.int (τ1.2.1 32 2), .ref 32, .ref 32], ((bz_up τ1.2.1 32 1 τ1.1), τ1.2.2))) := rfl
set_option maxRecDepth 100000 in
theorem f_X11_passAll_32_blk3 {X : bz_X} (σ : bz_S) (τ1 : Int32 × bz_S) (τ2 : Int32 × bz_S) : bz_run X bt_X11_passAll 5 (21, [some (.ref 32)], [.int τ2.1, .ref 32], τ2.2) = some (True, (30, [some (.ref 32)], [.int (τ2.2.1 32 3), .ref 32, .ref 32], ((bz_up τ2.2.1 32 2 τ2.1), τ2.2.2))) := rfl
set_option maxRecDepth 100000 in
theorem f_X11_passAll_32_blk4 {X : bz_X} (σ : bz_S) (τ1 : Int32 × bz_S) (τ2 : Int32 × bz_S) (τ3 : Int32 × bz_S) : bz_run X bt_X11_passAll 5 (33, [some (.ref 32)], [.int τ3.1, .ref 32], τ3.2) = some (True, (42, [some (.ref 32)], [.int (τ3.2.1 32 6), .ref 32, .ref 32], ((bz_up τ3.2.1 32 3 τ3.1), τ3.2.2))) := rfl
set_option maxRecDepth 100000 in
theorem f_X11_passAll_32_blk5 {X : bz_X} (σ : bz_S) (τ1 : Int32 × bz_S) (τ2 : Int32 × bz_S) (τ3 : Int32 × bz_S) (τ4 : Int32 × bz_S) : bz_run X bt_X11_passAll 5 (45, [some (.ref 32)], [.int τ4.1, .ref 32], τ4.2) = some (True, (54, [some (.ref 32)], [.int 3, .ref 33, .ref 32], ((bz_up τ4.2.1 32 6 τ4.1), τ4.2.2))) := rfl
set_option maxRecDepth 100000 in
theorem f_X11_passAll_32_blk6 {X : bz_X} (σ : bz_S) (τ1 : Int32 × bz_S) (τ2 : Int32 × bz_S) (τ3 : Int32 × bz_S) (τ4 : Int32 × bz_S) (τ5 : bz_S) : bz_run X bt_X11_passAll 4 (57, [some (.ref 32)], [], τ5) = some (True, (64, [some (.ref 32)], [.int 8, .ref 34, .ref 32], τ5)) := rfl
set_option maxRecDepth 100000 in
theorem f_X11_passAll_32_blk7 {X : bz_X} (σ : bz_S) (τ1 : Int32 × bz_S) (τ2 : Int32 × bz_S) (τ3 : Int32 × bz_S) (τ4 : Int32 × bz_S) (τ5 : bz_S) (τ6 : bz_S) : bz_run X bt_X11_passAll 4 (67, [some (.ref 32)], [], τ6) = some (True, (74, [some (.ref 32)], [.int 8, .ref 35, .ref 32], τ6)) := rfl
set_option maxRecDepth 100000 in
theorem s_X11_passAll_32 {X : bz_X} (σ : bz_S) (hk : ∃ K, K ≤ 30 ∧ σ.1 32 40 = nI K) : bz_C bz_P X mX11_passAll [.ref 32] σ (bz_pv (f_X11_passAll_32 σ)) := by
  show bz_wp bz_P X mX11_passAll (bz_pv (f_X11_passAll_32 σ)) (0, [some (.ref 32)], [], σ)
  obtain ⟨K, hk1, hk2⟩ := hk
  refine bz_wpn bT_X11_passAll 4 (b := (6, [some (.ref 32)], [.int (σ.1 32 1), .ref 32, .ref 32], σ)) (G := True) (f_X11_passAll_32_blk1 σ) trivial ?_
  refine bz_wci bT_X11_passAll [.ref 32, .int (σ.1 32 1)] (pc' := 9) (rest := [.ref 32]) rfl rfl (Nat.le_of_ble_eq_true rfl) rfl (Nat.le_of_ble_eq_true rfl) rfl (s_X11_pass_32 σ (σ.1 32 1) (by rw [hk2]; exact vp_in_nI (by omega) (by decide))) rfl ?_
  generalize hτ1 : f_X11_pass_32 σ (σ.1 32 1) = τ1
  refine bz_wpn bT_X11_passAll 5 (b := (18, [some (.ref 32)], [.int (τ1.2.1 32 2), .ref 32, .ref 32], ((bz_up τ1.2.1 32 1 τ1.1), τ1.2.2))) (G := True) (f_X11_passAll_32_blk2 σ τ1) trivial ?_
  refine bz_wci bT_X11_passAll [.ref 32, .int (τ1.2.1 32 2)] (pc' := 21) (rest := [.ref 32]) rfl rfl (Nat.le_of_ble_eq_true rfl) rfl (Nat.le_of_ble_eq_true rfl) rfl (s_X11_pass_32 ((bz_up τ1.2.1 32 1 τ1.1), τ1.2.2) (τ1.2.1 32 2) (by rw [((show ((bz_up τ1.2.1 32 1 τ1.1), τ1.2.2).1 32 40 = τ1.2.1 32 40 from by simp [bz_up]).trans ((m_pass_40 hτ1).trans (by rw [hk2, nI_1])))]; exact vp_in_nI (by omega) (by decide))) rfl ?_
  generalize hτ2 : f_X11_pass_32 ((bz_up τ1.2.1 32 1 τ1.1), τ1.2.2) (τ1.2.1 32 2) = τ2
  refine bz_wpn bT_X11_passAll 5 (b := (30, [some (.ref 32)], [.int (τ2.2.1 32 3), .ref 32, .ref 32], ((bz_up τ2.2.1 32 2 τ2.1), τ2.2.2))) (G := True) (f_X11_passAll_32_blk3 σ τ1 τ2) trivial ?_
  refine bz_wci bT_X11_passAll [.ref 32, .int (τ2.2.1 32 3)] (pc' := 33) (rest := [.ref 32]) rfl rfl (Nat.le_of_ble_eq_true rfl) rfl (Nat.le_of_ble_eq_true rfl) rfl (s_X11_pass_32 ((bz_up τ2.2.1 32 2 τ2.1), τ2.2.2) (τ2.2.1 32 3) (by rw [((show ((bz_up τ2.2.1 32 2 τ2.1), τ2.2.2).1 32 40 = τ2.2.1 32 40 from by simp [bz_up]).trans ((m_pass_40 hτ2).trans (by rw [((show ((bz_up τ1.2.1 32 1 τ1.1), τ1.2.2).1 32 40 = τ1.2.1 32 40 from by simp [bz_up]).trans ((m_pass_40 hτ1).trans (by rw [hk2, nI_1]))), nI_1])))]; exact vp_in_nI (by omega) (by decide))) rfl ?_
  generalize hτ3 : f_X11_pass_32 ((bz_up τ2.2.1 32 2 τ2.1), τ2.2.2) (τ2.2.1 32 3) = τ3
  refine bz_wpn bT_X11_passAll 5 (b := (42, [some (.ref 32)], [.int (τ3.2.1 32 6), .ref 32, .ref 32], ((bz_up τ3.2.1 32 3 τ3.1), τ3.2.2))) (G := True) (f_X11_passAll_32_blk4 σ τ1 τ2 τ3) trivial ?_
  refine bz_wci bT_X11_passAll [.ref 32, .int (τ3.2.1 32 6)] (pc' := 45) (rest := [.ref 32]) rfl rfl (Nat.le_of_ble_eq_true rfl) rfl (Nat.le_of_ble_eq_true rfl) rfl (s_X11_pass_32 ((bz_up τ3.2.1 32 3 τ3.1), τ3.2.2) (τ3.2.1 32 6) (by rw [((show ((bz_up τ3.2.1 32 3 τ3.1), τ3.2.2).1 32 40 = τ3.2.1 32 40 from by simp [bz_up]).trans ((m_pass_40 hτ3).trans (by rw [((show ((bz_up τ2.2.1 32 2 τ2.1), τ2.2.2).1 32 40 = τ2.2.1 32 40 from by simp [bz_up]).trans ((m_pass_40 hτ2).trans (by rw [((show ((bz_up τ1.2.1 32 1 τ1.1), τ1.2.2).1 32 40 = τ1.2.1 32 40 from by simp [bz_up]).trans ((m_pass_40 hτ1).trans (by rw [hk2, nI_1]))), nI_1]))), nI_1])))]; exact vp_in_nI (by omega) (by decide))) rfl ?_
  generalize hτ4 : f_X11_pass_32 ((bz_up τ3.2.1 32 3 τ3.1), τ3.2.2) (τ3.2.1 32 6) = τ4
  refine bz_wpn bT_X11_passAll 5 (b := (54, [some (.ref 32)], [.int 3, .ref 33, .ref 32], ((bz_up τ4.2.1 32 6 τ4.1), τ4.2.2))) (G := True) (f_X11_passAll_32_blk5 σ τ1 τ2 τ3 τ4) trivial ?_
  refine bz_wcv bT_X11_passAll [.ref 32, .ref 33, .int 3] (pc' := 57) (rest := []) rfl rfl (Nat.le_of_ble_eq_true rfl) rfl (Nat.le_of_ble_eq_true rfl) rfl (s_X11_passRow_32_33 ((bz_up τ4.2.1 32 6 τ4.1), τ4.2.2) 3 3 _ rfl (by decide) ((show ((bz_up τ4.2.1 32 6 τ4.1), τ4.2.2).1 32 40 = τ4.2.1 32 40 from by simp [bz_up]).trans ((m_pass_40 hτ4).trans (by rw [((show ((bz_up τ3.2.1 32 3 τ3.1), τ3.2.2).1 32 40 = τ3.2.1 32 40 from by simp [bz_up]).trans ((m_pass_40 hτ3).trans (by rw [((show ((bz_up τ2.2.1 32 2 τ2.1), τ2.2.2).1 32 40 = τ2.2.1 32 40 from by simp [bz_up]).trans ((m_pass_40 hτ2).trans (by rw [((show ((bz_up τ1.2.1 32 1 τ1.1), τ1.2.2).1 32 40 = τ1.2.1 32 40 from by simp [bz_up]).trans ((m_pass_40 hτ1).trans (by rw [hk2, nI_1]))), nI_1]))), nI_1]))), nI_1]))) (by omega)) rfl ?_
  generalize hτ5 : f_X11_passRow_32_33 ((bz_up τ4.2.1 32 6 τ4.1), τ4.2.2) 3 = τ5
  refine bz_wpn bT_X11_passAll 4 (b := (64, [some (.ref 32)], [.int 8, .ref 34, .ref 32], τ5)) (G := True) (f_X11_passAll_32_blk6 σ τ1 τ2 τ3 τ4 τ5) trivial ?_
  refine bz_wcv bT_X11_passAll [.ref 32, .ref 34, .int 8] (pc' := 67) (rest := []) rfl rfl (Nat.le_of_ble_eq_true rfl) rfl (Nat.le_of_ble_eq_true rfl) rfl (s_X11_passRow_32_34 τ5 8 8 _ rfl (by decide) (m_row33_40 (MN := 3) rfl (by decide) ((show ((bz_up τ4.2.1 32 6 τ4.1), τ4.2.2).1 32 40 = τ4.2.1 32 40 from by simp [bz_up]).trans ((m_pass_40 hτ4).trans (by rw [((show ((bz_up τ3.2.1 32 3 τ3.1), τ3.2.2).1 32 40 = τ3.2.1 32 40 from by simp [bz_up]).trans ((m_pass_40 hτ3).trans (by rw [((show ((bz_up τ2.2.1 32 2 τ2.1), τ2.2.2).1 32 40 = τ2.2.1 32 40 from by simp [bz_up]).trans ((m_pass_40 hτ2).trans (by rw [((show ((bz_up τ1.2.1 32 1 τ1.1), τ1.2.2).1 32 40 = τ1.2.1 32 40 from by simp [bz_up]).trans ((m_pass_40 hτ1).trans (by rw [hk2, nI_1]))), nI_1]))), nI_1]))), nI_1]))) hτ5) (by omega)) rfl ?_
  generalize hτ6 : f_X11_passRow_32_34 τ5 8 = τ6
  refine bz_wpn bT_X11_passAll 4 (b := (74, [some (.ref 32)], [.int 8, .ref 35, .ref 32], τ6)) (G := True) (f_X11_passAll_32_blk7 σ τ1 τ2 τ3 τ4 τ5 τ6) trivial ?_
  refine bz_wcv bT_X11_passAll [.ref 32, .ref 35, .int 8] (pc' := 77) (rest := []) rfl rfl (Nat.le_of_ble_eq_true rfl) rfl (Nat.le_of_ble_eq_true rfl) rfl (s_X11_passRow_32_35 τ6 8 8 _ rfl (by decide) (m_row34_40 (MN := 8) rfl (by decide) (m_row33_40 (MN := 3) rfl (by decide) ((show ((bz_up τ4.2.1 32 6 τ4.1), τ4.2.2).1 32 40 = τ4.2.1 32 40 from by simp [bz_up]).trans ((m_pass_40 hτ4).trans (by rw [((show ((bz_up τ3.2.1 32 3 τ3.1), τ3.2.2).1 32 40 = τ3.2.1 32 40 from by simp [bz_up]).trans ((m_pass_40 hτ3).trans (by rw [((show ((bz_up τ2.2.1 32 2 τ2.1), τ2.2.2).1 32 40 = τ2.2.1 32 40 from by simp [bz_up]).trans ((m_pass_40 hτ2).trans (by rw [((show ((bz_up τ1.2.1 32 1 τ1.1), τ1.2.2).1 32 40 = τ1.2.1 32 40 from by simp [bz_up]).trans ((m_pass_40 hτ1).trans (by rw [hk2, nI_1]))), nI_1]))), nI_1]))), nI_1]))) hτ5) hτ6) (by omega)) rfl ?_
  generalize hτ7 : f_X11_passRow_32_35 τ6 8 = τ7
  refine bz_wpr bT_X11_passAll rfl rfl trivial ?_
  have e9 : f_X11_passAll_32 σ = τ7 := by rw [f_X11_passAll_32, hτ1, f_X11_passAll_32_a, hτ2, f_X11_passAll_32_b, hτ3, f_X11_passAll_32_c, hτ4, f_X11_passAll_32_d, hτ5, f_X11_passAll_32_e, hτ6, f_X11_passAll_32_f, hτ7, f_X11_passAll_32_g]
  exact ⟨rfl, by rw [e9]⟩
theorem rf_X11_passAll_32_g (σ : bz_S) (τ1 : Int32 × bz_S) (τ2 : Int32 × bz_S) (τ3 : Int32 × bz_S) (τ4 : Int32 × bz_S) (τ5 : bz_S) (τ6 : bz_S) (τ7 : bz_S) (fτ1 : bz_fr [32, 33, 34, 35, 50] σ τ1.2) (fτ2 : bz_fr [32, 33, 34, 35, 50] σ τ2.2) (fτ3 : bz_fr [32, 33, 34, 35, 50] σ τ3.2) (fτ4 : bz_fr [32, 33, 34, 35, 50] σ τ4.2) (fτ5 : bz_fr [32, 33, 34, 35, 50] σ τ5) (fτ6 : bz_fr [32, 33, 34, 35, 50] σ τ6) (fτ7 : bz_fr [32, 33, 34, 35, 50] σ τ7) : bz_fr [32, 33, 34, 35, 50] σ (f_X11_passAll_32_g σ τ1 τ2 τ3 τ4 τ5 τ6 τ7) := by
  unfold f_X11_passAll_32_g
  exact fτ7
theorem rf_X11_passAll_32_f (σ : bz_S) (τ1 : Int32 × bz_S) (τ2 : Int32 × bz_S) (τ3 : Int32 × bz_S) (τ4 : Int32 × bz_S) (τ5 : bz_S) (τ6 : bz_S) (fτ1 : bz_fr [32, 33, 34, 35, 50] σ τ1.2) (fτ2 : bz_fr [32, 33, 34, 35, 50] σ τ2.2) (fτ3 : bz_fr [32, 33, 34, 35, 50] σ τ3.2) (fτ4 : bz_fr [32, 33, 34, 35, 50] σ τ4.2) (fτ5 : bz_fr [32, 33, 34, 35, 50] σ τ5) (fτ6 : bz_fr [32, 33, 34, 35, 50] σ τ6) : bz_fr [32, 33, 34, 35, 50] σ (f_X11_passAll_32_f σ τ1 τ2 τ3 τ4 τ5 τ6) := by
  unfold f_X11_passAll_32_f
  exact (rf_X11_passAll_32_g σ τ1 τ2 τ3 τ4 τ5 τ6 (f_X11_passRow_32_35 τ6 8) fτ1 fτ2 fτ3 fτ4 fτ5 fτ6 (bz_fr_tr (τ := τ6) fτ6 (bz_fr_mo (rf_X11_passRow_32_35 τ6 8) (by decide))))
theorem rf_X11_passAll_32_e (σ : bz_S) (τ1 : Int32 × bz_S) (τ2 : Int32 × bz_S) (τ3 : Int32 × bz_S) (τ4 : Int32 × bz_S) (τ5 : bz_S) (fτ1 : bz_fr [32, 33, 34, 35, 50] σ τ1.2) (fτ2 : bz_fr [32, 33, 34, 35, 50] σ τ2.2) (fτ3 : bz_fr [32, 33, 34, 35, 50] σ τ3.2) (fτ4 : bz_fr [32, 33, 34, 35, 50] σ τ4.2) (fτ5 : bz_fr [32, 33, 34, 35, 50] σ τ5) : bz_fr [32, 33, 34, 35, 50] σ (f_X11_passAll_32_e σ τ1 τ2 τ3 τ4 τ5) := by
  unfold f_X11_passAll_32_e
  exact (rf_X11_passAll_32_f σ τ1 τ2 τ3 τ4 τ5 (f_X11_passRow_32_34 τ5 8) fτ1 fτ2 fτ3 fτ4 fτ5 (bz_fr_tr (τ := τ5) fτ5 (bz_fr_mo (rf_X11_passRow_32_34 τ5 8) (by decide))))
theorem rf_X11_passAll_32_d (σ : bz_S) (τ1 : Int32 × bz_S) (τ2 : Int32 × bz_S) (τ3 : Int32 × bz_S) (τ4 : Int32 × bz_S) (fτ1 : bz_fr [32, 33, 34, 35, 50] σ τ1.2) (fτ2 : bz_fr [32, 33, 34, 35, 50] σ τ2.2) (fτ3 : bz_fr [32, 33, 34, 35, 50] σ τ3.2) (fτ4 : bz_fr [32, 33, 34, 35, 50] σ τ4.2) : bz_fr [32, 33, 34, 35, 50] σ (f_X11_passAll_32_d σ τ1 τ2 τ3 τ4) := by
  unfold f_X11_passAll_32_d
  exact (rf_X11_passAll_32_e σ τ1 τ2 τ3 τ4 (f_X11_passRow_32_33 ((bz_up τ4.2.1 32 6 τ4.1), τ4.2.2) 3) fτ1 fτ2 fτ3 fτ4 (bz_fr_tr (τ := ((bz_up τ4.2.1 32 6 τ4.1), τ4.2.2)) ⟨(bz_f1_up (fτ4).1 (by decide)), (fτ4).2⟩ (bz_fr_mo (rf_X11_passRow_32_33 ((bz_up τ4.2.1 32 6 τ4.1), τ4.2.2) 3) (by decide))))
theorem rf_X11_passAll_32_c (σ : bz_S) (τ1 : Int32 × bz_S) (τ2 : Int32 × bz_S) (τ3 : Int32 × bz_S) (fτ1 : bz_fr [32, 33, 34, 35, 50] σ τ1.2) (fτ2 : bz_fr [32, 33, 34, 35, 50] σ τ2.2) (fτ3 : bz_fr [32, 33, 34, 35, 50] σ τ3.2) : bz_fr [32, 33, 34, 35, 50] σ (f_X11_passAll_32_c σ τ1 τ2 τ3) := by
  unfold f_X11_passAll_32_c
  exact (rf_X11_passAll_32_d σ τ1 τ2 τ3 (f_X11_pass_32 ((bz_up τ3.2.1 32 3 τ3.1), τ3.2.2) (τ3.2.1 32 6)) fτ1 fτ2 fτ3 (bz_fr_tr (τ := ((bz_up τ3.2.1 32 3 τ3.1), τ3.2.2)) ⟨(bz_f1_up (fτ3).1 (by decide)), (fτ3).2⟩ (bz_fr_mo (rf_X11_pass_32 ((bz_up τ3.2.1 32 3 τ3.1), τ3.2.2) (τ3.2.1 32 6)) (by decide))))
theorem rf_X11_passAll_32_b (σ : bz_S) (τ1 : Int32 × bz_S) (τ2 : Int32 × bz_S) (fτ1 : bz_fr [32, 33, 34, 35, 50] σ τ1.2) (fτ2 : bz_fr [32, 33, 34, 35, 50] σ τ2.2) : bz_fr [32, 33, 34, 35, 50] σ (f_X11_passAll_32_b σ τ1 τ2) := by
  unfold f_X11_passAll_32_b
  exact (rf_X11_passAll_32_c σ τ1 τ2 (f_X11_pass_32 ((bz_up τ2.2.1 32 2 τ2.1), τ2.2.2) (τ2.2.1 32 3)) fτ1 fτ2 (bz_fr_tr (τ := ((bz_up τ2.2.1 32 2 τ2.1), τ2.2.2)) ⟨(bz_f1_up (fτ2).1 (by decide)), (fτ2).2⟩ (bz_fr_mo (rf_X11_pass_32 ((bz_up τ2.2.1 32 2 τ2.1), τ2.2.2) (τ2.2.1 32 3)) (by decide))))
theorem rf_X11_passAll_32_a (σ : bz_S) (τ1 : Int32 × bz_S) (fτ1 : bz_fr [32, 33, 34, 35, 50] σ τ1.2) : bz_fr [32, 33, 34, 35, 50] σ (f_X11_passAll_32_a σ τ1) := by
  unfold f_X11_passAll_32_a
  exact (rf_X11_passAll_32_b σ τ1 (f_X11_pass_32 ((bz_up τ1.2.1 32 1 τ1.1), τ1.2.2) (τ1.2.1 32 2)) fτ1 (bz_fr_tr (τ := ((bz_up τ1.2.1 32 1 τ1.1), τ1.2.2)) ⟨(bz_f1_up (fτ1).1 (by decide)), (fτ1).2⟩ (bz_fr_mo (rf_X11_pass_32 ((bz_up τ1.2.1 32 1 τ1.1), τ1.2.2) (τ1.2.1 32 2)) (by decide))))
theorem rf_X11_passAll_32 (σ : bz_S)  : bz_fr [32, 33, 34, 35, 50] σ (f_X11_passAll_32 σ) := by
  unfold f_X11_passAll_32
  exact (rf_X11_passAll_32_a σ (f_X11_pass_32 σ (σ.1 32 1)) (bz_fr_mo (rf_X11_pass_32 σ (σ.1 32 1)) (by decide)))
theorem qf_X11_passAll_32_g (σ : bz_S) (τ1 : Int32 × bz_S) (τ2 : Int32 × bz_S) (τ3 : Int32 × bz_S) (τ4 : Int32 × bz_S) (τ5 : bz_S) (τ6 : bz_S) (τ7 : bz_S) (fτ1 : bz_fo [1, 2, 3, 6, 40] σ τ1.2) (fτ2 : bz_fo [1, 2, 3, 6, 40] σ τ2.2) (fτ3 : bz_fo [1, 2, 3, 6, 40] σ τ3.2) (fτ4 : bz_fo [1, 2, 3, 6, 40] σ τ4.2) (fτ5 : bz_fo [1, 2, 3, 6, 40] σ τ5) (fτ6 : bz_fo [1, 2, 3, 6, 40] σ τ6) (fτ7 : bz_fo [1, 2, 3, 6, 40] σ τ7) : bz_fo [1, 2, 3, 6, 40] σ (f_X11_passAll_32_g σ τ1 τ2 τ3 τ4 τ5 τ6 τ7) := by
  unfold f_X11_passAll_32_g
  exact fτ7
theorem qf_X11_passAll_32_f (σ : bz_S) (τ1 : Int32 × bz_S) (τ2 : Int32 × bz_S) (τ3 : Int32 × bz_S) (τ4 : Int32 × bz_S) (τ5 : bz_S) (τ6 : bz_S) (fτ1 : bz_fo [1, 2, 3, 6, 40] σ τ1.2) (fτ2 : bz_fo [1, 2, 3, 6, 40] σ τ2.2) (fτ3 : bz_fo [1, 2, 3, 6, 40] σ τ3.2) (fτ4 : bz_fo [1, 2, 3, 6, 40] σ τ4.2) (fτ5 : bz_fo [1, 2, 3, 6, 40] σ τ5) (fτ6 : bz_fo [1, 2, 3, 6, 40] σ τ6) : bz_fo [1, 2, 3, 6, 40] σ (f_X11_passAll_32_f σ τ1 τ2 τ3 τ4 τ5 τ6) := by
  unfold f_X11_passAll_32_f
  exact (qf_X11_passAll_32_g σ τ1 τ2 τ3 τ4 τ5 τ6 (f_X11_passRow_32_35 τ6 8) fτ1 fτ2 fτ3 fτ4 fτ5 fτ6 (bz_fo_tr (τ := τ6) fτ6 (bz_fo_mo (qf_X11_passRow_32_35 τ6 8) (by decide))))
theorem qf_X11_passAll_32_e (σ : bz_S) (τ1 : Int32 × bz_S) (τ2 : Int32 × bz_S) (τ3 : Int32 × bz_S) (τ4 : Int32 × bz_S) (τ5 : bz_S) (fτ1 : bz_fo [1, 2, 3, 6, 40] σ τ1.2) (fτ2 : bz_fo [1, 2, 3, 6, 40] σ τ2.2) (fτ3 : bz_fo [1, 2, 3, 6, 40] σ τ3.2) (fτ4 : bz_fo [1, 2, 3, 6, 40] σ τ4.2) (fτ5 : bz_fo [1, 2, 3, 6, 40] σ τ5) : bz_fo [1, 2, 3, 6, 40] σ (f_X11_passAll_32_e σ τ1 τ2 τ3 τ4 τ5) := by
  unfold f_X11_passAll_32_e
  exact (qf_X11_passAll_32_f σ τ1 τ2 τ3 τ4 τ5 (f_X11_passRow_32_34 τ5 8) fτ1 fτ2 fτ3 fτ4 fτ5 (bz_fo_tr (τ := τ5) fτ5 (bz_fo_mo (qf_X11_passRow_32_34 τ5 8) (by decide))))
theorem qf_X11_passAll_32_d (σ : bz_S) (τ1 : Int32 × bz_S) (τ2 : Int32 × bz_S) (τ3 : Int32 × bz_S) (τ4 : Int32 × bz_S) (fτ1 : bz_fo [1, 2, 3, 6, 40] σ τ1.2) (fτ2 : bz_fo [1, 2, 3, 6, 40] σ τ2.2) (fτ3 : bz_fo [1, 2, 3, 6, 40] σ τ3.2) (fτ4 : bz_fo [1, 2, 3, 6, 40] σ τ4.2) : bz_fo [1, 2, 3, 6, 40] σ (f_X11_passAll_32_d σ τ1 τ2 τ3 τ4) := by
  unfold f_X11_passAll_32_d
  exact (qf_X11_passAll_32_e σ τ1 τ2 τ3 τ4 (f_X11_passRow_32_33 ((bz_up τ4.2.1 32 6 τ4.1), τ4.2.2) 3) fτ1 fτ2 fτ3 fτ4 (bz_fo_tr (τ := ((bz_up τ4.2.1 32 6 τ4.1), τ4.2.2)) (bz_fo_up (f := _) fτ4 (by decide)) (bz_fo_mo (qf_X11_passRow_32_33 ((bz_up τ4.2.1 32 6 τ4.1), τ4.2.2) 3) (by decide))))
theorem qf_X11_passAll_32_c (σ : bz_S) (τ1 : Int32 × bz_S) (τ2 : Int32 × bz_S) (τ3 : Int32 × bz_S) (fτ1 : bz_fo [1, 2, 3, 6, 40] σ τ1.2) (fτ2 : bz_fo [1, 2, 3, 6, 40] σ τ2.2) (fτ3 : bz_fo [1, 2, 3, 6, 40] σ τ3.2) : bz_fo [1, 2, 3, 6, 40] σ (f_X11_passAll_32_c σ τ1 τ2 τ3) := by
  unfold f_X11_passAll_32_c
  exact (qf_X11_passAll_32_d σ τ1 τ2 τ3 (f_X11_pass_32 ((bz_up τ3.2.1 32 3 τ3.1), τ3.2.2) (τ3.2.1 32 6)) fτ1 fτ2 fτ3 (bz_fo_tr (τ := ((bz_up τ3.2.1 32 3 τ3.1), τ3.2.2)) (bz_fo_up (f := _) fτ3 (by decide)) (bz_fo_mo (qf_X11_pass_32 ((bz_up τ3.2.1 32 3 τ3.1), τ3.2.2) (τ3.2.1 32 6)) (by decide))))
theorem qf_X11_passAll_32_b (σ : bz_S) (τ1 : Int32 × bz_S) (τ2 : Int32 × bz_S) (fτ1 : bz_fo [1, 2, 3, 6, 40] σ τ1.2) (fτ2 : bz_fo [1, 2, 3, 6, 40] σ τ2.2) : bz_fo [1, 2, 3, 6, 40] σ (f_X11_passAll_32_b σ τ1 τ2) := by
  unfold f_X11_passAll_32_b
  exact (qf_X11_passAll_32_c σ τ1 τ2 (f_X11_pass_32 ((bz_up τ2.2.1 32 2 τ2.1), τ2.2.2) (τ2.2.1 32 3)) fτ1 fτ2 (bz_fo_tr (τ := ((bz_up τ2.2.1 32 2 τ2.1), τ2.2.2)) (bz_fo_up (f := _) fτ2 (by decide)) (bz_fo_mo (qf_X11_pass_32 ((bz_up τ2.2.1 32 2 τ2.1), τ2.2.2) (τ2.2.1 32 3)) (by decide))))
theorem qf_X11_passAll_32_a (σ : bz_S) (τ1 : Int32 × bz_S) (fτ1 : bz_fo [1, 2, 3, 6, 40] σ τ1.2) : bz_fo [1, 2, 3, 6, 40] σ (f_X11_passAll_32_a σ τ1) := by
  unfold f_X11_passAll_32_a
  exact (qf_X11_passAll_32_b σ τ1 (f_X11_pass_32 ((bz_up τ1.2.1 32 1 τ1.1), τ1.2.2) (τ1.2.1 32 2)) fτ1 (bz_fo_tr (τ := ((bz_up τ1.2.1 32 1 τ1.1), τ1.2.2)) (bz_fo_up (f := _) fτ1 (by decide)) (bz_fo_mo (qf_X11_pass_32 ((bz_up τ1.2.1 32 1 τ1.1), τ1.2.2) (τ1.2.1 32 2)) (by decide))))
theorem qf_X11_passAll_32 (σ : bz_S)  : bz_fo [1, 2, 3, 6, 40] σ (f_X11_passAll_32 σ) := by
  unfold f_X11_passAll_32
  exact (qf_X11_passAll_32_a σ (f_X11_pass_32 σ (σ.1 32 1)) (bz_fo_mo (qf_X11_pass_32 σ (σ.1 32 1)) (by decide)))

theorem bz_30 {k : Int32} (h : f_X11_in (Int32.toInt64 k) 0 1 = true) : ∃ K, K ≤ 30 ∧ 30 * k = nI K := by
  obtain ⟨N, h1, h2⟩ := bz_m01 h
  exact ⟨30 * N, by omega, by rw [h2]; exact bz_mulN 30 N⟩
theorem bz_k2 {k : Int32} (h : f_X11_in (Int32.toInt64 k) 0 1 = true) : vp_in k 2 := by
  obtain ⟨N, h1, h2⟩ := bz_m01 h
  rw [h2]
  exact vp_in_nI (by omega) (by decide)

def f_X11_image_32_a (σ : bz_S) (k : Int32) (τ1 : bz_S) : Int32 × bz_S := (1, ((bz_up τ1.1 51 k.toNatClampNeg 1), τ1.2))
def f_X11_image_32 (σ : bz_S) (k : Int32) : Int32 × bz_S := if f_X11_in (Int32.toInt64 k) 0 1 = true then (f_X11_image_32_a σ k (f_X11_passAll_32 ((bz_up (bz_up σ.1 32 40 (30 * k)) 32 41 1), σ.2))) else ((-2), σ)
set_option maxRecDepth 100000 in
theorem f_X11_image_32_blk1 {X : bz_X} (σ : bz_S) (k : Int32) : bz_run X bt_X11_image 4 (0, [some (.ref 32), some (.int k)], [], σ) = some (True, (4, [some (.ref 32), some (.int k)], [.long 1, .long 0, .long (Int32.toInt64 k)], σ)) := rfl
set_option maxRecDepth 100000 in
theorem f_X11_image_32_blk2 {X : bz_X} (σ : bz_S) (k : Int32) : bz_run X bt_X11_image 1 (7, [some (.ref 32), some (.int k)], [.int (bz_b (f_X11_in (Int32.toInt64 k) 0 1))], σ) = some (True, if ¬ bz_b (f_X11_in (Int32.toInt64 k) 0 1) = 0 then (13, [some (.ref 32), some (.int k)], [], σ) else (10, [some (.ref 32), some (.int k)], [], σ)) := rfl
set_option maxRecDepth 100000 in
theorem f_X11_image_32_blk3 {X : bz_X} (σ : bz_S) (k : Int32) : bz_run X bt_X11_image 9 (13, [some (.ref 32), some (.int k)], [], σ) = some (((1 : Int32) = 0 ∨ (1 : Int32) = 1) ∧ True, (27, [some (.ref 32), some (.int k)], [.ref 32], ((bz_up (bz_up σ.1 32 40 (30 * k)) 32 41 1), σ.2))) := rfl
set_option maxRecDepth 100000 in
theorem f_X11_image_32_blk4 {X : bz_X} (σ : bz_S) (k : Int32) (τ1 : bz_S) : bz_run X bt_X11_image 6 (30, [some (.ref 32), some (.int k)], [], τ1) = some ((vp_in k 2 ∧ ((1 : Int32) = 0 ∨ (1 : Int32) = 1)) ∧ True, (38, [some (.ref 32), some (.int k)], [.int 1], ((bz_up τ1.1 51 k.toNatClampNeg 1), τ1.2))) := rfl
set_option maxRecDepth 100000 in
theorem f_X11_image_32_blk5 {X : bz_X} (σ : bz_S) (k : Int32) : bz_run X bt_X11_image 1 (10, [some (.ref 32), some (.int k)], [], σ) = some (True, (12, [some (.ref 32), some (.int k)], [.int (-2)], σ)) := rfl
set_option maxRecDepth 100000 in
theorem s_X11_image_32 {X : bz_X} (σ : bz_S) (k : Int32) : bz_C bz_P X mX11_image [.ref 32, .int k] σ (bz_pi (f_X11_image_32 σ k).1 (f_X11_image_32 σ k).2) := by
  show bz_wp bz_P X mX11_image (bz_pi (f_X11_image_32 σ k).1 (f_X11_image_32 σ k).2) (0, [some (.ref 32), some (.int k)], [], σ)
  refine bz_wpn bT_X11_image 4 (b := (4, [some (.ref 32), some (.int k)], [.long 1, .long 0, .long (Int32.toInt64 k)], σ)) (G := True) (f_X11_image_32_blk1 σ k) trivial ?_
  refine bz_wci bT_X11_image [.long (Int32.toInt64 k), .long 0, .long 1] (pc' := 7) (rest := []) rfl rfl (Nat.le_of_ble_eq_true rfl) rfl (Nat.le_of_ble_eq_true rfl) rfl (s_X11_in σ (Int32.toInt64 k) 0 1) rfl ?_
  refine bz_wpb bT_X11_image 1 (b1 := (13, [some (.ref 32), some (.int k)], [], σ)) (b2 := (10, [some (.ref 32), some (.int k)], [], σ)) (C := ¬ bz_b (f_X11_in (Int32.toInt64 k) 0 1) = 0) (G := True) (f_X11_image_32_blk2 σ k) trivial (fun h1 => ?_) (fun h1 => ?_)
  · skip
    have h1 := bz_b1 h1
    refine bz_wpn bT_X11_image 9 (b := (27, [some (.ref 32), some (.int k)], [.ref 32], ((bz_up (bz_up σ.1 32 40 (30 * k)) 32 41 1), σ.2))) (G := ((1 : Int32) = 0 ∨ (1 : Int32) = 1) ∧ True) (f_X11_image_32_blk3 σ k) ⟨(by decide), trivial⟩ ?_
    refine bz_wcv bT_X11_image [.ref 32] (pc' := 30) (rest := []) rfl rfl (Nat.le_of_ble_eq_true rfl) rfl (Nat.le_of_ble_eq_true rfl) rfl (s_X11_passAll_32 ((bz_up (bz_up σ.1 32 40 (30 * k)) 32 41 1), σ.2) (by obtain ⟨K, h8, h9⟩ := bz_30 (k := k) (by assumption); exact ⟨K, h8, (by simpa [bz_up] using h9)⟩)) rfl ?_
    generalize hτ1 : f_X11_passAll_32 ((bz_up (bz_up σ.1 32 40 (30 * k)) 32 41 1), σ.2) = τ1
    refine bz_wpn bT_X11_image 6 (b := (38, [some (.ref 32), some (.int k)], [.int 1], ((bz_up τ1.1 51 k.toNatClampNeg 1), τ1.2))) (G := (vp_in k 2 ∧ ((1 : Int32) = 0 ∨ (1 : Int32) = 1)) ∧ True) (f_X11_image_32_blk4 σ k τ1) ⟨⟨(bz_k2 (by assumption)), by decide⟩, trivial⟩ ?_
    refine bz_wpr bT_X11_image rfl rfl trivial ?_
    have e9 : f_X11_image_32 σ k = (1, ((bz_up τ1.1 51 k.toNatClampNeg 1), τ1.2)) := by rw [f_X11_image_32, if_pos (h1), hτ1, f_X11_image_32_a]
    exact ⟨by rw [e9], by rw [e9]⟩
  · skip
    have h1 := bz_b0 (Decidable.not_not.mp h1)
    refine bz_wpn bT_X11_image 1 (b := (12, [some (.ref 32), some (.int k)], [.int (-2)], σ)) (G := True) (f_X11_image_32_blk5 σ k) trivial ?_
    refine bz_wpr bT_X11_image rfl rfl trivial ?_
    have e9 : f_X11_image_32 σ k = ((-2), σ) := by rw [f_X11_image_32, if_neg (bz_ff h1)]
    exact ⟨by rw [e9], by rw [e9]⟩
theorem rf_X11_image_32_a (σ : bz_S) (k : Int32) (τ1 : bz_S) (fτ1 : bz_fr [32, 33, 34, 35, 50, 51] σ τ1) : bz_fr [32, 33, 34, 35, 50, 51] σ (f_X11_image_32_a σ k τ1).2 := by
  unfold f_X11_image_32_a
  exact ⟨(bz_f1_up (fτ1).1 (by decide)), (fτ1).2⟩
theorem rf_X11_image_32 (σ : bz_S) (k : Int32) : bz_fr [32, 33, 34, 35, 50, 51] σ (f_X11_image_32 σ k).2 := by
  unfold f_X11_image_32
  exact (bz_ite2 (rf_X11_image_32_a σ k (f_X11_passAll_32 ((bz_up (bz_up σ.1 32 40 (30 * k)) 32 41 1), σ.2)) (bz_fr_tr (τ := ((bz_up (bz_up σ.1 32 40 (30 * k)) 32 41 1), σ.2)) ⟨(bz_f1_up (bz_f1_up (bz_fr_rf).1 (by decide)) (by decide)), (bz_fr_rf).2⟩ (bz_fr_mo (rf_X11_passAll_32 ((bz_up (bz_up σ.1 32 40 (30 * k)) 32 41 1), σ.2)) (by decide)))) bz_fr_rf)
theorem qf_X11_image_32_a (σ : bz_S) (k : Int32) (τ1 : bz_S) (fτ1 : bz_fo [1, 2, 3, 6, 40, 41] σ τ1) : bz_fo [1, 2, 3, 6, 40, 41] σ (f_X11_image_32_a σ k τ1).2 := by
  unfold f_X11_image_32_a
  exact (bz_fo_no (f := _) fτ1 (by decide))
theorem qf_X11_image_32 (σ : bz_S) (k : Int32) : bz_fo [1, 2, 3, 6, 40, 41] σ (f_X11_image_32 σ k).2 := by
  unfold f_X11_image_32
  exact (bz_ite2 (qf_X11_image_32_a σ k (f_X11_passAll_32 ((bz_up (bz_up σ.1 32 40 (30 * k)) 32 41 1), σ.2)) (bz_fo_tr (τ := ((bz_up (bz_up σ.1 32 40 (30 * k)) 32 41 1), σ.2)) (bz_fo_up (f := _) (bz_fo_up (f := _) bz_fo_rf (by decide)) (by decide)) (bz_fo_mo (qf_X11_passAll_32 ((bz_up (bz_up σ.1 32 40 (30 * k)) 32 41 1), σ.2)) (by decide)))) bz_fo_rf)

def f_X11_restore_32_a (σ : bz_S) (k : Int32) (τ1 : bz_S) : Int32 × bz_S := (1, τ1)
def f_X11_restore_32 (σ : bz_S) (k : Int32) : Int32 × bz_S := if f_X11_in (Int32.toInt64 k) 0 1 = true then if (σ.1 51 k.toNatClampNeg) = 0 then ((-3), σ) else (f_X11_restore_32_a σ k (f_X11_passAll_32 ((bz_up (bz_up σ.1 32 40 (30 * k)) 32 41 0), σ.2))) else ((-2), σ)
set_option maxRecDepth 100000 in
theorem f_X11_restore_32_blk1 {X : bz_X} (σ : bz_S) (k : Int32) : bz_run X bt_X11_restore 4 (0, [some (.ref 32), some (.int k)], [], σ) = some (True, (4, [some (.ref 32), some (.int k)], [.long 1, .long 0, .long (Int32.toInt64 k)], σ)) := rfl
set_option maxRecDepth 100000 in
theorem f_X11_restore_32_blk2 {X : bz_X} (σ : bz_S) (k : Int32) : bz_run X bt_X11_restore 1 (7, [some (.ref 32), some (.int k)], [.int (bz_b (f_X11_in (Int32.toInt64 k) 0 1))], σ) = some (True, if ¬ bz_b (f_X11_in (Int32.toInt64 k) 0 1) = 0 then (13, [some (.ref 32), some (.int k)], [], σ) else (10, [some (.ref 32), some (.int k)], [], σ)) := rfl
set_option maxRecDepth 100000 in
theorem f_X11_restore_32_blk3 {X : bz_X} (σ : bz_S) (k : Int32) : bz_run X bt_X11_restore 5 (13, [some (.ref 32), some (.int k)], [], σ) = some (vp_in k 2 ∧ True, if ¬ (σ.1 51 k.toNatClampNeg) = 0 then (25, [some (.ref 32), some (.int k)], [], σ) else (22, [some (.ref 32), some (.int k)], [], σ)) := rfl
set_option maxRecDepth 100000 in
theorem f_X11_restore_32_blk4 {X : bz_X} (σ : bz_S) (k : Int32) : bz_run X bt_X11_restore 9 (25, [some (.ref 32), some (.int k)], [], σ) = some (((0 : Int32) = 0 ∨ (0 : Int32) = 1) ∧ True, (39, [some (.ref 32), some (.int k)], [.ref 32], ((bz_up (bz_up σ.1 32 40 (30 * k)) 32 41 0), σ.2))) := rfl
set_option maxRecDepth 100000 in
theorem f_X11_restore_32_blk5 {X : bz_X} (σ : bz_S) (k : Int32) (τ1 : bz_S) : bz_run X bt_X11_restore 1 (42, [some (.ref 32), some (.int k)], [], τ1) = some (True, (43, [some (.ref 32), some (.int k)], [.int 1], τ1)) := rfl
set_option maxRecDepth 100000 in
theorem f_X11_restore_32_blk6 {X : bz_X} (σ : bz_S) (k : Int32) : bz_run X bt_X11_restore 1 (22, [some (.ref 32), some (.int k)], [], σ) = some (True, (24, [some (.ref 32), some (.int k)], [.int (-3)], σ)) := rfl
set_option maxRecDepth 100000 in
theorem f_X11_restore_32_blk7 {X : bz_X} (σ : bz_S) (k : Int32) : bz_run X bt_X11_restore 1 (10, [some (.ref 32), some (.int k)], [], σ) = some (True, (12, [some (.ref 32), some (.int k)], [.int (-2)], σ)) := rfl
set_option maxRecDepth 100000 in
theorem s_X11_restore_32 {X : bz_X} (σ : bz_S) (k : Int32) : bz_C bz_P X mX11_restore [.ref 32, .int k] σ (bz_pi (f_X11_restore_32 σ k).1 (f_X11_restore_32 σ k).2) := by
  show bz_wp bz_P X mX11_restore (bz_pi (f_X11_restore_32 σ k).1 (f_X11_restore_32 σ k).2) (0, [some (.ref 32), some (.int k)], [], σ)
  refine bz_wpn bT_X11_restore 4 (b := (4, [some (.ref 32), some (.int k)], [.long 1, .long 0, .long (Int32.toInt64 k)], σ)) (G := True) (f_X11_restore_32_blk1 σ k) trivial ?_
  refine bz_wci bT_X11_restore [.long (Int32.toInt64 k), .long 0, .long 1] (pc' := 7) (rest := []) rfl rfl (Nat.le_of_ble_eq_true rfl) rfl (Nat.le_of_ble_eq_true rfl) rfl (s_X11_in σ (Int32.toInt64 k) 0 1) rfl ?_
  refine bz_wpb bT_X11_restore 1 (b1 := (13, [some (.ref 32), some (.int k)], [], σ)) (b2 := (10, [some (.ref 32), some (.int k)], [], σ)) (C := ¬ bz_b (f_X11_in (Int32.toInt64 k) 0 1) = 0) (G := True) (f_X11_restore_32_blk2 σ k) trivial (fun h1 => ?_) (fun h1 => ?_)
  · skip
    have h1 := bz_b1 h1
    refine bz_wpb bT_X11_restore 5 (b1 := (25, [some (.ref 32), some (.int k)], [], σ)) (b2 := (22, [some (.ref 32), some (.int k)], [], σ)) (C := ¬ (σ.1 51 k.toNatClampNeg) = 0) (G := vp_in k 2 ∧ True) (f_X11_restore_32_blk3 σ k) ⟨(bz_k2 (by assumption)), trivial⟩ (fun h2 => ?_) (fun h2 => ?_)
    · skip
      refine bz_wpn bT_X11_restore 9 (b := (39, [some (.ref 32), some (.int k)], [.ref 32], ((bz_up (bz_up σ.1 32 40 (30 * k)) 32 41 0), σ.2))) (G := ((0 : Int32) = 0 ∨ (0 : Int32) = 1) ∧ True) (f_X11_restore_32_blk4 σ k) ⟨(by decide), trivial⟩ ?_
      refine bz_wcv bT_X11_restore [.ref 32] (pc' := 42) (rest := []) rfl rfl (Nat.le_of_ble_eq_true rfl) rfl (Nat.le_of_ble_eq_true rfl) rfl (s_X11_passAll_32 ((bz_up (bz_up σ.1 32 40 (30 * k)) 32 41 0), σ.2) (by obtain ⟨K, h8, h9⟩ := bz_30 (k := k) (by assumption); exact ⟨K, h8, (by simpa [bz_up] using h9)⟩)) rfl ?_
      generalize hτ1 : f_X11_passAll_32 ((bz_up (bz_up σ.1 32 40 (30 * k)) 32 41 0), σ.2) = τ1
      refine bz_wpn bT_X11_restore 1 (b := (43, [some (.ref 32), some (.int k)], [.int 1], τ1)) (G := True) (f_X11_restore_32_blk5 σ k τ1) trivial ?_
      refine bz_wpr bT_X11_restore rfl rfl trivial ?_
      have e9 : f_X11_restore_32 σ k = (1, τ1) := by rw [f_X11_restore_32, if_pos (h1), if_neg (h2), hτ1, f_X11_restore_32_a]
      exact ⟨by rw [e9], by rw [e9]⟩
    · skip
      refine bz_wpn bT_X11_restore 1 (b := (24, [some (.ref 32), some (.int k)], [.int (-3)], σ)) (G := True) (f_X11_restore_32_blk6 σ k) trivial ?_
      refine bz_wpr bT_X11_restore rfl rfl trivial ?_
      have e9 : f_X11_restore_32 σ k = ((-3), σ) := by rw [f_X11_restore_32, if_pos (h1), if_pos ((Decidable.not_not.mp h2))]
      exact ⟨by rw [e9], by rw [e9]⟩
  · skip
    have h1 := bz_b0 (Decidable.not_not.mp h1)
    refine bz_wpn bT_X11_restore 1 (b := (12, [some (.ref 32), some (.int k)], [.int (-2)], σ)) (G := True) (f_X11_restore_32_blk7 σ k) trivial ?_
    refine bz_wpr bT_X11_restore rfl rfl trivial ?_
    have e9 : f_X11_restore_32 σ k = ((-2), σ) := by rw [f_X11_restore_32, if_neg (bz_ff h1)]
    exact ⟨by rw [e9], by rw [e9]⟩
theorem rf_X11_restore_32_a (σ : bz_S) (k : Int32) (τ1 : bz_S) (fτ1 : bz_fr [32, 33, 34, 35, 50] σ τ1) : bz_fr [32, 33, 34, 35, 50] σ (f_X11_restore_32_a σ k τ1).2 := by
  unfold f_X11_restore_32_a
  exact fτ1
theorem rf_X11_restore_32 (σ : bz_S) (k : Int32) : bz_fr [32, 33, 34, 35, 50] σ (f_X11_restore_32 σ k).2 := by
  unfold f_X11_restore_32
  exact (bz_ite2 (bz_ite2 bz_fr_rf (rf_X11_restore_32_a σ k (f_X11_passAll_32 ((bz_up (bz_up σ.1 32 40 (30 * k)) 32 41 0), σ.2)) (bz_fr_tr (τ := ((bz_up (bz_up σ.1 32 40 (30 * k)) 32 41 0), σ.2)) ⟨(bz_f1_up (bz_f1_up (bz_fr_rf).1 (by decide)) (by decide)), (bz_fr_rf).2⟩ (bz_fr_mo (rf_X11_passAll_32 ((bz_up (bz_up σ.1 32 40 (30 * k)) 32 41 0), σ.2)) (by decide))))) bz_fr_rf)
theorem qf_X11_restore_32_a (σ : bz_S) (k : Int32) (τ1 : bz_S) (fτ1 : bz_fo [1, 2, 3, 6, 40, 41] σ τ1) : bz_fo [1, 2, 3, 6, 40, 41] σ (f_X11_restore_32_a σ k τ1).2 := by
  unfold f_X11_restore_32_a
  exact fτ1
theorem qf_X11_restore_32 (σ : bz_S) (k : Int32) : bz_fo [1, 2, 3, 6, 40, 41] σ (f_X11_restore_32 σ k).2 := by
  unfold f_X11_restore_32
  exact (bz_ite2 (bz_ite2 bz_fo_rf (qf_X11_restore_32_a σ k (f_X11_passAll_32 ((bz_up (bz_up σ.1 32 40 (30 * k)) 32 41 0), σ.2)) (bz_fo_tr (τ := ((bz_up (bz_up σ.1 32 40 (30 * k)) 32 41 0), σ.2)) (bz_fo_up (f := _) (bz_fo_up (f := _) bz_fo_rf (by decide)) (by decide)) (bz_fo_mo (qf_X11_passAll_32 ((bz_up (bz_up σ.1 32 40 (30 * k)) 32 41 0), σ.2)) (by decide))))) bz_fo_rf)
