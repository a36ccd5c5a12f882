/-- a code: ten times a cell, and a way -/
def bz_cod (x : Int32) : Prop := ∃ a b, a < 45 ∧ b < 8 ∧ x = nI (10 * a + b)
theorem nX_all : ∀ a : Fin 45, ∀ b : Fin 8, f_X11_next (nI (10 * a + b)) = nI (10 * nN a (nT a b) + nT a b) := by decide +kernel
theorem nX_ok {a b : Nat} (ha : a < 45) (hb : b < 8) : f_X11_next (nI (10 * a + b)) = nI (10 * nN a (nT a b) + nT a b) := nX_all ⟨a, ha⟩ ⟨b, hb⟩
theorem bz_codX {x : Int32} (h : bz_cod x) : bz_cod (f_X11_next x) := by
  obtain ⟨a, b, ha, hb, rfl⟩ := h
  obtain ⟨e1, e2, e3, e4⟩ := nT_ok ha hb
  exact ⟨nN a (nT a b), nT a b, e4, e2, nX_ok ha hb⟩
theorem bz_codD {x : Int32} (h : bz_cod x) : vp_in (x / 10) 45 := by
  obtain ⟨a, b, ha, hb, rfl⟩ := h
  show vp_in (nI (10 * a + b) / nI 10) 45
  rw [bz_divN (by omega) (by decide) (by decide)]
  exact vp_in_nI (by omega) (by decide)
theorem bz_codM {c w : Int32} (hc : ∃ a, a < 45 ∧ c = nI a) (hw : ∃ b, b < 8 ∧ w = nI b) : bz_cod ((10 * c) + w) := by
  obtain ⟨a, ha, e1⟩ := hc
  obtain ⟨b, hb, e2⟩ := hw
  exact ⟨a, b, ha, hb, bz_10 e1 e2⟩
theorem bz_plc {c : Int32} (h : f_X11_isPlace c = true) : ∃ a, a < 45 ∧ c = nI a := by
  rw [m_isPlace] at h
  unfold f_X10_isPlace at h
  split at h
  · rename_i h1
    obtain ⟨j, h2, h3, h4⟩ := bz_wN (a := 0) (b := 44) (by decide) (by decide) (by decide) h1
    exact ⟨j, by omega, h4⟩
  · cases h
theorem bz_plI {c : Int32} (h : f_X11_isPlace c = true) : vp_in c 45 := by
  obtain ⟨a, ha, rfl⟩ := bz_plc h
  exact vp_in_nI ha (by decide)
theorem bz_way {w : Int32} (h : f_X11_in (Int32.toInt64 w) 0 7 = true) : ∃ b, b < 8 ∧ w = nI b := by
  obtain ⟨j, h2, h3, h4⟩ := bz_wN (a := 0) (b := 7) (by decide) (by decide) (by decide) ((bz_inW (lo := 0) (hi := 7) (by decide) (by decide)).symm.trans h)
  exact ⟨j, by omega, h4⟩
theorem bz_far {n : Int32} (h : f_X11_in (Int32.toInt64 n) 0 99999 = true) : ∃ N, N < 2 ^ 31 ∧ n = nI N := by
  obtain ⟨j, h2, h3, h4⟩ := bz_wN (a := 0) (b := 99999) (by decide) (by decide) (by decide) ((bz_inW (lo := 0) (hi := 99999) (by decide) (by decide)).symm.trans h)
  exact ⟨j, by omega, h4⟩

def lp_bh : Nat → Int32 → Int32 → Int32
  | 0, is_, e => is_
  | n + 1, is_, e => (lp_bh n (f_X11_next is_) (e + 1))
set_option maxRecDepth 100000 in
theorem lp_bh0_blk1 {X : bz_X} (code : Int32) (nn : Int32) (σ : bz_S) (is_ : Int32) (e : Int32) : bz_run X bt_X11_behindSteps 3 (4, [some (.int code), some (.int nn), some (.int is_), some (.int e)], [], σ) = some (True, if nn ≤ e then (20, [some (.int code), some (.int nn), some (.int is_), some (.int e)], [], σ) else (9, [some (.int code), some (.int nn), some (.int is_), some (.int e)], [], σ)) := rfl
set_option maxRecDepth 100000 in
theorem lp_bh0_blk2 {X : bz_X} (code : Int32) (nn : Int32) (σ : bz_S) (is_ : Int32) (e : Int32) : bz_run X bt_X11_behindSteps 1 (20, [some (.int code), some (.int nn), some (.int is_), some (.int e)], [], σ) = some (True, (21, [some (.int code), some (.int nn), some (.int is_), some (.int e)], [.int is_], σ)) := rfl
set_option maxRecDepth 100000 in
theorem lp_bh_blk1 {X : bz_X} (code : Int32) (nn : Int32) (σ : bz_S) (is_ : Int32) (e : Int32) : bz_run X bt_X11_behindSteps 3 (4, [some (.int code), some (.int nn), some (.int is_), some (.int e)], [], σ) = some (True, if nn ≤ e then (20, [some (.int code), some (.int nn), some (.int is_), some (.int e)], [], σ) else (9, [some (.int code), some (.int nn), some (.int is_), some (.int e)], [], σ)) := rfl
set_option maxRecDepth 100000 in
theorem lp_bh_blk2 {X : bz_X} (code : Int32) (nn : Int32) (σ : bz_S) (is_ : Int32) (e : Int32) : bz_run X bt_X11_behindSteps 1 (9, [some (.int code), some (.int nn), some (.int is_), some (.int e)], [], σ) = some (True, (10, [some (.int code), some (.int nn), some (.int is_), some (.int e)], [.int is_], σ)) := rfl
set_option maxRecDepth 100000 in
theorem lp_bh_blk3 {X : bz_X} (code : Int32) (nn : Int32) (σ : bz_S) (is_ : Int32) (e : Int32) : bz_run X bt_X11_behindSteps 3 (13, [some (.int code), some (.int nn), some (.int is_), some (.int e)], [.int (f_X11_next is_)], σ) = some (True, (4, [some (.int code), some (.int nn), some (.int (f_X11_next is_)), some (.int (e + 1))], [], σ)) := rfl
set_option maxRecDepth 100000 in
theorem s_lp_bh {X : bz_X} (code nn : Int32) (NN : Nat) (hM : nn = nI NN) (hM2 : NN < 2 ^ 31) : ∀ (n : Nat) (σ : bz_S) (is_ : Int32) (e : Int32) (j9 : Nat) (hi : e = nI j9) (hj : j9 + n = NN), bz_wp bz_P X mX11_behindSteps (bz_pi (lp_bh n is_ e) σ) (4, [some (.int code), some (.int nn), some (.int is_), some (.int e)], [], σ) := by
  intro n
  induction n with
  | zero =>
    intro σ is_ e j9 hi hj
    refine bz_wpb bT_X11_behindSteps 3 (b1 := (20, [some (.int code), some (.int nn), some (.int is_), some (.int e)], [], σ)) (b2 := (9, [some (.int code), some (.int nn), some (.int is_), some (.int e)], [], σ)) (C := nn ≤ e) (G := True) (lp_bh0_blk1 code nn σ is_ e) trivial (fun _ => ?_) (fun z => absurd (show nn ≤ e from by rw [hi, hM]; exact nI_le (by omega) (by omega)) z)
    refine bz_wpn bT_X11_behindSteps 1 (b := (21, [some (.int code), some (.int nn), some (.int is_), some (.int e)], [.int is_], σ)) (G := True) (lp_bh0_blk2 code nn σ is_ e) trivial ?_
    refine bz_wpr bT_X11_behindSteps rfl rfl trivial ?_
    have e9 : lp_bh 0 is_ e = is_ := by rw [lp_bh]
    exact ⟨by rw [e9], rfl⟩
  | succ n ih =>
    intro σ is_ e j9 hi hj
    refine bz_wpb bT_X11_behindSteps 3 (b1 := (20, [some (.int code), some (.int nn), some (.int is_), some (.int e)], [], σ)) (b2 := (9, [some (.int code), some (.int nn), some (.int is_), some (.int e)], [], σ)) (C := nn ≤ e) (G := True) (lp_bh_blk1 code nn σ is_ e) trivial (fun z => absurd z (show ¬ nn ≤ e from by rw [hi, hM]; exact nI_ge (by omega) (by omega))) (fun _ => ?_)
    refine bz_wpn bT_X11_behindSteps 1 (b := (10, [some (.int code), some (.int nn), some (.int is_), some (.int e)], [.int is_], σ)) (G := True) (lp_bh_blk2 code nn σ is_ e) trivial ?_
    refine bz_wci bT_X11_behindSteps [.int is_] (pc' := 13) (rest := []) rfl rfl (Nat.le_of_ble_eq_true rfl) rfl (Nat.le_of_ble_eq_true rfl) rfl (s_X11_next σ is_) rfl ?_
    refine bz_wpn bT_X11_behindSteps 3 (b := (4, [some (.int code), some (.int nn), some (.int (f_X11_next is_)), some (.int (e + 1))], [], σ)) (G := True) (lp_bh_blk3 code nn σ is_ e) trivial ?_
    have e9 : lp_bh (n + 1) is_ e = (lp_bh n (f_X11_next is_) (e + 1)) := by rw [lp_bh]
    rw [e9]
    exact ih σ (f_X11_next is_) (e + 1) (j9 + 1) (by rw [hi]; exact nI_1 j9) (by omega)

def f_X11_behindSteps (code : Int32) (nn : Int32) : Int32 := lp_bh nn.toNatClampNeg code 0
set_option maxRecDepth 100000 in
theorem f_X11_behindSteps_blk1 {X : bz_X} (σ : bz_S) (code : Int32) (nn : Int32) : bz_run X bt_X11_behindSteps 4 (0, [some (.int code), some (.int nn), none, none], [], σ) = some (True, (4, [some (.int code), some (.int nn), some (.int code), some (.int 0)], [], σ)) := rfl
set_option maxRecDepth 100000 in
theorem s_X11_behindSteps {X : bz_X} (σ : bz_S) (code : Int32) (nn : Int32) (hn : ∃ N, N < 2 ^ 31 ∧ nn = nI N) : bz_C bz_P X mX11_behindSteps [.int code, .int nn] σ (bz_pi (f_X11_behindSteps code nn) σ) := by
  show bz_wp bz_P X mX11_behindSteps (bz_pi (f_X11_behindSteps code nn) σ) (0, [some (.int code), some (.int nn), none, none], [], σ)
  refine bz_wpn bT_X11_behindSteps 4 (b := (4, [some (.int code), some (.int nn), some (.int code), some (.int 0)], [], σ)) (G := True) (f_X11_behindSteps_blk1 σ code nn) trivial ?_
  have e9 : f_X11_behindSteps code nn = lp_bh nn.toNatClampNeg code 0 := by rw [f_X11_behindSteps]
  rw [e9]
  obtain ⟨NN, hM2, hM⟩ := hn
  exact s_lp_bh code nn NN hM hM2 _ σ code 0 0 rfl (by rw [hM, nI_clamp (by omega)]; omega)

def lp_mt1 : Nat → bz_S → Int32 → bz_S
  | 0, σ, is_ => σ
  | n + 1, σ, is_ => (lp_mt1 n ((bz_up σ.1 43 is_.toNatClampNeg 0), σ.2) (is_ + 1))
set_option maxRecDepth 100000 in
theorem lp_mt10_blk1 {X : bz_X} (code : Int32) (σ : bz_S) (is_ : Int32) : bz_run X bt_X11_metMany 3 (2, [some (.ref 32), some (.int code), some (.int is_), none, none], [], σ) = some (True, if 45 ≤ is_ then (21, [some (.ref 32), some (.int code), some (.int is_), none, none], [], σ) else (8, [some (.ref 32), some (.int code), some (.int is_), none, none], [], σ)) := rfl
set_option maxRecDepth 100000 in
theorem lp_mt1_blk1 {X : bz_X} (code : Int32) (σ : bz_S) (is_ : Int32) : bz_run X bt_X11_metMany 3 (2, [some (.ref 32), some (.int code), some (.int is_), none, none], [], σ) = some (True, if 45 ≤ is_ then (21, [some (.ref 32), some (.int code), some (.int is_), none, none], [], σ) else (8, [some (.ref 32), some (.int code), some (.int is_), none, none], [], σ)) := rfl
set_option maxRecDepth 100000 in
theorem lp_mt1_blk2 {X : bz_X} (code : Int32) (σ : bz_S) (is_ : Int32) : bz_run X bt_X11_metMany 7 (8, [some (.ref 32), some (.int code), some (.int is_), none, none], [], σ) = some ((vp_in is_ 45 ∧ ((0 : Int32) = 0 ∨ (0 : Int32) = 1)) ∧ True, (2, [some (.ref 32), some (.int code), some (.int (is_ + 1)), none, none], [], ((bz_up σ.1 43 is_.toNatClampNeg 0), σ.2))) := rfl
set_option maxRecDepth 100000 in
theorem s_lp_mt1 {X : bz_X} {Q : bz_Q} (code : Int32) : ∀ (n : Nat) (σ : bz_S) (is_ : Int32) (j9 : Nat) (hi : is_ = nI j9) (hj : j9 + n = 45) (kk : bz_wp bz_P X mX11_metMany Q (21, [some (.ref 32), some (.int code), none, none, none], [], (lp_mt1 n σ is_))), bz_wp bz_P X mX11_metMany (Q) (2, [some (.ref 32), some (.int code), some (.int is_), none, none], [], σ) := by
  intro n
  induction n with
  | zero =>
    intro σ is_ j9 hi hj kk
    refine bz_wpb bT_X11_metMany 3 (b1 := (21, [some (.ref 32), some (.int code), some (.int is_), none, none], [], σ)) (b2 := (8, [some (.ref 32), some (.int code), some (.int is_), none, none], [], σ)) (C := 45 ≤ is_) (G := True) (lp_mt10_blk1 code σ is_) trivial (fun _ => ?_) (fun z => absurd (show (45 : Int32) ≤ is_ from by rw [hi, show j9 = 45 from by omega]; decide) z)
    have e9 : lp_mt1 0 σ is_ = σ := by rw [lp_mt1]
    rw [e9] at kk
    refine bz_wpw (by exact ⟨rfl, rfl, trivial⟩) kk
  | succ n ih =>
    intro σ is_ j9 hi hj kk
    refine bz_wpb bT_X11_metMany 3 (b1 := (21, [some (.ref 32), some (.int code), some (.int is_), none, none], [], σ)) (b2 := (8, [some (.ref 32), some (.int code), some (.int is_), none, none], [], σ)) (C := 45 ≤ is_) (G := True) (lp_mt1_blk1 code σ is_) trivial (fun z => absurd z (show ¬ (45 : Int32) ≤ is_ from by rw [hi]; exact nI_ge (b := 45) (by omega) (by decide))) (fun _ => ?_)
    refine bz_wpn bT_X11_metMany 7 (b := (2, [some (.ref 32), some (.int code), some (.int (is_ + 1)), none, none], [], ((bz_up σ.1 43 is_.toNatClampNeg 0), σ.2))) (G := (vp_in is_ 45 ∧ ((0 : Int32) = 0 ∨ (0 : Int32) = 1)) ∧ True) (lp_mt1_blk2 code σ is_) ⟨⟨(by rw [hi]; exact vp_in_nI (by omega) (by decide)), by decide⟩, trivial⟩ ?_
    have e9 : lp_mt1 (n + 1) σ is_ = (lp_mt1 n ((bz_up σ.1 43 is_.toNatClampNeg 0), σ.2) (is_ + 1)) := by rw [lp_mt1]
    rw [e9] at kk
    exact ih ((bz_up σ.1 43 is_.toNatClampNeg 0), σ.2) (is_ + 1) (j9 + 1) (by rw [hi]; exact nI_1 j9) (by omega) kk
theorem rlp_mt1 : ∀ (n : Nat) (σ : bz_S) (is_ : Int32), bz_fr [43] σ (lp_mt1 n σ is_) := by
  intro n
  induction n with
  | zero =>
    intro σ is_
    rw [lp_mt1]
    exact bz_fr_rf
  | succ n ihc =>
    intro σ is_
    rw [lp_mt1]
    exact (bz_fr_tr (τ := ((bz_up σ.1 43 is_.toNatClampNeg 0), σ.2)) ⟨(bz_f1_up (bz_fr_rf).1 (by decide)), (bz_fr_rf).2⟩ (ihc ((bz_up σ.1 43 is_.toNatClampNeg 0), σ.2) (is_ + 1)))
theorem qlp_mt1 : ∀ (n : Nat) (σ : bz_S) (is_ : Int32), bz_fo ([] : List Nat) σ (lp_mt1 n σ is_) := by
  intro n
  induction n with
  | zero =>
    intro σ is_
    rw [lp_mt1]
    exact bz_fo_rf
  | succ n ihc =>
    intro σ is_
    rw [lp_mt1]
    exact (bz_fo_tr (τ := ((bz_up σ.1 43 is_.toNatClampNeg 0), σ.2)) (bz_fo_no (f := _) bz_fo_rf (by decide)) (ihc ((bz_up σ.1 43 is_.toNatClampNeg 0), σ.2) (is_ + 1)))

def lp_mt2 : Nat → bz_S → Int32 → Int32 → Int32 → Int32 × bz_S
  | 0, σ, is_, nn, e => (nn, σ)
  | n + 1, σ, is_, nn, e => if (σ.1 43 ((is_ / 10).toNatClampNeg)) = 0 then (lp_mt2 n ((bz_up σ.1 43 ((is_ / 10).toNatClampNeg) 1), σ.2) (f_X11_next is_) (nn + 1) (e + 1)) else (lp_mt2 n ((bz_up σ.1 43 ((is_ / 10).toNatClampNeg) 1), σ.2) (f_X11_next is_) (nn + 0) (e + 1))
set_option maxRecDepth 100000 in
theorem lp_mt20_blk1 {X : bz_X} (code : Int32) (σ : bz_S) (is_ : Int32) (nn : Int32) (e : Int32) : bz_run X bt_X11_metMany 3 (28, [some (.ref 32), some (.int code), some (.int is_), some (.int nn), some (.int e)], [], σ) = some (True, if 400 ≤ e then (77, [some (.ref 32), some (.int code), some (.int is_), some (.int nn), some (.int e)], [], σ) else (36, [some (.ref 32), some (.int code), some (.int is_), some (.int nn), some (.int e)], [], σ)) := rfl
set_option maxRecDepth 100000 in
theorem lp_mt20_blk2 {X : bz_X} (code : Int32) (σ : bz_S) (is_ : Int32) (nn : Int32) (e : Int32) : bz_run X bt_X11_metMany 1 (77, [some (.ref 32), some (.int code), some (.int is_), some (.int nn), some (.int e)], [], σ) = some (True, (78, [some (.ref 32), some (.int code), some (.int is_), some (.int nn), some (.int e)], [.int nn], σ)) := rfl
set_option maxRecDepth 100000 in
theorem lp_mt2_blk1 {X : bz_X} (code : Int32) (σ : bz_S) (is_ : Int32) (nn : Int32) (e : Int32) : bz_run X bt_X11_metMany 3 (28, [some (.ref 32), some (.int code), some (.int is_), some (.int nn), some (.int e)], [], σ) = some (True, if 400 ≤ e then (77, [some (.ref 32), some (.int code), some (.int is_), some (.int nn), some (.int e)], [], σ) else (36, [some (.ref 32), some (.int code), some (.int is_), some (.int nn), some (.int e)], [], σ)) := rfl
set_option maxRecDepth 100000 in
theorem lp_mt2_blk2 {X : bz_X} (code : Int32) (σ : bz_S) (is_ : Int32) (nn : Int32) (e : Int32) : bz_run X bt_X11_metMany 8 (36, [some (.ref 32), some (.int code), some (.int is_), some (.int nn), some (.int e)], [], σ) = some (¬ (10 : Int32) = 0 ∧ vp_in (is_ / 10) 45 ∧ True, if (σ.1 43 ((is_ / 10).toNatClampNeg)) = 0 then (53, [some (.ref 32), some (.int code), some (.int is_), some (.int nn), some (.int e)], [.int nn], σ) else (49, [some (.ref 32), some (.int code), some (.int is_), some (.int nn), some (.int e)], [.int nn], σ)) := rfl
set_option maxRecDepth 100000 in
theorem lp_mt2_blk3 {X : bz_X} (code : Int32) (σ : bz_S) (is_ : Int32) (nn : Int32) (e : Int32) : bz_run X bt_X11_metMany 11 (53, [some (.ref 32), some (.int code), some (.int is_), some (.int nn), some (.int e)], [.int nn], σ) = some (¬ (10 : Int32) = 0 ∧ (vp_in (is_ / 10) 45 ∧ ((1 : Int32) = 0 ∨ (1 : Int32) = 1)) ∧ True, (67, [some (.ref 32), some (.int code), some (.int is_), some (.int (nn + 1)), some (.int e)], [.int is_], ((bz_up σ.1 43 ((is_ / 10).toNatClampNeg) 1), σ.2))) := rfl
set_option maxRecDepth 100000 in
theorem lp_mt2_blk4 {X : bz_X} (code : Int32) (σ : bz_S) (is_ : Int32) (nn : Int32) (e : Int32) : bz_run X bt_X11_metMany 3 (70, [some (.ref 32), some (.int code), some (.int is_), some (.int (nn + 1)), some (.int e)], [.int (f_X11_next is_)], ((bz_up σ.1 43 ((is_ / 10).toNatClampNeg) 1), σ.2)) = some (True, (28, [some (.ref 32), some (.int code), some (.int (f_X11_next is_)), some (.int (nn + 1)), some (.int (e + 1))], [], ((bz_up σ.1 43 ((is_ / 10).toNatClampNeg) 1), σ.2))) := rfl
set_option maxRecDepth 100000 in
theorem lp_mt2_blk5 {X : bz_X} (code : Int32) (σ : bz_S) (is_ : Int32) (nn : Int32) (e : Int32) : bz_run X bt_X11_metMany 12 (49, [some (.ref 32), some (.int code), some (.int is_), some (.int nn), some (.int e)], [.int nn], σ) = some (¬ (10 : Int32) = 0 ∧ (vp_in (is_ / 10) 45 ∧ ((1 : Int32) = 0 ∨ (1 : Int32) = 1)) ∧ True, (67, [some (.ref 32), some (.int code), some (.int is_), some (.int (nn + 0)), some (.int e)], [.int is_], ((bz_up σ.1 43 ((is_ / 10).toNatClampNeg) 1), σ.2))) := rfl
set_option maxRecDepth 100000 in
theorem lp_mt2_blk6 {X : bz_X} (code : Int32) (σ : bz_S) (is_ : Int32) (nn : Int32) (e : Int32) : bz_run X bt_X11_metMany 3 (70, [some (.ref 32), some (.int code), some (.int is_), some (.int (nn + 0)), some (.int e)], [.int (f_X11_next is_)], ((bz_up σ.1 43 ((is_ / 10).toNatClampNeg) 1), σ.2)) = some (True, (28, [some (.ref 32), some (.int code), some (.int (f_X11_next is_)), some (.int (nn + 0)), some (.int (e + 1))], [], ((bz_up σ.1 43 ((is_ / 10).toNatClampNeg) 1), σ.2))) := rfl
set_option maxRecDepth 100000 in
theorem s_lp_mt2 {X : bz_X} (code : Int32) : ∀ (n : Nat) (σ : bz_S) (is_ : Int32) (nn : Int32) (e : Int32) (j9 : Nat) (hi : e = nI j9) (hj : j9 + n = 400) (hc : bz_cod is_), bz_wp bz_P X mX11_metMany (bz_pi (lp_mt2 n σ is_ nn e).1 (lp_mt2 n σ is_ nn e).2) (28, [some (.ref 32), some (.int code), some (.int is_), some (.int nn), some (.int e)], [], σ) := by
  intro n
  induction n with
  | zero =>
    intro σ is_ nn e j9 hi hj hc
    refine bz_wpb bT_X11_metMany 3 (b1 := (77, [some (.ref 32), some (.int code), some (.int is_), some (.int nn), some (.int e)], [], σ)) (b2 := (36, [some (.ref 32), some (.int code), some (.int is_), some (.int nn), some (.int e)], [], σ)) (C := 400 ≤ e) (G := True) (lp_mt20_blk1 code σ is_ nn e) trivial (fun _ => ?_) (fun z => absurd (show (400 : Int32) ≤ e from by rw [hi, show j9 = 400 from by omega]; decide) z)
    refine bz_wpn bT_X11_metMany 1 (b := (78, [some (.ref 32), some (.int code), some (.int is_), some (.int nn), some (.int e)], [.int nn], σ)) (G := True) (lp_mt20_blk2 code σ is_ nn e) trivial ?_
    refine bz_wpr bT_X11_metMany rfl rfl trivial ?_
    have e9 : lp_mt2 0 σ is_ nn e = (nn, σ) := by rw [lp_mt2]
    exact ⟨by rw [e9], by rw [e9]⟩
  | succ n ih =>
    intro σ is_ nn e j9 hi hj hc
    refine bz_wpb bT_X11_metMany 3 (b1 := (77, [some (.ref 32), some (.int code), some (.int is_), some (.int nn), some (.int e)], [], σ)) (b2 := (36, [some (.ref 32), some (.int code), some (.int is_), some (.int nn), some (.int e)], [], σ)) (C := 400 ≤ e) (G := True) (lp_mt2_blk1 code σ is_ nn e) trivial (fun z => absurd z (show ¬ (400 : Int32) ≤ e from by rw [hi]; exact nI_ge (b := 400) (by omega) (by decide))) (fun _ => ?_)
    refine bz_wpb bT_X11_metMany 8 (b1 := (53, [some (.ref 32), some (.int code), some (.int is_), some (.int nn), some (.int e)], [.int nn], σ)) (b2 := (49, [some (.ref 32), some (.int code), some (.int is_), some (.int nn), some (.int e)], [.int nn], σ)) (C := (σ.1 43 ((is_ / 10).toNatClampNeg)) = 0) (G := ¬ (10 : Int32) = 0 ∧ vp_in (is_ / 10) 45 ∧ True) (lp_mt2_blk2 code σ is_ nn e) ⟨(by decide), (bz_codD hc), trivial⟩ (fun h1 => ?_) (fun h1 => ?_)
    · skip
      refine bz_wpn bT_X11_metMany 11 (b := (67, [some (.ref 32), some (.int code), some (.int is_), some (.int (nn + 1)), some (.int e)], [.int is_], ((bz_up σ.1 43 ((is_ / 10).toNatClampNeg) 1), σ.2))) (G := ¬ (10 : Int32) = 0 ∧ (vp_in (is_ / 10) 45 ∧ ((1 : Int32) = 0 ∨ (1 : Int32) = 1)) ∧ True) (lp_mt2_blk3 code σ is_ nn e) ⟨(by decide), ⟨(bz_codD hc), by decide⟩, trivial⟩ ?_
      refine bz_wci bT_X11_metMany [.int is_] (pc' := 70) (rest := []) rfl rfl (Nat.le_of_ble_eq_true rfl) rfl (Nat.le_of_ble_eq_true rfl) rfl (s_X11_next ((bz_up σ.1 43 ((is_ / 10).toNatClampNeg) 1), σ.2) is_) rfl ?_
      refine bz_wpn bT_X11_metMany 3 (b := (28, [some (.ref 32), some (.int code), some (.int (f_X11_next is_)), some (.int (nn + 1)), some (.int (e + 1))], [], ((bz_up σ.1 43 ((is_ / 10).toNatClampNeg) 1), σ.2))) (G := True) (lp_mt2_blk4 code σ is_ nn e) trivial ?_
      have e9 : lp_mt2 (n + 1) σ is_ nn e = (lp_mt2 n ((bz_up σ.1 43 ((is_ / 10).toNatClampNeg) 1), σ.2) (f_X11_next is_) (nn + 1) (e + 1)) := by rw [lp_mt2, if_pos (h1)]
      rw [e9]
      exact ih ((bz_up σ.1 43 ((is_ / 10).toNatClampNeg) 1), σ.2) (f_X11_next is_) (nn + 1) (e + 1) (j9 + 1) (by rw [hi]; exact nI_1 j9) (by omega) (bz_codX hc)
    · skip
      refine bz_wpn bT_X11_metMany 12 (b := (67, [some (.ref 32), some (.int code), some (.int is_), some (.int (nn + 0)), some (.int e)], [.int is_], ((bz_up σ.1 43 ((is_ / 10).toNatClampNeg) 1), σ.2))) (G := ¬ (10 : Int32) = 0 ∧ (vp_in (is_ / 10) 45 ∧ ((1 : Int32) = 0 ∨ (1 : Int32) = 1)) ∧ True) (lp_mt2_blk5 code σ is_ nn e) ⟨(by decide), ⟨(bz_codD hc), by decide⟩, trivial⟩ ?_
      refine bz_wci bT_X11_metMany [.int is_] (pc' := 70) (rest := []) rfl rfl (Nat.le_of_ble_eq_true rfl) rfl (Nat.le_of_ble_eq_true rfl) rfl (s_X11_next ((bz_up σ.1 43 ((is_ / 10).toNatClampNeg) 1), σ.2) is_) rfl ?_
      refine bz_wpn bT_X11_metMany 3 (b := (28, [some (.ref 32), some (.int code), some (.int (f_X11_next is_)), some (.int (nn + 0)), some (.int (e + 1))], [], ((bz_up σ.1 43 ((is_ / 10).toNatClampNeg) 1), σ.2))) (G := True) (lp_mt2_blk6 code σ is_ nn e) trivial ?_
      have e9 : lp_mt2 (n + 1) σ is_ nn e = (lp_mt2 n ((bz_up σ.1 43 ((is_ / 10).toNatClampNeg) 1), σ.2) (f_X11_next is_) (nn + 0) (e + 1)) := by rw [lp_mt2, if_neg (h1)]
      rw [e9]
      exact ih ((bz_up σ.1 43 ((is_ / 10).toNatClampNeg) 1), σ.2) (f_X11_next is_) (nn + 0) (e + 1) (j9 + 1) (by rw [hi]; exact nI_1 j9) (by omega) (bz_codX hc)
theorem rlp_mt2 : ∀ (n : Nat) (σ : bz_S) (is_ : Int32) (nn : Int32) (e : Int32), bz_fr [43] σ (lp_mt2 n σ is_ nn e).2 := by
  intro n
  induction n with
  | zero =>
    intro σ is_ nn e
    rw [lp_mt2]
    exact bz_fr_rf
  | succ n ihc =>
    intro σ is_ nn e
    rw [lp_mt2]
    exact (bz_ite2 (bz_fr_tr (τ := ((bz_up σ.1 43 ((is_ / 10).toNatClampNeg) 1), σ.2)) ⟨(bz_f1_up (bz_fr_rf).1 (by decide)), (bz_fr_rf).2⟩ (ihc ((bz_up σ.1 43 ((is_ / 10).toNatClampNeg) 1), σ.2) (f_X11_next is_) (nn + 1) (e + 1))) (bz_fr_tr (τ := ((bz_up σ.1 43 ((is_ / 10).toNatClampNeg) 1), σ.2)) ⟨(bz_f1_up (bz_fr_rf).1 (by decide)), (bz_fr_rf).2⟩ (ihc ((bz_up σ.1 43 ((is_ / 10).toNatClampNeg) 1), σ.2) (f_X11_next is_) (nn + 0) (e + 1))))
theorem qlp_mt2 : ∀ (n : Nat) (σ : bz_S) (is_ : Int32) (nn : Int32) (e : Int32), bz_fo ([] : List Nat) σ (lp_mt2 n σ is_ nn e).2 := by
  intro n
  induction n with
  | zero =>
    intro σ is_ nn e
    rw [lp_mt2]
    exact bz_fo_rf
  | succ n ihc =>
    intro σ is_ nn e
    rw [lp_mt2]
    exact (bz_ite2 (bz_fo_tr (τ := ((bz_up σ.1 43 ((is_ / 10).toNatClampNeg) 1), σ.2)) (bz_fo_no (f := _) bz_fo_rf (by decide)) (ihc ((bz_up σ.1 43 ((is_ / 10).toNatClampNeg) 1), σ.2) (f_X11_next is_) (nn + 1) (e + 1))) (bz_fo_tr (τ := ((bz_up σ.1 43 ((is_ / 10).toNatClampNeg) 1), σ.2)) (bz_fo_no (f := _) bz_fo_rf (by decide)) (ihc ((bz_up σ.1 43 ((is_ / 10).toNatClampNeg) 1), σ.2) (f_X11_next is_) (nn + 0) (e + 1))))

def f_X11_metMany_32_a (σ : bz_S) (code : Int32) (τ1 : bz_S) : Int32 × bz_S := lp_mt2 (bz_k 400) τ1 code 0 0
def f_X11_metMany_32 (σ : bz_S) (code : Int32) : Int32 × bz_S := (f_X11_metMany_32_a σ code ((lp_mt1 (bz_k 45) σ 0)))
set_option maxRecDepth 100000 in
theorem f_X11_metMany_32_blk1 {X : bz_X} (σ : bz_S) (code : Int32) : bz_run X bt_X11_metMany 2 (0, [some (.ref 32), some (.int code), none, none, none], [], σ) = some (True, (2, [some (.ref 32), some (.int code), some (.int 0), none, none], [], σ)) := rfl
set_option maxRecDepth 100000 in
theorem f_X11_metMany_32_blk2 {X : bz_X} (σ : bz_S) (code : Int32) (τ1 : bz_S) : bz_run X bt_X11_metMany 6 (21, [some (.ref 32), some (.int code), none, none, none], [], τ1) = some (True, (28, [some (.ref 32), some (.int code), some (.int code), some (.int 0), some (.int 0)], [], τ1)) := rfl
set_option maxRecDepth 100000 in
theorem s_X11_metMany_32 {X : bz_X} (σ : bz_S) (code : Int32) (hc : bz_cod code) : bz_C bz_P X mX11_metMany [.ref 32, .int code] σ (bz_pi (f_X11_metMany_32 σ code).1 (f_X11_metMany_32 σ code).2) := by
  show bz_wp bz_P X mX11_metMany (bz_pi (f_X11_metMany_32 σ code).1 (f_X11_metMany_32 σ code).2) (0, [some (.ref 32), some (.int code), none, none, none], [], σ)
  refine bz_wpn bT_X11_metMany 2 (b := (2, [some (.ref 32), some (.int code), some (.int 0), none, none], [], σ)) (G := True) (f_X11_metMany_32_blk1 σ code) trivial ?_
  refine s_lp_mt1 code (bz_k 45) σ 0 0 rfl (by rw [bz_k_eq]) ?_
  generalize hτ1 : (lp_mt1 (bz_k 45) σ 0) = τ1
  refine bz_wpn bT_X11_metMany 6 (b := (28, [some (.ref 32), some (.int code), some (.int code), some (.int 0), some (.int 0)], [], τ1)) (G := True) (f_X11_metMany_32_blk2 σ code τ1) trivial ?_
  have e9 : f_X11_metMany_32 σ code = lp_mt2 (bz_k 400) τ1 code 0 0 := by rw [f_X11_metMany_32, hτ1, f_X11_metMany_32_a]
  rw [e9]
  exact s_lp_mt2 code (bz_k 400) τ1 code 0 0 0 rfl (by rw [bz_k_eq]) hc
theorem rf_X11_metMany_32_a (σ : bz_S) (code : Int32) (τ1 : bz_S) (fτ1 : bz_fr [43] σ τ1) : bz_fr [43] σ (f_X11_metMany_32_a σ code τ1).2 := by
  unfold f_X11_metMany_32_a
  exact (bz_fr_tr (τ := τ1) fτ1 (bz_fr_mo (rlp_mt2 (bz_k 400) τ1 code 0 0) (by decide)))
theorem rf_X11_metMany_32 (σ : bz_S) (code : Int32) : bz_fr [43] σ (f_X11_metMany_32 σ code).2 := by
  unfold f_X11_metMany_32
  exact (rf_X11_metMany_32_a σ code ((lp_mt1 (bz_k 45) σ 0)) (bz_fr_mo (rlp_mt1 (bz_k 45) σ 0) (by decide)))
theorem qf_X11_metMany_32_a (σ : bz_S) (code : Int32) (τ1 : bz_S) (fτ1 : bz_fo ([] : List Nat) σ τ1) : bz_fo ([] : List Nat) σ (f_X11_metMany_32_a σ code τ1).2 := by
  unfold f_X11_metMany_32_a
  exact (bz_fo_tr (τ := τ1) fτ1 (bz_fo_mo (qlp_mt2 (bz_k 400) τ1 code 0 0) (by decide)))
theorem qf_X11_metMany_32 (σ : bz_S) (code : Int32) : bz_fo ([] : List Nat) σ (f_X11_metMany_32 σ code).2 := by
  unfold f_X11_metMany_32
  exact (qf_X11_metMany_32_a σ code ((lp_mt1 (bz_k 45) σ 0)) (bz_fo_mo (qlp_mt1 (bz_k 45) σ 0) (by decide)))

def lp_sb (code : Int32) : Nat → Int32 → Int32 → Int32
  | 0, is_, e => (-6)
  | n + 1, is_, e => if is_ = code then e else (lp_sb code n (f_X11_next is_) (e + 1))
set_option maxRecDepth 100000 in
theorem lp_sb0_blk1 {X : bz_X} (code : Int32) (σ : bz_S) (is_ : Int32) (e : Int32) : bz_run X bt_X11_stepsBack 3 (7, [some (.int code), some (.int is_), some (.int e)], [], σ) = some (True, if 400 ≤ e then (32, [some (.int code), some (.int is_), some (.int e)], [], σ) else (14, [some (.int code), some (.int is_), some (.int e)], [], σ)) := rfl
set_option maxRecDepth 100000 in
theorem lp_sb0_blk2 {X : bz_X} (code : Int32) (σ : bz_S) (is_ : Int32) (e : Int32) : bz_run X bt_X11_stepsBack 1 (32, [some (.int code), some (.int is_), some (.int e)], [], σ) = some (True, (34, [some (.int code), some (.int is_), some (.int e)], [.int (-6)], σ)) := rfl
set_option maxRecDepth 100000 in
theorem lp_sb_blk1 {X : bz_X} (code : Int32) (σ : bz_S) (is_ : Int32) (e : Int32) : bz_run X bt_X11_stepsBack 3 (7, [some (.int code), some (.int is_), some (.int e)], [], σ) = some (True, if 400 ≤ e then (32, [some (.int code), some (.int is_), some (.int e)], [], σ) else (14, [some (.int code), some (.int is_), some (.int e)], [], σ)) := rfl
set_option maxRecDepth 100000 in
theorem lp_sb_blk2 {X : bz_X} (code : Int32) (σ : bz_S) (is_ : Int32) (e : Int32) : bz_run X bt_X11_stepsBack 3 (14, [some (.int code), some (.int is_), some (.int e)], [], σ) = some (True, if ¬ is_ = code then (21, [some (.int code), some (.int is_), some (.int e)], [], σ) else (19, [some (.int code), some (.int is_), some (.int e)], [], σ)) := rfl
set_option maxRecDepth 100000 in
theorem lp_sb_blk3 {X : bz_X} (code : Int32) (σ : bz_S) (is_ : Int32) (e : Int32) : bz_run X bt_X11_stepsBack 1 (21, [some (.int code), some (.int is_), some (.int e)], [], σ) = some (True, (22, [some (.int code), some (.int is_), some (.int e)], [.int is_], σ)) := rfl
set_option maxRecDepth 100000 in
theorem lp_sb_blk4 {X : bz_X} (code : Int32) (σ : bz_S) (is_ : Int32) (e : Int32) : bz_run X bt_X11_stepsBack 3 (25, [some (.int code), some (.int is_), some (.int e)], [.int (f_X11_next is_)], σ) = some (True, (7, [some (.int code), some (.int (f_X11_next is_)), some (.int (e + 1))], [], σ)) := rfl
set_option maxRecDepth 100000 in
theorem lp_sb_blk5 {X : bz_X} (code : Int32) (σ : bz_S) (is_ : Int32) (e : Int32) : bz_run X bt_X11_stepsBack 1 (19, [some (.int code), some (.int is_), some (.int e)], [], σ) = some (True, (20, [some (.int code), some (.int is_), some (.int e)], [.int e], σ)) := rfl
set_option maxRecDepth 100000 in
theorem s_lp_sb {X : bz_X} (code : Int32) : ∀ (n : Nat) (σ : bz_S) (is_ : Int32) (e : Int32) (j9 : Nat) (hi : e = nI j9) (hj : j9 + n = 400), bz_wp bz_P X mX11_stepsBack (bz_pi (lp_sb code n is_ e) σ) (7, [some (.int code), some (.int is_), some (.int e)], [], σ) := by
  intro n
  induction n with
  | zero =>
    intro σ is_ e j9 hi hj
    refine bz_wpb bT_X11_stepsBack 3 (b1 := (32, [some (.int code), some (.int is_), some (.int e)], [], σ)) (b2 := (14, [some (.int code), some (.int is_), some (.int e)], [], σ)) (C := 400 ≤ e) (G := True) (lp_sb0_blk1 code σ is_ e) trivial (fun _ => ?_) (fun z => absurd (show (400 : Int32) ≤ e from by rw [hi, show j9 = 400 from by omega]; decide) z)
    refine bz_wpn bT_X11_stepsBack 1 (b := (34, [some (.int code), some (.int is_), some (.int e)], [.int (-6)], σ)) (G := True) (lp_sb0_blk2 code σ is_ e) trivial ?_
    refine bz_wpr bT_X11_stepsBack rfl rfl trivial ?_
    have e9 : lp_sb code 0 is_ e = (-6) := by rw [lp_sb]
    exact ⟨by rw [e9], rfl⟩
  | succ n ih =>
    intro σ is_ e j9 hi hj
    refine bz_wpb bT_X11_stepsBack 3 (b1 := (32, [some (.int code), some (.int is_), some (.int e)], [], σ)) (b2 := (14, [some (.int code), some (.int is_), some (.int e)], [], σ)) (C := 400 ≤ e) (G := True) (lp_sb_blk1 code σ is_ e) trivial (fun z => absurd z (show ¬ (400 : Int32) ≤ e from by rw [hi]; exact nI_ge (b := 400) (by omega) (by decide))) (fun _ => ?_)
    refine bz_wpb bT_X11_stepsBack 3 (b1 := (21, [some (.int code), some (.int is_), some (.int e)], [], σ)) (b2 := (19, [some (.int code), some (.int is_), some (.int e)], [], σ)) (C := ¬ is_ = code) (G := True) (lp_sb_blk2 code σ is_ e) trivial (fun h1 => ?_) (fun h1 => ?_)
    · skip
      refine bz_wpn bT_X11_stepsBack 1 (b := (22, [some (.int code), some (.int is_), some (.int e)], [.int is_], σ)) (G := True) (lp_sb_blk3 code σ is_ e) trivial ?_
      refine bz_wci bT_X11_stepsBack [.int is_] (pc' := 25) (rest := []) rfl rfl (Nat.le_of_ble_eq_true rfl) rfl (Nat.le_of_ble_eq_true rfl) rfl (s_X11_next σ is_) rfl ?_
      refine bz_wpn bT_X11_stepsBack 3 (b := (7, [some (.int code), some (.int (f_X11_next is_)), some (.int (e + 1))], [], σ)) (G := True) (lp_sb_blk4 code σ is_ e) trivial ?_
      have e9 : lp_sb code (n + 1) is_ e = (lp_sb code n (f_X11_next is_) (e + 1)) := by rw [lp_sb, if_neg (h1)]
      rw [e9]
      exact ih σ (f_X11_next is_) (e + 1) (j9 + 1) (by rw [hi]; exact nI_1 j9) (by omega)
    · skip
      refine bz_wpn bT_X11_stepsBack 1 (b := (20, [some (.int code), some (.int is_), some (.int e)], [.int e], σ)) (G := True) (lp_sb_blk5 code σ is_ e) trivial ?_
      refine bz_wpr bT_X11_stepsBack rfl rfl trivial ?_
      have e9 : lp_sb code (n + 1) is_ e = e := by rw [lp_sb, if_pos ((Decidable.not_not.mp h1))]
      exact ⟨by rw [e9], rfl⟩

def f_X11_stepsBack (code : Int32) : Int32 := lp_sb code (bz_k 399) (f_X11_next code) 1
set_option maxRecDepth 100000 in
theorem f_X11_stepsBack_blk1 {X : bz_X} (σ : bz_S) (code : Int32) : bz_run X bt_X11_stepsBack 1 (0, [some (.int code), none, none], [], σ) = some (True, (1, [some (.int code), none, none], [.int code], σ)) := rfl
set_option maxRecDepth 100000 in
theorem f_X11_stepsBack_blk2 {X : bz_X} (σ : bz_S) (code : Int32) : bz_run X bt_X11_stepsBack 3 (4, [some (.int code), none, none], [.int (f_X11_next code)], σ) = some (True, (7, [some (.int code), some (.int (f_X11_next code)), some (.int 1)], [], σ)) := rfl
set_option maxRecDepth 100000 in
theorem s_X11_stepsBack {X : bz_X} (σ : bz_S) (code : Int32) : bz_C bz_P X mX11_stepsBack [.int code] σ (bz_pi (f_X11_stepsBack code) σ) := by
  show bz_wp bz_P X mX11_stepsBack (bz_pi (f_X11_stepsBack code) σ) (0, [some (.int code), none, none], [], σ)
  refine bz_wpn bT_X11_stepsBack 1 (b := (1, [some (.int code), none, none], [.int code], σ)) (G := True) (f_X11_stepsBack_blk1 σ code) trivial ?_
  refine bz_wci bT_X11_stepsBack [.int code] (pc' := 4) (rest := []) rfl rfl (Nat.le_of_ble_eq_true rfl) rfl (Nat.le_of_ble_eq_true rfl) rfl (s_X11_next σ code) rfl ?_
  refine bz_wpn bT_X11_stepsBack 3 (b := (7, [some (.int code), some (.int (f_X11_next code)), some (.int 1)], [], σ)) (G := True) (f_X11_stepsBack_blk2 σ code) trivial ?_
  have e9 : f_X11_stepsBack code = lp_sb code (bz_k 399) (f_X11_next code) 1 := by rw [f_X11_stepsBack]
  rw [e9]
  exact s_lp_sb code (bz_k 399) σ (f_X11_next code) 1 1 rfl (by rw [bz_k_eq])

def f_X11_alone_32_a (σ : bz_S) (c : Int32) (w : Int32) (nn : Int32) (what : Int32) (τ1 : Int32 × bz_S) : Int32 × bz_S := (τ1.1, τ1.2)
def f_X11_alone_32 (σ : bz_S) (c : Int32) (w : Int32) (nn : Int32) (what : Int32) : Int32 × bz_S := if f_X11_isPlace c = true then if f_X11_in (Int32.toInt64 w) 0 7 = true then if f_X11_in (Int32.toInt64 nn) 0 99999 = true then if f_X11_in (Int32.toInt64 what) 0 2 = true then if what = 0 then (((f_X11_behindSteps ((10 * c) + w) nn) / 10), σ) else (if what = 1 then ((f_X11_stepsBack ((10 * c) + w)), σ) else (f_X11_alone_32_a σ c w nn what (f_X11_metMany_32 σ ((10 * c) + w)))) else ((-2), σ) else ((-2), σ) else ((-2), σ) else ((-1), σ)
set_option maxRecDepth 100000 in
theorem f_X11_alone_32_blk1 {X : bz_X} (σ : bz_S) (c : Int32) (w : Int32) (nn : Int32) (what : Int32) : bz_run X bt_X11_alone 1 (0, [some (.ref 32), some (.int c), some (.int w), some (.int nn), some (.int what), none], [], σ) = some (True, (1, [some (.ref 32), some (.int c), some (.int w), some (.int nn), some (.int what), none], [.int c], σ)) := rfl
set_option maxRecDepth 100000 in
theorem f_X11_alone_32_blk2 {X : bz_X} (σ : bz_S) (c : Int32) (w : Int32) (nn : Int32) (what : Int32) : bz_run X bt_X11_alone 1 (4, [some (.ref 32), some (.int c), some (.int w), some (.int nn), some (.int what), none], [.int (bz_b (f_X11_isPlace c))], σ) = some (True, if ¬ bz_b (f_X11_isPlace c) = 0 then (9, [some (.ref 32), some (.int c), some (.int w), some (.int nn), some (.int what), none], [], σ) else (7, [some (.ref 32), some (.int c), some (.int w), some (.int nn), some (.int what), none], [], σ)) := rfl
set_option maxRecDepth 100000 in
theorem f_X11_alone_32_blk3 {X : bz_X} (σ : bz_S) (c : Int32) (w : Int32) (nn : Int32) (what : Int32) : bz_run X bt_X11_alone 4 (9, [some (.ref 32), some (.int c), some (.int w), some (.int nn), some (.int what), none], [], σ) = some (True, (15, [some (.ref 32), some (.int c), some (.int w), some (.int nn), some (.int what), none], [.long 7, .long 0, .long (Int32.toInt64 w)], σ)) := rfl
set_option maxRecDepth 100000 in
theorem f_X11_alone_32_blk4 {X : bz_X} (σ : bz_S) (c : Int32) (w : Int32) (nn : Int32) (what : Int32) : bz_run X bt_X11_alone 1 (18, [some (.ref 32), some (.int c), some (.int w), some (.int nn), some (.int what), none], [.int (bz_b (f_X11_in (Int32.toInt64 w) 0 7))], σ) = some (True, if bz_b (f_X11_in (Int32.toInt64 w) 0 7) = 0 then (46, [some (.ref 32), some (.int c), some (.int w), some (.int nn), some (.int what), none], [], σ) else (21, [some (.ref 32), some (.int c), some (.int w), some (.int nn), some (.int what), none], [], σ)) := rfl
set_option maxRecDepth 100000 in
theorem f_X11_alone_32_blk5 {X : bz_X} (σ : bz_S) (c : Int32) (w : Int32) (nn : Int32) (what : Int32) : bz_run X bt_X11_alone 1 (46, [some (.ref 32), some (.int c), some (.int w), some (.int nn), some (.int what), none], [], σ) = some (True, (48, [some (.ref 32), some (.int c), some (.int w), some (.int nn), some (.int what), none], [.int (-2)], σ)) := rfl
set_option maxRecDepth 100000 in
theorem f_X11_alone_32_blk6 {X : bz_X} (σ : bz_S) (c : Int32) (w : Int32) (nn : Int32) (what : Int32) : bz_run X bt_X11_alone 4 (21, [some (.ref 32), some (.int c), some (.int w), some (.int nn), some (.int what), none], [], σ) = some (True, (27, [some (.ref 32), some (.int c), some (.int w), some (.int nn), some (.int what), none], [.long 99999, .long 0, .long (Int32.toInt64 nn)], σ)) := rfl
set_option maxRecDepth 100000 in
theorem f_X11_alone_32_blk7 {X : bz_X} (σ : bz_S) (c : Int32) (w : Int32) (nn : Int32) (what : Int32) : bz_run X bt_X11_alone 1 (30, [some (.ref 32), some (.int c), some (.int w), some (.int nn), some (.int what), none], [.int (bz_b (f_X11_in (Int32.toInt64 nn) 0 99999))], σ) = some (True, if bz_b (f_X11_in (Int32.toInt64 nn) 0 99999) = 0 then (46, [some (.ref 32), some (.int c), some (.int w), some (.int nn), some (.int what), none], [], σ) else (33, [some (.ref 32), some (.int c), some (.int w), some (.int nn), some (.int what), none], [], σ)) := rfl
set_option maxRecDepth 100000 in
theorem f_X11_alone_32_blk8 {X : bz_X} (σ : bz_S) (c : Int32) (w : Int32) (nn : Int32) (what : Int32) : bz_run X bt_X11_alone 1 (46, [some (.ref 32), some (.int c), some (.int w), some (.int nn), some (.int what), none], [], σ) = some (True, (48, [some (.ref 32), some (.int c), some (.int w), some (.int nn), some (.int what), none], [.int (-2)], σ)) := rfl
set_option maxRecDepth 100000 in
theorem f_X11_alone_32_blk9 {X : bz_X} (σ : bz_S) (c : Int32) (w : Int32) (nn : Int32) (what : Int32) : bz_run X bt_X11_alone 4 (33, [some (.ref 32), some (.int c), some (.int w), some (.int nn), some (.int what), none], [], σ) = some (True, (40, [some (.ref 32), some (.int c), some (.int w), some (.int nn), some (.int what), none], [.long 2, .long 0, .long (Int32.toInt64 what)], σ)) := rfl
set_option maxRecDepth 100000 in
theorem f_X11_alone_32_blk10 {X : bz_X} (σ : bz_S) (c : Int32) (w : Int32) (nn : Int32) (what : Int32) : bz_run X bt_X11_alone 1 (43, [some (.ref 32), some (.int c), some (.int w), some (.int nn), some (.int what), none], [.int (bz_b (f_X11_in (Int32.toInt64 what) 0 2))], σ) = some (True, if ¬ bz_b (f_X11_in (Int32.toInt64 what) 0 2) = 0 then (49, [some (.ref 32), some (.int c), some (.int w), some (.int nn), some (.int what), none], [], σ) else (46, [some (.ref 32), some (.int c), some (.int w), some (.int nn), some (.int what), none], [], σ)) := rfl
set_option maxRecDepth 100000 in
theorem f_X11_alone_32_blk11 {X : bz_X} (σ : bz_S) (c : Int32) (w : Int32) (nn : Int32) (what : Int32) : bz_run X bt_X11_alone 8 (49, [some (.ref 32), some (.int c), some (.int w), some (.int nn), some (.int what), none], [], σ) = some (True, if ¬ what = 0 then (74, [some (.ref 32), some (.int c), some (.int w), some (.int nn), some (.int what), some (.int ((10 * c) + w))], [], σ) else (62, [some (.ref 32), some (.int c), some (.int w), some (.int nn), some (.int what), some (.int ((10 * c) + w))], [], σ)) := rfl
set_option maxRecDepth 100000 in
theorem f_X11_alone_32_blk12 {X : bz_X} (σ : bz_S) (c : Int32) (w : Int32) (nn : Int32) (what : Int32) : bz_run X bt_X11_alone 3 (74, [some (.ref 32), some (.int c), some (.int w), some (.int nn), some (.int what), some (.int ((10 * c) + w))], [], σ) = some (True, if ¬ what = 1 then (88, [some (.ref 32), some (.int c), some (.int w), some (.int nn), some (.int what), some (.int ((10 * c) + w))], [], σ) else (80, [some (.ref 32), some (.int c), some (.int w), some (.int nn), some (.int what), some (.int ((10 * c) + w))], [], σ)) := rfl
set_option maxRecDepth 100000 in
theorem f_X11_alone_32_blk13 {X : bz_X} (σ : bz_S) (c : Int32) (w : Int32) (nn : Int32) (what : Int32) : bz_run X bt_X11_alone 2 (88, [some (.ref 32), some (.int c), some (.int w), some (.int nn), some (.int what), some (.int ((10 * c) + w))], [], σ) = some (True, (91, [some (.ref 32), some (.int c), some (.int w), some (.int nn), some (.int what), some (.int ((10 * c) + w))], [.int ((10 * c) + w), .ref 32], σ)) := rfl
set_option maxRecDepth 100000 in
theorem f_X11_alone_32_blk14 {X : bz_X} (σ : bz_S) (c : Int32) (w : Int32) (nn : Int32) (what : Int32) : bz_run X bt_X11_alone 1 (80, [some (.ref 32), some (.int c), some (.int w), some (.int nn), some (.int what), some (.int ((10 * c) + w))], [], σ) = some (True, (82, [some (.ref 32), some (.int c), some (.int w), some (.int nn), some (.int what), some (.int ((10 * c) + w))], [.int ((10 * c) + w)], σ)) := rfl
set_option maxRecDepth 100000 in
theorem f_X11_alone_32_blk15 {X : bz_X} (σ : bz_S) (c : Int32) (w : Int32) (nn : Int32) (what : Int32) : bz_run X bt_X11_alone 1 (85, [some (.ref 32), some (.int c), some (.int w), some (.int nn), some (.int what), some (.int ((10 * c) + w))], [.int (f_X11_stepsBack ((10 * c) + w))], σ) = some (True, (94, [some (.ref 32), some (.int c), some (.int w), some (.int nn), some (.int what), some (.int ((10 * c) + w))], [.int (f_X11_stepsBack ((10 * c) + w))], σ)) := rfl
set_option maxRecDepth 100000 in
theorem f_X11_alone_32_blk16 {X : bz_X} (σ : bz_S) (c : Int32) (w : Int32) (nn : Int32) (what : Int32) : bz_run X bt_X11_alone 2 (62, [some (.ref 32), some (.int c), some (.int w), some (.int nn), some (.int what), some (.int ((10 * c) + w))], [], σ) = some (True, (65, [some (.ref 32), some (.int c), some (.int w), some (.int nn), some (.int what), some (.int ((10 * c) + w))], [.int nn, .int ((10 * c) + w)], σ)) := rfl
set_option maxRecDepth 100000 in
theorem f_X11_alone_32_blk17 {X : bz_X} (σ : bz_S) (c : Int32) (w : Int32) (nn : Int32) (what : Int32) : bz_run X bt_X11_alone 3 (68, [some (.ref 32), some (.int c), some (.int w), some (.int nn), some (.int what), some (.int ((10 * c) + w))], [.int (f_X11_behindSteps ((10 * c) + w) nn)], σ) = some (¬ (10 : Int32) = 0 ∧ True, (94, [some (.ref 32), some (.int c), some (.int w), some (.int nn), some (.int what), some (.int ((10 * c) + w))], [.int ((f_X11_behindSteps ((10 * c) + w) nn) / 10)], σ)) := rfl
set_option maxRecDepth 100000 in
theorem f_X11_alone_32_blk18 {X : bz_X} (σ : bz_S) (c : Int32) (w : Int32) (nn : Int32) (what : Int32) : bz_run X bt_X11_alone 1 (46, [some (.ref 32), some (.int c), some (.int w), some (.int nn), some (.int what), none], [], σ) = some (True, (48, [some (.ref 32), some (.int c), some (.int w), some (.int nn), some (.int what), none], [.int (-2)], σ)) := rfl
set_option maxRecDepth 100000 in
theorem f_X11_alone_32_blk19 {X : bz_X} (σ : bz_S) (c : Int32) (w : Int32) (nn : Int32) (what : Int32) : bz_run X bt_X11_alone 1 (7, [some (.ref 32), some (.int c), some (.int w), some (.int nn), some (.int what), none], [], σ) = some (True, (8, [some (.ref 32), some (.int c), some (.int w), some (.int nn), some (.int what), none], [.int (-1)], σ)) := rfl
set_option maxRecDepth 100000 in
theorem s_X11_alone_32 {X : bz_X} (σ : bz_S) (c : Int32) (w : Int32) (nn : Int32) (what : Int32) : bz_C bz_P X mX11_alone [.ref 32, .int c, .int w, .int nn, .int what] σ (bz_pi (f_X11_alone_32 σ c w nn what).1 (f_X11_alone_32 σ c w nn what).2) := by
  show bz_wp bz_P X mX11_alone (bz_pi (f_X11_alone_32 σ c w nn what).1 (f_X11_alone_32 σ c w nn what).2) (0, [some (.ref 32), some (.int c), some (.int w), some (.int nn), some (.int what), none], [], σ)
  refine bz_wpn bT_X11_alone 1 (b := (1, [some (.ref 32), some (.int c), some (.int w), some (.int nn), some (.int what), none], [.int c], σ)) (G := True) (f_X11_alone_32_blk1 σ c w nn what) trivial ?_
  refine bz_wci bT_X11_alone [.int c] (pc' := 4) (rest := []) rfl rfl (Nat.le_of_ble_eq_true rfl) rfl (Nat.le_of_ble_eq_true rfl) rfl (s_X11_isPlace σ c) rfl ?_
  refine bz_wpb bT_X11_alone 1 (b1 := (9, [some (.ref 32), some (.int c), some (.int w), some (.int nn), some (.int what), none], [], σ)) (b2 := (7, [some (.ref 32), some (.int c), some (.int w), some (.int nn), some (.int what), none], [], σ)) (C := ¬ bz_b (f_X11_isPlace c) = 0) (G := True) (f_X11_alone_32_blk2 σ c w nn what) trivial (fun h1 => ?_) (fun h1 => ?_)
  · skip
    have h1 := bz_b1 h1
    refine bz_wpn bT_X11_alone 4 (b := (15, [some (.ref 32), some (.int c), some (.int w), some (.int nn), some (.int what), none], [.long 7, .long 0, .long (Int32.toInt64 w)], σ)) (G := True) (f_X11_alone_32_blk3 σ c w nn what) trivial ?_
    refine bz_wci bT_X11_alone [.long (Int32.toInt64 w), .long 0, .long 7] (pc' := 18) (rest := []) rfl rfl (Nat.le_of_ble_eq_true rfl) rfl (Nat.le_of_ble_eq_true rfl) rfl (s_X11_in σ (Int32.toInt64 w) 0 7) rfl ?_
    refine bz_wpb bT_X11_alone 1 (b1 := (46, [some (.ref 32), some (.int c), some (.int w), some (.int nn), some (.int what), none], [], σ)) (b2 := (21, [some (.ref 32), some (.int c), some (.int w), some (.int nn), some (.int what), none], [], σ)) (C := bz_b (f_X11_in (Int32.toInt64 w) 0 7) = 0) (G := True) (f_X11_alone_32_blk4 σ c w nn what) trivial (fun h2 => ?_) (fun h2 => ?_)
    · skip
      have h2 := bz_b0 h2
      refine bz_wpn bT_X11_alone 1 (b := (48, [some (.ref 32), some (.int c), some (.int w), some (.int nn), some (.int what), none], [.int (-2)], σ)) (G := True) (f_X11_alone_32_blk5 σ c w nn what) trivial ?_
      refine bz_wpr bT_X11_alone rfl rfl trivial ?_
      have e9 : f_X11_alone_32 σ c w nn what = ((-2), σ) := by rw [f_X11_alone_32, if_pos (h1), if_neg (bz_ff h2)]
      exact ⟨by rw [e9], by rw [e9]⟩
    · skip
      have h2 := bz_b1 h2
      refine bz_wpn bT_X11_alone 4 (b := (27, [some (.ref 32), some (.int c), some (.int w), some (.int nn), some (.int what), none], [.long 99999, .long 0, .long (Int32.toInt64 nn)], σ)) (G := True) (f_X11_alone_32_blk6 σ c w nn what) trivial ?_
      refine bz_wci bT_X11_alone [.long (Int32.toInt64 nn), .long 0, .long 99999] (pc' := 30) (rest := []) rfl rfl (Nat.le_of_ble_eq_true rfl) rfl (Nat.le_of_ble_eq_true rfl) rfl (s_X11_in σ (Int32.toInt64 nn) 0 99999) rfl ?_
      refine bz_wpb bT_X11_alone 1 (b1 := (46, [some (.ref 32), some (.int c), some (.int w), some (.int nn), some (.int what), none], [], σ)) (b2 := (33, [some (.ref 32), some (.int c), some (.int w), some (.int nn), some (.int what), none], [], σ)) (C := bz_b (f_X11_in (Int32.toInt64 nn) 0 99999) = 0) (G := True) (f_X11_alone_32_blk7 σ c w nn what) trivial (fun h3 => ?_) (fun h3 => ?_)
      · skip
        have h3 := bz_b0 h3
        refine bz_wpn bT_X11_alone 1 (b := (48, [some (.ref 32), some (.int c), some (.int w), some (.int nn), some (.int what), none], [.int (-2)], σ)) (G := True) (f_X11_alone_32_blk8 σ c w nn what) trivial ?_
        refine bz_wpr bT_X11_alone rfl rfl trivial ?_
        have e9 : f_X11_alone_32 σ c w nn what = ((-2), σ) := by rw [f_X11_alone_32, if_pos (h1), if_pos (h2), if_neg (bz_ff h3)]
        exact ⟨by rw [e9], by rw [e9]⟩
      · skip
        have h3 := bz_b1 h3
        refine bz_wpn bT_X11_alone 4 (b := (40, [some (.ref 32), some (.int c), some (.int w), some (.int nn), some (.int what), none], [.long 2, .long 0, .long (Int32.toInt64 what)], σ)) (G := True) (f_X11_alone_32_blk9 σ c w nn what) trivial ?_
        refine bz_wci bT_X11_alone [.long (Int32.toInt64 what), .long 0, .long 2] (pc' := 43) (rest := []) rfl rfl (Nat.le_of_ble_eq_true rfl) rfl (Nat.le_of_ble_eq_true rfl) rfl (s_X11_in σ (Int32.toInt64 what) 0 2) rfl ?_
        refine bz_wpb bT_X11_alone 1 (b1 := (49, [some (.ref 32), some (.int c), some (.int w), some (.int nn), some (.int what), none], [], σ)) (b2 := (46, [some (.ref 32), some (.int c), some (.int w), some (.int nn), some (.int what), none], [], σ)) (C := ¬ bz_b (f_X11_in (Int32.toInt64 what) 0 2) = 0) (G := True) (f_X11_alone_32_blk10 σ c w nn what) trivial (fun h4 => ?_) (fun h4 => ?_)
        · skip
          have h4 := bz_b1 h4
          refine bz_wpb bT_X11_alone 8 (b1 := (74, [some (.ref 32), some (.int c), some (.int w), some (.int nn), some (.int what), some (.int ((10 * c) + w))], [], σ)) (b2 := (62, [some (.ref 32), some (.int c), some (.int w), some (.int nn), some (.int what), some (.int ((10 * c) + w))], [], σ)) (C := ¬ what = 0) (G := True) (f_X11_alone_32_blk11 σ c w nn what) trivial (fun h5 => ?_) (fun h5 => ?_)
          · skip
            refine bz_wpb bT_X11_alone 3 (b1 := (88, [some (.ref 32), some (.int c), some (.int w), some (.int nn), some (.int what), some (.int ((10 * c) + w))], [], σ)) (b2 := (80, [some (.ref 32), some (.int c), some (.int w), some (.int nn), some (.int what), some (.int ((10 * c) + w))], [], σ)) (C := ¬ what = 1) (G := True) (f_X11_alone_32_blk12 σ c w nn what) trivial (fun h6 => ?_) (fun h6 => ?_)
            · skip
              refine bz_wpn bT_X11_alone 2 (b := (91, [some (.ref 32), some (.int c), some (.int w), some (.int nn), some (.int what), some (.int ((10 * c) + w))], [.int ((10 * c) + w), .ref 32], σ)) (G := True) (f_X11_alone_32_blk13 σ c w nn what) trivial ?_
              refine bz_wci bT_X11_alone [.ref 32, .int ((10 * c) + w)] (pc' := 94) (rest := []) rfl rfl (Nat.le_of_ble_eq_true rfl) rfl (Nat.le_of_ble_eq_true rfl) rfl (s_X11_metMany_32 σ ((10 * c) + w) (bz_codM (bz_plc (by assumption)) (bz_way (by assumption)))) rfl ?_
              generalize hτ1 : f_X11_metMany_32 σ ((10 * c) + w) = τ1
              refine bz_wpr bT_X11_alone rfl rfl trivial ?_
              have e9 : f_X11_alone_32 σ c w nn what = (τ1.1, τ1.2) := by rw [f_X11_alone_32, if_pos (h1), if_pos (h2), if_pos (h3), if_pos (h4), if_neg (h5), if_neg (h6), hτ1, f_X11_alone_32_a]
              exact ⟨by rw [e9], by rw [e9]⟩
            · skip
              refine bz_wpn bT_X11_alone 1 (b := (82, [some (.ref 32), some (.int c), some (.int w), some (.int nn), some (.int what), some (.int ((10 * c) + w))], [.int ((10 * c) + w)], σ)) (G := True) (f_X11_alone_32_blk14 σ c w nn what) trivial ?_
              refine bz_wci bT_X11_alone [.int ((10 * c) + w)] (pc' := 85) (rest := []) rfl rfl (Nat.le_of_ble_eq_true rfl) rfl (Nat.le_of_ble_eq_true rfl) rfl (s_X11_stepsBack σ ((10 * c) + w)) rfl ?_
              refine bz_wpn bT_X11_alone 1 (b := (94, [some (.ref 32), some (.int c), some (.int w), some (.int nn), some (.int what), some (.int ((10 * c) + w))], [.int (f_X11_stepsBack ((10 * c) + w))], σ)) (G := True) (f_X11_alone_32_blk15 σ c w nn what) trivial ?_
              refine bz_wpr bT_X11_alone rfl rfl trivial ?_
              have e9 : f_X11_alone_32 σ c w nn what = ((f_X11_stepsBack ((10 * c) + w)), σ) := by rw [f_X11_alone_32, if_pos (h1), if_pos (h2), if_pos (h3), if_pos (h4), if_neg (h5), if_pos ((Decidable.not_not.mp h6))]
              exact ⟨by rw [e9], by rw [e9]⟩
          · skip
            refine bz_wpn bT_X11_alone 2 (b := (65, [some (.ref 32), some (.int c), some (.int w), some (.int nn), some (.int what), some (.int ((10 * c) + w))], [.int nn, .int ((10 * c) + w)], σ)) (G := True) (f_X11_alone_32_blk16 σ c w nn what) trivial ?_
            refine bz_wci bT_X11_alone [.int ((10 * c) + w), .int nn] (pc' := 68) (rest := []) rfl rfl (Nat.le_of_ble_eq_true rfl) rfl (Nat.le_of_ble_eq_true rfl) rfl (s_X11_behindSteps σ ((10 * c) + w) nn (bz_far (by assumption))) rfl ?_
            refine bz_wpn bT_X11_alone 3 (b := (94, [some (.ref 32), some (.int c), some (.int w), some (.int nn), some (.int what), some (.int ((10 * c) + w))], [.int ((f_X11_behindSteps ((10 * c) + w) nn) / 10)], σ)) (G := ¬ (10 : Int32) = 0 ∧ True) (f_X11_alone_32_blk17 σ c w nn what) ⟨(by decide), trivial⟩ ?_
            refine bz_wpr bT_X11_alone rfl rfl trivial ?_
            have e9 : f_X11_alone_32 σ c w nn what = (((f_X11_behindSteps ((10 * c) + w) nn) / 10), σ) := by rw [f_X11_alone_32, if_pos (h1), if_pos (h2), if_pos (h3), if_pos (h4), if_pos ((Decidable.not_not.mp h5))]
            exact ⟨by rw [e9], by rw [e9]⟩
        · skip
          have h4 := bz_b0 (Decidable.not_not.mp h4)
          refine bz_wpn bT_X11_alone 1 (b := (48, [some (.ref 32), some (.int c), some (.int w), some (.int nn), some (.int what), none], [.int (-2)], σ)) (G := True) (f_X11_alone_32_blk18 σ c w nn what) trivial ?_
          refine bz_wpr bT_X11_alone rfl rfl trivial ?_
          have e9 : f_X11_alone_32 σ c w nn what = ((-2), σ) := by rw [f_X11_alone_32, if_pos (h1), if_pos (h2), if_pos (h3), if_neg (bz_ff h4)]
          exact ⟨by rw [e9], by rw [e9]⟩
  · skip
    have h1 := bz_b0 (Decidable.not_not.mp h1)
    refine bz_wpn bT_X11_alone 1 (b := (8, [some (.ref 32), some (.int c), some (.int w), some (.int nn), some (.int what), none], [.int (-1)], σ)) (G := True) (f_X11_alone_32_blk19 σ c w nn what) trivial ?_
    refine bz_wpr bT_X11_alone rfl rfl trivial ?_
    have e9 : f_X11_alone_32 σ c w nn what = ((-1), σ) := by rw [f_X11_alone_32, if_neg (bz_ff h1)]
    exact ⟨by rw [e9], by rw [e9]⟩
theorem rf_X11_alone_32_a (σ : bz_S) (c : Int32) (w : Int32) (nn : Int32) (what : Int32) (τ1 : Int32 × bz_S) (fτ1 : bz_fr [43] σ τ1.2) : bz_fr [43] σ (f_X11_alone_32_a σ c w nn what τ1).2 := by
  unfold f_X11_alone_32_a
  exact fτ1
theorem rf_X11_alone_32 (σ : bz_S) (c : Int32) (w : Int32) (nn : Int32) (what : Int32) : bz_fr [43] σ (f_X11_alone_32 σ c w nn what).2 := by
  unfold f_X11_alone_32
  exact (bz_ite2 (bz_ite2 (bz_ite2 (bz_ite2 (bz_ite2 bz_fr_rf (bz_ite2 bz_fr_rf (rf_X11_alone_32_a σ c w nn what (f_X11_metMany_32 σ ((10 * c) + w)) (bz_fr_mo (rf_X11_metMany_32 σ ((10 * c) + w)) (by decide))))) bz_fr_rf) bz_fr_rf) bz_fr_rf) bz_fr_rf)
theorem qf_X11_alone_32_a (σ : bz_S) (c : Int32) (w : Int32) (nn : Int32) (what : Int32) (τ1 : Int32 × bz_S) (fτ1 : bz_fo ([] : List Nat) σ τ1.2) : bz_fo ([] : List Nat) σ (f_X11_alone_32_a σ c w nn what τ1).2 := by
  unfold f_X11_alone_32_a
  exact fτ1
theorem qf_X11_alone_32 (σ : bz_S) (c : Int32) (w : Int32) (nn : Int32) (what : Int32) : bz_fo ([] : List Nat) σ (f_X11_alone_32 σ c w nn what).2 := by
  unfold f_X11_alone_32
  exact (bz_ite2 (bz_ite2 (bz_ite2 (bz_ite2 (bz_ite2 bz_fo_rf (bz_ite2 bz_fo_rf (qf_X11_alone_32_a σ c w nn what (f_X11_metMany_32 σ ((10 * c) + w)) (bz_fo_mo (qf_X11_metMany_32 σ ((10 * c) + w)) (by decide))))) bz_fo_rf) bz_fo_rf) bz_fo_rf) bz_fo_rf)

def lp_lt (go : Int32) : Nat → bz_S → Int32 → Bool → Bool → Int32 → Bool
  | 0, σ, is_, le, li, fo => le
  | n + 1, σ, is_, le, li, fo => if li = true then le else (if le = true then (lp_lt go n σ (f_X11_next is_) true (f_X11_isPocket ((f_X11_next is_) / 10)) (fo + 1)) else (if f_X11_isPocket ((f_X11_next is_) / 10) = true then (lp_lt go n σ (f_X11_next is_) false (f_X11_isPocket ((f_X11_next is_) / 10)) (fo + 1)) else (if (σ.1 44 (((f_X11_next is_) / 10).toNatClampNeg)) = go then (lp_lt go n σ (f_X11_next is_) true (f_X11_isPocket ((f_X11_next is_) / 10)) (fo + 1)) else (lp_lt go n σ (f_X11_next is_) false (f_X11_isPocket ((f_X11_next is_) / 10)) (fo + 1)))))
set_option maxRecDepth 100000 in
theorem lp_lt0_blk1 {X : bz_X} (go : Int32) (c : Int32) (w : Int32) (σ : bz_S) (is_ : Int32) (le : Bool) (li : Bool) (fo : Int32) : bz_run X bt_X11_leadsTo 3 (17, [some (.ref 32), some (.int c), some (.int w), some (.int go), some (.int is_), some (.int (bz_b (le))), some (.int (bz_b (li))), some (.int fo)], [], σ) = some (True, if 9 < fo then (83, [some (.ref 32), some (.int c), some (.int w), some (.int go), some (.int is_), some (.int (bz_b (le))), some (.int (bz_b (li))), some (.int fo)], [], σ) else (24, [some (.ref 32), some (.int c), some (.int w), some (.int go), some (.int is_), some (.int (bz_b (le))), some (.int (bz_b (li))), some (.int fo)], [], σ)) := rfl
set_option maxRecDepth 100000 in
theorem lp_lt0_blk2 {X : bz_X} (go : Int32) (c : Int32) (w : Int32) (σ : bz_S) (is_ : Int32) (le : Bool) (li : Bool) (fo : Int32) : bz_run X bt_X11_leadsTo 1 (83, [some (.ref 32), some (.int c), some (.int w), some (.int go), some (.int is_), some (.int (bz_b (le))), some (.int (bz_b (li))), some (.int fo)], [], σ) = some (True, (85, [some (.ref 32), some (.int c), some (.int w), some (.int go), some (.int is_), some (.int (bz_b (le))), some (.int (bz_b (li))), some (.int fo)], [.int (bz_b (le))], σ)) := rfl
set_option maxRecDepth 100000 in
theorem lp_lt_blk1 {X : bz_X} (go : Int32) (c : Int32) (w : Int32) (σ : bz_S) (is_ : Int32) (le : Bool) (li : Bool) (fo : Int32) : bz_run X bt_X11_leadsTo 3 (17, [some (.ref 32), some (.int c), some (.int w), some (.int go), some (.int is_), some (.int (bz_b (le))), some (.int (bz_b (li))), some (.int fo)], [], σ) = some (True, if 9 < fo then (83, [some (.ref 32), some (.int c), some (.int w), some (.int go), some (.int is_), some (.int (bz_b (le))), some (.int (bz_b (li))), some (.int fo)], [], σ) else (24, [some (.ref 32), some (.int c), some (.int w), some (.int go), some (.int is_), some (.int (bz_b (le))), some (.int (bz_b (li))), some (.int fo)], [], σ)) := rfl
set_option maxRecDepth 100000 in
theorem lp_lt_blk2 {X : bz_X} (go : Int32) (c : Int32) (w : Int32) (σ : bz_S) (is_ : Int32) (le : Bool) (li : Bool) (fo : Int32) : bz_run X bt_X11_leadsTo 2 (24, [some (.ref 32), some (.int c), some (.int w), some (.int go), some (.int is_), some (.int (bz_b (le))), some (.int (bz_b (li))), some (.int fo)], [], σ) = some (True, if ¬ bz_b (li) = 0 then (83, [some (.ref 32), some (.int c), some (.int w), some (.int go), some (.int is_), some (.int (bz_b (le))), some (.int (bz_b (li))), some (.int fo)], [], σ) else (29, [some (.ref 32), some (.int c), some (.int w), some (.int go), some (.int is_), some (.int (bz_b (le))), some (.int (bz_b (li))), some (.int fo)], [], σ)) := rfl
set_option maxRecDepth 100000 in
theorem lp_lt_blk3 {X : bz_X} (go : Int32) (c : Int32) (w : Int32) (σ : bz_S) (is_ : Int32) (le : Bool) (li : Bool) (fo : Int32) : bz_run X bt_X11_leadsTo 1 (83, [some (.ref 32), some (.int c), some (.int w), some (.int go), some (.int is_), some (.int (bz_b (le))), some (.int (bz_b (li))), some (.int fo)], [], σ) = some (True, (85, [some (.ref 32), some (.int c), some (.int w), some (.int go), some (.int is_), some (.int (bz_b (le))), some (.int (bz_b (li))), some (.int fo)], [.int (bz_b (le))], σ)) := rfl
set_option maxRecDepth 100000 in
theorem lp_lt_blk4 {X : bz_X} (go : Int32) (c : Int32) (w : Int32) (σ : bz_S) (is_ : Int32) (le : Bool) (li : Bool) (fo : Int32) : bz_run X bt_X11_leadsTo 1 (29, [some (.ref 32), some (.int c), some (.int w), some (.int go), some (.int is_), some (.int (bz_b (le))), some (.int (bz_b (li))), some (.int fo)], [], σ) = some (True, (31, [some (.ref 32), some (.int c), some (.int w), some (.int go), some (.int is_), some (.int (bz_b (le))), some (.int (bz_b (li))), some (.int fo)], [.int is_], σ)) := rfl
set_option maxRecDepth 100000 in
theorem lp_lt_blk5 {X : bz_X} (go : Int32) (c : Int32) (w : Int32) (σ : bz_S) (is_ : Int32) (le : Bool) (li : Bool) (fo : Int32) : bz_run X bt_X11_leadsTo 4 (34, [some (.ref 32), some (.int c), some (.int w), some (.int go), some (.int is_), some (.int (bz_b (le))), some (.int (bz_b (li))), some (.int fo)], [.int (f_X11_next is_)], σ) = some (¬ (10 : Int32) = 0 ∧ True, (41, [some (.ref 32), some (.int c), some (.int w), some (.int go), some (.int (f_X11_next is_)), some (.int (bz_b (le))), some (.int (bz_b (li))), some (.int fo)], [.int ((f_X11_next is_) / 10)], σ)) := rfl
set_option maxRecDepth 100000 in
theorem lp_lt_blk6 {X : bz_X} (go : Int32) (c : Int32) (w : Int32) (σ : bz_S) (is_ : Int32) (le : Bool) (li : Bool) (fo : Int32) : bz_run X bt_X11_leadsTo 3 (44, [some (.ref 32), some (.int c), some (.int w), some (.int go), some (.int (f_X11_next is_)), some (.int (bz_b (le))), some (.int (bz_b (li))), some (.int fo)], [.int (bz_b (f_X11_isPocket ((f_X11_next is_) / 10)))], σ) = some (True, if ¬ bz_b (le) = 0 then (70, [some (.ref 32), some (.int c), some (.int w), some (.int go), some (.int (f_X11_next is_)), some (.int (bz_b (le))), some (.int (bz_b (f_X11_isPocket ((f_X11_next is_) / 10)))), some (.int fo)], [], σ) else (51, [some (.ref 32), some (.int c), some (.int w), some (.int go), some (.int (f_X11_next is_)), some (.int (bz_b (le))), some (.int (bz_b (f_X11_isPocket ((f_X11_next is_) / 10)))), some (.int fo)], [], σ)) := rfl
set_option maxRecDepth 100000 in
theorem lp_lt_blk7 {X : bz_X} (go : Int32) (c : Int32) (w : Int32) (σ : bz_S) (is_ : Int32) (le : Bool) (li : Bool) (fo : Int32) : bz_run X bt_X11_leadsTo 5 (70, [some (.ref 32), some (.int c), some (.int w), some (.int go), some (.int (f_X11_next is_)), some (.int (bz_b (le))), some (.int (bz_b (f_X11_isPocket ((f_X11_next is_) / 10)))), some (.int fo)], [], σ) = some (True, (17, [some (.ref 32), some (.int c), some (.int w), some (.int go), some (.int (f_X11_next is_)), some (.int 1), some (.int (bz_b (f_X11_isPocket ((f_X11_next is_) / 10)))), some (.int (fo + 1))], [], σ)) := rfl
set_option maxRecDepth 100000 in
theorem lp_lt_blk8 {X : bz_X} (go : Int32) (c : Int32) (w : Int32) (σ : bz_S) (is_ : Int32) (le : Bool) (li : Bool) (fo : Int32) : bz_run X bt_X11_leadsTo 2 (51, [some (.ref 32), some (.int c), some (.int w), some (.int go), some (.int (f_X11_next is_)), some (.int (bz_b (le))), some (.int (bz_b (f_X11_isPocket ((f_X11_next is_) / 10)))), some (.int fo)], [], σ) = some (True, if ¬ bz_b (f_X11_isPocket ((f_X11_next is_) / 10)) = 0 then (74, [some (.ref 32), some (.int c), some (.int w), some (.int go), some (.int (f_X11_next is_)), some (.int (bz_b (le))), some (.int (bz_b (f_X11_isPocket ((f_X11_next is_) / 10)))), some (.int fo)], [], σ) else (56, [some (.ref 32), some (.int c), some (.int w), some (.int go), some (.int (f_X11_next is_)), some (.int (bz_b (le))), some (.int (bz_b (f_X11_isPocket ((f_X11_next is_) / 10)))), some (.int fo)], [], σ)) := rfl
set_option maxRecDepth 100000 in
theorem lp_lt_blk9 {X : bz_X} (go : Int32) (c : Int32) (w : Int32) (σ : bz_S) (is_ : Int32) (le : Bool) (li : Bool) (fo : Int32) : bz_run X bt_X11_leadsTo 4 (74, [some (.ref 32), some (.int c), some (.int w), some (.int go), some (.int (f_X11_next is_)), some (.int (bz_b (le))), some (.int (bz_b (f_X11_isPocket ((f_X11_next is_) / 10)))), some (.int fo)], [], σ) = some (True, (17, [some (.ref 32), some (.int c), some (.int w), some (.int go), some (.int (f_X11_next is_)), some (.int 0), some (.int (bz_b (f_X11_isPocket ((f_X11_next is_) / 10)))), some (.int (fo + 1))], [], σ)) := rfl
set_option maxRecDepth 100000 in
theorem lp_lt_blk10 {X : bz_X} (go : Int32) (c : Int32) (w : Int32) (σ : bz_S) (is_ : Int32) (le : Bool) (li : Bool) (fo : Int32) : bz_run X bt_X11_leadsTo 8 (56, [some (.ref 32), some (.int c), some (.int w), some (.int go), some (.int (f_X11_next is_)), some (.int (bz_b (le))), some (.int (bz_b (f_X11_isPocket ((f_X11_next is_) / 10)))), some (.int fo)], [], σ) = some (¬ (10 : Int32) = 0 ∧ vp_in ((f_X11_next is_) / 10) 45 ∧ True, if ¬ (σ.1 44 (((f_X11_next is_) / 10).toNatClampNeg)) = go then (74, [some (.ref 32), some (.int c), some (.int w), some (.int go), some (.int (f_X11_next is_)), some (.int (bz_b (le))), some (.int (bz_b (f_X11_isPocket ((f_X11_next is_) / 10)))), some (.int fo)], [], σ) else (70, [some (.ref 32), some (.int c), some (.int w), some (.int go), some (.int (f_X11_next is_)), some (.int (bz_b (le))), some (.int (bz_b (f_X11_isPocket ((f_X11_next is_) / 10)))), some (.int fo)], [], σ)) := rfl
set_option maxRecDepth 100000 in
theorem lp_lt_blk11 {X : bz_X} (go : Int32) (c : Int32) (w : Int32) (σ : bz_S) (is_ : Int32) (le : Bool) (li : Bool) (fo : Int32) : bz_run X bt_X11_leadsTo 4 (74, [some (.ref 32), some (.int c), some (.int w), some (.int go), some (.int (f_X11_next is_)), some (.int (bz_b (le))), some (.int (bz_b (f_X11_isPocket ((f_X11_next is_) / 10)))), some (.int fo)], [], σ) = some (True, (17, [some (.ref 32), some (.int c), some (.int w), some (.int go), some (.int (f_X11_next is_)), some (.int 0), some (.int (bz_b (f_X11_isPocket ((f_X11_next is_) / 10)))), some (.int (fo + 1))], [], σ)) := rfl
set_option maxRecDepth 100000 in
theorem lp_lt_blk12 {X : bz_X} (go : Int32) (c : Int32) (w : Int32) (σ : bz_S) (is_ : Int32) (le : Bool) (li : Bool) (fo : Int32) : bz_run X bt_X11_leadsTo 5 (70, [some (.ref 32), some (.int c), some (.int w), some (.int go), some (.int (f_X11_next is_)), some (.int (bz_b (le))), some (.int (bz_b (f_X11_isPocket ((f_X11_next is_) / 10)))), some (.int fo)], [], σ) = some (True, (17, [some (.ref 32), some (.int c), some (.int w), some (.int go), some (.int (f_X11_next is_)), some (.int 1), some (.int (bz_b (f_X11_isPocket ((f_X11_next is_) / 10)))), some (.int (fo + 1))], [], σ)) := rfl
set_option maxRecDepth 100000 in
theorem s_lp_lt {X : bz_X} (go : Int32) (c w : Int32) : ∀ (n : Nat) (σ : bz_S) (is_ : Int32) (le : Bool) (li : Bool) (fo : Int32) (j9 : Nat) (hi : fo = nI j9) (hj : j9 + n = 10) (hc : bz_cod is_), bz_wp bz_P X mX11_leadsTo (bz_pi (bz_b (lp_lt go n σ is_ le li fo)) σ) (17, [some (.ref 32), some (.int c), some (.int w), some (.int go), some (.int is_), some (.int (bz_b (le))), some (.int (bz_b (li))), some (.int fo)], [], σ) := by
  intro n
  induction n with
  | zero =>
    intro σ is_ le li fo j9 hi hj hc
    refine bz_wpb bT_X11_leadsTo 3 (b1 := (83, [some (.ref 32), some (.int c), some (.int w), some (.int go), some (.int is_), some (.int (bz_b (le))), some (.int (bz_b (li))), some (.int fo)], [], σ)) (b2 := (24, [some (.ref 32), some (.int c), some (.int w), some (.int go), some (.int is_), some (.int (bz_b (le))), some (.int (bz_b (li))), some (.int fo)], [], σ)) (C := 9 < fo) (G := True) (lp_lt0_blk1 go c w σ is_ le li fo) trivial (fun _ => ?_) (fun z => absurd (show (9 : Int32) < fo from by rw [hi, show j9 = 10 from by omega]; decide) z)
    refine bz_wpn bT_X11_leadsTo 1 (b := (85, [some (.ref 32), some (.int c), some (.int w), some (.int go), some (.int is_), some (.int (bz_b (le))), some (.int (bz_b (li))), some (.int fo)], [.int (bz_b (le))], σ)) (G := True) (lp_lt0_blk2 go c w σ is_ le li fo) trivial ?_
    refine bz_wpr bT_X11_leadsTo rfl rfl (bz_b01 _) ?_
    have e9 : lp_lt go 0 σ is_ le li fo = le := by rw [lp_lt]
    exact ⟨by rw [e9], rfl⟩
  | succ n ih =>
    intro σ is_ le li fo j9 hi hj hc
    refine bz_wpb bT_X11_leadsTo 3 (b1 := (83, [some (.ref 32), some (.int c), some (.int w), some (.int go), some (.int is_), some (.int (bz_b (le))), some (.int (bz_b (li))), some (.int fo)], [], σ)) (b2 := (24, [some (.ref 32), some (.int c), some (.int w), some (.int go), some (.int is_), some (.int (bz_b (le))), some (.int (bz_b (li))), some (.int fo)], [], σ)) (C := 9 < fo) (G := True) (lp_lt_blk1 go c w σ is_ le li fo) trivial (fun z => absurd z (show ¬ (9 : Int32) < fo from by rw [hi]; exact nI_nlt (a := 9) (by omega) (by decide))) (fun _ => ?_)
    refine bz_wpb bT_X11_leadsTo 2 (b1 := (83, [some (.ref 32), some (.int c), some (.int w), some (.int go), some (.int is_), some (.int (bz_b (le))), some (.int (bz_b (li))), some (.int fo)], [], σ)) (b2 := (29, [some (.ref 32), some (.int c), some (.int w), some (.int go), some (.int is_), some (.int (bz_b (le))), some (.int (bz_b (li))), some (.int fo)], [], σ)) (C := ¬ bz_b (li) = 0) (G := True) (lp_lt_blk2 go c w σ is_ le li fo) trivial (fun h1 => ?_) (fun h1 => ?_)
    · skip
      have h1 := bz_b1 h1
      refine bz_wpn bT_X11_leadsTo 1 (b := (85, [some (.ref 32), some (.int c), some (.int w), some (.int go), some (.int is_), some (.int (bz_b (le))), some (.int (bz_b (li))), some (.int fo)], [.int (bz_b (le))], σ)) (G := True) (lp_lt_blk3 go c w σ is_ le li fo) trivial ?_
      refine bz_wpr bT_X11_leadsTo rfl rfl (bz_b01 _) ?_
      have e9 : lp_lt go (n + 1) σ is_ le li fo = le := by rw [lp_lt, if_pos (h1)]
      exact ⟨by rw [e9], rfl⟩
    · skip
      have h1 := bz_b0 (Decidable.not_not.mp h1)
      refine bz_wpn bT_X11_leadsTo 1 (b := (31, [some (.ref 32), some (.int c), some (.int w), some (.int go), some (.int is_), some (.int (bz_b (le))), some (.int (bz_b (li))), some (.int fo)], [.int is_], σ)) (G := True) (lp_lt_blk4 go c w σ is_ le li fo) trivial ?_
      refine bz_wci bT_X11_leadsTo [.int is_] (pc' := 34) (rest := []) rfl rfl (Nat.le_of_ble_eq_true rfl) rfl (Nat.le_of_ble_eq_true rfl) rfl (s_X11_next σ is_) rfl ?_
      refine bz_wpn bT_X11_leadsTo 4 (b := (41, [some (.ref 32), some (.int c), some (.int w), some (.int go), some (.int (f_X11_next is_)), some (.int (bz_b (le))), some (.int (bz_b (li))), some (.int fo)], [.int ((f_X11_next is_) / 10)], σ)) (G := ¬ (10 : Int32) = 0 ∧ True) (lp_lt_blk5 go c w σ is_ le li fo) ⟨(by decide), trivial⟩ ?_
      refine bz_wci bT_X11_leadsTo [.int ((f_X11_next is_) / 10)] (pc' := 44) (rest := []) rfl rfl (Nat.le_of_ble_eq_true rfl) rfl (Nat.le_of_ble_eq_true rfl) rfl (s_X11_isPocket σ ((f_X11_next is_) / 10)) rfl ?_
      refine bz_wpb bT_X11_leadsTo 3 (b1 := (70, [some (.ref 32), some (.int c), some (.int w), some (.int go), some (.int (f_X11_next is_)), some (.int (bz_b (le))), some (.int (bz_b (f_X11_isPocket ((f_X11_next is_) / 10)))), some (.int fo)], [], σ)) (b2 := (51, [some (.ref 32), some (.int c), some (.int w), some (.int go), some (.int (f_X11_next is_)), some (.int (bz_b (le))), some (.int (bz_b (f_X11_isPocket ((f_X11_next is_) / 10)))), some (.int fo)], [], σ)) (C := ¬ bz_b (le) = 0) (G := True) (lp_lt_blk6 go c w σ is_ le li fo) trivial (fun h2 => ?_) (fun h2 => ?_)
      · skip
        have h2 := bz_b1 h2
        refine bz_wpn bT_X11_leadsTo 5 (b := (17, [some (.ref 32), some (.int c), some (.int w), some (.int go), some (.int (f_X11_next is_)), some (.int 1), some (.int (bz_b (f_X11_isPocket ((f_X11_next is_) / 10)))), some (.int (fo + 1))], [], σ)) (G := True) (lp_lt_blk7 go c w σ is_ le li fo) trivial ?_
        have e9 : lp_lt go (n + 1) σ is_ le li fo = (lp_lt go n σ (f_X11_next is_) true (f_X11_isPocket ((f_X11_next is_) / 10)) (fo + 1)) := by rw [lp_lt, if_neg (bz_ff h1), if_pos (h2)]
        rw [e9]
        exact ih σ (f_X11_next is_) true (f_X11_isPocket ((f_X11_next is_) / 10)) (fo + 1) (j9 + 1) (by rw [hi]; exact nI_1 j9) (by omega) (bz_codX hc)
      · skip
        have h2 := bz_b0 (Decidable.not_not.mp h2)
        refine bz_wpb bT_X11_leadsTo 2 (b1 := (74, [some (.ref 32), some (.int c), some (.int w), some (.int go), some (.int (f_X11_next is_)), some (.int (bz_b (le))), some (.int (bz_b (f_X11_isPocket ((f_X11_next is_) / 10)))), some (.int fo)], [], σ)) (b2 := (56, [some (.ref 32), some (.int c), some (.int w), some (.int go), some (.int (f_X11_next is_)), some (.int (bz_b (le))), some (.int (bz_b (f_X11_isPocket ((f_X11_next is_) / 10)))), some (.int fo)], [], σ)) (C := ¬ bz_b (f_X11_isPocket ((f_X11_next is_) / 10)) = 0) (G := True) (lp_lt_blk8 go c w σ is_ le li fo) trivial (fun h3 => ?_) (fun h3 => ?_)
        · skip
          have h3 := bz_b1 h3
          refine bz_wpn bT_X11_leadsTo 4 (b := (17, [some (.ref 32), some (.int c), some (.int w), some (.int go), some (.int (f_X11_next is_)), some (.int 0), some (.int (bz_b (f_X11_isPocket ((f_X11_next is_) / 10)))), some (.int (fo + 1))], [], σ)) (G := True) (lp_lt_blk9 go c w σ is_ le li fo) trivial ?_
          have e9 : lp_lt go (n + 1) σ is_ le li fo = (lp_lt go n σ (f_X11_next is_) false (f_X11_isPocket ((f_X11_next is_) / 10)) (fo + 1)) := by rw [lp_lt, if_neg (bz_ff h1), if_neg (bz_ff h2), if_pos (h3)]
          rw [e9]
          exact ih σ (f_X11_next is_) false (f_X11_isPocket ((f_X11_next is_) / 10)) (fo + 1) (j9 + 1) (by rw [hi]; exact nI_1 j9) (by omega) (bz_codX hc)
        · skip
          have h3 := bz_b0 (Decidable.not_not.mp h3)
          refine bz_wpb bT_X11_leadsTo 8 (b1 := (74, [some (.ref 32), some (.int c), some (.int w), some (.int go), some (.int (f_X11_next is_)), some (.int (bz_b (le))), some (.int (bz_b (f_X11_isPocket ((f_X11_next is_) / 10)))), some (.int fo)], [], σ)) (b2 := (70, [some (.ref 32), some (.int c), some (.int w), some (.int go), some (.int (f_X11_next is_)), some (.int (bz_b (le))), some (.int (bz_b (f_X11_isPocket ((f_X11_next is_) / 10)))), some (.int fo)], [], σ)) (C := ¬ (σ.1 44 (((f_X11_next is_) / 10).toNatClampNeg)) = go) (G := ¬ (10 : Int32) = 0 ∧ vp_in ((f_X11_next is_) / 10) 45 ∧ True) (lp_lt_blk10 go c w σ is_ le li fo) ⟨(by decide), (bz_codD (bz_codX hc)), trivial⟩ (fun h4 => ?_) (fun h4 => ?_)
          · skip
            refine bz_wpn bT_X11_leadsTo 4 (b := (17, [some (.ref 32), some (.int c), some (.int w), some (.int go), some (.int (f_X11_next is_)), some (.int 0), some (.int (bz_b (f_X11_isPocket ((f_X11_next is_) / 10)))), some (.int (fo + 1))], [], σ)) (G := True) (lp_lt_blk11 go c w σ is_ le li fo) trivial ?_
            have e9 : lp_lt go (n + 1) σ is_ le li fo = (lp_lt go n σ (f_X11_next is_) false (f_X11_isPocket ((f_X11_next is_) / 10)) (fo + 1)) := by rw [lp_lt, if_neg (bz_ff h1), if_neg (bz_ff h2), if_neg (bz_ff h3), if_neg (h4)]
            rw [e9]
            exact ih σ (f_X11_next is_) false (f_X11_isPocket ((f_X11_next is_) / 10)) (fo + 1) (j9 + 1) (by rw [hi]; exact nI_1 j9) (by omega) (bz_codX hc)
          · skip
            refine bz_wpn bT_X11_leadsTo 5 (b := (17, [some (.ref 32), some (.int c), some (.int w), some (.int go), some (.int (f_X11_next is_)), some (.int 1), some (.int (bz_b (f_X11_isPocket ((f_X11_next is_) / 10)))), some (.int (fo + 1))], [], σ)) (G := True) (lp_lt_blk12 go c w σ is_ le li fo) trivial ?_
            have e9 : lp_lt go (n + 1) σ is_ le li fo = (lp_lt go n σ (f_X11_next is_) true (f_X11_isPocket ((f_X11_next is_) / 10)) (fo + 1)) := by rw [lp_lt, if_neg (bz_ff h1), if_neg (bz_ff h2), if_neg (bz_ff h3), if_pos ((Decidable.not_not.mp h4))]
            rw [e9]
            exact ih σ (f_X11_next is_) true (f_X11_isPocket ((f_X11_next is_) / 10)) (fo + 1) (j9 + 1) (by rw [hi]; exact nI_1 j9) (by omega) (bz_codX hc)

def f_X11_leadsTo_32 (σ : bz_S) (c : Int32) (w : Int32) (go : Int32) : Bool := lp_lt go (bz_k 9) σ ((10 * c) + w) false false 1
set_option maxRecDepth 100000 in
theorem f_X11_leadsTo_32_blk1 {X : bz_X} (σ : bz_S) (c : Int32) (w : Int32) (go : Int32) : bz_run X bt_X11_leadsTo 12 (0, [some (.ref 32), some (.int c), some (.int w), some (.int go), none, none, none, none], [], σ) = some (True, (17, [some (.ref 32), some (.int c), some (.int w), some (.int go), some (.int ((10 * c) + w)), some (.int 0), some (.int 0), some (.int 1)], [], σ)) := rfl
set_option maxRecDepth 100000 in
theorem s_X11_leadsTo_32 {X : bz_X} (σ : bz_S) (c : Int32) (w : Int32) (go : Int32) (hc : ∃ a, a < 45 ∧ c = nI a) (hw : ∃ b, b < 8 ∧ w = nI b) : bz_C bz_P X mX11_leadsTo [.ref 32, .int c, .int w, .int go] σ (bz_pi (bz_b (f_X11_leadsTo_32 σ c w go)) σ) := by
  show bz_wp bz_P X mX11_leadsTo (bz_pi (bz_b (f_X11_leadsTo_32 σ c w go)) σ) (0, [some (.ref 32), some (.int c), some (.int w), some (.int go), none, none, none, none], [], σ)
  refine bz_wpn bT_X11_leadsTo 12 (b := (17, [some (.ref 32), some (.int c), some (.int w), some (.int go), some (.int ((10 * c) + w)), some (.int 0), some (.int 0), some (.int 1)], [], σ)) (G := True) (f_X11_leadsTo_32_blk1 σ c w go) trivial ?_
  have e9 : f_X11_leadsTo_32 σ c w go = lp_lt go (bz_k 9) σ ((10 * c) + w) false false 1 := by rw [f_X11_leadsTo_32]
  rw [e9]
  exact s_lp_lt go c w (bz_k 9) σ ((10 * c) + w) false false 1 1 rfl (by rw [bz_k_eq]) (bz_codM hc hw)

def lp_wt (c : Int32) (go : Int32) : Nat → bz_S → Int32 → Int32 → Int32
  | 0, σ, by_, way => by_
  | n + 1, σ, by_, way => if f_X11_leadsTo_32 σ c way go = true then (lp_wt c go n σ way (way + (-1))) else (lp_wt c go n σ by_ (way + (-1)))
set_option maxRecDepth 100000 in
theorem lp_wt0_blk1 {X : bz_X} (c : Int32) (go : Int32) (σ : bz_S) (by_ : Int32) (way : Int32) : bz_run X bt_X11_wayTo 2 (7, [some (.ref 32), some (.int c), some (.int go), some (.int by_), some (.int way)], [], σ) = some (True, if way < 0 then (36, [some (.ref 32), some (.int c), some (.int go), some (.int by_), some (.int way)], [], σ) else (12, [some (.ref 32), some (.int c), some (.int go), some (.int by_), some (.int way)], [], σ)) := rfl
set_option maxRecDepth 100000 in
theorem lp_wt0_blk2 {X : bz_X} (c : Int32) (go : Int32) (σ : bz_S) (by_ : Int32) (way : Int32) : bz_run X bt_X11_wayTo 1 (36, [some (.ref 32), some (.int c), some (.int go), some (.int by_), some (.int way)], [], σ) = some (True, (37, [some (.ref 32), some (.int c), some (.int go), some (.int by_), some (.int way)], [.int by_], σ)) := rfl
set_option maxRecDepth 100000 in
theorem lp_wt_blk1 {X : bz_X} (c : Int32) (go : Int32) (σ : bz_S) (by_ : Int32) (way : Int32) : bz_run X bt_X11_wayTo 2 (7, [some (.ref 32), some (.int c), some (.int go), some (.int by_), some (.int way)], [], σ) = some (True, if way < 0 then (36, [some (.ref 32), some (.int c), some (.int go), some (.int by_), some (.int way)], [], σ) else (12, [some (.ref 32), some (.int c), some (.int go), some (.int by_), some (.int way)], [], σ)) := rfl
set_option maxRecDepth 100000 in
theorem lp_wt_blk2 {X : bz_X} (c : Int32) (go : Int32) (σ : bz_S) (by_ : Int32) (way : Int32) : bz_run X bt_X11_wayTo 4 (12, [some (.ref 32), some (.int c), some (.int go), some (.int by_), some (.int way)], [], σ) = some (True, (17, [some (.ref 32), some (.int c), some (.int go), some (.int by_), some (.int way)], [.int go, .int way, .int c, .ref 32], σ)) := rfl
set_option maxRecDepth 100000 in
theorem lp_wt_blk3 {X : bz_X} (c : Int32) (go : Int32) (σ : bz_S) (by_ : Int32) (way : Int32) : bz_run X bt_X11_wayTo 1 (20, [some (.ref 32), some (.int c), some (.int go), some (.int by_), some (.int way)], [.int (bz_b (f_X11_leadsTo_32 σ c way go))], σ) = some (True, if bz_b (f_X11_leadsTo_32 σ c way go) = 0 then (28, [some (.ref 32), some (.int c), some (.int go), some (.int by_), some (.int way)], [], σ) else (23, [some (.ref 32), some (.int c), some (.int go), some (.int by_), some (.int way)], [], σ)) := rfl
set_option maxRecDepth 100000 in
theorem lp_wt_blk4 {X : bz_X} (c : Int32) (go : Int32) (σ : bz_S) (by_ : Int32) (way : Int32) : bz_run X bt_X11_wayTo 4 (28, [some (.ref 32), some (.int c), some (.int go), some (.int by_), some (.int way)], [], σ) = some (True, (7, [some (.ref 32), some (.int c), some (.int go), some (.int by_), some (.int (way + (-1)))], [], σ)) := rfl
set_option maxRecDepth 100000 in
theorem lp_wt_blk5 {X : bz_X} (c : Int32) (go : Int32) (σ : bz_S) (by_ : Int32) (way : Int32) : bz_run X bt_X11_wayTo 5 (23, [some (.ref 32), some (.int c), some (.int go), some (.int by_), some (.int way)], [], σ) = some (True, (7, [some (.ref 32), some (.int c), some (.int go), some (.int way), some (.int (way + (-1)))], [], σ)) := rfl
set_option maxRecDepth 100000 in
theorem s_lp_wt {X : bz_X} (c : Int32) (go : Int32) (hc : ∃ a, a < 45 ∧ c = nI a) : ∀ (n : Nat) (σ : bz_S) (by_ : Int32) (way : Int32) (hi : way + 1 = nI n) (hn : n ≤ 8), bz_wp bz_P X mX11_wayTo (bz_pi (lp_wt c go n σ by_ way) σ) (7, [some (.ref 32), some (.int c), some (.int go), some (.int by_), some (.int way)], [], σ) := by
  intro n
  induction n with
  | zero =>
    intro σ by_ way hi hn
    refine bz_wpb bT_X11_wayTo 2 (b1 := (36, [some (.ref 32), some (.int c), some (.int go), some (.int by_), some (.int way)], [], σ)) (b2 := (12, [some (.ref 32), some (.int c), some (.int go), some (.int by_), some (.int way)], [], σ)) (C := way < 0) (G := True) (lp_wt0_blk1 c go σ by_ way) trivial (fun _ => ?_) (fun z => absurd (show way < 0 from by rw [show way = -1 from by have := hi; rw [show nI 0 = (-1 : Int32) + 1 from by decide] at this; exact (Int32.add_left_inj 1).mp this]; decide) z)
    refine bz_wpn bT_X11_wayTo 1 (b := (37, [some (.ref 32), some (.int c), some (.int go), some (.int by_), some (.int way)], [.int by_], σ)) (G := True) (lp_wt0_blk2 c go σ by_ way) trivial ?_
    refine bz_wpr bT_X11_wayTo rfl rfl trivial ?_
    have e9 : lp_wt c go 0 σ by_ way = by_ := by rw [lp_wt]
    exact ⟨by rw [e9], rfl⟩
  | succ n ih =>
    intro σ by_ way hi hn
    refine bz_wpb bT_X11_wayTo 2 (b1 := (36, [some (.ref 32), some (.int c), some (.int go), some (.int by_), some (.int way)], [], σ)) (b2 := (12, [some (.ref 32), some (.int c), some (.int go), some (.int by_), some (.int way)], [], σ)) (C := way < 0) (G := True) (lp_wt_blk1 c go σ by_ way) trivial (fun z => absurd z (show ¬ way < 0 from by rw [bz_dn hi]; exact nI_pos (by omega))) (fun _ => ?_)
    refine bz_wpn bT_X11_wayTo 4 (b := (17, [some (.ref 32), some (.int c), some (.int go), some (.int by_), some (.int way)], [.int go, .int way, .int c, .ref 32], σ)) (G := True) (lp_wt_blk2 c go σ by_ way) trivial ?_
    refine bz_wci bT_X11_wayTo [.ref 32, .int c, .int way, .int go] (pc' := 20) (rest := []) rfl rfl (Nat.le_of_ble_eq_true rfl) rfl (Nat.le_of_ble_eq_true rfl) rfl (s_X11_leadsTo_32 σ c way go hc ⟨n, by omega, bz_dn hi⟩) rfl ?_
    refine bz_wpb bT_X11_wayTo 1 (b1 := (28, [some (.ref 32), some (.int c), some (.int go), some (.int by_), some (.int way)], [], σ)) (b2 := (23, [some (.ref 32), some (.int c), some (.int go), some (.int by_), some (.int way)], [], σ)) (C := bz_b (f_X11_leadsTo_32 σ c way go) = 0) (G := True) (lp_wt_blk3 c go σ by_ way) trivial (fun h1 => ?_) (fun h1 => ?_)
    · skip
      have h1 := bz_b0 h1
      refine bz_wpn bT_X11_wayTo 4 (b := (7, [some (.ref 32), some (.int c), some (.int go), some (.int by_), some (.int (way + (-1)))], [], σ)) (G := True) (lp_wt_blk4 c go σ by_ way) trivial ?_
      have e9 : lp_wt c go (n + 1) σ by_ way = (lp_wt c go n σ by_ (way + (-1))) := by rw [lp_wt, if_neg (bz_ff h1)]
      rw [e9]
      exact ih σ by_ (way + (-1)) (bz_dn' hi) (by omega)
    · skip
      have h1 := bz_b1 h1
      refine bz_wpn bT_X11_wayTo 5 (b := (7, [some (.ref 32), some (.int c), some (.int go), some (.int way), some (.int (way + (-1)))], [], σ)) (G := True) (lp_wt_blk5 c go σ by_ way) trivial ?_
      have e9 : lp_wt c go (n + 1) σ by_ way = (lp_wt c go n σ way (way + (-1))) := by rw [lp_wt, if_pos (h1)]
      rw [e9]
      exact ih σ way (way + (-1)) (bz_dn' hi) (by omega)

def f_X11_wayTo_32 (σ : bz_S) (c : Int32) (go : Int32) : Int32 := lp_wt c go (bz_k 8) σ (-6) 7
set_option maxRecDepth 100000 in
theorem f_X11_wayTo_32_blk1 {X : bz_X} (σ : bz_S) (c : Int32) (go : Int32) : bz_run X bt_X11_wayTo 4 (0, [some (.ref 32), some (.int c), some (.int go), none, none], [], σ) = some (True, (7, [some (.ref 32), some (.int c), some (.int go), some (.int (-6)), some (.int 7)], [], σ)) := rfl
set_option maxRecDepth 100000 in
theorem s_X11_wayTo_32 {X : bz_X} (σ : bz_S) (c : Int32) (go : Int32) (hc : ∃ a, a < 45 ∧ c = nI a) : bz_C bz_P X mX11_wayTo [.ref 32, .int c, .int go] σ (bz_pi (f_X11_wayTo_32 σ c go) σ) := by
  show bz_wp bz_P X mX11_wayTo (bz_pi (f_X11_wayTo_32 σ c go) σ) (0, [some (.ref 32), some (.int c), some (.int go), none, none], [], σ)
  refine bz_wpn bT_X11_wayTo 4 (b := (7, [some (.ref 32), some (.int c), some (.int go), some (.int (-6)), some (.int 7)], [], σ)) (G := True) (f_X11_wayTo_32_blk1 σ c go) trivial ?_
  have e9 : f_X11_wayTo_32 σ c go = lp_wt c go (bz_k 8) σ (-6) 7 := by rw [f_X11_wayTo_32]
  rw [e9]
  exact s_lp_wt c go hc (bz_k 8) σ (-6) 7 (by rw [bz_k_eq]; decide) (by rw [bz_k_eq]; omega)

def lp_ff (mn : Int32) : Nat → bz_S → Bool → Int32 → Bool × bz_S
  | 0, σ, an, c => (an, σ)
  | n + 1, σ, an, c => if 0 ≤ (σ.1 44 c.toNatClampNeg) then if an = true then (lp_ff mn n ((bz_up σ.1 44 c.toNatClampNeg (σ.1 44 c.toNatClampNeg)), σ.2) true (c + 1)) else (lp_ff mn n ((bz_up σ.1 44 c.toNatClampNeg (σ.1 44 c.toNatClampNeg)), σ.2) false (c + 1)) else (if f_X11_isPocket c = true then if an = true then (lp_ff mn n ((bz_up σ.1 44 c.toNatClampNeg (σ.1 44 c.toNatClampNeg)), σ.2) true (c + 1)) else (lp_ff mn n ((bz_up σ.1 44 c.toNatClampNeg (σ.1 44 c.toNatClampNeg)), σ.2) false (c + 1)) else (if (f_X11_wayTo_32 σ c (mn - 1)) < 0 then if an = true then (lp_ff mn n ((bz_up σ.1 44 c.toNatClampNeg (σ.1 44 c.toNatClampNeg)), σ.2) true (c + 1)) else (lp_ff mn n ((bz_up σ.1 44 c.toNatClampNeg (σ.1 44 c.toNatClampNeg)), σ.2) false (c + 1)) else (if an = true then (lp_ff mn n ((bz_up σ.1 44 c.toNatClampNeg mn), σ.2) true (c + 1)) else (lp_ff mn n ((bz_up σ.1 44 c.toNatClampNeg mn), σ.2) true (c + 1)))))
set_option maxRecDepth 100000 in
theorem lp_ff0_blk1 {X : bz_X} (mn : Int32) (σ : bz_S) (an : Bool) (c : Int32) : bz_run X bt_X11_findFar 3 (4, [some (.ref 32), some (.int mn), some (.int (bz_b (an))), some (.int c), none], [], σ) = some (True, if 45 ≤ c then (86, [some (.ref 32), some (.int mn), some (.int (bz_b (an))), some (.int c), none], [], σ) else (10, [some (.ref 32), some (.int mn), some (.int (bz_b (an))), some (.int c), none], [], σ)) := rfl
set_option maxRecDepth 100000 in
theorem lp_ff0_blk2 {X : bz_X} (mn : Int32) (σ : bz_S) (an : Bool) (c : Int32) : bz_run X bt_X11_findFar 1 (86, [some (.ref 32), some (.int mn), some (.int (bz_b (an))), some (.int c), none], [], σ) = some (True, (87, [some (.ref 32), some (.int mn), some (.int (bz_b (an))), some (.int c), none], [.int (bz_b (an))], σ)) := rfl
set_option maxRecDepth 100000 in
theorem lp_ff_blk1 {X : bz_X} (mn : Int32) (σ : bz_S) (an : Bool) (c : Int32) : bz_run X bt_X11_findFar 3 (4, [some (.ref 32), some (.int mn), some (.int (bz_b (an))), some (.int c), none], [], σ) = some (True, if 45 ≤ c then (86, [some (.ref 32), some (.int mn), some (.int (bz_b (an))), some (.int c), none], [], σ) else (10, [some (.ref 32), some (.int mn), some (.int (bz_b (an))), some (.int c), none], [], σ)) := rfl
set_option maxRecDepth 100000 in
theorem lp_ff_blk2 {X : bz_X} (mn : Int32) (σ : bz_S) (an : Bool) (c : Int32) : bz_run X bt_X11_findFar 5 (10, [some (.ref 32), some (.int mn), some (.int (bz_b (an))), some (.int c), none], [], σ) = some (vp_in c 45 ∧ True, if 0 ≤ (σ.1 44 c.toNatClampNeg) then (41, [some (.ref 32), some (.int mn), some (.int (bz_b (an))), some (.int c), none], [], σ) else (19, [some (.ref 32), some (.int mn), some (.int (bz_b (an))), some (.int c), none], [], σ)) := rfl
set_option maxRecDepth 100000 in
theorem lp_ff_blk3 {X : bz_X} (mn : Int32) (σ : bz_S) (an : Bool) (c : Int32) : bz_run X bt_X11_findFar 7 (41, [some (.ref 32), some (.int mn), some (.int (bz_b (an))), some (.int c), none], [], σ) = some (True, if (0 : Int32) = 0 then (58, [some (.ref 32), some (.int mn), some (.int (bz_b (an))), some (.int c), some (.int 0)], [.int c, .ref 44], σ) else (54, [some (.ref 32), some (.int mn), some (.int (bz_b (an))), some (.int c), some (.int 0)], [.int c, .ref 44], σ)) := rfl
set_option maxRecDepth 100000 in
theorem lp_ff_blk4 {X : bz_X} (mn : Int32) (σ : bz_S) (an : Bool) (c : Int32) : bz_run X bt_X11_findFar 7 (58, [some (.ref 32), some (.int mn), some (.int (bz_b (an))), some (.int c), some (.int 0)], [.int c, .ref 44], σ) = some (vp_in c 45 ∧ vp_in c 45 ∧ True, if ¬ bz_b (an) = 0 then (74, [some (.ref 32), some (.int mn), some (.int (bz_b (an))), some (.int c), some (.int 0)], [], ((bz_up σ.1 44 c.toNatClampNeg (σ.1 44 c.toNatClampNeg)), σ.2)) else (69, [some (.ref 32), some (.int mn), some (.int (bz_b (an))), some (.int c), some (.int 0)], [], ((bz_up σ.1 44 c.toNatClampNeg (σ.1 44 c.toNatClampNeg)), σ.2))) := rfl
set_option maxRecDepth 100000 in
theorem lp_ff_blk5 {X : bz_X} (mn : Int32) (σ : bz_S) (an : Bool) (c : Int32) : bz_run X bt_X11_findFar 5 (74, [some (.ref 32), some (.int mn), some (.int (bz_b (an))), some (.int c), some (.int 0)], [], ((bz_up σ.1 44 c.toNatClampNeg (σ.1 44 c.toNatClampNeg)), σ.2)) = some (True, (4, [some (.ref 32), some (.int mn), some (.int 1), some (.int (c + 1)), some (.int 0)], [], ((bz_up σ.1 44 c.toNatClampNeg (σ.1 44 c.toNatClampNeg)), σ.2))) := rfl
set_option maxRecDepth 100000 in
theorem lp_ff_blk6 {X : bz_X} (mn : Int32) (σ : bz_S) (an : Bool) (c : Int32) : bz_run X bt_X11_findFar 2 (69, [some (.ref 32), some (.int mn), some (.int (bz_b (an))), some (.int c), some (.int 0)], [], ((bz_up σ.1 44 c.toNatClampNeg (σ.1 44 c.toNatClampNeg)), σ.2)) = some (True, if (0 : Int32) = 0 then (78, [some (.ref 32), some (.int mn), some (.int (bz_b (an))), some (.int c), some (.int 0)], [], ((bz_up σ.1 44 c.toNatClampNeg (σ.1 44 c.toNatClampNeg)), σ.2)) else (74, [some (.ref 32), some (.int mn), some (.int (bz_b (an))), some (.int c), some (.int 0)], [], ((bz_up σ.1 44 c.toNatClampNeg (σ.1 44 c.toNatClampNeg)), σ.2))) := rfl
set_option maxRecDepth 100000 in
theorem lp_ff_blk7 {X : bz_X} (mn : Int32) (σ : bz_S) (an : Bool) (c : Int32) : bz_run X bt_X11_findFar 4 (78, [some (.ref 32), some (.int mn), some (.int (bz_b (an))), some (.int c), some (.int 0)], [], ((bz_up σ.1 44 c.toNatClampNeg (σ.1 44 c.toNatClampNeg)), σ.2)) = some (True, (4, [some (.ref 32), some (.int mn), some (.int 0), some (.int (c + 1)), some (.int 0)], [], ((bz_up σ.1 44 c.toNatClampNeg (σ.1 44 c.toNatClampNeg)), σ.2))) := rfl
set_option maxRecDepth 100000 in
theorem lp_ff_blk8 {X : bz_X} (mn : Int32) (σ : bz_S) (an : Bool) (c : Int32) : bz_run X bt_X11_findFar 1 (19, [some (.ref 32), some (.int mn), some (.int (bz_b (an))), some (.int c), none], [], σ) = some (True, (20, [some (.ref 32), some (.int mn), some (.int (bz_b (an))), some (.int c), none], [.int c], σ)) := rfl
set_option maxRecDepth 100000 in
theorem lp_ff_blk9 {X : bz_X} (mn : Int32) (σ : bz_S) (an : Bool) (c : Int32) : bz_run X bt_X11_findFar 1 (23, [some (.ref 32), some (.int mn), some (.int (bz_b (an))), some (.int c), none], [.int (bz_b (f_X11_isPocket c))], σ) = some (True, if ¬ bz_b (f_X11_isPocket c) = 0 then (41, [some (.ref 32), some (.int mn), some (.int (bz_b (an))), some (.int c), none], [], σ) else (26, [some (.ref 32), some (.int mn), some (.int (bz_b (an))), some (.int c), none], [], σ)) := rfl
set_option maxRecDepth 100000 in
theorem lp_ff_blk10 {X : bz_X} (mn : Int32) (σ : bz_S) (an : Bool) (c : Int32) : bz_run X bt_X11_findFar 7 (41, [some (.ref 32), some (.int mn), some (.int (bz_b (an))), some (.int c), none], [], σ) = some (True, if (0 : Int32) = 0 then (58, [some (.ref 32), some (.int mn), some (.int (bz_b (an))), some (.int c), some (.int 0)], [.int c, .ref 44], σ) else (54, [some (.ref 32), some (.int mn), some (.int (bz_b (an))), some (.int c), some (.int 0)], [.int c, .ref 44], σ)) := rfl
set_option maxRecDepth 100000 in
theorem lp_ff_blk11 {X : bz_X} (mn : Int32) (σ : bz_S) (an : Bool) (c : Int32) : bz_run X bt_X11_findFar 7 (58, [some (.ref 32), some (.int mn), some (.int (bz_b (an))), some (.int c), some (.int 0)], [.int c, .ref 44], σ) = some (vp_in c 45 ∧ vp_in c 45 ∧ True, if ¬ bz_b (an) = 0 then (74, [some (.ref 32), some (.int mn), some (.int (bz_b (an))), some (.int c), some (.int 0)], [], ((bz_up σ.1 44 c.toNatClampNeg (σ.1 44 c.toNatClampNeg)), σ.2)) else (69, [some (.ref 32), some (.int mn), some (.int (bz_b (an))), some (.int c), some (.int 0)], [], ((bz_up σ.1 44 c.toNatClampNeg (σ.1 44 c.toNatClampNeg)), σ.2))) := rfl
set_option maxRecDepth 100000 in
theorem lp_ff_blk12 {X : bz_X} (mn : Int32) (σ : bz_S) (an : Bool) (c : Int32) : bz_run X bt_X11_findFar 5 (74, [some (.ref 32), some (.int mn), some (.int (bz_b (an))), some (.int c), some (.int 0)], [], ((bz_up σ.1 44 c.toNatClampNeg (σ.1 44 c.toNatClampNeg)), σ.2)) = some (True, (4, [some (.ref 32), some (.int mn), some (.int 1), some (.int (c + 1)), some (.int 0)], [], ((bz_up σ.1 44 c.toNatClampNeg (σ.1 44 c.toNatClampNeg)), σ.2))) := rfl
set_option maxRecDepth 100000 in
theorem lp_ff_blk13 {X : bz_X} (mn : Int32) (σ : bz_S) (an : Bool) (c : Int32) : bz_run X bt_X11_findFar 2 (69, [some (.ref 32), some (.int mn), some (.int (bz_b (an))), some (.int c), some (.int 0)], [], ((bz_up σ.1 44 c.toNatClampNeg (σ.1 44 c.toNatClampNeg)), σ.2)) = some (True, if (0 : Int32) = 0 then (78, [some (.ref 32), some (.int mn), some (.int (bz_b (an))), some (.int c), some (.int 0)], [], ((bz_up σ.1 44 c.toNatClampNeg (σ.1 44 c.toNatClampNeg)), σ.2)) else (74, [some (.ref 32), some (.int mn), some (.int (bz_b (an))), some (.int c), some (.int 0)], [], ((bz_up σ.1 44 c.toNatClampNeg (σ.1 44 c.toNatClampNeg)), σ.2))) := rfl
set_option maxRecDepth 100000 in
theorem lp_ff_blk14 {X : bz_X} (mn : Int32) (σ : bz_S) (an : Bool) (c : Int32) : bz_run X bt_X11_findFar 4 (78, [some (.ref 32), some (.int mn), some (.int (bz_b (an))), some (.int c), some (.int 0)], [], ((bz_up σ.1 44 c.toNatClampNeg (σ.1 44 c.toNatClampNeg)), σ.2)) = some (True, (4, [some (.ref 32), some (.int mn), some (.int 0), some (.int (c + 1)), some (.int 0)], [], ((bz_up σ.1 44 c.toNatClampNeg (σ.1 44 c.toNatClampNeg)), σ.2))) := rfl
set_option maxRecDepth 100000 in
theorem lp_ff_blk15 {X : bz_X} (mn : Int32) (σ : bz_S) (an : Bool) (c : Int32) : bz_run X bt_X11_findFar 5 (26, [some (.ref 32), some (.int mn), some (.int (bz_b (an))), some (.int c), none], [], σ) = some (True, (31, [some (.ref 32), some (.int mn), some (.int (bz_b (an))), some (.int c), none], [.int (mn - 1), .int c, .ref 32], σ)) := rfl
set_option maxRecDepth 100000 in
theorem lp_ff_blk16 {X : bz_X} (mn : Int32) (σ : bz_S) (an : Bool) (c : Int32) : bz_run X bt_X11_findFar 1 (34, [some (.ref 32), some (.int mn), some (.int (bz_b (an))), some (.int c), none], [.int (f_X11_wayTo_32 σ c (mn - 1))], σ) = some (True, if (f_X11_wayTo_32 σ c (mn - 1)) < 0 then (41, [some (.ref 32), some (.int mn), some (.int (bz_b (an))), some (.int c), none], [], σ) else (37, [some (.ref 32), some (.int mn), some (.int (bz_b (an))), some (.int c), none], [], σ)) := rfl
set_option maxRecDepth 100000 in
theorem lp_ff_blk17 {X : bz_X} (mn : Int32) (σ : bz_S) (an : Bool) (c : Int32) : bz_run X bt_X11_findFar 7 (41, [some (.ref 32), some (.int mn), some (.int (bz_b (an))), some (.int c), none], [], σ) = some (True, if (0 : Int32) = 0 then (58, [some (.ref 32), some (.int mn), some (.int (bz_b (an))), some (.int c), some (.int 0)], [.int c, .ref 44], σ) else (54, [some (.ref 32), some (.int mn), some (.int (bz_b (an))), some (.int c), some (.int 0)], [.int c, .ref 44], σ)) := rfl
set_option maxRecDepth 100000 in
theorem lp_ff_blk18 {X : bz_X} (mn : Int32) (σ : bz_S) (an : Bool) (c : Int32) : bz_run X bt_X11_findFar 7 (58, [some (.ref 32), some (.int mn), some (.int (bz_b (an))), some (.int c), some (.int 0)], [.int c, .ref 44], σ) = some (vp_in c 45 ∧ vp_in c 45 ∧ True, if ¬ bz_b (an) = 0 then (74, [some (.ref 32), some (.int mn), some (.int (bz_b (an))), some (.int c), some (.int 0)], [], ((bz_up σ.1 44 c.toNatClampNeg (σ.1 44 c.toNatClampNeg)), σ.2)) else (69, [some (.ref 32), some (.int mn), some (.int (bz_b (an))), some (.int c), some (.int 0)], [], ((bz_up σ.1 44 c.toNatClampNeg (σ.1 44 c.toNatClampNeg)), σ.2))) := rfl
set_option maxRecDepth 100000 in
theorem lp_ff_blk19 {X : bz_X} (mn : Int32) (σ : bz_S) (an : Bool) (c : Int32) : bz_run X bt_X11_findFar 5 (74, [some (.ref 32), some (.int mn), some (.int (bz_b (an))), some (.int c), some (.int 0)], [], ((bz_up σ.1 44 c.toNatClampNeg (σ.1 44 c.toNatClampNeg)), σ.2)) = some (True, (4, [some (.ref 32), some (.int mn), some (.int 1), some (.int (c + 1)), some (.int 0)], [], ((bz_up σ.1 44 c.toNatClampNeg (σ.1 44 c.toNatClampNeg)), σ.2))) := rfl
set_option maxRecDepth 100000 in
theorem lp_ff_blk20 {X : bz_X} (mn : Int32) (σ : bz_S) (an : Bool) (c : Int32) : bz_run X bt_X11_findFar 2 (69, [some (.ref 32), some (.int mn), some (.int (bz_b (an))), some (.int c), some (.int 0)], [], ((bz_up σ.1 44 c.toNatClampNeg (σ.1 44 c.toNatClampNeg)), σ.2)) = some (True, if (0 : Int32) = 0 then (78, [some (.ref 32), some (.int mn), some (.int (bz_b (an))), some (.int c), some (.int 0)], [], ((bz_up σ.1 44 c.toNatClampNeg (σ.1 44 c.toNatClampNeg)), σ.2)) else (74, [some (.ref 32), some (.int mn), some (.int (bz_b (an))), some (.int c), some (.int 0)], [], ((bz_up σ.1 44 c.toNatClampNeg (σ.1 44 c.toNatClampNeg)), σ.2))) := rfl
set_option maxRecDepth 100000 in
theorem lp_ff_blk21 {X : bz_X} (mn : Int32) (σ : bz_S) (an : Bool) (c : Int32) : bz_run X bt_X11_findFar 4 (78, [some (.ref 32), some (.int mn), some (.int (bz_b (an))), some (.int c), some (.int 0)], [], ((bz_up σ.1 44 c.toNatClampNeg (σ.1 44 c.toNatClampNeg)), σ.2)) = some (True, (4, [some (.ref 32), some (.int mn), some (.int 0), some (.int (c + 1)), some (.int 0)], [], ((bz_up σ.1 44 c.toNatClampNeg (σ.1 44 c.toNatClampNeg)), σ.2))) := rfl
set_option maxRecDepth 100000 in
theorem lp_ff_blk22 {X : bz_X} (mn : Int32) (σ : bz_S) (an : Bool) (c : Int32) : bz_run X bt_X11_findFar 8 (37, [some (.ref 32), some (.int mn), some (.int (bz_b (an))), some (.int c), none], [], σ) = some (True, if (1 : Int32) = 0 then (58, [some (.ref 32), some (.int mn), some (.int (bz_b (an))), some (.int c), some (.int 1)], [.int c, .ref 44], σ) else (54, [some (.ref 32), some (.int mn), some (.int (bz_b (an))), some (.int c), some (.int 1)], [.int c, .ref 44], σ)) := rfl
set_option maxRecDepth 100000 in
theorem lp_ff_blk23 {X : bz_X} (mn : Int32) (σ : bz_S) (an : Bool) (c : Int32) : bz_run X bt_X11_findFar 5 (54, [some (.ref 32), some (.int mn), some (.int (bz_b (an))), some (.int c), some (.int 1)], [.int c, .ref 44], σ) = some (vp_in c 45 ∧ True, if ¬ bz_b (an) = 0 then (74, [some (.ref 32), some (.int mn), some (.int (bz_b (an))), some (.int c), some (.int 1)], [], ((bz_up σ.1 44 c.toNatClampNeg mn), σ.2)) else (69, [some (.ref 32), some (.int mn), some (.int (bz_b (an))), some (.int c), some (.int 1)], [], ((bz_up σ.1 44 c.toNatClampNeg mn), σ.2))) := rfl
set_option maxRecDepth 100000 in
theorem lp_ff_blk24 {X : bz_X} (mn : Int32) (σ : bz_S) (an : Bool) (c : Int32) : bz_run X bt_X11_findFar 5 (74, [some (.ref 32), some (.int mn), some (.int (bz_b (an))), some (.int c), some (.int 1)], [], ((bz_up σ.1 44 c.toNatClampNeg mn), σ.2)) = some (True, (4, [some (.ref 32), some (.int mn), some (.int 1), some (.int (c + 1)), some (.int 1)], [], ((bz_up σ.1 44 c.toNatClampNeg mn), σ.2))) := rfl
set_option maxRecDepth 100000 in
theorem lp_ff_blk25 {X : bz_X} (mn : Int32) (σ : bz_S) (an : Bool) (c : Int32) : bz_run X bt_X11_findFar 2 (69, [some (.ref 32), some (.int mn), some (.int (bz_b (an))), some (.int c), some (.int 1)], [], ((bz_up σ.1 44 c.toNatClampNeg mn), σ.2)) = some (True, if (1 : Int32) = 0 then (78, [some (.ref 32), some (.int mn), some (.int (bz_b (an))), some (.int c), some (.int 1)], [], ((bz_up σ.1 44 c.toNatClampNeg mn), σ.2)) else (74, [some (.ref 32), some (.int mn), some (.int (bz_b (an))), some (.int c), some (.int 1)], [], ((bz_up σ.1 44 c.toNatClampNeg mn), σ.2))) := rfl
set_option maxRecDepth 100000 in
theorem lp_ff_blk26 {X : bz_X} (mn : Int32) (σ : bz_S) (an : Bool) (c : Int32) : bz_run X bt_X11_findFar 5 (74, [some (.ref 32), some (.int mn), some (.int (bz_b (an))), some (.int c), some (.int 1)], [], ((bz_up σ.1 44 c.toNatClampNeg mn), σ.2)) = some (True, (4, [some (.ref 32), some (.int mn), some (.int 1), some (.int (c + 1)), some (.int 1)], [], ((bz_up σ.1 44 c.toNatClampNeg mn), σ.2))) := rfl
set_option maxRecDepth 100000 in
theorem s_lp_ff {X : bz_X} (mn : Int32) : ∀ (n : Nat) (σ : bz_S) (an : Bool) (c : Int32) (j9 : Nat) (hi : c = nI j9) (hj : j9 + n = 45), bz_wp bz_P X mX11_findFar (bz_pi (bz_b (lp_ff mn n σ an c).1) (lp_ff mn n σ an c).2) (4, [some (.ref 32), some (.int mn), some (.int (bz_b (an))), some (.int c), none], [], σ) := by
  intro n
  induction n with
  | zero =>
    intro σ an c j9 hi hj
    refine bz_wpb bT_X11_findFar 3 (b1 := (86, [some (.ref 32), some (.int mn), some (.int (bz_b (an))), some (.int c), none], [], σ)) (b2 := (10, [some (.ref 32), some (.int mn), some (.int (bz_b (an))), some (.int c), none], [], σ)) (C := 45 ≤ c) (G := True) (lp_ff0_blk1 mn σ an c) trivial (fun _ => ?_) (fun z => absurd (show (45 : Int32) ≤ c from by rw [hi, show j9 = 45 from by omega]; decide) z)
    refine bz_wpn bT_X11_findFar 1 (b := (87, [some (.ref 32), some (.int mn), some (.int (bz_b (an))), some (.int c), none], [.int (bz_b (an))], σ)) (G := True) (lp_ff0_blk2 mn σ an c) trivial ?_
    refine bz_wpr bT_X11_findFar rfl rfl (bz_b01 _) ?_
    have e9 : lp_ff mn 0 σ an c = (an, σ) := by rw [lp_ff]
    exact ⟨by rw [e9], by rw [e9]⟩
  | succ n ih =>
    intro σ an c j9 hi hj
    refine bz_wpb bT_X11_findFar 3 (b1 := (86, [some (.ref 32), some (.int mn), some (.int (bz_b (an))), some (.int c), none], [], σ)) (b2 := (10, [some (.ref 32), some (.int mn), some (.int (bz_b (an))), some (.int c), none], [], σ)) (C := 45 ≤ c) (G := True) (lp_ff_blk1 mn σ an c) trivial (fun z => absurd z (show ¬ (45 : Int32) ≤ c from by rw [hi]; exact nI_ge (b := 45) (by omega) (by decide))) (fun _ => ?_)
    refine bz_wpb bT_X11_findFar 5 (b1 := (41, [some (.ref 32), some (.int mn), some (.int (bz_b (an))), some (.int c), none], [], σ)) (b2 := (19, [some (.ref 32), some (.int mn), some (.int (bz_b (an))), some (.int c), none], [], σ)) (C := 0 ≤ (σ.1 44 c.toNatClampNeg)) (G := vp_in c 45 ∧ True) (lp_ff_blk2 mn σ an c) ⟨(by rw [hi]; exact vp_in_nI (by omega) (by decide)), trivial⟩ (fun h1 => ?_) (fun h1 => ?_)
    · skip
      refine bz_wpb bT_X11_findFar 7 (b1 := (58, [some (.ref 32), some (.int mn), some (.int (bz_b (an))), some (.int c), some (.int 0)], [.int c, .ref 44], σ)) (b2 := (54, [some (.ref 32), some (.int mn), some (.int (bz_b (an))), some (.int c), some (.int 0)], [.int c, .ref 44], σ)) (C := (0 : Int32) = 0) (G := True) (lp_ff_blk3 mn σ an c) trivial (fun _ => ?_) (fun z => absurd (by decide) z)
      refine bz_wpb bT_X11_findFar 7 (b1 := (74, [some (.ref 32), some (.int mn), some (.int (bz_b (an))), some (.int c), some (.int 0)], [], ((bz_up σ.1 44 c.toNatClampNeg (σ.1 44 c.toNatClampNeg)), σ.2))) (b2 := (69, [some (.ref 32), some (.int mn), some (.int (bz_b (an))), some (.int c), some (.int 0)], [], ((bz_up σ.1 44 c.toNatClampNeg (σ.1 44 c.toNatClampNeg)), σ.2))) (C := ¬ bz_b (an) = 0) (G := vp_in c 45 ∧ vp_in c 45 ∧ True) (lp_ff_blk4 mn σ an c) ⟨(by rw [hi]; exact vp_in_nI (by omega) (by decide)), (by rw [hi]; exact vp_in_nI (by omega) (by decide)), trivial⟩ (fun h2 => ?_) (fun h2 => ?_)
      · skip
        have h2 := bz_b1 h2
        refine bz_wpn bT_X11_findFar 5 (b := (4, [some (.ref 32), some (.int mn), some (.int 1), some (.int (c + 1)), some (.int 0)], [], ((bz_up σ.1 44 c.toNatClampNeg (σ.1 44 c.toNatClampNeg)), σ.2))) (G := True) (lp_ff_blk5 mn σ an c) trivial ?_
        have e9 : lp_ff mn (n + 1) σ an c = (lp_ff mn n ((bz_up σ.1 44 c.toNatClampNeg (σ.1 44 c.toNatClampNeg)), σ.2) true (c + 1)) := by rw [lp_ff, if_pos (h1), if_pos (h2)]
        rw [e9]
        refine bz_wpw (L' := [some (.ref 32), some (.int mn), some (.int 1), some (.int (c + 1)), none]) (by exact ⟨rfl, rfl, rfl, rfl, trivial⟩) ?_
        exact ih ((bz_up σ.1 44 c.toNatClampNeg (σ.1 44 c.toNatClampNeg)), σ.2) true (c + 1) (j9 + 1) (by rw [hi]; exact nI_1 j9) (by omega)
      · skip
        have h2 := bz_b0 (Decidable.not_not.mp h2)
        refine bz_wpb bT_X11_findFar 2 (b1 := (78, [some (.ref 32), some (.int mn), some (.int (bz_b (an))), some (.int c), some (.int 0)], [], ((bz_up σ.1 44 c.toNatClampNeg (σ.1 44 c.toNatClampNeg)), σ.2))) (b2 := (74, [some (.ref 32), some (.int mn), some (.int (bz_b (an))), some (.int c), some (.int 0)], [], ((bz_up σ.1 44 c.toNatClampNeg (σ.1 44 c.toNatClampNeg)), σ.2))) (C := (0 : Int32) = 0) (G := True) (lp_ff_blk6 mn σ an c) trivial (fun _ => ?_) (fun z => absurd (by decide) z)
        refine bz_wpn bT_X11_findFar 4 (b := (4, [some (.ref 32), some (.int mn), some (.int 0), some (.int (c + 1)), some (.int 0)], [], ((bz_up σ.1 44 c.toNatClampNeg (σ.1 44 c.toNatClampNeg)), σ.2))) (G := True) (lp_ff_blk7 mn σ an c) trivial ?_
        have e9 : lp_ff mn (n + 1) σ an c = (lp_ff mn n ((bz_up σ.1 44 c.toNatClampNeg (σ.1 44 c.toNatClampNeg)), σ.2) false (c + 1)) := by rw [lp_ff, if_pos (h1), if_neg (bz_ff h2)]
        rw [e9]
        refine bz_wpw (L' := [some (.ref 32), some (.int mn), some (.int 0), some (.int (c + 1)), none]) (by exact ⟨rfl, rfl, rfl, rfl, trivial⟩) ?_
        exact ih ((bz_up σ.1 44 c.toNatClampNeg (σ.1 44 c.toNatClampNeg)), σ.2) false (c + 1) (j9 + 1) (by rw [hi]; exact nI_1 j9) (by omega)
    · skip
      refine bz_wpn bT_X11_findFar 1 (b := (20, [some (.ref 32), some (.int mn), some (.int (bz_b (an))), some (.int c), none], [.int c], σ)) (G := True) (lp_ff_blk8 mn σ an c) trivial ?_
      refine bz_wci bT_X11_findFar [.int c] (pc' := 23) (rest := []) rfl rfl (Nat.le_of_ble_eq_true rfl) rfl (Nat.le_of_ble_eq_true rfl) rfl (s_X11_isPocket σ c) rfl ?_
      refine bz_wpb bT_X11_findFar 1 (b1 := (41, [some (.ref 32), some (.int mn), some (.int (bz_b (an))), some (.int c), none], [], σ)) (b2 := (26, [some (.ref 32), some (.int mn), some (.int (bz_b (an))), some (.int c), none], [], σ)) (C := ¬ bz_b (f_X11_isPocket c) = 0) (G := True) (lp_ff_blk9 mn σ an c) trivial (fun h3 => ?_) (fun h3 => ?_)
      · skip
        have h3 := bz_b1 h3
        refine bz_wpb bT_X11_findFar 7 (b1 := (58, [some (.ref 32), some (.int mn), some (.int (bz_b (an))), some (.int c), some (.int 0)], [.int c, .ref 44], σ)) (b2 := (54, [some (.ref 32), some (.int mn), some (.int (bz_b (an))), some (.int c), some (.int 0)], [.int c, .ref 44], σ)) (C := (0 : Int32) = 0) (G := True) (lp_ff_blk10 mn σ an c) trivial (fun _ => ?_) (fun z => absurd (by decide) z)
        refine bz_wpb bT_X11_findFar 7 (b1 := (74, [some (.ref 32), some (.int mn), some (.int (bz_b (an))), some (.int c), some (.int 0)], [], ((bz_up σ.1 44 c.toNatClampNeg (σ.1 44 c.toNatClampNeg)), σ.2))) (b2 := (69, [some (.ref 32), some (.int mn), some (.int (bz_b (an))), some (.int c), some (.int 0)], [], ((bz_up σ.1 44 c.toNatClampNeg (σ.1 44 c.toNatClampNeg)), σ.2))) (C := ¬ bz_b (an) = 0) (G := vp_in c 45 ∧ vp_in c 45 ∧ True) (lp_ff_blk11 mn σ an c) ⟨(by rw [hi]; exact vp_in_nI (by omega) (by decide)), (by rw [hi]; exact vp_in_nI (by omega) (by decide)), trivial⟩ (fun h4 => ?_) (fun h4 => ?_)
        · skip
          have h4 := bz_b1 h4
          refine bz_wpn bT_X11_findFar 5 (b := (4, [some (.ref 32), some (.int mn), some (.int 1), some (.int (c + 1)), some (.int 0)], [], ((bz_up σ.1 44 c.toNatClampNeg (σ.1 44 c.toNatClampNeg)), σ.2))) (G := True) (lp_ff_blk12 mn σ an c) trivial ?_
          have e9 : lp_ff mn (n + 1) σ an c = (lp_ff mn n ((bz_up σ.1 44 c.toNatClampNeg (σ.1 44 c.toNatClampNeg)), σ.2) true (c + 1)) := by rw [lp_ff, if_neg (h1), if_pos (h3), if_pos (h4)]
          rw [e9]
          refine bz_wpw (L' := [some (.ref 32), some (.int mn), some (.int 1), some (.int (c + 1)), none]) (by exact ⟨rfl, rfl, rfl, rfl, trivial⟩) ?_
          exact ih ((bz_up σ.1 44 c.toNatClampNeg (σ.1 44 c.toNatClampNeg)), σ.2) true (c + 1) (j9 + 1) (by rw [hi]; exact nI_1 j9) (by omega)
        · skip
          have h4 := bz_b0 (Decidable.not_not.mp h4)
          refine bz_wpb bT_X11_findFar 2 (b1 := (78, [some (.ref 32), some (.int mn), some (.int (bz_b (an))), some (.int c), some (.int 0)], [], ((bz_up σ.1 44 c.toNatClampNeg (σ.1 44 c.toNatClampNeg)), σ.2))) (b2 := (74, [some (.ref 32), some (.int mn), some (.int (bz_b (an))), some (.int c), some (.int 0)], [], ((bz_up σ.1 44 c.toNatClampNeg (σ.1 44 c.toNatClampNeg)), σ.2))) (C := (0 : Int32) = 0) (G := True) (lp_ff_blk13 mn σ an c) trivial (fun _ => ?_) (fun z => absurd (by decide) z)
          refine bz_wpn bT_X11_findFar 4 (b := (4, [some (.ref 32), some (.int mn), some (.int 0), some (.int (c + 1)), some (.int 0)], [], ((bz_up σ.1 44 c.toNatClampNeg (σ.1 44 c.toNatClampNeg)), σ.2))) (G := True) (lp_ff_blk14 mn σ an c) trivial ?_
          have e9 : lp_ff mn (n + 1) σ an c = (lp_ff mn n ((bz_up σ.1 44 c.toNatClampNeg (σ.1 44 c.toNatClampNeg)), σ.2) false (c + 1)) := by rw [lp_ff, if_neg (h1), if_pos (h3), if_neg (bz_ff h4)]
          rw [e9]
          refine bz_wpw (L' := [some (.ref 32), some (.int mn), some (.int 0), some (.int (c + 1)), none]) (by exact ⟨rfl, rfl, rfl, rfl, trivial⟩) ?_
          exact ih ((bz_up σ.1 44 c.toNatClampNeg (σ.1 44 c.toNatClampNeg)), σ.2) false (c + 1) (j9 + 1) (by rw [hi]; exact nI_1 j9) (by omega)
      · skip
        have h3 := bz_b0 (Decidable.not_not.mp h3)
        refine bz_wpn bT_X11_findFar 5 (b := (31, [some (.ref 32), some (.int mn), some (.int (bz_b (an))), some (.int c), none], [.int (mn - 1), .int c, .ref 32], σ)) (G := True) (lp_ff_blk15 mn σ an c) trivial ?_
        refine bz_wci bT_X11_findFar [.ref 32, .int c, .int (mn - 1)] (pc' := 34) (rest := []) rfl rfl (Nat.le_of_ble_eq_true rfl) rfl (Nat.le_of_ble_eq_true rfl) rfl (s_X11_wayTo_32 σ c (mn - 1) ⟨j9, by omega, hi⟩) rfl ?_
        refine bz_wpb bT_X11_findFar 1 (b1 := (41, [some (.ref 32), some (.int mn), some (.int (bz_b (an))), some (.int c), none], [], σ)) (b2 := (37, [some (.ref 32), some (.int mn), some (.int (bz_b (an))), some (.int c), none], [], σ)) (C := (f_X11_wayTo_32 σ c (mn - 1)) < 0) (G := True) (lp_ff_blk16 mn σ an c) trivial (fun h5 => ?_) (fun h5 => ?_)
        · skip
          refine bz_wpb bT_X11_findFar 7 (b1 := (58, [some (.ref 32), some (.int mn), some (.int (bz_b (an))), some (.int c), some (.int 0)], [.int c, .ref 44], σ)) (b2 := (54, [some (.ref 32), some (.int mn), some (.int (bz_b (an))), some (.int c), some (.int 0)], [.int c, .ref 44], σ)) (C := (0 : Int32) = 0) (G := True) (lp_ff_blk17 mn σ an c) trivial (fun _ => ?_) (fun z => absurd (by decide) z)
          refine bz_wpb bT_X11_findFar 7 (b1 := (74, [some (.ref 32), some (.int mn), some (.int (bz_b (an))), some (.int c), some (.int 0)], [], ((bz_up σ.1 44 c.toNatClampNeg (σ.1 44 c.toNatClampNeg)), σ.2))) (b2 := (69, [some (.ref 32), some (.int mn), some (.int (bz_b (an))), some (.int c), some (.int 0)], [], ((bz_up σ.1 44 c.toNatClampNeg (σ.1 44 c.toNatClampNeg)), σ.2))) (C := ¬ bz_b (an) = 0) (G := vp_in c 45 ∧ vp_in c 45 ∧ True) (lp_ff_blk18 mn σ an c) ⟨(by rw [hi]; exact vp_in_nI (by omega) (by decide)), (by rw [hi]; exact vp_in_nI (by omega) (by decide)), trivial⟩ (fun h6 => ?_) (fun h6 => ?_)
          · skip
            have h6 := bz_b1 h6
            refine bz_wpn bT_X11_findFar 5 (b := (4, [some (.ref 32), some (.int mn), some (.int 1), some (.int (c + 1)), some (.int 0)], [], ((bz_up σ.1 44 c.toNatClampNeg (σ.1 44 c.toNatClampNeg)), σ.2))) (G := True) (lp_ff_blk19 mn σ an c) trivial ?_
            have e9 : lp_ff mn (n + 1) σ an c = (lp_ff mn n ((bz_up σ.1 44 c.toNatClampNeg (σ.1 44 c.toNatClampNeg)), σ.2) true (c + 1)) := by rw [lp_ff, if_neg (h1), if_neg (bz_ff h3), if_pos (h5), if_pos (h6)]
            rw [e9]
            refine bz_wpw (L' := [some (.ref 32), some (.int mn), some (.int 1), some (.int (c + 1)), none]) (by exact ⟨rfl, rfl, rfl, rfl, trivial⟩) ?_
            exact ih ((bz_up σ.1 44 c.toNatClampNeg (σ.1 44 c.toNatClampNeg)), σ.2) true (c + 1) (j9 + 1) (by rw [hi]; exact nI_1 j9) (by omega)
          · skip
            have h6 := bz_b0 (Decidable.not_not.mp h6)
            refine bz_wpb bT_X11_findFar 2 (b1 := (78, [some (.ref 32), some (.int mn), some (.int (bz_b (an))), some (.int c), some (.int 0)], [], ((bz_up σ.1 44 c.toNatClampNeg (σ.1 44 c.toNatClampNeg)), σ.2))) (b2 := (74, [some (.ref 32), some (.int mn), some (.int (bz_b (an))), some (.int c), some (.int 0)], [], ((bz_up σ.1 44 c.toNatClampNeg (σ.1 44 c.toNatClampNeg)), σ.2))) (C := (0 : Int32) = 0) (G := True) (lp_ff_blk20 mn σ an c) trivial (fun _ => ?_) (fun z => absurd (by decide) z)
            refine bz_wpn bT_X11_findFar 4 (b := (4, [some (.ref 32), some (.int mn), some (.int 0), some (.int (c + 1)), some (.int 0)], [], ((bz_up σ.1 44 c.toNatClampNeg (σ.1 44 c.toNatClampNeg)), σ.2))) (G := True) (lp_ff_blk21 mn σ an c) trivial ?_
            have e9 : lp_ff mn (n + 1) σ an c = (lp_ff mn n ((bz_up σ.1 44 c.toNatClampNeg (σ.1 44 c.toNatClampNeg)), σ.2) false (c + 1)) := by rw [lp_ff, if_neg (h1), if_neg (bz_ff h3), if_pos (h5), if_neg (bz_ff h6)]
            rw [e9]
            refine bz_wpw (L' := [some (.ref 32), some (.int mn), some (.int 0), some (.int (c + 1)), none]) (by exact ⟨rfl, rfl, rfl, rfl, trivial⟩) ?_
            exact ih ((bz_up σ.1 44 c.toNatClampNeg (σ.1 44 c.toNatClampNeg)), σ.2) false (c + 1) (j9 + 1) (by rw [hi]; exact nI_1 j9) (by omega)
        · skip
          refine bz_wpb bT_X11_findFar 8 (b1 := (58, [some (.ref 32), some (.int mn), some (.int (bz_b (an))), some (.int c), some (.int 1)], [.int c, .ref 44], σ)) (b2 := (54, [some (.ref 32), some (.int mn), some (.int (bz_b (an))), some (.int c), some (.int 1)], [.int c, .ref 44], σ)) (C := (1 : Int32) = 0) (G := True) (lp_ff_blk22 mn σ an c) trivial (fun z => absurd z (by decide)) (fun _ => ?_)
          refine bz_wpb bT_X11_findFar 5 (b1 := (74, [some (.ref 32), some (.int mn), some (.int (bz_b (an))), some (.int c), some (.int 1)], [], ((bz_up σ.1 44 c.toNatClampNeg mn), σ.2))) (b2 := (69, [some (.ref 32), some (.int mn), some (.int (bz_b (an))), some (.int c), some (.int 1)], [], ((bz_up σ.1 44 c.toNatClampNeg mn), σ.2))) (C := ¬ bz_b (an) = 0) (G := vp_in c 45 ∧ True) (lp_ff_blk23 mn σ an c) ⟨(by rw [hi]; exact vp_in_nI (by omega) (by decide)), trivial⟩ (fun h7 => ?_) (fun h7 => ?_)
          · skip
            have h7 := bz_b1 h7
            refine bz_wpn bT_X11_findFar 5 (b := (4, [some (.ref 32), some (.int mn), some (.int 1), some (.int (c + 1)), some (.int 1)], [], ((bz_up σ.1 44 c.toNatClampNeg mn), σ.2))) (G := True) (lp_ff_blk24 mn σ an c) trivial ?_
            have e9 : lp_ff mn (n + 1) σ an c = (lp_ff mn n ((bz_up σ.1 44 c.toNatClampNeg mn), σ.2) true (c + 1)) := by rw [lp_ff, if_neg (h1), if_neg (bz_ff h3), if_neg (h5), if_pos (h7)]
            rw [e9]
            refine bz_wpw (L' := [some (.ref 32), some (.int mn), some (.int 1), some (.int (c + 1)), none]) (by exact ⟨rfl, rfl, rfl, rfl, trivial⟩) ?_
            exact ih ((bz_up σ.1 44 c.toNatClampNeg mn), σ.2) true (c + 1) (j9 + 1) (by rw [hi]; exact nI_1 j9) (by omega)
          · skip
            have h7 := bz_b0 (Decidable.not_not.mp h7)
            refine bz_wpb bT_X11_findFar 2 (b1 := (78, [some (.ref 32), some (.int mn), some (.int (bz_b (an))), some (.int c), some (.int 1)], [], ((bz_up σ.1 44 c.toNatClampNeg mn), σ.2))) (b2 := (74, [some (.ref 32), some (.int mn), some (.int (bz_b (an))), some (.int c), some (.int 1)], [], ((bz_up σ.1 44 c.toNatClampNeg mn), σ.2))) (C := (1 : Int32) = 0) (G := True) (lp_ff_blk25 mn σ an c) trivial (fun z => absurd z (by decide)) (fun _ => ?_)
            refine bz_wpn bT_X11_findFar 5 (b := (4, [some (.ref 32), some (.int mn), some (.int 1), some (.int (c + 1)), some (.int 1)], [], ((bz_up σ.1 44 c.toNatClampNeg mn), σ.2))) (G := True) (lp_ff_blk26 mn σ an c) trivial ?_
            have e9 : lp_ff mn (n + 1) σ an c = (lp_ff mn n ((bz_up σ.1 44 c.toNatClampNeg mn), σ.2) true (c + 1)) := by rw [lp_ff, if_neg (h1), if_neg (bz_ff h3), if_neg (h5), if_neg (bz_ff h7)]
            rw [e9]
            refine bz_wpw (L' := [some (.ref 32), some (.int mn), some (.int 1), some (.int (c + 1)), none]) (by exact ⟨rfl, rfl, rfl, rfl, trivial⟩) ?_
            exact ih ((bz_up σ.1 44 c.toNatClampNeg mn), σ.2) true (c + 1) (j9 + 1) (by rw [hi]; exact nI_1 j9) (by omega)
theorem rlp_ff (mn : Int32) : ∀ (n : Nat) (σ : bz_S) (an : Bool) (c : Int32), bz_fr [44] σ (lp_ff mn n σ an c).2 := by
  intro n
  induction n with
  | zero =>
    intro σ an c
    rw [lp_ff]
    exact bz_fr_rf
  | succ n ihc =>
    intro σ an c
    rw [lp_ff]
    exact (bz_ite2 (bz_ite2 (bz_fr_tr (τ := ((bz_up σ.1 44 c.toNatClampNeg (σ.1 44 c.toNatClampNeg)), σ.2)) ⟨(bz_f1_up (bz_fr_rf).1 (by decide)), (bz_fr_rf).2⟩ (ihc ((bz_up σ.1 44 c.toNatClampNeg (σ.1 44 c.toNatClampNeg)), σ.2) true (c + 1))) (bz_fr_tr (τ := ((bz_up σ.1 44 c.toNatClampNeg (σ.1 44 c.toNatClampNeg)), σ.2)) ⟨(bz_f1_up (bz_fr_rf).1 (by decide)), (bz_fr_rf).2⟩ (ihc ((bz_up σ.1 44 c.toNatClampNeg (σ.1 44 c.toNatClampNeg)), σ.2) false (c + 1)))) (bz_ite2 (bz_ite2 (bz_fr_tr (τ := ((bz_up σ.1 44 c.toNatClampNeg (σ.1 44 c.toNatClampNeg)), σ.2)) ⟨(bz_f1_up (bz_fr_rf).1 (by decide)), (bz_fr_rf).2⟩ (ihc ((bz_up σ.1 44 c.toNatClampNeg (σ.1 44 c.toNatClampNeg)), σ.2) true (c + 1))) (bz_fr_tr (τ := ((bz_up σ.1 44 c.toNatClampNeg (σ.1 44 c.toNatClampNeg)), σ.2)) ⟨(bz_f1_up (bz_fr_rf).1 (by decide)), (bz_fr_rf).2⟩ (ihc ((bz_up σ.1 44 c.toNatClampNeg (σ.1 44 c.toNatClampNeg)), σ.2) false (c + 1)))) (bz_ite2 (bz_ite2 (bz_fr_tr (τ := ((bz_up σ.1 44 c.toNatClampNeg (σ.1 44 c.toNatClampNeg)), σ.2)) ⟨(bz_f1_up (bz_fr_rf).1 (by decide)), (bz_fr_rf).2⟩ (ihc ((bz_up σ.1 44 c.toNatClampNeg (σ.1 44 c.toNatClampNeg)), σ.2) true (c + 1))) (bz_fr_tr (τ := ((bz_up σ.1 44 c.toNatClampNeg (σ.1 44 c.toNatClampNeg)), σ.2)) ⟨(bz_f1_up (bz_fr_rf).1 (by decide)), (bz_fr_rf).2⟩ (ihc ((bz_up σ.1 44 c.toNatClampNeg (σ.1 44 c.toNatClampNeg)), σ.2) false (c + 1)))) (bz_ite2 (bz_fr_tr (τ := ((bz_up σ.1 44 c.toNatClampNeg mn), σ.2)) ⟨(bz_f1_up (bz_fr_rf).1 (by decide)), (bz_fr_rf).2⟩ (ihc ((bz_up σ.1 44 c.toNatClampNeg mn), σ.2) true (c + 1))) (bz_fr_tr (τ := ((bz_up σ.1 44 c.toNatClampNeg mn), σ.2)) ⟨(bz_f1_up (bz_fr_rf).1 (by decide)), (bz_fr_rf).2⟩ (ihc ((bz_up σ.1 44 c.toNatClampNeg mn), σ.2) true (c + 1)))))))
theorem qlp_ff (mn : Int32) : ∀ (n : Nat) (σ : bz_S) (an : Bool) (c : Int32), bz_fo ([] : List Nat) σ (lp_ff mn n σ an c).2 := by
  intro n
  induction n with
  | zero =>
    intro σ an c
    rw [lp_ff]
    exact bz_fo_rf
  | succ n ihc =>
    intro σ an c
    rw [lp_ff]
    exact (bz_ite2 (bz_ite2 (bz_fo_tr (τ := ((bz_up σ.1 44 c.toNatClampNeg (σ.1 44 c.toNatClampNeg)), σ.2)) (bz_fo_no (f := _) bz_fo_rf (by decide)) (ihc ((bz_up σ.1 44 c.toNatClampNeg (σ.1 44 c.toNatClampNeg)), σ.2) true (c + 1))) (bz_fo_tr (τ := ((bz_up σ.1 44 c.toNatClampNeg (σ.1 44 c.toNatClampNeg)), σ.2)) (bz_fo_no (f := _) bz_fo_rf (by decide)) (ihc ((bz_up σ.1 44 c.toNatClampNeg (σ.1 44 c.toNatClampNeg)), σ.2) false (c + 1)))) (bz_ite2 (bz_ite2 (bz_fo_tr (τ := ((bz_up σ.1 44 c.toNatClampNeg (σ.1 44 c.toNatClampNeg)), σ.2)) (bz_fo_no (f := _) bz_fo_rf (by decide)) (ihc ((bz_up σ.1 44 c.toNatClampNeg (σ.1 44 c.toNatClampNeg)), σ.2) true (c + 1))) (bz_fo_tr (τ := ((bz_up σ.1 44 c.toNatClampNeg (σ.1 44 c.toNatClampNeg)), σ.2)) (bz_fo_no (f := _) bz_fo_rf (by decide)) (ihc ((bz_up σ.1 44 c.toNatClampNeg (σ.1 44 c.toNatClampNeg)), σ.2) false (c + 1)))) (bz_ite2 (bz_ite2 (bz_fo_tr (τ := ((bz_up σ.1 44 c.toNatClampNeg (σ.1 44 c.toNatClampNeg)), σ.2)) (bz_fo_no (f := _) bz_fo_rf (by decide)) (ihc ((bz_up σ.1 44 c.toNatClampNeg (σ.1 44 c.toNatClampNeg)), σ.2) true (c + 1))) (bz_fo_tr (τ := ((bz_up σ.1 44 c.toNatClampNeg (σ.1 44 c.toNatClampNeg)), σ.2)) (bz_fo_no (f := _) bz_fo_rf (by decide)) (ihc ((bz_up σ.1 44 c.toNatClampNeg (σ.1 44 c.toNatClampNeg)), σ.2) false (c + 1)))) (bz_ite2 (bz_fo_tr (τ := ((bz_up σ.1 44 c.toNatClampNeg mn), σ.2)) (bz_fo_no (f := _) bz_fo_rf (by decide)) (ihc ((bz_up σ.1 44 c.toNatClampNeg mn), σ.2) true (c + 1))) (bz_fo_tr (τ := ((bz_up σ.1 44 c.toNatClampNeg mn), σ.2)) (bz_fo_no (f := _) bz_fo_rf (by decide)) (ihc ((bz_up σ.1 44 c.toNatClampNeg mn), σ.2) true (c + 1)))))))

def f_X11_findFar_32 (σ : bz_S) (mn : Int32) : Bool × bz_S := lp_ff mn (bz_k 45) σ false 0
set_option maxRecDepth 100000 in
theorem f_X11_findFar_32_blk1 {X : bz_X} (σ : bz_S) (mn : Int32) : bz_run X bt_X11_findFar 4 (0, [some (.ref 32), some (.int mn), none, none, none], [], σ) = some (True, (4, [some (.ref 32), some (.int mn), some (.int 0), some (.int 0), none], [], σ)) := rfl
set_option maxRecDepth 100000 in
theorem s_X11_findFar_32 {X : bz_X} (σ : bz_S) (mn : Int32) : bz_C bz_P X mX11_findFar [.ref 32, .int mn] σ (bz_pi (bz_b (f_X11_findFar_32 σ mn).1) (f_X11_findFar_32 σ mn).2) := by
  show bz_wp bz_P X mX11_findFar (bz_pi (bz_b (f_X11_findFar_32 σ mn).1) (f_X11_findFar_32 σ mn).2) (0, [some (.ref 32), some (.int mn), none, none, none], [], σ)
  refine bz_wpn bT_X11_findFar 4 (b := (4, [some (.ref 32), some (.int mn), some (.int 0), some (.int 0), none], [], σ)) (G := True) (f_X11_findFar_32_blk1 σ mn) trivial ?_
  have e9 : f_X11_findFar_32 σ mn = lp_ff mn (bz_k 45) σ false 0 := by rw [f_X11_findFar_32]
  rw [e9]
  exact bz_wpw (by exact ⟨rfl, rfl, rfl, rfl, trivial⟩) (s_lp_ff mn (bz_k 45) σ false 0 0 rfl (by rw [bz_k_eq]))
theorem rf_X11_findFar_32 (σ : bz_S) (mn : Int32) : bz_fr [44] σ (f_X11_findFar_32 σ mn).2 := by
  unfold f_X11_findFar_32
  exact (bz_fr_tr (τ := σ) bz_fr_rf (bz_fr_mo (rlp_ff mn (bz_k 45) σ false 0) (by decide)))
theorem qf_X11_findFar_32 (σ : bz_S) (mn : Int32) : bz_fo ([] : List Nat) σ (f_X11_findFar_32 σ mn).2 := by
  unfold f_X11_findFar_32
  exact (bz_fo_tr (τ := σ) bz_fo_rf (bz_fo_mo (qlp_ff mn (bz_k 45) σ false 0) (by decide)))

/-- how many cells aren't reached yet -/
def bz_cnt (f : Nat → Int32) : Nat → Nat
  | 0 => 0
  | n + 1 => bz_cnt f n + (if f n < 0 then 1 else 0)
theorem bz_cnt_le (f : Nat → Int32) : ∀ n, bz_cnt f n ≤ n := by
  intro n
  induction n with
  | zero => exact Nat.le_refl _
  | succ n ih => rw [bz_cnt]; split <;> omega
theorem bz_cnt_up {f : Nat → Nat → Int32} {o c : Nat} {x : Int32} (hx : ¬ x < 0) : ∀ n, bz_cnt ((bz_up f o c x) o) n + (if c < n ∧ f o c < 0 then 1 else 0) = bz_cnt (f o) n := by
  intro n
  induction n with
  | zero => rw [bz_cnt, bz_cnt, if_neg (fun z => absurd z.1 (by omega))]
  | succ n ih =>
    rw [bz_cnt, bz_cnt, ← ih]
    by_cases h : n = c
    · subst h
      rw [bz_up_s, if_neg hx]
      by_cases h2 : f o n < 0
      · rw [if_pos (show n < n + 1 ∧ f o n < 0 from ⟨by omega, h2⟩), if_neg (show ¬ (n < n ∧ f o n < 0) from fun z => absurd z.1 (by omega)), if_pos h2]
      · rw [if_neg (show ¬ (n < n + 1 ∧ f o n < 0) from fun z => h2 z.2), if_neg (show ¬ (n < n ∧ f o n < 0) from fun z => h2 z.2), if_neg h2]
    · rw [bz_up_k h]
      have e : (c < n + 1 ∧ f o c < 0) ↔ (c < n ∧ f o c < 0) := ⟨fun z => ⟨by omega, z.2⟩, fun z => ⟨by omega, z.2⟩⟩
      simp only [e]
      omega
theorem m_ff_cnt0 (mn : Int32) (hm : ¬ mn < 0) : ∀ (n : Nat) (σ : bz_S) (an : Bool) (c : Int32) (j : Nat), c = nI j → j + n = 45 → ((lp_ff mn n σ an c).1 = true → an = true ∨ bz_cnt ((lp_ff mn n σ an c).2.1 44) 45 < bz_cnt (σ.1 44) 45) ∧ bz_cnt ((lp_ff mn n σ an c).2.1 44) 45 ≤ bz_cnt (σ.1 44) 45 := by
  intro n
  induction n with
  | zero =>
    intro σ an c j hc hj
    rw [lp_ff]
    exact ⟨fun h => Or.inl h, Nat.le_refl _⟩
  | succ n ih =>
    intro σ an c j hc hj
    have key : ∀ (τ : bz_S) (an' : Bool), bz_cnt (τ.1 44) 45 ≤ bz_cnt (σ.1 44) 45 → (an' = true → an = true ∨ bz_cnt (τ.1 44) 45 < bz_cnt (σ.1 44) 45) → (((lp_ff mn n τ an' (c + 1)).1 = true → an = true ∨ bz_cnt ((lp_ff mn n τ an' (c + 1)).2.1 44) 45 < bz_cnt (σ.1 44) 45) ∧ bz_cnt ((lp_ff mn n τ an' (c + 1)).2.1 44) 45 ≤ bz_cnt (σ.1 44) 45) := by
      intro τ an' h1 h2
      obtain ⟨q1, q2⟩ := ih τ an' (c + 1) (j + 1) (by rw [hc]; exact nI_1 j) (by omega)
      refine ⟨fun h => ?_, by omega⟩
      rcases q1 h with q | q
      · rcases h2 q with r | r
        · exact Or.inl r
        · exact Or.inr (by omega)
      · exact Or.inr (by omega)
    have e1 : (bz_up σ.1 44 c.toNatClampNeg (σ.1 44 c.toNatClampNeg)) 44 = σ.1 44 := by
      funext q
      by_cases h : q = c.toNatClampNeg
      · rw [h, bz_up_s]
      · rw [bz_up_k h]
    have idk : bz_cnt (((bz_up σ.1 44 c.toNatClampNeg (σ.1 44 c.toNatClampNeg), σ.2) : bz_S).1 44) 45 ≤ bz_cnt (σ.1 44) 45 := by
      show bz_cnt ((bz_up σ.1 44 c.toNatClampNeg (σ.1 44 c.toNatClampNeg)) 44) 45 ≤ _
      rw [e1]
      exact Nat.le_refl _
    have up := bz_cnt_up (f := σ.1) (o := 44) (c := c.toNatClampNeg) hm 45
    have hc2 : c.toNatClampNeg < 45 := by rw [hc, nI_clamp (by omega)]; omega
    have lt : ¬ 0 ≤ σ.1 44 c.toNatClampNeg → bz_cnt (((bz_up σ.1 44 c.toNatClampNeg mn, σ.2) : bz_S).1 44) 45 < bz_cnt (σ.1 44) 45 := by
      intro h
      rw [if_pos ⟨hc2, Int32.not_le.mp h⟩] at up
      show bz_cnt ((bz_up σ.1 44 c.toNatClampNeg mn) 44) 45 < _
      omega
    rw [lp_ff]
    by_cases g1 : 0 ≤ σ.1 44 c.toNatClampNeg
    · rw [if_pos g1]
      split
      · exact key _ _ idk (fun _ => Or.inl (by assumption))
      · exact key _ _ idk (fun q => absurd q (by decide))
    · rw [if_neg g1]
      split
      · split
        · exact key _ _ idk (fun _ => Or.inl (by assumption))
        · exact key _ _ idk (fun q => absurd q (by decide))
      · split
        · split
          · exact key _ _ idk (fun _ => Or.inl (by assumption))
          · exact key _ _ idk (fun q => absurd q (by decide))
        · first
            | exact key _ _ (Nat.le_of_lt (lt g1)) (fun _ => Or.inr (lt g1))
            | (split <;> exact key _ _ (Nat.le_of_lt (lt g1)) (fun _ => Or.inr (lt g1)))
theorem m_ff_cnt {σ : bz_S} {mn : Int32} {τ : Bool × bz_S} (e : f_X11_findFar_32 σ mn = τ) (hm : ¬ mn < 0) (q : τ.1 = true) : bz_cnt (τ.2.1 44) 45 < bz_cnt (σ.1 44) 45 := by
  subst e
  unfold f_X11_findFar_32 at q ⊢
  rcases (m_ff_cnt0 mn hm (bz_k 45) σ false 0 0 rfl (by rw [bz_k_eq])).1 q with h | h
  · exact absurd h (by decide)
  · exact h

def lp_st1 (to : Int32) : Nat → bz_S → Int32 → bz_S
  | 0, σ, c => σ
  | n + 1, σ, c => if c = to then (lp_st1 to n ((bz_up σ.1 44 c.toNatClampNeg 0), σ.2) (c + 1)) else (lp_st1 to n ((bz_up σ.1 44 c.toNatClampNeg (-6)), σ.2) (c + 1))
set_option maxRecDepth 100000 in
theorem lp_st10_blk1 {X : bz_X} (to : Int32) (fm : Int32) (what : Int32) (σ : bz_S) (c : Int32) : bz_run X bt_X11_strokes 3 (32, [some (.ref 32), some (.int fm), some (.int to), some (.int what), some (.int c), none], [], σ) = some (True, if 45 ≤ c then (64, [some (.ref 32), some (.int fm), some (.int to), some (.int what), some (.int c), none], [], σ) else (39, [some (.ref 32), some (.int fm), some (.int to), some (.int what), some (.int c), none], [], σ)) := rfl
set_option maxRecDepth 100000 in
theorem lp_st1_blk1 {X : bz_X} (to : Int32) (fm : Int32) (what : Int32) (σ : bz_S) (c : Int32) : bz_run X bt_X11_strokes 3 (32, [some (.ref 32), some (.int fm), some (.int to), some (.int what), some (.int c), none], [], σ) = some (True, if 45 ≤ c then (64, [some (.ref 32), some (.int fm), some (.int to), some (.int what), some (.int c), none], [], σ) else (39, [some (.ref 32), some (.int fm), some (.int to), some (.int what), some (.int c), none], [], σ)) := rfl
set_option maxRecDepth 100000 in
theorem lp_st1_blk2 {X : bz_X} (to : Int32) (fm : Int32) (what : Int32) (σ : bz_S) (c : Int32) : bz_run X bt_X11_strokes 6 (39, [some (.ref 32), some (.int fm), some (.int to), some (.int what), some (.int c), none], [], σ) = some (True, if ¬ c = to then (55, [some (.ref 32), some (.int fm), some (.int to), some (.int what), some (.int c), none], [.int c, .ref 44], σ) else (51, [some (.ref 32), some (.int fm), some (.int to), some (.int what), some (.int c), none], [.int c, .ref 44], σ)) := rfl
set_option maxRecDepth 100000 in
theorem lp_st1_blk3 {X : bz_X} (to : Int32) (fm : Int32) (what : Int32) (σ : bz_S) (c : Int32) : bz_run X bt_X11_strokes 4 (55, [some (.ref 32), some (.int fm), some (.int to), some (.int what), some (.int c), none], [.int c, .ref 44], σ) = some (vp_in c 45 ∧ True, (32, [some (.ref 32), some (.int fm), some (.int to), some (.int what), some (.int (c + 1)), none], [], ((bz_up σ.1 44 c.toNatClampNeg (-6)), σ.2))) := rfl
set_option maxRecDepth 100000 in
theorem lp_st1_blk4 {X : bz_X} (to : Int32) (fm : Int32) (what : Int32) (σ : bz_S) (c : Int32) : bz_run X bt_X11_strokes 5 (51, [some (.ref 32), some (.int fm), some (.int to), some (.int what), some (.int c), none], [.int c, .ref 44], σ) = some (vp_in c 45 ∧ True, (32, [some (.ref 32), some (.int fm), some (.int to), some (.int what), some (.int (c + 1)), none], [], ((bz_up σ.1 44 c.toNatClampNeg 0), σ.2))) := rfl
set_option maxRecDepth 100000 in
theorem s_lp_st1 {X : bz_X} (to : Int32) {Q : bz_Q} (fm what : Int32) : ∀ (n : Nat) (σ : bz_S) (c : Int32) (j9 : Nat) (hi : c = nI j9) (hj : j9 + n = 45) (kk : bz_wp bz_P X mX11_strokes Q (64, [some (.ref 32), some (.int fm), some (.int to), some (.int what), none, none], [], (lp_st1 to n σ c))), bz_wp bz_P X mX11_strokes (Q) (32, [some (.ref 32), some (.int fm), some (.int to), some (.int what), some (.int c), none], [], σ) := by
  intro n
  induction n with
  | zero =>
    intro σ c j9 hi hj kk
    refine bz_wpb bT_X11_strokes 3 (b1 := (64, [some (.ref 32), some (.int fm), some (.int to), some (.int what), some (.int c), none], [], σ)) (b2 := (39, [some (.ref 32), some (.int fm), some (.int to), some (.int what), some (.int c), none], [], σ)) (C := 45 ≤ c) (G := True) (lp_st10_blk1 to fm what σ c) trivial (fun _ => ?_) (fun z => absurd (show (45 : Int32) ≤ c from by rw [hi, show j9 = 45 from by omega]; decide) z)
    have e9 : lp_st1 to 0 σ c = σ := by rw [lp_st1]
    rw [e9] at kk
    refine bz_wpw (by exact ⟨rfl, rfl, rfl, rfl, trivial⟩) kk
  | succ n ih =>
    intro σ c j9 hi hj kk
    refine bz_wpb bT_X11_strokes 3 (b1 := (64, [some (.ref 32), some (.int fm), some (.int to), some (.int what), some (.int c), none], [], σ)) (b2 := (39, [some (.ref 32), some (.int fm), some (.int to), some (.int what), some (.int c), none], [], σ)) (C := 45 ≤ c) (G := True) (lp_st1_blk1 to fm what σ c) trivial (fun z => absurd z (show ¬ (45 : Int32) ≤ c from by rw [hi]; exact nI_ge (b := 45) (by omega) (by decide))) (fun _ => ?_)
    refine bz_wpb bT_X11_strokes 6 (b1 := (55, [some (.ref 32), some (.int fm), some (.int to), some (.int what), some (.int c), none], [.int c, .ref 44], σ)) (b2 := (51, [some (.ref 32), some (.int fm), some (.int to), some (.int what), some (.int c), none], [.int c, .ref 44], σ)) (C := ¬ c = to) (G := True) (lp_st1_blk2 to fm what σ c) trivial (fun h1 => ?_) (fun h1 => ?_)
    · skip
      refine bz_wpn bT_X11_strokes 4 (b := (32, [some (.ref 32), some (.int fm), some (.int to), some (.int what), some (.int (c + 1)), none], [], ((bz_up σ.1 44 c.toNatClampNeg (-6)), σ.2))) (G := vp_in c 45 ∧ True) (lp_st1_blk3 to fm what σ c) ⟨(by rw [hi]; exact vp_in_nI (by omega) (by decide)), trivial⟩ ?_
      have e9 : lp_st1 to (n + 1) σ c = (lp_st1 to n ((bz_up σ.1 44 c.toNatClampNeg (-6)), σ.2) (c + 1)) := by rw [lp_st1, if_neg (h1)]
      rw [e9] at kk
      exact ih ((bz_up σ.1 44 c.toNatClampNeg (-6)), σ.2) (c + 1) (j9 + 1) (by rw [hi]; exact nI_1 j9) (by omega) kk
    · skip
      refine bz_wpn bT_X11_strokes 5 (b := (32, [some (.ref 32), some (.int fm), some (.int to), some (.int what), some (.int (c + 1)), none], [], ((bz_up σ.1 44 c.toNatClampNeg 0), σ.2))) (G := vp_in c 45 ∧ True) (lp_st1_blk4 to fm what σ c) ⟨(by rw [hi]; exact vp_in_nI (by omega) (by decide)), trivial⟩ ?_
      have e9 : lp_st1 to (n + 1) σ c = (lp_st1 to n ((bz_up σ.1 44 c.toNatClampNeg 0), σ.2) (c + 1)) := by rw [lp_st1, if_pos ((Decidable.not_not.mp h1))]
      rw [e9] at kk
      exact ih ((bz_up σ.1 44 c.toNatClampNeg 0), σ.2) (c + 1) (j9 + 1) (by rw [hi]; exact nI_1 j9) (by omega) kk
theorem rlp_st1 (to : Int32) : ∀ (n : Nat) (σ : bz_S) (c : Int32), bz_fr [44] σ (lp_st1 to n σ c) := by
  intro n
  induction n with
  | zero =>
    intro σ c
    rw [lp_st1]
    exact bz_fr_rf
  | succ n ihc =>
    intro σ c
    rw [lp_st1]
    exact (bz_ite (bz_fr_tr (τ := ((bz_up σ.1 44 c.toNatClampNeg 0), σ.2)) ⟨(bz_f1_up (bz_fr_rf).1 (by decide)), (bz_fr_rf).2⟩ (ihc ((bz_up σ.1 44 c.toNatClampNeg 0), σ.2) (c + 1))) (bz_fr_tr (τ := ((bz_up σ.1 44 c.toNatClampNeg (-6)), σ.2)) ⟨(bz_f1_up (bz_fr_rf).1 (by decide)), (bz_fr_rf).2⟩ (ihc ((bz_up σ.1 44 c.toNatClampNeg (-6)), σ.2) (c + 1))))
theorem qlp_st1 (to : Int32) : ∀ (n : Nat) (σ : bz_S) (c : Int32), bz_fo ([] : List Nat) σ (lp_st1 to n σ c) := by
  intro n
  induction n with
  | zero =>
    intro σ c
    rw [lp_st1]
    exact bz_fo_rf
  | succ n ihc =>
    intro σ c
    rw [lp_st1]
    exact (bz_ite (bz_fo_tr (τ := ((bz_up σ.1 44 c.toNatClampNeg 0), σ.2)) (bz_fo_no (f := _) bz_fo_rf (by decide)) (ihc ((bz_up σ.1 44 c.toNatClampNeg 0), σ.2) (c + 1))) (bz_fo_tr (τ := ((bz_up σ.1 44 c.toNatClampNeg (-6)), σ.2)) (bz_fo_no (f := _) bz_fo_rf (by decide)) (ihc ((bz_up σ.1 44 c.toNatClampNeg (-6)), σ.2) (c + 1))))

def lp_st2_a (rc : bz_S → Bool → Int32 → bz_S) (σ : bz_S) (mo : Bool) (mn : Int32) (τ1 : Bool × bz_S) : bz_S := (rc τ1.2 τ1.1 (mn + 1))
def lp_st2 : Nat → bz_S → Bool → Int32 → bz_S
  | 0, σ, mo, mn => σ
  | n + 1, σ, mo, mn => if mo = true then (lp_st2_a (lp_st2 n) σ mo mn (f_X11_findFar_32 σ mn)) else σ
set_option maxRecDepth 100000 in
theorem lp_st20_blk1 {X : bz_X} (fm : Int32) (to : Int32) (what : Int32) (σ : bz_S) (mo : Bool) (mn : Int32) : bz_run X bt_X11_strokes 2 (70, [some (.ref 32), some (.int fm), some (.int to), some (.int what), some (.int (bz_b (mo))), some (.int mn)], [], σ) = some (True, if bz_b (mo) = 0 then (89, [some (.ref 32), some (.int fm), some (.int to), some (.int what), some (.int (bz_b (mo))), some (.int mn)], [], σ) else (75, [some (.ref 32), some (.int fm), some (.int to), some (.int what), some (.int (bz_b (mo))), some (.int mn)], [], σ)) := rfl
set_option maxRecDepth 100000 in
theorem lp_st2_blk1 {X : bz_X} (fm : Int32) (to : Int32) (what : Int32) (σ : bz_S) (mo : Bool) (mn : Int32) : bz_run X bt_X11_strokes 2 (70, [some (.ref 32), some (.int fm), some (.int to), some (.int what), some (.int (bz_b (mo))), some (.int mn)], [], σ) = some (True, if bz_b (mo) = 0 then (89, [some (.ref 32), some (.int fm), some (.int to), some (.int what), some (.int (bz_b (mo))), some (.int mn)], [], σ) else (75, [some (.ref 32), some (.int fm), some (.int to), some (.int what), some (.int (bz_b (mo))), some (.int mn)], [], σ)) := rfl
set_option maxRecDepth 100000 in
theorem lp_st2_blk2 {X : bz_X} (fm : Int32) (to : Int32) (what : Int32) (σ : bz_S) (mo : Bool) (mn : Int32) : bz_run X bt_X11_strokes 2 (75, [some (.ref 32), some (.int fm), some (.int to), some (.int what), some (.int (bz_b (mo))), some (.int mn)], [], σ) = some (True, (78, [some (.ref 32), some (.int fm), some (.int to), some (.int what), some (.int (bz_b (mo))), some (.int mn)], [.int mn, .ref 32], σ)) := rfl
set_option maxRecDepth 100000 in
theorem lp_st2_blk3 {X : bz_X} (fm : Int32) (to : Int32) (what : Int32) (σ : bz_S) (mo : Bool) (mn : Int32) (τ1 : Bool × bz_S) : bz_run X bt_X11_strokes 3 (81, [some (.ref 32), some (.int fm), some (.int to), some (.int what), some (.int (bz_b (mo))), some (.int mn)], [.int (bz_b (τ1.1))], τ1.2) = some (True, (70, [some (.ref 32), some (.int fm), some (.int to), some (.int what), some (.int (bz_b (τ1.1))), some (.int (mn + 1))], [], τ1.2)) := rfl
set_option maxRecDepth 100000 in
theorem s_lp_st2 {X : bz_X} {Q : bz_Q} (fm to what : Int32) : ∀ (n : Nat) (σ : bz_S) (mo : Bool) (mn : Int32) (j9 : Nat) (hi : mn = nI j9) (hj : j9 + n = 47) (hm : mo = true → bz_cnt (σ.1 44) 45 + 1 ≤ n) (kk : bz_wp bz_P X mX11_strokes Q (89, [some (.ref 32), some (.int fm), some (.int to), some (.int what), none, none], [], (lp_st2 n σ mo mn))), bz_wp bz_P X mX11_strokes (Q) (70, [some (.ref 32), some (.int fm), some (.int to), some (.int what), some (.int (bz_b (mo))), some (.int mn)], [], σ) := by
  intro n
  induction n with
  | zero =>
    intro σ mo mn j9 hi hj hm kk
    refine bz_wpb bT_X11_strokes 2 (b1 := (89, [some (.ref 32), some (.int fm), some (.int to), some (.int what), some (.int (bz_b (mo))), some (.int mn)], [], σ)) (b2 := (75, [some (.ref 32), some (.int fm), some (.int to), some (.int what), some (.int (bz_b (mo))), some (.int mn)], [], σ)) (C := bz_b (mo) = 0) (G := True) (lp_st20_blk1 fm to what σ mo mn) trivial (fun _ => ?_) (fun z => absurd (show bz_b (mo) = 0 from by rw [show mo = false from Bool.eq_false_iff.mpr (fun q => absurd (hm q) (by omega))]; rfl) z)
    have e9 : lp_st2 0 σ mo mn = σ := by rw [lp_st2]
    rw [e9] at kk
    refine bz_wpw (by exact ⟨rfl, rfl, rfl, rfl, trivial⟩) kk
  | succ n ih =>
    intro σ mo mn j9 hi hj hm kk
    refine bz_wpb bT_X11_strokes 2 (b1 := (89, [some (.ref 32), some (.int fm), some (.int to), some (.int what), some (.int (bz_b (mo))), some (.int mn)], [], σ)) (b2 := (75, [some (.ref 32), some (.int fm), some (.int to), some (.int what), some (.int (bz_b (mo))), some (.int mn)], [], σ)) (C := bz_b (mo) = 0) (G := True) (lp_st2_blk1 fm to what σ mo mn) trivial (fun h1 => ?_) (fun h1 => ?_)
    · skip
      have h1 := bz_b0 h1
      have e9 : lp_st2 (n + 1) σ mo mn = σ := by rw [lp_st2, if_neg (bz_ff h1)]
      rw [e9] at kk
      refine bz_wpw (by exact ⟨rfl, rfl, rfl, rfl, trivial⟩) kk
    · skip
      have h1 := bz_b1 h1
      refine bz_wpn bT_X11_strokes 2 (b := (78, [some (.ref 32), some (.int fm), some (.int to), some (.int what), some (.int (bz_b (mo))), some (.int mn)], [.int mn, .ref 32], σ)) (G := True) (lp_st2_blk2 fm to what σ mo mn) trivial ?_
      refine bz_wci bT_X11_strokes [.ref 32, .int mn] (pc' := 81) (rest := []) rfl rfl (Nat.le_of_ble_eq_true rfl) rfl (Nat.le_of_ble_eq_true rfl) rfl (s_X11_findFar_32 σ mn) rfl ?_
      generalize hτ1 : f_X11_findFar_32 σ mn = τ1
      refine bz_wpn bT_X11_strokes 3 (b := (70, [some (.ref 32), some (.int fm), some (.int to), some (.int what), some (.int (bz_b (τ1.1))), some (.int (mn + 1))], [], τ1.2)) (G := True) (lp_st2_blk3 fm to what σ mo mn τ1) trivial ?_
      have e9 : lp_st2 (n + 1) σ mo mn = (lp_st2 n τ1.2 τ1.1 (mn + 1)) := by rw [lp_st2, if_pos (h1), hτ1, lp_st2_a]
      rw [e9] at kk
      exact ih τ1.2 τ1.1 (mn + 1) (j9 + 1) (by rw [hi]; exact nI_1 j9) (by omega) (fun q => by have h8 := m_ff_cnt hτ1 (by rw [hi]; exact nI_pos (by omega)) q; have h9 := hm (by assumption); omega) kk
theorem rlp_st2_a (rc : bz_S → Bool → Int32 → bz_S) (σ : bz_S) (mo : Bool) (mn : Int32) (τ1 : Bool × bz_S) (ihc : ∀ (σ : bz_S) (mo : Bool) (mn : Int32), bz_fr [44] σ (rc σ mo mn)) (fτ1 : bz_fr [44] σ τ1.2) : bz_fr [44] σ (lp_st2_a rc σ mo mn τ1) := by
  unfold lp_st2_a
  exact (bz_fr_tr (τ := τ1.2) fτ1 (ihc τ1.2 τ1.1 (mn + 1)))
theorem rlp_st2 : ∀ (n : Nat) (σ : bz_S) (mo : Bool) (mn : Int32), bz_fr [44] σ (lp_st2 n σ mo mn) := by
  intro n
  induction n with
  | zero =>
    intro σ mo mn
    rw [lp_st2]
    exact bz_fr_rf
  | succ n ihc =>
    intro σ mo mn
    rw [lp_st2]
    exact (bz_ite (rlp_st2_a (lp_st2 n) σ mo mn (f_X11_findFar_32 σ mn) ihc (bz_fr_mo (rf_X11_findFar_32 σ mn) (by decide))) bz_fr_rf)
theorem qlp_st2_a (rc : bz_S → Bool → Int32 → bz_S) (σ : bz_S) (mo : Bool) (mn : Int32) (τ1 : Bool × bz_S) (ihc : ∀ (σ : bz_S) (mo : Bool) (mn : Int32), bz_fo ([] : List Nat) σ (rc σ mo mn)) (fτ1 : bz_fo ([] : List Nat) σ τ1.2) : bz_fo ([] : List Nat) σ (lp_st2_a rc σ mo mn τ1) := by
  unfold lp_st2_a
  exact (bz_fo_tr (τ := τ1.2) fτ1 (ihc τ1.2 τ1.1 (mn + 1)))
theorem qlp_st2 : ∀ (n : Nat) (σ : bz_S) (mo : Bool) (mn : Int32), bz_fo ([] : List Nat) σ (lp_st2 n σ mo mn) := by
  intro n
  induction n with
  | zero =>
    intro σ mo mn
    rw [lp_st2]
    exact bz_fo_rf
  | succ n ihc =>
    intro σ mo mn
    rw [lp_st2]
    exact (bz_ite (qlp_st2_a (lp_st2 n) σ mo mn (f_X11_findFar_32 σ mn) ihc (bz_fo_mo (qf_X11_findFar_32 σ mn) (by decide))) bz_fo_rf)

def f_X11_strokes_32_b (σ : bz_S) (fm : Int32) (to : Int32) (what : Int32) (τ1 : bz_S) (τ2 : bz_S) : Int32 × bz_S := if what = 0 then ((τ2.1 44 fm.toNatClampNeg), τ2) else (if 1 ≤ (τ2.1 44 fm.toNatClampNeg) then ((f_X11_wayTo_32 τ2 fm ((τ2.1 44 fm.toNatClampNeg) - 1)), τ2) else ((-6), τ2))
def f_X11_strokes_32_a (σ : bz_S) (fm : Int32) (to : Int32) (what : Int32) (τ1 : bz_S) : Int32 × bz_S := (f_X11_strokes_32_b σ fm to what τ1 ((lp_st2 (bz_k 46) τ1 true 1)))
def f_X11_strokes_32 (σ : bz_S) (fm : Int32) (to : Int32) (what : Int32) : Int32 × bz_S := if f_X11_isPlace fm = true then if f_X11_isPlace to = true then if f_X11_in (Int32.toInt64 what) 0 1 = true then (f_X11_strokes_32_a σ fm to what ((lp_st1 to (bz_k 45) σ 0))) else ((-2), σ) else ((-1), σ) else ((-1), σ)
set_option maxRecDepth 100000 in
theorem f_X11_strokes_32_blk1 {X : bz_X} (σ : bz_S) (fm : Int32) (to : Int32) (what : Int32) : bz_run X bt_X11_strokes 1 (0, [some (.ref 32), some (.int fm), some (.int to), some (.int what), none, none], [], σ) = some (True, (1, [some (.ref 32), some (.int fm), some (.int to), some (.int what), none, none], [.int fm], σ)) := rfl
set_option maxRecDepth 100000 in
theorem f_X11_strokes_32_blk2 {X : bz_X} (σ : bz_S) (fm : Int32) (to : Int32) (what : Int32) : bz_run X bt_X11_strokes 1 (4, [some (.ref 32), some (.int fm), some (.int to), some (.int what), none, none], [.int (bz_b (f_X11_isPlace fm))], σ) = some (True, if bz_b (f_X11_isPlace fm) = 0 then (14, [some (.ref 32), some (.int fm), some (.int to), some (.int what), none, none], [], σ) else (7, [some (.ref 32), some (.int fm), some (.int to), some (.int what), none, none], [], σ)) := rfl
set_option maxRecDepth 100000 in
theorem f_X11_strokes_32_blk3 {X : bz_X} (σ : bz_S) (fm : Int32) (to : Int32) (what : Int32) : bz_run X bt_X11_strokes 1 (14, [some (.ref 32), some (.int fm), some (.int to), some (.int what), none, none], [], σ) = some (True, (15, [some (.ref 32), some (.int fm), some (.int to), some (.int what), none, none], [.int (-1)], σ)) := rfl
set_option maxRecDepth 100000 in
theorem f_X11_strokes_32_blk4 {X : bz_X} (σ : bz_S) (fm : Int32) (to : Int32) (what : Int32) : bz_run X bt_X11_strokes 1 (7, [some (.ref 32), some (.int fm), some (.int to), some (.int what), none, none], [], σ) = some (True, (8, [some (.ref 32), some (.int fm), some (.int to), some (.int what), none, none], [.int to], σ)) := rfl
set_option maxRecDepth 100000 in
theorem f_X11_strokes_32_blk5 {X : bz_X} (σ : bz_S) (fm : Int32) (to : Int32) (what : Int32) : bz_run X bt_X11_strokes 1 (11, [some (.ref 32), some (.int fm), some (.int to), some (.int what), none, none], [.int (bz_b (f_X11_isPlace to))], σ) = some (True, if ¬ bz_b (f_X11_isPlace to) = 0 then (16, [some (.ref 32), some (.int fm), some (.int to), some (.int what), none, none], [], σ) else (14, [some (.ref 32), some (.int fm), some (.int to), some (.int what), none, none], [], σ)) := rfl
set_option maxRecDepth 100000 in
theorem f_X11_strokes_32_blk6 {X : bz_X} (σ : bz_S) (fm : Int32) (to : Int32) (what : Int32) : bz_run X bt_X11_strokes 4 (16, [some (.ref 32), some (.int fm), some (.int to), some (.int what), none, none], [], σ) = some (True, (20, [some (.ref 32), some (.int fm), some (.int to), some (.int what), none, none], [.long 1, .long 0, .long (Int32.toInt64 what)], σ)) := rfl
set_option maxRecDepth 100000 in
theorem f_X11_strokes_32_blk7 {X : bz_X} (σ : bz_S) (fm : Int32) (to : Int32) (what : Int32) : bz_run X bt_X11_strokes 1 (23, [some (.ref 32), some (.int fm), some (.int to), some (.int what), none, none], [.int (bz_b (f_X11_in (Int32.toInt64 what) 0 1))], σ) = some (True, if ¬ bz_b (f_X11_in (Int32.toInt64 what) 0 1) = 0 then (29, [some (.ref 32), some (.int fm), some (.int to), some (.int what), none, none], [], σ) else (26, [some (.ref 32), some (.int fm), some (.int to), some (.int what), none, none], [], σ)) := rfl
set_option maxRecDepth 100000 in
theorem f_X11_strokes_32_blk8 {X : bz_X} (σ : bz_S) (fm : Int32) (to : Int32) (what : Int32) : bz_run X bt_X11_strokes 2 (29, [some (.ref 32), some (.int fm), some (.int to), some (.int what), none, none], [], σ) = some (True, (32, [some (.ref 32), some (.int fm), some (.int to), some (.int what), some (.int 0), none], [], σ)) := rfl
set_option maxRecDepth 100000 in
theorem f_X11_strokes_32_blk9 {X : bz_X} (σ : bz_S) (fm : Int32) (to : Int32) (what : Int32) (τ1 : bz_S) : bz_run X bt_X11_strokes 4 (64, [some (.ref 32), some (.int fm), some (.int to), some (.int what), none, none], [], τ1) = some (True, (70, [some (.ref 32), some (.int fm), some (.int to), some (.int what), some (.int 1), some (.int 1)], [], τ1)) := rfl
set_option maxRecDepth 100000 in
theorem f_X11_strokes_32_blk10 {X : bz_X} (σ : bz_S) (fm : Int32) (to : Int32) (what : Int32) (τ1 : bz_S) (τ2 : bz_S) : bz_run X bt_X11_strokes 2 (89, [some (.ref 32), some (.int fm), some (.int to), some (.int what), none, none], [], τ2) = some (True, if ¬ what = 0 then (102, [some (.ref 32), some (.int fm), some (.int to), some (.int what), none, none], [], τ2) else (93, [some (.ref 32), some (.int fm), some (.int to), some (.int what), none, none], [], τ2)) := rfl
set_option maxRecDepth 100000 in
theorem f_X11_strokes_32_blk11 {X : bz_X} (σ : bz_S) (fm : Int32) (to : Int32) (what : Int32) (τ1 : bz_S) (τ2 : bz_S) : bz_run X bt_X11_strokes 6 (102, [some (.ref 32), some (.int fm), some (.int to), some (.int what), none, none], [], τ2) = some (vp_in fm 45 ∧ True, if 1 ≤ (τ2.1 44 fm.toNatClampNeg) then (117, [some (.ref 32), some (.int fm), some (.int to), some (.int what), none, none], [], τ2) else (112, [some (.ref 32), some (.int fm), some (.int to), some (.int what), none, none], [], τ2)) := rfl
set_option maxRecDepth 100000 in
theorem f_X11_strokes_32_blk12 {X : bz_X} (σ : bz_S) (fm : Int32) (to : Int32) (what : Int32) (τ1 : bz_S) (τ2 : bz_S) : bz_run X bt_X11_strokes 8 (117, [some (.ref 32), some (.int fm), some (.int to), some (.int what), none, none], [], τ2) = some (vp_in fm 45 ∧ True, (127, [some (.ref 32), some (.int fm), some (.int to), some (.int what), none, none], [.int ((τ2.1 44 fm.toNatClampNeg) - 1), .int fm, .ref 32], τ2)) := rfl
set_option maxRecDepth 100000 in
theorem f_X11_strokes_32_blk13 {X : bz_X} (σ : bz_S) (fm : Int32) (to : Int32) (what : Int32) (τ1 : bz_S) (τ2 : bz_S) : bz_run X bt_X11_strokes 2 (112, [some (.ref 32), some (.int fm), some (.int to), some (.int what), none, none], [], τ2) = some (True, (130, [some (.ref 32), some (.int fm), some (.int to), some (.int what), none, none], [.int (-6)], τ2)) := rfl
set_option maxRecDepth 100000 in
theorem f_X11_strokes_32_blk14 {X : bz_X} (σ : bz_S) (fm : Int32) (to : Int32) (what : Int32) (τ1 : bz_S) (τ2 : bz_S) : bz_run X bt_X11_strokes 5 (93, [some (.ref 32), some (.int fm), some (.int to), some (.int what), none, none], [], τ2) = some (vp_in fm 45 ∧ True, (130, [some (.ref 32), some (.int fm), some (.int to), some (.int what), none, none], [.int (τ2.1 44 fm.toNatClampNeg)], τ2)) := rfl
set_option maxRecDepth 100000 in
theorem f_X11_strokes_32_blk15 {X : bz_X} (σ : bz_S) (fm : Int32) (to : Int32) (what : Int32) : bz_run X bt_X11_strokes 1 (26, [some (.ref 32), some (.int fm), some (.int to), some (.int what), none, none], [], σ) = some (True, (28, [some (.ref 32), some (.int fm), some (.int to), some (.int what), none, none], [.int (-2)], σ)) := rfl
set_option maxRecDepth 100000 in
theorem f_X11_strokes_32_blk16 {X : bz_X} (σ : bz_S) (fm : Int32) (to : Int32) (what : Int32) : bz_run X bt_X11_strokes 1 (14, [some (.ref 32), some (.int fm), some (.int to), some (.int what), none, none], [], σ) = some (True, (15, [some (.ref 32), some (.int fm), some (.int to), some (.int what), none, none], [.int (-1)], σ)) := rfl
set_option maxRecDepth 100000 in
theorem s_X11_strokes_32 {X : bz_X} (σ : bz_S) (fm : Int32) (to : Int32) (what : Int32) : bz_C bz_P X mX11_strokes [.ref 32, .int fm, .int to, .int what] σ (bz_pi (f_X11_strokes_32 σ fm to what).1 (f_X11_strokes_32 σ fm to what).2) := by
  show bz_wp bz_P X mX11_strokes (bz_pi (f_X11_strokes_32 σ fm to what).1 (f_X11_strokes_32 σ fm to what).2) (0, [some (.ref 32), some (.int fm), some (.int to), some (.int what), none, none], [], σ)
  refine bz_wpn bT_X11_strokes 1 (b := (1, [some (.ref 32), some (.int fm), some (.int to), some (.int what), none, none], [.int fm], σ)) (G := True) (f_X11_strokes_32_blk1 σ fm to what) trivial ?_
  refine bz_wci bT_X11_strokes [.int fm] (pc' := 4) (rest := []) rfl rfl (Nat.le_of_ble_eq_true rfl) rfl (Nat.le_of_ble_eq_true rfl) rfl (s_X11_isPlace σ fm) rfl ?_
  refine bz_wpb bT_X11_strokes 1 (b1 := (14, [some (.ref 32), some (.int fm), some (.int to), some (.int what), none, none], [], σ)) (b2 := (7, [some (.ref 32), some (.int fm), some (.int to), some (.int what), none, none], [], σ)) (C := bz_b (f_X11_isPlace fm) = 0) (G := True) (f_X11_strokes_32_blk2 σ fm to what) trivial (fun h1 => ?_) (fun h1 => ?_)
  · skip
    have h1 := bz_b0 h1
    refine bz_wpn bT_X11_strokes 1 (b := (15, [some (.ref 32), some (.int fm), some (.int to), some (.int what), none, none], [.int (-1)], σ)) (G := True) (f_X11_strokes_32_blk3 σ fm to what) trivial ?_
    refine bz_wpr bT_X11_strokes rfl rfl trivial ?_
    have e9 : f_X11_strokes_32 σ fm to what = ((-1), σ) := by rw [f_X11_strokes_32, if_neg (bz_ff h1)]
    exact ⟨by rw [e9], by rw [e9]⟩
  · skip
    have h1 := bz_b1 h1
    refine bz_wpn bT_X11_strokes 1 (b := (8, [some (.ref 32), some (.int fm), some (.int to), some (.int what), none, none], [.int to], σ)) (G := True) (f_X11_strokes_32_blk4 σ fm to what) trivial ?_
    refine bz_wci bT_X11_strokes [.int to] (pc' := 11) (rest := []) rfl rfl (Nat.le_of_ble_eq_true rfl) rfl (Nat.le_of_ble_eq_true rfl) rfl (s_X11_isPlace σ to) rfl ?_
    refine bz_wpb bT_X11_strokes 1 (b1 := (16, [some (.ref 32), some (.int fm), some (.int to), some (.int what), none, none], [], σ)) (b2 := (14, [some (.ref 32), some (.int fm), some (.int to), some (.int what), none, none], [], σ)) (C := ¬ bz_b (f_X11_isPlace to) = 0) (G := True) (f_X11_strokes_32_blk5 σ fm to what) trivial (fun h2 => ?_) (fun h2 => ?_)
    · skip
      have h2 := bz_b1 h2
      refine bz_wpn bT_X11_strokes 4 (b := (20, [some (.ref 32), some (.int fm), some (.int to), some (.int what), none, none], [.long 1, .long 0, .long (Int32.toInt64 what)], σ)) (G := True) (f_X11_strokes_32_blk6 σ fm to what) trivial ?_
      refine bz_wci bT_X11_strokes [.long (Int32.toInt64 what), .long 0, .long 1] (pc' := 23) (rest := []) rfl rfl (Nat.le_of_ble_eq_true rfl) rfl (Nat.le_of_ble_eq_true rfl) rfl (s_X11_in σ (Int32.toInt64 what) 0 1) rfl ?_
      refine bz_wpb bT_X11_strokes 1 (b1 := (29, [some (.ref 32), some (.int fm), some (.int to), some (.int what), none, none], [], σ)) (b2 := (26, [some (.ref 32), some (.int fm), some (.int to), some (.int what), none, none], [], σ)) (C := ¬ bz_b (f_X11_in (Int32.toInt64 what) 0 1) = 0) (G := True) (f_X11_strokes_32_blk7 σ fm to what) trivial (fun h3 => ?_) (fun h3 => ?_)
      · skip
        have h3 := bz_b1 h3
        refine bz_wpn bT_X11_strokes 2 (b := (32, [some (.ref 32), some (.int fm), some (.int to), some (.int what), some (.int 0), none], [], σ)) (G := True) (f_X11_strokes_32_blk8 σ fm to what) trivial ?_
        refine s_lp_st1 to fm what (bz_k 45) σ 0 0 rfl (by rw [bz_k_eq]) ?_
        generalize hτ1 : (lp_st1 to (bz_k 45) σ 0) = τ1
        refine bz_wpn bT_X11_strokes 4 (b := (70, [some (.ref 32), some (.int fm), some (.int to), some (.int what), some (.int 1), some (.int 1)], [], τ1)) (G := True) (f_X11_strokes_32_blk9 σ fm to what τ1) trivial ?_
        refine s_lp_st2 fm to what (bz_k 46) τ1 true 1 1 rfl (by rw [bz_k_eq]) (fun _ => by rw [bz_k_eq]; exact Nat.succ_le_succ (bz_cnt_le _ 45)) ?_
        generalize hτ2 : (lp_st2 (bz_k 46) τ1 true 1) = τ2
        refine bz_wpb bT_X11_strokes 2 (b1 := (102, [some (.ref 32), some (.int fm), some (.int to), some (.int what), none, none], [], τ2)) (b2 := (93, [some (.ref 32), some (.int fm), some (.int to), some (.int what), none, none], [], τ2)) (C := ¬ what = 0) (G := True) (f_X11_strokes_32_blk10 σ fm to what τ1 τ2) trivial (fun h4 => ?_) (fun h4 => ?_)
        · skip
          refine bz_wpb bT_X11_strokes 6 (b1 := (117, [some (.ref 32), some (.int fm), some (.int to), some (.int what), none, none], [], τ2)) (b2 := (112, [some (.ref 32), some (.int fm), some (.int to), some (.int what), none, none], [], τ2)) (C := 1 ≤ (τ2.1 44 fm.toNatClampNeg)) (G := vp_in fm 45 ∧ True) (f_X11_strokes_32_blk11 σ fm to what τ1 τ2) ⟨(bz_plI (by assumption)), trivial⟩ (fun h5 => ?_) (fun h5 => ?_)
          · skip
            refine bz_wpn bT_X11_strokes 8 (b := (127, [some (.ref 32), some (.int fm), some (.int to), some (.int what), none, none], [.int ((τ2.1 44 fm.toNatClampNeg) - 1), .int fm, .ref 32], τ2)) (G := vp_in fm 45 ∧ True) (f_X11_strokes_32_blk12 σ fm to what τ1 τ2) ⟨(bz_plI (by assumption)), trivial⟩ ?_
            refine bz_wci bT_X11_strokes [.ref 32, .int fm, .int ((τ2.1 44 fm.toNatClampNeg) - 1)] (pc' := 130) (rest := []) rfl rfl (Nat.le_of_ble_eq_true rfl) rfl (Nat.le_of_ble_eq_true rfl) rfl (s_X11_wayTo_32 τ2 fm ((τ2.1 44 fm.toNatClampNeg) - 1) (bz_plc (by assumption))) rfl ?_
            refine bz_wpr bT_X11_strokes rfl rfl trivial ?_
            have e9 : f_X11_strokes_32 σ fm to what = ((f_X11_wayTo_32 τ2 fm ((τ2.1 44 fm.toNatClampNeg) - 1)), τ2) := by rw [f_X11_strokes_32, if_pos (h1), if_pos (h2), if_pos (h3), hτ1, f_X11_strokes_32_a, hτ2, f_X11_strokes_32_b, if_neg (h4), if_pos (h5)]
            exact ⟨by rw [e9], by rw [e9]⟩
          · skip
            refine bz_wpn bT_X11_strokes 2 (b := (130, [some (.ref 32), some (.int fm), some (.int to), some (.int what), none, none], [.int (-6)], τ2)) (G := True) (f_X11_strokes_32_blk13 σ fm to what τ1 τ2) trivial ?_
            refine bz_wpr bT_X11_strokes rfl rfl trivial ?_
            have e9 : f_X11_strokes_32 σ fm to what = ((-6), τ2) := by rw [f_X11_strokes_32, if_pos (h1), if_pos (h2), if_pos (h3), hτ1, f_X11_strokes_32_a, hτ2, f_X11_strokes_32_b, if_neg (h4), if_neg (h5)]
            exact ⟨by rw [e9], by rw [e9]⟩
        · skip
          refine bz_wpn bT_X11_strokes 5 (b := (130, [some (.ref 32), some (.int fm), some (.int to), some (.int what), none, none], [.int (τ2.1 44 fm.toNatClampNeg)], τ2)) (G := vp_in fm 45 ∧ True) (f_X11_strokes_32_blk14 σ fm to what τ1 τ2) ⟨(bz_plI (by assumption)), trivial⟩ ?_
          refine bz_wpr bT_X11_strokes rfl rfl trivial ?_
          have e9 : f_X11_strokes_32 σ fm to what = ((τ2.1 44 fm.toNatClampNeg), τ2) := by rw [f_X11_strokes_32, if_pos (h1), if_pos (h2), if_pos (h3), hτ1, f_X11_strokes_32_a, hτ2, f_X11_strokes_32_b, if_pos ((Decidable.not_not.mp h4))]
          exact ⟨by rw [e9], by rw [e9]⟩
      · skip
        have h3 := bz_b0 (Decidable.not_not.mp h3)
        refine bz_wpn bT_X11_strokes 1 (b := (28, [some (.ref 32), some (.int fm), some (.int to), some (.int what), none, none], [.int (-2)], σ)) (G := True) (f_X11_strokes_32_blk15 σ fm to what) trivial ?_
        refine bz_wpr bT_X11_strokes rfl rfl trivial ?_
        have e9 : f_X11_strokes_32 σ fm to what = ((-2), σ) := by rw [f_X11_strokes_32, if_pos (h1), if_pos (h2), if_neg (bz_ff h3)]
        exact ⟨by rw [e9], by rw [e9]⟩
    · skip
      have h2 := bz_b0 (Decidable.not_not.mp h2)
      refine bz_wpn bT_X11_strokes 1 (b := (15, [some (.ref 32), some (.int fm), some (.int to), some (.int what), none, none], [.int (-1)], σ)) (G := True) (f_X11_strokes_32_blk16 σ fm to what) trivial ?_
      refine bz_wpr bT_X11_strokes rfl rfl trivial ?_
      have e9 : f_X11_strokes_32 σ fm to what = ((-1), σ) := by rw [f_X11_strokes_32, if_pos (h1), if_neg (bz_ff h2)]
      exact ⟨by rw [e9], by rw [e9]⟩
theorem rf_X11_strokes_32_b (σ : bz_S) (fm : Int32) (to : Int32) (what : Int32) (τ1 : bz_S) (τ2 : bz_S) (fτ1 : bz_fr [44] σ τ1) (fτ2 : bz_fr [44] σ τ2) : bz_fr [44] σ (f_X11_strokes_32_b σ fm to what τ1 τ2).2 := by
  unfold f_X11_strokes_32_b
  exact (bz_ite2 fτ2 (bz_ite2 fτ2 fτ2))
theorem rf_X11_strokes_32_a (σ : bz_S) (fm : Int32) (to : Int32) (what : Int32) (τ1 : bz_S) (fτ1 : bz_fr [44] σ τ1) : bz_fr [44] σ (f_X11_strokes_32_a σ fm to what τ1).2 := by
  unfold f_X11_strokes_32_a
  exact (rf_X11_strokes_32_b σ fm to what τ1 ((lp_st2 (bz_k 46) τ1 true 1)) fτ1 (bz_fr_tr (τ := τ1) fτ1 (bz_fr_mo (rlp_st2 (bz_k 46) τ1 true 1) (by decide))))
theorem rf_X11_strokes_32 (σ : bz_S) (fm : Int32) (to : Int32) (what : Int32) : bz_fr [44] σ (f_X11_strokes_32 σ fm to what).2 := by
  unfold f_X11_strokes_32
  exact (bz_ite2 (bz_ite2 (bz_ite2 (rf_X11_strokes_32_a σ fm to what ((lp_st1 to (bz_k 45) σ 0)) (bz_fr_mo (rlp_st1 to (bz_k 45) σ 0) (by decide))) bz_fr_rf) bz_fr_rf) bz_fr_rf)
theorem qf_X11_strokes_32_b (σ : bz_S) (fm : Int32) (to : Int32) (what : Int32) (τ1 : bz_S) (τ2 : bz_S) (fτ1 : bz_fo ([] : List Nat) σ τ1) (fτ2 : bz_fo ([] : List Nat) σ τ2) : bz_fo ([] : List Nat) σ (f_X11_strokes_32_b σ fm to what τ1 τ2).2 := by
  unfold f_X11_strokes_32_b
  exact (bz_ite2 fτ2 (bz_ite2 fτ2 fτ2))
theorem qf_X11_strokes_32_a (σ : bz_S) (fm : Int32) (to : Int32) (what : Int32) (τ1 : bz_S) (fτ1 : bz_fo ([] : List Nat) σ τ1) : bz_fo ([] : List Nat) σ (f_X11_strokes_32_a σ fm to what τ1).2 := by
  unfold f_X11_strokes_32_a
  exact (qf_X11_strokes_32_b σ fm to what τ1 ((lp_st2 (bz_k 46) τ1 true 1)) fτ1 (bz_fo_tr (τ := τ1) fτ1 (bz_fo_mo (qlp_st2 (bz_k 46) τ1 true 1) (by decide))))
theorem qf_X11_strokes_32 (σ : bz_S) (fm : Int32) (to : Int32) (what : Int32) : bz_fo ([] : List Nat) σ (f_X11_strokes_32 σ fm to what).2 := by
  unfold f_X11_strokes_32
  exact (bz_ite2 (bz_ite2 (bz_ite2 (qf_X11_strokes_32_a σ fm to what ((lp_st1 to (bz_k 45) σ 0)) (bz_fo_mo (qlp_st1 to (bz_k 45) σ 0) (by decide))) bz_fo_rf) bz_fo_rf) bz_fo_rf)
