theorem bz_subN {a b : Nat} (h : b ≤ a) : nI a - nI b = nI (a - b) := by
  have e : nI a = nI (a - b) + nI b := by rw [nI_add]; congr 1; omega
  rw [e, Int32.add_sub_cancel]
def bz_18 (x : Int32) : Prop := ∃ M, 1 ≤ M ∧ M ≤ 8 ∧ x = nI M
theorem bz_18x {x : Int32} (h : bz_18 x) : ∃ N, N < 100 ∧ x = nI N := by
  obtain ⟨M, h1, h2, h3⟩ := h
  exact ⟨M, by omega, h3⟩
theorem bz_18a {x y : Int32} (hx : bz_18 x) (hy : bz_18 y) : ∃ N, N < 100 ∧ (x + y) - 1 = nI N := by
  obtain ⟨M, h1, h2, h3⟩ := hx
  obtain ⟨K, k1, k2, k3⟩ := hy
  refine ⟨M + K - 1, by omega, ?_⟩
  rw [h3, k3, nI_add]
  exact bz_subN (b := 1) (by omega)
theorem bz_18s {n a : Int32} (hn : f_X10_isWithin n 1 8 = true) (ha : f_X10_isWithin a 0 (n - 1) = true) : bz_18 (n - a) := by
  obtain ⟨h1, h2⟩ := bz_int (m := 1) (n := 8) (by decide) (by decide) hn
  have e1 : (n - 1).toInt = n.toInt - 1 := by
    have e : (1 : Int32).toInt = 1 := by decide
    rw [Int32.toInt_sub, e]
    exact Int.bmod_eq_of_le_mul_two (by omega) (by omega)
  obtain ⟨h3, h4⟩ := bz_int (m := 0) (by decide) e1 ha
  have e2 : (n - a).toInt = n.toInt - a.toInt := by
    rw [Int32.toInt_sub]
    exact Int.bmod_eq_of_le_mul_two (by omega) (by omega)
  refine ⟨(n.toInt - a.toInt).toNat, by omega, by omega, Int32.toInt_inj.mp ?_⟩
  rw [e2, nI_toInt (by omega)]
  omega
theorem bz_max1 (x : Int64) : ¬ f_J9_max_f86c9 1 x = 0 := by
  unfold f_J9_max_f86c9
  intro h
  split at h
  · rename_i h1
    subst h
    exact absurd h1 (by decide)
  · exact absurd h (by decide)

def lp_win (mi : Int32) (th : Int32) (t : Int32) : Nat → Int64 → Int32 → Int64
  | 0, su, y => su
  | n + 1, su, y => (lp_win mi th t n (su + ((((f_X2_choose ((mi - 1) + y) y) * (f_X2_power t mi)) * (f_X2_power (10 - t) y)) * (f_X2_power 10 ((th - 1) - y)))) (y + 1))
set_option maxRecDepth 100000 in
theorem s_lp_win {X : bz_X} (mi : Int32) (th : Int32) (t : Int32) (TH : Nat) (hT : th = nI TH) (hT1 : 1 ≤ TH) (hT2 : TH ≤ 8) (hm : bz_18 mi) : ∀ (n : Nat) (σ : bz_S) (su : Int64) (y : Int32) (j9 : Nat) (hi : y = nI j9) (hj : j9 + n = TH), bz_wp bz_P X mX2_winning (bz_pl (lp_win mi th t n su y) σ) (5, [some (.int mi), some (.int th), some (.int t), some (.long su), none, some (.int y)], [], σ) := by
  intro n
  induction n with
  | zero =>
    intro σ su y j9 hi hj
    refine bz_wpb bT_X2_winning 3 (b1 := (59, [some (.int mi), some (.int th), some (.int t), some (.long su), none, some (.int y)], [], σ)) (b2 := (11, [some (.int mi), some (.int th), some (.int t), some (.long su), none, some (.int y)], [], σ)) (C := th ≤ y) (G := True) rfl trivial (fun _ => ?_) (fun z => absurd (show th ≤ y from by rw [hi, hT]; exact nI_le (by omega) (by omega)) z)
    refine bz_wpn bT_X2_winning 1 (b := (60, [some (.int mi), some (.int th), some (.int t), some (.long su), none, some (.int y)], [.long su], σ)) (G := True) rfl trivial ?_
    refine bz_wpr bT_X2_winning rfl rfl trivial ?_
    have e9 : lp_win mi th t 0 su y = su := by rw [lp_win]
    exact ⟨by rw [e9], rfl⟩
  | succ n ih =>
    intro σ su y j9 hi hj
    refine bz_wpb bT_X2_winning 3 (b1 := (59, [some (.int mi), some (.int th), some (.int t), some (.long su), none, some (.int y)], [], σ)) (b2 := (11, [some (.int mi), some (.int th), some (.int t), some (.long su), none, some (.int y)], [], σ)) (C := th ≤ y) (G := True) rfl trivial (fun z => absurd z (show ¬ th ≤ y from by rw [hi, hT]; exact nI_ge (by omega) (by omega))) (fun _ => ?_)
    refine bz_wpn bT_X2_winning 7 (b := (20, [some (.int mi), some (.int th), some (.int t), some (.long su), none, some (.int y)], [.int y, .int ((mi - 1) + y), .long su], σ)) (G := True) rfl trivial ?_
    refine bz_wcl bT_X2_winning [.int ((mi - 1) + y), .int y] (pc' := 23) (rest := [.long su]) rfl rfl (Nat.le_of_ble_eq_true rfl) rfl (Nat.le_of_ble_eq_true rfl) rfl (s_X2_choose σ ((mi - 1) + y) y ⟨j9, by omega, hi⟩) rfl ?_
    refine bz_wpn bT_X2_winning 2 (b := (25, [some (.int mi), some (.int th), some (.int t), some (.long su), none, some (.int y)], [.int mi, .int t, .long (f_X2_choose ((mi - 1) + y) y), .long su], σ)) (G := True) rfl trivial ?_
    refine bz_wcl bT_X2_winning [.int t, .int mi] (pc' := 28) (rest := [.long (f_X2_choose ((mi - 1) + y) y), .long su]) rfl rfl (Nat.le_of_ble_eq_true rfl) rfl (Nat.le_of_ble_eq_true rfl) rfl (s_X2_power σ t mi (bz_18x hm)) rfl ?_
    refine bz_wpn bT_X2_winning 5 (b := (35, [some (.int mi), some (.int th), some (.int t), some (.long su), none, some (.int y)], [.int y, .int (10 - t), .long ((f_X2_choose ((mi - 1) + y) y) * (f_X2_power t mi)), .long su], σ)) (G := True) rfl trivial ?_
    refine bz_wcl bT_X2_winning [.int (10 - t), .int y] (pc' := 38) (rest := [.long ((f_X2_choose ((mi - 1) + y) y) * (f_X2_power t mi)), .long su]) rfl rfl (Nat.le_of_ble_eq_true rfl) rfl (Nat.le_of_ble_eq_true rfl) rfl (s_X2_power σ (10 - t) y ⟨j9, by omega, hi⟩) rfl ?_
    refine bz_wpn bT_X2_winning 7 (b := (47, [some (.int mi), some (.int th), some (.int t), some (.long su), none, some (.int y)], [.int ((th - 1) - y), .int 10, .long (((f_X2_choose ((mi - 1) + y) y) * (f_X2_power t mi)) * (f_X2_power (10 - t) y)), .long su], σ)) (G := True) rfl trivial ?_
    refine bz_wcl bT_X2_winning [.int 10, .int ((th - 1) - y)] (pc' := 50) (rest := [.long (((f_X2_choose ((mi - 1) + y) y) * (f_X2_power t mi)) * (f_X2_power (10 - t) y)), .long su]) rfl rfl (Nat.le_of_ble_eq_true rfl) rfl (Nat.le_of_ble_eq_true rfl) rfl (s_X2_power σ 10 ((th - 1) - y) ⟨TH - 1 - j9, by omega, by rw [hi, hT, show nI TH - 1 = nI (TH - 1) from bz_subN (b := 1) (by omega), bz_subN (by omega)]⟩) rfl ?_
    refine bz_wpn bT_X2_winning 5 (b := (5, [some (.int mi), some (.int th), some (.int t), some (.long (su + ((((f_X2_choose ((mi - 1) + y) y) * (f_X2_power t mi)) * (f_X2_power (10 - t) y)) * (f_X2_power 10 ((th - 1) - y))))), none, some (.int (y + 1))], [], σ)) (G := True) rfl trivial ?_
    have e9 : lp_win mi th t (n + 1) su y = (lp_win mi th t n (su + ((((f_X2_choose ((mi - 1) + y) y) * (f_X2_power t mi)) * (f_X2_power (10 - t) y)) * (f_X2_power 10 ((th - 1) - y)))) (y + 1)) := by rw [lp_win]
    rw [e9]
    exact ih σ (su + ((((f_X2_choose ((mi - 1) + y) y) * (f_X2_power t mi)) * (f_X2_power (10 - t) y)) * (f_X2_power 10 ((th - 1) - y)))) (y + 1) (j9 + 1) (by rw [hi]; exact nI_1 j9) (by omega)

def f_X2_winning (mi : Int32) (th : Int32) (t : Int32) : Int64 := lp_win mi th t th.toNatClampNeg 0 0
set_option maxRecDepth 100000 in
theorem s_X2_winning {X : bz_X} (σ : bz_S) (mi : Int32) (th : Int32) (t : Int32) (hm : bz_18 mi) (ht : bz_18 th) : bz_C bz_P X mX2_winning [.int mi, .int th, .int t] σ (bz_pl (f_X2_winning mi th t) σ) := by
  show bz_wp bz_P X mX2_winning (bz_pl (f_X2_winning mi th t) σ) (0, [some (.int mi), some (.int th), some (.int t), none, none, none], [], σ)
  refine bz_wpn bT_X2_winning 4 (b := (5, [some (.int mi), some (.int th), some (.int t), some (.long 0), none, some (.int 0)], [], σ)) (G := True) rfl trivial ?_
  have e9 : f_X2_winning mi th t = lp_win mi th t th.toNatClampNeg 0 0 := by rw [f_X2_winning]
  rw [e9]
  obtain ⟨TH, hT1, hT2, hT⟩ := ht
  exact s_lp_win mi th t TH hT hT1 hT2 hm _ σ 0 0 0 rfl (by rw [hT, nI_clamp (by omega)]; omega)

def lp_gm1 (mi : Int32) (th : Int32) (t : Int32) (x : Int32) : Nat → Int64 → Int32 → Int64
  | 0, su, y => su
  | n + 1, su, y => (lp_gm1 mi th t x n (su + ((((f_X2_choose (x + y) y) * (f_X2_power t x)) * (f_X2_power (10 - t) y)) * (f_X2_power 10 ((((mi + th) - 1) - x) - y)))) (y + 1))
set_option maxRecDepth 100000 in
theorem s_lp_gm1 {X : bz_X} (mi : Int32) (th : Int32) (t : Int32) (x : Int32) {Q : bz_Q} (TH : Nat) (hT : th = nI TH) (hT1 : 1 ≤ TH) (hT2 : TH ≤ 8) (MI : Nat) (hM : mi = nI MI) (hM1 : 1 ≤ MI) (hM2 : MI ≤ 8) (xn : Nat) (hxn : x = nI xn) (hx2 : xn < MI) : ∀ (n : Nat) (σ : bz_S) (su : Int64) (y : Int32) (j9 : Nat) (hi : y = nI j9) (hj : j9 + n = TH) (kk : bz_wp bz_P X mX2_games Q (73, [some (.int mi), some (.int th), some (.int t), some (.long (lp_gm1 mi th t x n su y)), none, some (.int x), none], [], σ)), bz_wp bz_P X mX2_games (Q) (14, [some (.int mi), some (.int th), some (.int t), some (.long su), none, some (.int x), some (.int y)], [], σ) := by
  intro n
  induction n with
  | zero =>
    intro σ su y j9 hi hj kk
    refine bz_wpb bT_X2_games 3 (b1 := (73, [some (.int mi), some (.int th), some (.int t), some (.long su), none, some (.int x), some (.int y)], [], σ)) (b2 := (20, [some (.int mi), some (.int th), some (.int t), some (.long su), none, some (.int x), some (.int y)], [], σ)) (C := th ≤ y) (G := True) rfl trivial (fun _ => ?_) (fun z => absurd (show th ≤ y from by rw [hi, hT]; exact nI_le (by omega) (by omega)) z)
    have e9 : lp_gm1 mi th t x 0 su y = su := by rw [lp_gm1]
    rw [e9] at kk
    refine bz_wpw (by exact ⟨rfl, rfl, rfl, rfl, rfl, trivial⟩) kk
  | succ n ih =>
    intro σ su y j9 hi hj kk
    refine bz_wpb bT_X2_games 3 (b1 := (73, [some (.int mi), some (.int th), some (.int t), some (.long su), none, some (.int x), some (.int y)], [], σ)) (b2 := (20, [some (.int mi), some (.int th), some (.int t), some (.long su), none, some (.int x), some (.int y)], [], σ)) (C := th ≤ y) (G := True) rfl trivial (fun z => absurd z (show ¬ th ≤ y from by rw [hi, hT]; exact nI_ge (by omega) (by omega))) (fun _ => ?_)
    refine bz_wpn bT_X2_games 5 (b := (28, [some (.int mi), some (.int th), some (.int t), some (.long su), none, some (.int x), some (.int y)], [.int y, .int (x + y), .long su], σ)) (G := True) rfl trivial ?_
    refine bz_wcl bT_X2_games [.int (x + y), .int y] (pc' := 31) (rest := [.long su]) rfl rfl (Nat.le_of_ble_eq_true rfl) rfl (Nat.le_of_ble_eq_true rfl) rfl (s_X2_choose σ (x + y) y ⟨j9, by omega, hi⟩) rfl ?_
    refine bz_wpn bT_X2_games 2 (b := (34, [some (.int mi), some (.int th), some (.int t), some (.long su), none, some (.int x), some (.int y)], [.int x, .int t, .long (f_X2_choose (x + y) y), .long su], σ)) (G := True) rfl trivial ?_
    refine bz_wcl bT_X2_games [.int t, .int x] (pc' := 37) (rest := [.long (f_X2_choose (x + y) y), .long su]) rfl rfl (Nat.le_of_ble_eq_true rfl) rfl (Nat.le_of_ble_eq_true rfl) rfl (s_X2_power σ t x ⟨xn, by omega, hxn⟩) rfl ?_
    refine bz_wpn bT_X2_games 5 (b := (44, [some (.int mi), some (.int th), some (.int t), some (.long su), none, some (.int x), some (.int y)], [.int y, .int (10 - t), .long ((f_X2_choose (x + y) y) * (f_X2_power t x)), .long su], σ)) (G := True) rfl trivial ?_
    refine bz_wcl bT_X2_games [.int (10 - t), .int y] (pc' := 47) (rest := [.long ((f_X2_choose (x + y) y) * (f_X2_power t x)), .long su]) rfl rfl (Nat.le_of_ble_eq_true rfl) rfl (Nat.le_of_ble_eq_true rfl) rfl (s_X2_power σ (10 - t) y ⟨j9, by omega, hi⟩) rfl ?_
    refine bz_wpn bT_X2_games 11 (b := (61, [some (.int mi), some (.int th), some (.int t), some (.long su), none, some (.int x), some (.int y)], [.int ((((mi + th) - 1) - x) - y), .int 10, .long (((f_X2_choose (x + y) y) * (f_X2_power t x)) * (f_X2_power (10 - t) y)), .long su], σ)) (G := True) rfl trivial ?_
    refine bz_wcl bT_X2_games [.int 10, .int ((((mi + th) - 1) - x) - y)] (pc' := 64) (rest := [.long (((f_X2_choose (x + y) y) * (f_X2_power t x)) * (f_X2_power (10 - t) y)), .long su]) rfl rfl (Nat.le_of_ble_eq_true rfl) rfl (Nat.le_of_ble_eq_true rfl) rfl (s_X2_power σ 10 ((((mi + th) - 1) - x) - y) ⟨MI + TH - 1 - xn - j9, by omega, by rw [hi, hT, hM, hxn, nI_add, show nI (MI + TH) - 1 = nI (MI + TH - 1) from bz_subN (b := 1) (by omega), bz_subN (by omega), bz_subN (by omega)]⟩) rfl ?_
    refine bz_wpn bT_X2_games 5 (b := (14, [some (.int mi), some (.int th), some (.int t), some (.long (su + ((((f_X2_choose (x + y) y) * (f_X2_power t x)) * (f_X2_power (10 - t) y)) * (f_X2_power 10 ((((mi + th) - 1) - x) - y))))), none, some (.int x), some (.int (y + 1))], [], σ)) (G := True) rfl trivial ?_
    have e9 : lp_gm1 mi th t x (n + 1) su y = (lp_gm1 mi th t x n (su + ((((f_X2_choose (x + y) y) * (f_X2_power t x)) * (f_X2_power (10 - t) y)) * (f_X2_power 10 ((((mi + th) - 1) - x) - y)))) (y + 1)) := by rw [lp_gm1]
    rw [e9] at kk
    exact ih σ (su + ((((f_X2_choose (x + y) y) * (f_X2_power t x)) * (f_X2_power (10 - t) y)) * (f_X2_power 10 ((((mi + th) - 1) - x) - y)))) (y + 1) (j9 + 1) (by rw [hi]; exact nI_1 j9) (by omega) kk

def lp_gm (mi : Int32) (th : Int32) (t : Int32) : Nat → Int64 → Int32 → Int64
  | 0, su, x => su
  | n + 1, su, x => (lp_gm mi th t n (lp_gm1 mi th t x th.toNatClampNeg su 0) (x + 1))
set_option maxRecDepth 100000 in
theorem s_lp_gm {X : bz_X} (mi : Int32) (th : Int32) (t : Int32) (TH : Nat) (hT : th = nI TH) (hT1 : 1 ≤ TH) (hT2 : TH ≤ 8) (MI : Nat) (hM : mi = nI MI) (hM1 : 1 ≤ MI) (hM2 : MI ≤ 8) : ∀ (n : Nat) (σ : bz_S) (su : Int64) (x : Int32) (j9 : Nat) (hi : x = nI j9) (hj : j9 + n = MI), bz_wp bz_P X mX2_games (bz_pl (lp_gm mi th t n su x) σ) (5, [some (.int mi), some (.int th), some (.int t), some (.long su), none, some (.int x), none], [], σ) := by
  intro n
  induction n with
  | zero =>
    intro σ su x j9 hi hj
    refine bz_wpb bT_X2_games 3 (b1 := (79, [some (.int mi), some (.int th), some (.int t), some (.long su), none, some (.int x), none], [], σ)) (b2 := (11, [some (.int mi), some (.int th), some (.int t), some (.long su), none, some (.int x), none], [], σ)) (C := mi ≤ x) (G := True) rfl trivial (fun _ => ?_) (fun z => absurd (show mi ≤ x from by rw [hi, hM]; exact nI_le (by omega) (by omega)) z)
    refine bz_wpn bT_X2_games 1 (b := (80, [some (.int mi), some (.int th), some (.int t), some (.long su), none, some (.int x), none], [.long su], σ)) (G := True) rfl trivial ?_
    refine bz_wpr bT_X2_games rfl rfl trivial ?_
    have e9 : lp_gm mi th t 0 su x = su := by rw [lp_gm]
    exact ⟨by rw [e9], rfl⟩
  | succ n ih =>
    intro σ su x j9 hi hj
    refine bz_wpb bT_X2_games 3 (b1 := (79, [some (.int mi), some (.int th), some (.int t), some (.long su), none, some (.int x), none], [], σ)) (b2 := (11, [some (.int mi), some (.int th), some (.int t), some (.long su), none, some (.int x), none], [], σ)) (C := mi ≤ x) (G := True) rfl trivial (fun z => absurd z (show ¬ mi ≤ x from by rw [hi, hM]; exact nI_ge (by omega) (by omega))) (fun _ => ?_)
    refine bz_wpn bT_X2_games 2 (b := (14, [some (.int mi), some (.int th), some (.int t), some (.long su), none, some (.int x), some (.int 0)], [], σ)) (G := True) rfl trivial ?_
    refine s_lp_gm1 mi th t x TH hT hT1 hT2 MI hM hM1 hM2 j9 hi (by omega) (th.toNatClampNeg) σ su 0 0 rfl (by rw [hT, nI_clamp (by omega)]; omega) ?_
    refine bz_wpn bT_X2_games 2 (b := (5, [some (.int mi), some (.int th), some (.int t), some (.long (lp_gm1 mi th t x th.toNatClampNeg su 0)), none, some (.int (x + 1)), none], [], σ)) (G := True) rfl trivial ?_
    have e9 : lp_gm mi th t (n + 1) su x = (lp_gm mi th t n (lp_gm1 mi th t x th.toNatClampNeg su 0) (x + 1)) := by rw [lp_gm]
    rw [e9]
    exact ih σ (lp_gm1 mi th t x th.toNatClampNeg su 0) (x + 1) (j9 + 1) (by rw [hi]; exact nI_1 j9) (by omega)

def f_X2_games (mi : Int32) (th : Int32) (t : Int32) : Int64 := lp_gm mi th t mi.toNatClampNeg 0 0
set_option maxRecDepth 100000 in
theorem s_X2_games {X : bz_X} (σ : bz_S) (mi : Int32) (th : Int32) (t : Int32) (hm : bz_18 mi) (ht : bz_18 th) : bz_C bz_P X mX2_games [.int mi, .int th, .int t] σ (bz_pl (f_X2_games mi th t) σ) := by
  show bz_wp bz_P X mX2_games (bz_pl (f_X2_games mi th t) σ) (0, [some (.int mi), some (.int th), some (.int t), none, none, none, none], [], σ)
  refine bz_wpn bT_X2_games 4 (b := (5, [some (.int mi), some (.int th), some (.int t), some (.long 0), none, some (.int 0), none], [], σ)) (G := True) rfl trivial ?_
  have e9 : f_X2_games mi th t = lp_gm mi th t mi.toNatClampNeg 0 0 := by rw [f_X2_games]
  rw [e9]
  obtain ⟨TH, hT1, hT2, hT⟩ := ht
  obtain ⟨MI, hM1, hM2, hM⟩ := hm
  exact s_lp_gm mi th t TH hT hT1 hT2 MI hM hM1 hM2 _ σ 0 0 0 rfl (by rw [hM, nI_clamp (by omega)]; omega)

def f_X10_match_0 (n : Int32) (t : Int32) (a : Int32) (b : Int32) (what : Int32) (part : Int32) : Int64 := if f_X10_isWithin n 1 8 = true then if f_X10_isWithin t 0 10 = true then if f_X10_isWithin a 0 (n - 1) = true then if f_X10_isWithin b 0 (n - 1) = true then if f_X10_isWithin what 0 1 = true then if f_X10_isWithin part 0 1 = true then if what = 0 then if part = 0 then ((f_X2_winning (n - a) (n - b) t) / (f_J9_max_f86c9 1 (f_X2_commonDivisor (f_X2_winning (n - a) (n - b) t) (f_X2_power 10 (((n - a) + (n - b)) - 1))))) else ((f_X2_power 10 (((n - a) + (n - b)) - 1)) / (f_J9_max_f86c9 1 (f_X2_commonDivisor (f_X2_winning (n - a) (n - b) t) (f_X2_power 10 (((n - a) + (n - b)) - 1))))) else (if part = 0 then ((f_X2_games (n - a) (n - b) t) / (f_J9_max_f86c9 1 (f_X2_commonDivisor (f_X2_games (n - a) (n - b) t) (f_X2_power 10 (((n - a) + (n - b)) - 1))))) else ((f_X2_power 10 (((n - a) + (n - b)) - 1)) / (f_J9_max_f86c9 1 (f_X2_commonDivisor (f_X2_games (n - a) (n - b) t) (f_X2_power 10 (((n - a) + (n - b)) - 1)))))) else (-1000000000000000002) else (-1000000000000000002) else (-1000000000000000002) else (-1000000000000000002) else (-1000000000000000002) else (-1000000000000000002)
set_option maxRecDepth 100000 in
theorem s_X10_match_0 {X : bz_X} (σ : bz_S) (n : Int32) (t : Int32) (a : Int32) (b : Int32) (what : Int32) (part : Int32) : bz_C bz_P X mX10_match [.ref 0, .int n, .int t, .int a, .int b, .int what, .int part] σ (bz_pl (f_X10_match_0 n t a b what part) σ) := by
  show bz_wp bz_P X mX10_match (bz_pl (f_X10_match_0 n t a b what part) σ) (0, [some (.ref 0), some (.int n), some (.int t), some (.int a), some (.int b), some (.int what), some (.int part), none, none, none, none, none, none, none, none, none], [], σ)
  refine bz_wpn bT_X10_match 3 (b := (4, [some (.ref 0), some (.int n), some (.int t), some (.int a), some (.int b), some (.int what), some (.int part), none, none, none, none, none, none, none, none, none], [.int 8, .int 1, .int n], σ)) (G := True) rfl trivial ?_
  refine bz_wci bT_X10_match [.int n, .int 1, .int 8] (pc' := 7) (rest := []) rfl rfl (Nat.le_of_ble_eq_true rfl) rfl (Nat.le_of_ble_eq_true rfl) rfl (s_X10_isWithin σ n 1 8) rfl ?_
  refine bz_wpb bT_X10_match 1 (b1 := (67, [some (.ref 0), some (.int n), some (.int t), some (.int a), some (.int b), some (.int what), some (.int part), none, none, none, none, none, none, none, none, none], [], σ)) (b2 := (10, [some (.ref 0), some (.int n), some (.int t), some (.int a), some (.int b), some (.int what), some (.int part), none, none, none, none, none, none, none, none, none], [], σ)) (C := bz_b (f_X10_isWithin n 1 8) = 0) (G := True) rfl trivial (fun h1 => ?_) (fun h1 => ?_)
  · skip
    have h1 := bz_b0 h1
    refine bz_wpb bT_X10_match 4 (b1 := (79, [some (.ref 0), some (.int n), some (.int t), some (.int a), some (.int b), some (.int what), some (.int part), some (.int 0), none, none, none, none, none, none, none, none], [], σ)) (b2 := (75, [some (.ref 0), some (.int n), some (.int t), some (.int a), some (.int b), some (.int what), some (.int part), some (.int 0), none, none, none, none, none, none, none, none], [], σ)) (C := ¬ (0 : Int32) = 0) (G := True) rfl trivial (fun z => absurd z (by decide)) (fun _ => ?_)
    refine bz_wpn bT_X10_match 1 (b := (78, [some (.ref 0), some (.int n), some (.int t), some (.int a), some (.int b), some (.int what), some (.int part), some (.int 0), none, none, none, none, none, none, none, none], [.long (-1000000000000000002)], σ)) (G := True) rfl trivial ?_
    refine bz_wpr bT_X10_match rfl rfl trivial ?_
    have e9 : f_X10_match_0 n t a b what part = (-1000000000000000002) := by rw [f_X10_match_0, if_neg (bz_ff h1)]
    exact ⟨by rw [e9], rfl⟩
  · skip
    have h1 := bz_b1 h1
    refine bz_wpn bT_X10_match 3 (b := (14, [some (.ref 0), some (.int n), some (.int t), some (.int a), some (.int b), some (.int what), some (.int part), none, none, none, none, none, none, none, none, none], [.int 10, .int 0, .int t], σ)) (G := True) rfl trivial ?_
    refine bz_wci bT_X10_match [.int t, .int 0, .int 10] (pc' := 17) (rest := []) rfl rfl (Nat.le_of_ble_eq_true rfl) rfl (Nat.le_of_ble_eq_true rfl) rfl (s_X10_isWithin σ t 0 10) rfl ?_
    refine bz_wpb bT_X10_match 1 (b1 := (67, [some (.ref 0), some (.int n), some (.int t), some (.int a), some (.int b), some (.int what), some (.int part), none, none, none, none, none, none, none, none, none], [], σ)) (b2 := (20, [some (.ref 0), some (.int n), some (.int t), some (.int a), some (.int b), some (.int what), some (.int part), none, none, none, none, none, none, none, none, none], [], σ)) (C := bz_b (f_X10_isWithin t 0 10) = 0) (G := True) rfl trivial (fun h2 => ?_) (fun h2 => ?_)
    · skip
      have h2 := bz_b0 h2
      refine bz_wpb bT_X10_match 4 (b1 := (79, [some (.ref 0), some (.int n), some (.int t), some (.int a), some (.int b), some (.int what), some (.int part), some (.int 0), none, none, none, none, none, none, none, none], [], σ)) (b2 := (75, [some (.ref 0), some (.int n), some (.int t), some (.int a), some (.int b), some (.int what), some (.int part), some (.int 0), none, none, none, none, none, none, none, none], [], σ)) (C := ¬ (0 : Int32) = 0) (G := True) rfl trivial (fun z => absurd z (by decide)) (fun _ => ?_)
      refine bz_wpn bT_X10_match 1 (b := (78, [some (.ref 0), some (.int n), some (.int t), some (.int a), some (.int b), some (.int what), some (.int part), some (.int 0), none, none, none, none, none, none, none, none], [.long (-1000000000000000002)], σ)) (G := True) rfl trivial ?_
      refine bz_wpr bT_X10_match rfl rfl trivial ?_
      have e9 : f_X10_match_0 n t a b what part = (-1000000000000000002) := by rw [f_X10_match_0, if_pos (h1), if_neg (bz_ff h2)]
      exact ⟨by rw [e9], rfl⟩
    · skip
      have h2 := bz_b1 h2
      refine bz_wpn bT_X10_match 5 (b := (25, [some (.ref 0), some (.int n), some (.int t), some (.int a), some (.int b), some (.int what), some (.int part), none, none, none, none, none, none, none, none, none], [.int (n - 1), .int 0, .int a], σ)) (G := True) rfl trivial ?_
      refine bz_wci bT_X10_match [.int a, .int 0, .int (n - 1)] (pc' := 28) (rest := []) rfl rfl (Nat.le_of_ble_eq_true rfl) rfl (Nat.le_of_ble_eq_true rfl) rfl (s_X10_isWithin σ a 0 (n - 1)) rfl ?_
      refine bz_wpb bT_X10_match 1 (b1 := (67, [some (.ref 0), some (.int n), some (.int t), some (.int a), some (.int b), some (.int what), some (.int part), none, none, none, none, none, none, none, none, none], [], σ)) (b2 := (31, [some (.ref 0), some (.int n), some (.int t), some (.int a), some (.int b), some (.int what), some (.int part), none, none, none, none, none, none, none, none, none], [], σ)) (C := bz_b (f_X10_isWithin a 0 (n - 1)) = 0) (G := True) rfl trivial (fun h3 => ?_) (fun h3 => ?_)
      · skip
        have h3 := bz_b0 h3
        refine bz_wpb bT_X10_match 4 (b1 := (79, [some (.ref 0), some (.int n), some (.int t), some (.int a), some (.int b), some (.int what), some (.int part), some (.int 0), none, none, none, none, none, none, none, none], [], σ)) (b2 := (75, [some (.ref 0), some (.int n), some (.int t), some (.int a), some (.int b), some (.int what), some (.int part), some (.int 0), none, none, none, none, none, none, none, none], [], σ)) (C := ¬ (0 : Int32) = 0) (G := True) rfl trivial (fun z => absurd z (by decide)) (fun _ => ?_)
        refine bz_wpn bT_X10_match 1 (b := (78, [some (.ref 0), some (.int n), some (.int t), some (.int a), some (.int b), some (.int what), some (.int part), some (.int 0), none, none, none, none, none, none, none, none], [.long (-1000000000000000002)], σ)) (G := True) rfl trivial ?_
        refine bz_wpr bT_X10_match rfl rfl trivial ?_
        have e9 : f_X10_match_0 n t a b what part = (-1000000000000000002) := by rw [f_X10_match_0, if_pos (h1), if_pos (h2), if_neg (bz_ff h3)]
        exact ⟨by rw [e9], rfl⟩
      · skip
        have h3 := bz_b1 h3
        refine bz_wpn bT_X10_match 5 (b := (37, [some (.ref 0), some (.int n), some (.int t), some (.int a), some (.int b), some (.int what), some (.int part), none, none, none, none, none, none, none, none, none], [.int (n - 1), .int 0, .int b], σ)) (G := True) rfl trivial ?_
        refine bz_wci bT_X10_match [.int b, .int 0, .int (n - 1)] (pc' := 40) (rest := []) rfl rfl (Nat.le_of_ble_eq_true rfl) rfl (Nat.le_of_ble_eq_true rfl) rfl (s_X10_isWithin σ b 0 (n - 1)) rfl ?_
        refine bz_wpb bT_X10_match 1 (b1 := (67, [some (.ref 0), some (.int n), some (.int t), some (.int a), some (.int b), some (.int what), some (.int part), none, none, none, none, none, none, none, none, none], [], σ)) (b2 := (43, [some (.ref 0), some (.int n), some (.int t), some (.int a), some (.int b), some (.int what), some (.int part), none, none, none, none, none, none, none, none, none], [], σ)) (C := bz_b (f_X10_isWithin b 0 (n - 1)) = 0) (G := True) rfl trivial (fun h4 => ?_) (fun h4 => ?_)
        · skip
          have h4 := bz_b0 h4
          refine bz_wpb bT_X10_match 4 (b1 := (79, [some (.ref 0), some (.int n), some (.int t), some (.int a), some (.int b), some (.int what), some (.int part), some (.int 0), none, none, none, none, none, none, none, none], [], σ)) (b2 := (75, [some (.ref 0), some (.int n), some (.int t), some (.int a), some (.int b), some (.int what), some (.int part), some (.int 0), none, none, none, none, none, none, none, none], [], σ)) (C := ¬ (0 : Int32) = 0) (G := True) rfl trivial (fun z => absurd z (by decide)) (fun _ => ?_)
          refine bz_wpn bT_X10_match 1 (b := (78, [some (.ref 0), some (.int n), some (.int t), some (.int a), some (.int b), some (.int what), some (.int part), some (.int 0), none, none, none, none, none, none, none, none], [.long (-1000000000000000002)], σ)) (G := True) rfl trivial ?_
          refine bz_wpr bT_X10_match rfl rfl trivial ?_
          have e9 : f_X10_match_0 n t a b what part = (-1000000000000000002) := by rw [f_X10_match_0, if_pos (h1), if_pos (h2), if_pos (h3), if_neg (bz_ff h4)]
          exact ⟨by rw [e9], rfl⟩
        · skip
          have h4 := bz_b1 h4
          refine bz_wpn bT_X10_match 3 (b := (47, [some (.ref 0), some (.int n), some (.int t), some (.int a), some (.int b), some (.int what), some (.int part), none, none, none, none, none, none, none, none, none], [.int 1, .int 0, .int what], σ)) (G := True) rfl trivial ?_
          refine bz_wci bT_X10_match [.int what, .int 0, .int 1] (pc' := 50) (rest := []) rfl rfl (Nat.le_of_ble_eq_true rfl) rfl (Nat.le_of_ble_eq_true rfl) rfl (s_X10_isWithin σ what 0 1) rfl ?_
          refine bz_wpb bT_X10_match 1 (b1 := (67, [some (.ref 0), some (.int n), some (.int t), some (.int a), some (.int b), some (.int what), some (.int part), none, none, none, none, none, none, none, none, none], [], σ)) (b2 := (53, [some (.ref 0), some (.int n), some (.int t), some (.int a), some (.int b), some (.int what), some (.int part), none, none, none, none, none, none, none, none, none], [], σ)) (C := bz_b (f_X10_isWithin what 0 1) = 0) (G := True) rfl trivial (fun h5 => ?_) (fun h5 => ?_)
          · skip
            have h5 := bz_b0 h5
            refine bz_wpb bT_X10_match 4 (b1 := (79, [some (.ref 0), some (.int n), some (.int t), some (.int a), some (.int b), some (.int what), some (.int part), some (.int 0), none, none, none, none, none, none, none, none], [], σ)) (b2 := (75, [some (.ref 0), some (.int n), some (.int t), some (.int a), some (.int b), some (.int what), some (.int part), some (.int 0), none, none, none, none, none, none, none, none], [], σ)) (C := ¬ (0 : Int32) = 0) (G := True) rfl trivial (fun z => absurd z (by decide)) (fun _ => ?_)
            refine bz_wpn bT_X10_match 1 (b := (78, [some (.ref 0), some (.int n), some (.int t), some (.int a), some (.int b), some (.int what), some (.int part), some (.int 0), none, none, none, none, none, none, none, none], [.long (-1000000000000000002)], σ)) (G := True) rfl trivial ?_
            refine bz_wpr bT_X10_match rfl rfl trivial ?_
            have e9 : f_X10_match_0 n t a b what part = (-1000000000000000002) := by rw [f_X10_match_0, if_pos (h1), if_pos (h2), if_pos (h3), if_pos (h4), if_neg (bz_ff h5)]
            exact ⟨by rw [e9], rfl⟩
          · skip
            have h5 := bz_b1 h5
            refine bz_wpn bT_X10_match 3 (b := (57, [some (.ref 0), some (.int n), some (.int t), some (.int a), some (.int b), some (.int what), some (.int part), none, none, none, none, none, none, none, none, none], [.int 1, .int 0, .int part], σ)) (G := True) rfl trivial ?_
            refine bz_wci bT_X10_match [.int part, .int 0, .int 1] (pc' := 60) (rest := []) rfl rfl (Nat.le_of_ble_eq_true rfl) rfl (Nat.le_of_ble_eq_true rfl) rfl (s_X10_isWithin σ part 0 1) rfl ?_
            refine bz_wpb bT_X10_match 1 (b1 := (67, [some (.ref 0), some (.int n), some (.int t), some (.int a), some (.int b), some (.int what), some (.int part), none, none, none, none, none, none, none, none, none], [], σ)) (b2 := (63, [some (.ref 0), some (.int n), some (.int t), some (.int a), some (.int b), some (.int what), some (.int part), none, none, none, none, none, none, none, none, none], [], σ)) (C := bz_b (f_X10_isWithin part 0 1) = 0) (G := True) rfl trivial (fun h6 => ?_) (fun h6 => ?_)
            · skip
              have h6 := bz_b0 h6
              refine bz_wpb bT_X10_match 4 (b1 := (79, [some (.ref 0), some (.int n), some (.int t), some (.int a), some (.int b), some (.int what), some (.int part), some (.int 0), none, none, none, none, none, none, none, none], [], σ)) (b2 := (75, [some (.ref 0), some (.int n), some (.int t), some (.int a), some (.int b), some (.int what), some (.int part), some (.int 0), none, none, none, none, none, none, none, none], [], σ)) (C := ¬ (0 : Int32) = 0) (G := True) rfl trivial (fun z => absurd z (by decide)) (fun _ => ?_)
              refine bz_wpn bT_X10_match 1 (b := (78, [some (.ref 0), some (.int n), some (.int t), some (.int a), some (.int b), some (.int what), some (.int part), some (.int 0), none, none, none, none, none, none, none, none], [.long (-1000000000000000002)], σ)) (G := True) rfl trivial ?_
              refine bz_wpr bT_X10_match rfl rfl trivial ?_
              have e9 : f_X10_match_0 n t a b what part = (-1000000000000000002) := by rw [f_X10_match_0, if_pos (h1), if_pos (h2), if_pos (h3), if_pos (h4), if_pos (h5), if_neg (bz_ff h6)]
              exact ⟨by rw [e9], rfl⟩
            · skip
              have h6 := bz_b1 h6
              refine bz_wpb bT_X10_match 5 (b1 := (79, [some (.ref 0), some (.int n), some (.int t), some (.int a), some (.int b), some (.int what), some (.int part), some (.int 1), none, none, none, none, none, none, none, none], [], σ)) (b2 := (75, [some (.ref 0), some (.int n), some (.int t), some (.int a), some (.int b), some (.int what), some (.int part), some (.int 1), none, none, none, none, none, none, none, none], [], σ)) (C := ¬ (1 : Int32) = 0) (G := True) rfl trivial (fun _ => ?_) (fun z => absurd (by decide) z)
              refine bz_wpn bT_X10_match 14 (b := (99, [some (.ref 0), some (.int n), some (.int t), some (.int a), some (.int b), some (.int what), some (.int part), some (.int 1), some (.int (n - a)), some (.int (n - b)), none, none, none, none, none, none], [.int (((n - a) + (n - b)) - 1), .int 10], σ)) (G := True) rfl trivial ?_
              refine bz_wcl bT_X10_match [.int 10, .int (((n - a) + (n - b)) - 1)] (pc' := 102) (rest := []) rfl rfl (Nat.le_of_ble_eq_true rfl) rfl (Nat.le_of_ble_eq_true rfl) rfl (s_X2_power σ 10 (((n - a) + (n - b)) - 1) (bz_18a (bz_18s h1 h3) (bz_18s h1 h4))) rfl ?_
              refine bz_wpb bT_X10_match 3 (b1 := (120, [some (.ref 0), some (.int n), some (.int t), some (.int a), some (.int b), some (.int what), some (.int part), some (.int 1), some (.int (n - a)), some (.int (n - b)), some (.long (f_X2_power 10 (((n - a) + (n - b)) - 1))), none, none, none, none, none], [], σ)) (b2 := (109, [some (.ref 0), some (.int n), some (.int t), some (.int a), some (.int b), some (.int what), some (.int part), some (.int 1), some (.int (n - a)), some (.int (n - b)), some (.long (f_X2_power 10 (((n - a) + (n - b)) - 1))), none, none, none, none, none], [], σ)) (C := ¬ what = 0) (G := True) rfl trivial (fun h7 => ?_) (fun h7 => ?_)
              · skip
                refine bz_wpn bT_X10_match 3 (b := (125, [some (.ref 0), some (.int n), some (.int t), some (.int a), some (.int b), some (.int what), some (.int part), some (.int 1), some (.int (n - a)), some (.int (n - b)), some (.long (f_X2_power 10 (((n - a) + (n - b)) - 1))), none, none, none, none, none], [.int t, .int (n - b), .int (n - a)], σ)) (G := True) rfl trivial ?_
                refine bz_wcl bT_X10_match [.int (n - a), .int (n - b), .int t] (pc' := 128) (rest := []) rfl rfl (Nat.le_of_ble_eq_true rfl) rfl (Nat.le_of_ble_eq_true rfl) rfl (s_X2_games σ (n - a) (n - b) t (bz_18s h1 h3) (bz_18s h1 h4)) rfl ?_
                refine bz_wpn bT_X10_match 4 (b := (135, [some (.ref 0), some (.int n), some (.int t), some (.int a), some (.int b), some (.int what), some (.int part), some (.int 1), some (.int (n - a)), some (.int (n - b)), some (.long (f_X2_power 10 (((n - a) + (n - b)) - 1))), none, some (.long (f_X2_games (n - a) (n - b) t)), none, none, none], [.long (f_X2_power 10 (((n - a) + (n - b)) - 1)), .long (f_X2_games (n - a) (n - b) t), .long 1], σ)) (G := True) rfl trivial ?_
                refine bz_wcl bT_X10_match [.long (f_X2_games (n - a) (n - b) t), .long (f_X2_power 10 (((n - a) + (n - b)) - 1))] (pc' := 138) (rest := [.long 1]) rfl rfl (Nat.le_of_ble_eq_true rfl) rfl (Nat.le_of_ble_eq_true rfl) rfl (s_X2_commonDivisor σ (f_X2_games (n - a) (n - b) t) (f_X2_power 10 (((n - a) + (n - b)) - 1))) rfl ?_
                refine bz_wcl bT_X10_match [.long 1, .long (f_X2_commonDivisor (f_X2_games (n - a) (n - b) t) (f_X2_power 10 (((n - a) + (n - b)) - 1)))] (pc' := 141) (rest := []) rfl rfl (Nat.le_of_ble_eq_true rfl) rfl (Nat.le_of_ble_eq_true rfl) rfl (s_J9_max_f86c9 σ 1 (f_X2_commonDivisor (f_X2_games (n - a) (n - b) t) (f_X2_power 10 (((n - a) + (n - b)) - 1)))) rfl ?_
                refine bz_wpb bT_X10_match 3 (b1 := (156, [some (.ref 0), some (.int n), some (.int t), some (.int a), some (.int b), some (.int what), some (.int part), some (.int 1), some (.int (n - a)), some (.int (n - b)), some (.long (f_X2_power 10 (((n - a) + (n - b)) - 1))), none, some (.long (f_X2_games (n - a) (n - b) t)), none, some (.long (f_J9_max_f86c9 1 (f_X2_commonDivisor (f_X2_games (n - a) (n - b) t) (f_X2_power 10 (((n - a) + (n - b)) - 1))))), none], [], σ)) (b2 := (148, [some (.ref 0), some (.int n), some (.int t), some (.int a), some (.int b), some (.int what), some (.int part), some (.int 1), some (.int (n - a)), some (.int (n - b)), some (.long (f_X2_power 10 (((n - a) + (n - b)) - 1))), none, some (.long (f_X2_games (n - a) (n - b) t)), none, some (.long (f_J9_max_f86c9 1 (f_X2_commonDivisor (f_X2_games (n - a) (n - b) t) (f_X2_power 10 (((n - a) + (n - b)) - 1))))), none], [], σ)) (C := ¬ part = 0) (G := True) rfl trivial (fun h8 => ?_) (fun h8 => ?_)
                · skip
                  refine bz_wpn bT_X10_match 3 (b := (161, [some (.ref 0), some (.int n), some (.int t), some (.int a), some (.int b), some (.int what), some (.int part), some (.int 1), some (.int (n - a)), some (.int (n - b)), some (.long (f_X2_power 10 (((n - a) + (n - b)) - 1))), none, some (.long (f_X2_games (n - a) (n - b) t)), none, some (.long (f_J9_max_f86c9 1 (f_X2_commonDivisor (f_X2_games (n - a) (n - b) t) (f_X2_power 10 (((n - a) + (n - b)) - 1))))), none], [.long ((f_X2_power 10 (((n - a) + (n - b)) - 1)) / (f_J9_max_f86c9 1 (f_X2_commonDivisor (f_X2_games (n - a) (n - b) t) (f_X2_power 10 (((n - a) + (n - b)) - 1)))))], σ)) (G := ¬ (f_J9_max_f86c9 1 (f_X2_commonDivisor (f_X2_games (n - a) (n - b) t) (f_X2_power 10 (((n - a) + (n - b)) - 1)))) = 0 ∧ True) rfl ⟨(bz_max1 _), trivial⟩ ?_
                  refine bz_wpr bT_X10_match rfl rfl trivial ?_
                  have e9 : f_X10_match_0 n t a b what part = ((f_X2_power 10 (((n - a) + (n - b)) - 1)) / (f_J9_max_f86c9 1 (f_X2_commonDivisor (f_X2_games (n - a) (n - b) t) (f_X2_power 10 (((n - a) + (n - b)) - 1))))) := by rw [f_X10_match_0, if_pos (h1), if_pos (h2), if_pos (h3), if_pos (h4), if_pos (h5), if_pos (h6), if_neg (h7), if_neg (h8)]
                  exact ⟨by rw [e9], rfl⟩
                · skip
                  refine bz_wpn bT_X10_match 4 (b := (161, [some (.ref 0), some (.int n), some (.int t), some (.int a), some (.int b), some (.int what), some (.int part), some (.int 1), some (.int (n - a)), some (.int (n - b)), some (.long (f_X2_power 10 (((n - a) + (n - b)) - 1))), none, some (.long (f_X2_games (n - a) (n - b) t)), none, some (.long (f_J9_max_f86c9 1 (f_X2_commonDivisor (f_X2_games (n - a) (n - b) t) (f_X2_power 10 (((n - a) + (n - b)) - 1))))), none], [.long ((f_X2_games (n - a) (n - b) t) / (f_J9_max_f86c9 1 (f_X2_commonDivisor (f_X2_games (n - a) (n - b) t) (f_X2_power 10 (((n - a) + (n - b)) - 1)))))], σ)) (G := ¬ (f_J9_max_f86c9 1 (f_X2_commonDivisor (f_X2_games (n - a) (n - b) t) (f_X2_power 10 (((n - a) + (n - b)) - 1)))) = 0 ∧ True) rfl ⟨(bz_max1 _), trivial⟩ ?_
                  refine bz_wpr bT_X10_match rfl rfl trivial ?_
                  have e9 : f_X10_match_0 n t a b what part = ((f_X2_games (n - a) (n - b) t) / (f_J9_max_f86c9 1 (f_X2_commonDivisor (f_X2_games (n - a) (n - b) t) (f_X2_power 10 (((n - a) + (n - b)) - 1))))) := by rw [f_X10_match_0, if_pos (h1), if_pos (h2), if_pos (h3), if_pos (h4), if_pos (h5), if_pos (h6), if_neg (h7), if_pos ((Decidable.not_not.mp h8))]
                  exact ⟨by rw [e9], rfl⟩
              · skip
                refine bz_wpn bT_X10_match 3 (b := (114, [some (.ref 0), some (.int n), some (.int t), some (.int a), some (.int b), some (.int what), some (.int part), some (.int 1), some (.int (n - a)), some (.int (n - b)), some (.long (f_X2_power 10 (((n - a) + (n - b)) - 1))), none, none, none, none, none], [.int t, .int (n - b), .int (n - a)], σ)) (G := True) rfl trivial ?_
                refine bz_wcl bT_X10_match [.int (n - a), .int (n - b), .int t] (pc' := 117) (rest := []) rfl rfl (Nat.le_of_ble_eq_true rfl) rfl (Nat.le_of_ble_eq_true rfl) rfl (s_X2_winning σ (n - a) (n - b) t (bz_18s h1 h3) (bz_18s h1 h4)) rfl ?_
                refine bz_wpn bT_X10_match 5 (b := (135, [some (.ref 0), some (.int n), some (.int t), some (.int a), some (.int b), some (.int what), some (.int part), some (.int 1), some (.int (n - a)), some (.int (n - b)), some (.long (f_X2_power 10 (((n - a) + (n - b)) - 1))), none, some (.long (f_X2_winning (n - a) (n - b) t)), none, none, none], [.long (f_X2_power 10 (((n - a) + (n - b)) - 1)), .long (f_X2_winning (n - a) (n - b) t), .long 1], σ)) (G := True) rfl trivial ?_
                refine bz_wcl bT_X10_match [.long (f_X2_winning (n - a) (n - b) t), .long (f_X2_power 10 (((n - a) + (n - b)) - 1))] (pc' := 138) (rest := [.long 1]) rfl rfl (Nat.le_of_ble_eq_true rfl) rfl (Nat.le_of_ble_eq_true rfl) rfl (s_X2_commonDivisor σ (f_X2_winning (n - a) (n - b) t) (f_X2_power 10 (((n - a) + (n - b)) - 1))) rfl ?_
                refine bz_wcl bT_X10_match [.long 1, .long (f_X2_commonDivisor (f_X2_winning (n - a) (n - b) t) (f_X2_power 10 (((n - a) + (n - b)) - 1)))] (pc' := 141) (rest := []) rfl rfl (Nat.le_of_ble_eq_true rfl) rfl (Nat.le_of_ble_eq_true rfl) rfl (s_J9_max_f86c9 σ 1 (f_X2_commonDivisor (f_X2_winning (n - a) (n - b) t) (f_X2_power 10 (((n - a) + (n - b)) - 1)))) rfl ?_
                refine bz_wpb bT_X10_match 3 (b1 := (156, [some (.ref 0), some (.int n), some (.int t), some (.int a), some (.int b), some (.int what), some (.int part), some (.int 1), some (.int (n - a)), some (.int (n - b)), some (.long (f_X2_power 10 (((n - a) + (n - b)) - 1))), none, some (.long (f_X2_winning (n - a) (n - b) t)), none, some (.long (f_J9_max_f86c9 1 (f_X2_commonDivisor (f_X2_winning (n - a) (n - b) t) (f_X2_power 10 (((n - a) + (n - b)) - 1))))), none], [], σ)) (b2 := (148, [some (.ref 0), some (.int n), some (.int t), some (.int a), some (.int b), some (.int what), some (.int part), some (.int 1), some (.int (n - a)), some (.int (n - b)), some (.long (f_X2_power 10 (((n - a) + (n - b)) - 1))), none, some (.long (f_X2_winning (n - a) (n - b) t)), none, some (.long (f_J9_max_f86c9 1 (f_X2_commonDivisor (f_X2_winning (n - a) (n - b) t) (f_X2_power 10 (((n - a) + (n - b)) - 1))))), none], [], σ)) (C := ¬ part = 0) (G := True) rfl trivial (fun h9 => ?_) (fun h9 => ?_)
                · skip
                  refine bz_wpn bT_X10_match 3 (b := (161, [some (.ref 0), some (.int n), some (.int t), some (.int a), some (.int b), some (.int what), some (.int part), some (.int 1), some (.int (n - a)), some (.int (n - b)), some (.long (f_X2_power 10 (((n - a) + (n - b)) - 1))), none, some (.long (f_X2_winning (n - a) (n - b) t)), none, some (.long (f_J9_max_f86c9 1 (f_X2_commonDivisor (f_X2_winning (n - a) (n - b) t) (f_X2_power 10 (((n - a) + (n - b)) - 1))))), none], [.long ((f_X2_power 10 (((n - a) + (n - b)) - 1)) / (f_J9_max_f86c9 1 (f_X2_commonDivisor (f_X2_winning (n - a) (n - b) t) (f_X2_power 10 (((n - a) + (n - b)) - 1)))))], σ)) (G := ¬ (f_J9_max_f86c9 1 (f_X2_commonDivisor (f_X2_winning (n - a) (n - b) t) (f_X2_power 10 (((n - a) + (n - b)) - 1)))) = 0 ∧ True) rfl ⟨(bz_max1 _), trivial⟩ ?_
                  refine bz_wpr bT_X10_match rfl rfl trivial ?_
                  have e9 : f_X10_match_0 n t a b what part = ((f_X2_power 10 (((n - a) + (n - b)) - 1)) / (f_J9_max_f86c9 1 (f_X2_commonDivisor (f_X2_winning (n - a) (n - b) t) (f_X2_power 10 (((n - a) + (n - b)) - 1))))) := by rw [f_X10_match_0, if_pos (h1), if_pos (h2), if_pos (h3), if_pos (h4), if_pos (h5), if_pos (h6), if_pos ((Decidable.not_not.mp h7)), if_neg (h9)]
                  exact ⟨by rw [e9], rfl⟩
                · skip
                  refine bz_wpn bT_X10_match 4 (b := (161, [some (.ref 0), some (.int n), some (.int t), some (.int a), some (.int b), some (.int what), some (.int part), some (.int 1), some (.int (n - a)), some (.int (n - b)), some (.long (f_X2_power 10 (((n - a) + (n - b)) - 1))), none, some (.long (f_X2_winning (n - a) (n - b) t)), none, some (.long (f_J9_max_f86c9 1 (f_X2_commonDivisor (f_X2_winning (n - a) (n - b) t) (f_X2_power 10 (((n - a) + (n - b)) - 1))))), none], [.long ((f_X2_winning (n - a) (n - b) t) / (f_J9_max_f86c9 1 (f_X2_commonDivisor (f_X2_winning (n - a) (n - b) t) (f_X2_power 10 (((n - a) + (n - b)) - 1)))))], σ)) (G := ¬ (f_J9_max_f86c9 1 (f_X2_commonDivisor (f_X2_winning (n - a) (n - b) t) (f_X2_power 10 (((n - a) + (n - b)) - 1)))) = 0 ∧ True) rfl ⟨(bz_max1 _), trivial⟩ ?_
                  refine bz_wpr bT_X10_match rfl rfl trivial ?_
                  have e9 : f_X10_match_0 n t a b what part = ((f_X2_winning (n - a) (n - b) t) / (f_J9_max_f86c9 1 (f_X2_commonDivisor (f_X2_winning (n - a) (n - b) t) (f_X2_power 10 (((n - a) + (n - b)) - 1))))) := by rw [f_X10_match_0, if_pos (h1), if_pos (h2), if_pos (h3), if_pos (h4), if_pos (h5), if_pos (h6), if_pos ((Decidable.not_not.mp h7)), if_pos ((Decidable.not_not.mp h9))]
                  exact ⟨by rw [e9], rfl⟩

theorem bz_lcg {x : Int32} {k : Nat} (h : x = nI k) (hk : k < 65537) : ∃ j, j < 65537 ∧ ((75 * x) + 74) % 65537 = nI j := by
  refine ⟨(75 * k + 74) % 65537, Nat.mod_lt _ (by decide), ?_⟩
  rw [h]
  show (nI 75 * nI k + nI 74) % nI 65537 = _
  rw [show nI 75 * nI k = nI (75 * k) from (Int32.ofNat_mul 75 k).symm, nI_add]
  exact bz_modN (by omega) (by decide) (by decide)
theorem bz_m3 {x : Int32} (h : ∃ j, j < 65537 ∧ x = nI j) : vp_in (x % 3) 3 := by
  obtain ⟨j, hj, rfl⟩ := h
  show vp_in (nI j % nI 3) 3
  rw [bz_modN (by omega) (by decide) (by decide)]
  exact vp_in_nI (Nat.mod_lt _ (by decide)) (by decide)
theorem bz_f9 {x : Int32} (h : ∃ j, j < 65537 ∧ x = nI j) : ¬ 1 + ((x / 24) / 8) % 9 < 0 ∧ 1 + ((x / 24) / 8) % 9 < 100 := by
  obtain ⟨j, hj, rfl⟩ := h
  have e : 1 + ((nI j / 24) / 8) % 9 = nI (1 + j / 24 / 8 % 9) := by
    show nI 1 + ((nI j / nI 24) / nI 8) % nI 9 = _
    rw [bz_divN (by omega) (by decide) (by decide), bz_divN (by omega) (by decide) (by decide), bz_modN (by omega) (by decide) (by decide), nI_add]
  rw [e]
  have : j / 24 / 8 % 9 < 9 := Nat.mod_lt _ (by decide)
  exact ⟨nI_pos (by omega), nI_lt (b := 100) (by omega) (by decide)⟩

def lp_season_b (rc : bz_S → Int32 → Int32 → bz_S) (seed : Int32) (m : Int32) (σ : bz_S) (x : Int32) (ac : Int32) (τ2 : Int32 × bz_S) : bz_S := (rc τ2.2 (((75 * x) + 74) % 65537) (ac + 1))
def lp_season_a (rc : bz_S → Int32 → Int32 → bz_S) (seed : Int32) (m : Int32) (σ : bz_S) (x : Int32) (ac : Int32) (τ1 : Int32 × bz_S) : bz_S := (rc τ1.2 (((75 * x) + 74) % 65537) (ac + 1))
def lp_season (seed : Int32) (m : Int32) : Nat → bz_S → Int32 → Int32 → bz_S
  | 0, σ, x, ac => σ
  | n + 1, σ, x, ac => if 4 < (((((75 * x) + 74) % 65537) / 3) % 8) then (lp_season_a (lp_season seed m n) seed m σ x ac (f_X8_tryAct_8 σ ((((((75 * x) + 74) % 65537) / 3) % 8) - 4) ((((75 * x) + 74) % 65537) % 3) (((((75 * x) + 74) % 65537) / 24) % 8) (1 + ((((((75 * x) + 74) % 65537) / 24) / 8) % 9)))) else (lp_season_b (lp_season seed m n) seed m σ x ac (f_X8_tryAct_8 σ 0 ((((75 * x) + 74) % 65537) % 3) (((((75 * x) + 74) % 65537) / 24) % 8) (1 + ((((((75 * x) + 74) % 65537) / 24) / 8) % 9))))
set_option maxRecDepth 100000 in
theorem s_lp_season {X : bz_X} (seed : Int32) (m : Int32) (MM : Nat) (hM : m = nI MM) (hM2 : MM < 1000) : ∀ (n : Nat) (σ : bz_S) (x : Int32) (ac : Int32) (j9 : Nat) (hi : ac = nI j9) (hj : j9 + n = MM) (hx : ∃ j, j < 65537 ∧ x = nI j), bz_wp bz_P X mX8_runSeason (bz_pv (lp_season seed m n σ x ac)) (11, [some (.ref 8), some (.int seed), some (.int m), some (.ref 1), some (.int x), some (.int ac), none, none], [], σ) := by
  intro n
  induction n with
  | zero =>
    intro σ x ac j9 hi hj hx
    refine bz_wpb bT_X8_runSeason 3 (b1 := (90, [some (.ref 8), some (.int seed), some (.int m), some (.ref 1), some (.int x), some (.int ac), none, none], [], σ)) (b2 := (17, [some (.ref 8), some (.int seed), some (.int m), some (.ref 1), some (.int x), some (.int ac), none, none], [], σ)) (C := m ≤ ac) (G := True) rfl trivial (fun _ => ?_) (fun z => absurd (show m ≤ ac from by rw [hi, hM]; exact nI_le (by omega) (by omega)) z)
    refine bz_wpr bT_X8_runSeason rfl rfl trivial ?_
    have e9 : lp_season seed m 0 σ x ac = σ := by rw [lp_season]
    exact ⟨rfl, by rw [e9]⟩
  | succ n ih =>
    intro σ x ac j9 hi hj hx
    refine bz_wpb bT_X8_runSeason 3 (b1 := (90, [some (.ref 8), some (.int seed), some (.int m), some (.ref 1), some (.int x), some (.int ac), none, none], [], σ)) (b2 := (17, [some (.ref 8), some (.int seed), some (.int m), some (.ref 1), some (.int x), some (.int ac), none, none], [], σ)) (C := m ≤ ac) (G := True) rfl trivial (fun z => absurd z (show ¬ m ≤ ac from by rw [hi, hM]; exact nI_ge (by omega) (by omega))) (fun _ => ?_)
    refine bz_wpb bT_X8_runSeason 22 (b1 := (57, [some (.ref 8), some (.int seed), some (.int m), some (.ref 1), some (.int (((75 * x) + 74) % 65537)), some (.int ac), some (.int (((((75 * x) + 74) % 65537) / 3) % 8)), some (.int ((((75 * x) + 74) % 65537) / 24))], [.ref 8], σ)) (b2 := (53, [some (.ref 8), some (.int seed), some (.int m), some (.ref 1), some (.int (((75 * x) + 74) % 65537)), some (.int ac), some (.int (((((75 * x) + 74) % 65537) / 3) % 8)), some (.int ((((75 * x) + 74) % 65537) / 24))], [.ref 8], σ)) (C := 4 < (((((75 * x) + 74) % 65537) / 3) % 8)) (G := ¬ (65537 : Int32) = 0 ∧ ¬ (3 : Int32) = 0 ∧ ¬ (8 : Int32) = 0 ∧ ¬ (24 : Int32) = 0 ∧ True) rfl ⟨(by decide), (by decide), (by decide), (by decide), trivial⟩ (fun h1 => ?_) (fun h1 => ?_)
    · skip
      refine bz_wpn bT_X8_runSeason 16 (b := (80, [some (.ref 8), some (.int seed), some (.int m), some (.ref 1), some (.int (((75 * x) + 74) % 65537)), some (.int ac), some (.int (((((75 * x) + 74) % 65537) / 3) % 8)), some (.int ((((75 * x) + 74) % 65537) / 24))], [.int (1 + ((((((75 * x) + 74) % 65537) / 24) / 8) % 9)), .int (((((75 * x) + 74) % 65537) / 24) % 8), .int ((((75 * x) + 74) % 65537) % 3), .int ((((((75 * x) + 74) % 65537) / 3) % 8) - 4), .ref 8], σ)) (G := ¬ (3 : Int32) = 0 ∧ ¬ (8 : Int32) = 0 ∧ ¬ (8 : Int32) = 0 ∧ ¬ (9 : Int32) = 0 ∧ True) rfl ⟨(by decide), (by decide), (by decide), (by decide), trivial⟩ ?_
      refine bz_wci bT_X8_runSeason [.ref 8, .int ((((((75 * x) + 74) % 65537) / 3) % 8) - 4), .int ((((75 * x) + 74) % 65537) % 3), .int (((((75 * x) + 74) % 65537) / 24) % 8), .int (1 + ((((((75 * x) + 74) % 65537) / 24) / 8) % 9))] (pc' := 83) (rest := []) rfl rfl (Nat.le_of_ble_eq_true rfl) rfl (Nat.le_of_ble_eq_true rfl) rfl (s_X8_tryAct_8 σ ((((((75 * x) + 74) % 65537) / 3) % 8) - 4) ((((75 * x) + 74) % 65537) % 3) (((((75 * x) + 74) % 65537) / 24) % 8) (1 + ((((((75 * x) + 74) % 65537) / 24) / 8) % 9)) (fun _ => bz_m3 (by obtain ⟨q, hq, he⟩ := hx; exact bz_lcg he hq)) (fun _ => bz_f9 (by obtain ⟨q, hq, he⟩ := hx; exact bz_lcg he hq))) rfl ?_
      generalize hτ1 : f_X8_tryAct_8 σ ((((((75 * x) + 74) % 65537) / 3) % 8) - 4) ((((75 * x) + 74) % 65537) % 3) (((((75 * x) + 74) % 65537) / 24) % 8) (1 + ((((((75 * x) + 74) % 65537) / 24) / 8) % 9)) = τ1
      refine bz_wpn bT_X8_runSeason 3 (b := (11, [some (.ref 8), some (.int seed), some (.int m), some (.ref 1), some (.int (((75 * x) + 74) % 65537)), some (.int (ac + 1)), some (.int (((((75 * x) + 74) % 65537) / 3) % 8)), some (.int ((((75 * x) + 74) % 65537) / 24))], [], τ1.2)) (G := True) rfl trivial ?_
      have e9 : lp_season seed m (n + 1) σ x ac = (lp_season seed m n τ1.2 (((75 * x) + 74) % 65537) (ac + 1)) := by rw [lp_season, if_pos (h1), hτ1, lp_season_a]
      rw [e9]
      refine bz_wpw (L' := [some (.ref 8), some (.int seed), some (.int m), some (.ref 1), some (.int (((75 * x) + 74) % 65537)), some (.int (ac + 1)), none, none]) (by exact ⟨rfl, rfl, rfl, rfl, rfl, rfl, trivial⟩) ?_
      exact ih τ1.2 (((75 * x) + 74) % 65537) (ac + 1) (j9 + 1) (by rw [hi]; exact nI_1 j9) (by omega) (by obtain ⟨q, hq, he⟩ := hx; exact bz_lcg he hq)
    · skip
      refine bz_wpn bT_X8_runSeason 15 (b := (80, [some (.ref 8), some (.int seed), some (.int m), some (.ref 1), some (.int (((75 * x) + 74) % 65537)), some (.int ac), some (.int (((((75 * x) + 74) % 65537) / 3) % 8)), some (.int ((((75 * x) + 74) % 65537) / 24))], [.int (1 + ((((((75 * x) + 74) % 65537) / 24) / 8) % 9)), .int (((((75 * x) + 74) % 65537) / 24) % 8), .int ((((75 * x) + 74) % 65537) % 3), .int 0, .ref 8], σ)) (G := ¬ (3 : Int32) = 0 ∧ ¬ (8 : Int32) = 0 ∧ ¬ (8 : Int32) = 0 ∧ ¬ (9 : Int32) = 0 ∧ True) rfl ⟨(by decide), (by decide), (by decide), (by decide), trivial⟩ ?_
      refine bz_wci bT_X8_runSeason [.ref 8, .int 0, .int ((((75 * x) + 74) % 65537) % 3), .int (((((75 * x) + 74) % 65537) / 24) % 8), .int (1 + ((((((75 * x) + 74) % 65537) / 24) / 8) % 9))] (pc' := 83) (rest := []) rfl rfl (Nat.le_of_ble_eq_true rfl) rfl (Nat.le_of_ble_eq_true rfl) rfl (s_X8_tryAct_8 σ 0 ((((75 * x) + 74) % 65537) % 3) (((((75 * x) + 74) % 65537) / 24) % 8) (1 + ((((((75 * x) + 74) % 65537) / 24) / 8) % 9)) (fun _ => bz_m3 (by obtain ⟨q, hq, he⟩ := hx; exact bz_lcg he hq)) (fun _ => bz_f9 (by obtain ⟨q, hq, he⟩ := hx; exact bz_lcg he hq))) rfl ?_
      generalize hτ2 : f_X8_tryAct_8 σ 0 ((((75 * x) + 74) % 65537) % 3) (((((75 * x) + 74) % 65537) / 24) % 8) (1 + ((((((75 * x) + 74) % 65537) / 24) / 8) % 9)) = τ2
      refine bz_wpn bT_X8_runSeason 3 (b := (11, [some (.ref 8), some (.int seed), some (.int m), some (.ref 1), some (.int (((75 * x) + 74) % 65537)), some (.int (ac + 1)), some (.int (((((75 * x) + 74) % 65537) / 3) % 8)), some (.int ((((75 * x) + 74) % 65537) / 24))], [], τ2.2)) (G := True) rfl trivial ?_
      have e9 : lp_season seed m (n + 1) σ x ac = (lp_season seed m n τ2.2 (((75 * x) + 74) % 65537) (ac + 1)) := by rw [lp_season, if_neg (h1), hτ2, lp_season_b]
      rw [e9]
      refine bz_wpw (L' := [some (.ref 8), some (.int seed), some (.int m), some (.ref 1), some (.int (((75 * x) + 74) % 65537)), some (.int (ac + 1)), none, none]) (by exact ⟨rfl, rfl, rfl, rfl, rfl, rfl, trivial⟩) ?_
      exact ih τ2.2 (((75 * x) + 74) % 65537) (ac + 1) (j9 + 1) (by rw [hi]; exact nI_1 j9) (by omega) (by obtain ⟨q, hq, he⟩ := hx; exact bz_lcg he hq)
theorem rlp_season_a (rc : bz_S → Int32 → Int32 → bz_S) (seed : Int32) (m : Int32) (σ : bz_S) (x : Int32) (ac : Int32) (τ1 : Int32 × bz_S) (ihc : ∀ (σ : bz_S) (x : Int32) (ac : Int32), bz_fr [8, 9, 10, 11] σ (rc σ x ac)) (fτ1 : bz_fr [8, 9, 10, 11] σ τ1.2) : bz_fr [8, 9, 10, 11] σ (lp_season_a rc seed m σ x ac τ1) := by
  unfold lp_season_a
  exact (bz_fr_tr (τ := τ1.2) fτ1 (ihc τ1.2 (((75 * x) + 74) % 65537) (ac + 1)))
theorem rlp_season_b (rc : bz_S → Int32 → Int32 → bz_S) (seed : Int32) (m : Int32) (σ : bz_S) (x : Int32) (ac : Int32) (τ2 : Int32 × bz_S) (ihc : ∀ (σ : bz_S) (x : Int32) (ac : Int32), bz_fr [8, 9, 10, 11] σ (rc σ x ac)) (fτ2 : bz_fr [8, 9, 10, 11] σ τ2.2) : bz_fr [8, 9, 10, 11] σ (lp_season_b rc seed m σ x ac τ2) := by
  unfold lp_season_b
  exact (bz_fr_tr (τ := τ2.2) fτ2 (ihc τ2.2 (((75 * x) + 74) % 65537) (ac + 1)))
theorem rlp_season (seed : Int32) (m : Int32) : ∀ (n : Nat) (σ : bz_S) (x : Int32) (ac : Int32), bz_fr [8, 9, 10, 11] σ (lp_season seed m n σ x ac) := by
  intro n
  induction n with
  | zero =>
    intro σ x ac
    rw [lp_season]
    exact bz_fr_rf
  | succ n ihc =>
    intro σ x ac
    rw [lp_season]
    exact (bz_ite (rlp_season_a (lp_season seed m n) seed m σ x ac (f_X8_tryAct_8 σ ((((((75 * x) + 74) % 65537) / 3) % 8) - 4) ((((75 * x) + 74) % 65537) % 3) (((((75 * x) + 74) % 65537) / 24) % 8) (1 + ((((((75 * x) + 74) % 65537) / 24) / 8) % 9))) ihc (bz_fr_mo (rf_X8_tryAct_8 σ ((((((75 * x) + 74) % 65537) / 3) % 8) - 4) ((((75 * x) + 74) % 65537) % 3) (((((75 * x) + 74) % 65537) / 24) % 8) (1 + ((((((75 * x) + 74) % 65537) / 24) / 8) % 9))) (by decide))) (rlp_season_b (lp_season seed m n) seed m σ x ac (f_X8_tryAct_8 σ 0 ((((75 * x) + 74) % 65537) % 3) (((((75 * x) + 74) % 65537) / 24) % 8) (1 + ((((((75 * x) + 74) % 65537) / 24) / 8) % 9))) ihc (bz_fr_mo (rf_X8_tryAct_8 σ 0 ((((75 * x) + 74) % 65537) % 3) (((((75 * x) + 74) % 65537) / 24) % 8) (1 + ((((((75 * x) + 74) % 65537) / 24) / 8) % 9))) (by decide))))

def f_X8_runSeason_8_1_a (σ : bz_S) (seed : Int32) (m : Int32) (τ1 : bz_S) : bz_S := lp_season seed m m.toNatClampNeg τ1 seed 0
def f_X8_runSeason_8_1 (σ : bz_S) (seed : Int32) (m : Int32) : bz_S := (f_X8_runSeason_8_1_a σ seed m (f_X8_begin_8_1 σ))
set_option maxRecDepth 100000 in
theorem s_X8_runSeason_8_1 {X : bz_X} (σ : bz_S) (seed : Int32) (m : Int32) (hs : ∃ j, j < 65537 ∧ seed = nI j) (hm : ∃ M, M < 1000 ∧ m = nI M) : bz_C bz_P X mX8_runSeason [.ref 8, .int seed, .int m, .ref 1] σ (bz_pv (f_X8_runSeason_8_1 σ seed m)) := by
  show bz_wp bz_P X mX8_runSeason (bz_pv (f_X8_runSeason_8_1 σ seed m)) (0, [some (.ref 8), some (.int seed), some (.int m), some (.ref 1), none, none, none, none], [], σ)
  refine bz_wpn bT_X8_runSeason 2 (b := (2, [some (.ref 8), some (.int seed), some (.int m), some (.ref 1), none, none, none, none], [.ref 1, .ref 8], σ)) (G := True) rfl trivial ?_
  refine bz_wcv bT_X8_runSeason [.ref 8, .ref 1] (pc' := 5) (rest := []) rfl rfl (Nat.le_of_ble_eq_true rfl) rfl (Nat.le_of_ble_eq_true rfl) rfl (s_X8_begin_8_1 σ) rfl ?_
  generalize hτ1 : f_X8_begin_8_1 σ = τ1
  refine bz_wpn bT_X8_runSeason 4 (b := (11, [some (.ref 8), some (.int seed), some (.int m), some (.ref 1), some (.int seed), some (.int 0), none, none], [], τ1)) (G := True) rfl trivial ?_
  have e9 : f_X8_runSeason_8_1 σ seed m = lp_season seed m m.toNatClampNeg τ1 seed 0 := by rw [f_X8_runSeason_8_1, hτ1, f_X8_runSeason_8_1_a]
  rw [e9]
  obtain ⟨MM, hM2, hM⟩ := hm
  exact s_lp_season seed m MM hM hM2 _ τ1 seed 0 0 rfl (by rw [hM, nI_clamp (by omega)]; omega) hs
theorem rf_X8_runSeason_8_1_a (σ : bz_S) (seed : Int32) (m : Int32) (τ1 : bz_S) (fτ1 : bz_fr [8, 9, 10, 11] σ τ1) : bz_fr [8, 9, 10, 11] σ (f_X8_runSeason_8_1_a σ seed m τ1) := by
  unfold f_X8_runSeason_8_1_a
  exact (bz_fr_tr (τ := τ1) fτ1 (bz_fr_mo (rlp_season seed m m.toNatClampNeg τ1 seed 0) (by decide)))
theorem rf_X8_runSeason_8_1 (σ : bz_S) (seed : Int32) (m : Int32) : bz_fr [8, 9, 10, 11] σ (f_X8_runSeason_8_1 σ seed m) := by
  unfold f_X8_runSeason_8_1
  exact (rf_X8_runSeason_8_1_a σ seed m (f_X8_begin_8_1 σ) (bz_fr_mo (rf_X8_begin_8_1 σ) (by decide)))

theorem bz_wN {x lo hi : Int32} {a b : Nat} (hl : lo.toInt = a) (hh : hi.toInt = b) (hb : b < 2 ^ 31) (h : f_X10_isWithin x lo hi = true) : ∃ j, a ≤ j ∧ j ≤ b ∧ x = nI j := by
  obtain ⟨h1, h2⟩ := bz_int hl hh h
  refine ⟨x.toInt.toNat, by omega, by omega, Int32.toInt_inj.mp ?_⟩
  rw [nI_toInt (by omega)]
  omega
theorem bz_seed {x : Int32} (h : f_X10_isWithin x 0 9999 = true) : ∃ j, j < 65537 ∧ x = nI j := by
  obtain ⟨j, h1, h2, h3⟩ := bz_wN (a := 0) (b := 9999) (by decide) (by decide) (by decide) h
  exact ⟨j, by omega, h3⟩
theorem bz_m99 {x : Int32} (h : f_X10_isWithin x 1 99 = true) : ∃ j, j < 1000 ∧ x = nI j := by
  obtain ⟨j, h1, h2, h3⟩ := bz_wN (a := 1) (b := 99) (by decide) (by decide) (by decide) h
  exact ⟨j, by omega, h3⟩

def f_X10_season_0_a (σ : bz_S) (seed : Int32) (m : Int32) (what : Int32) (τ1 : bz_S) : Int32 × bz_S := if what = 0 then ((τ1.1 9 1), τ1) else (if what = 1 then ((τ1.1 9 2), τ1) else ((f_X6_howManyDown_9 τ1), τ1))
def f_X10_season_0 (σ : bz_S) (seed : Int32) (m : Int32) (what : Int32) : Int32 × bz_S := if f_X10_isWithin seed 0 9999 = true then if f_X10_isWithin m 1 99 = true then if f_X10_isWithin what 0 2 = true then (f_X10_season_0_a σ seed m what (f_X8_runSeason_8_1 σ seed m)) else ((-2), σ) else ((-2), σ) else ((-2), σ)
set_option maxRecDepth 100000 in
theorem s_X10_season_0 {X : bz_X} (σ : bz_S) (seed : Int32) (m : Int32) (what : Int32) : bz_C bz_P X mX10_season [.ref 0, .int seed, .int m, .int what] σ (bz_pi (f_X10_season_0 σ seed m what).1 (f_X10_season_0 σ seed m what).2) := by
  show bz_wp bz_P X mX10_season (bz_pi (f_X10_season_0 σ seed m what).1 (f_X10_season_0 σ seed m what).2) (0, [some (.ref 0), some (.int seed), some (.int m), some (.int what)], [], σ)
  refine bz_wpn bT_X10_season 3 (b := (5, [some (.ref 0), some (.int seed), some (.int m), some (.int what)], [.int 9999, .int 0, .int seed], σ)) (G := True) rfl trivial ?_
  refine bz_wci bT_X10_season [.int seed, .int 0, .int 9999] (pc' := 8) (rest := []) rfl rfl (Nat.le_of_ble_eq_true rfl) rfl (Nat.le_of_ble_eq_true rfl) rfl (s_X10_isWithin σ seed 0 9999) rfl ?_
  refine bz_wpb bT_X10_season 1 (b1 := (30, [some (.ref 0), some (.int seed), some (.int m), some (.int what)], [], σ)) (b2 := (11, [some (.ref 0), some (.int seed), some (.int m), some (.int what)], [], σ)) (C := bz_b (f_X10_isWithin seed 0 9999) = 0) (G := True) rfl trivial (fun h1 => ?_) (fun h1 => ?_)
  · skip
    have h1 := bz_b0 h1
    refine bz_wpn bT_X10_season 1 (b := (32, [some (.ref 0), some (.int seed), some (.int m), some (.int what)], [.int (-2)], σ)) (G := True) rfl trivial ?_
    refine bz_wpr bT_X10_season rfl rfl trivial ?_
    have e9 : f_X10_season_0 σ seed m what = ((-2), σ) := by rw [f_X10_season_0, if_neg (bz_ff h1)]
    exact ⟨by rw [e9], by rw [e9]⟩
  · skip
    have h1 := bz_b1 h1
    refine bz_wpn bT_X10_season 3 (b := (15, [some (.ref 0), some (.int seed), some (.int m), some (.int what)], [.int 99, .int 1, .int m], σ)) (G := True) rfl trivial ?_
    refine bz_wci bT_X10_season [.int m, .int 1, .int 99] (pc' := 18) (rest := []) rfl rfl (Nat.le_of_ble_eq_true rfl) rfl (Nat.le_of_ble_eq_true rfl) rfl (s_X10_isWithin σ m 1 99) rfl ?_
    refine bz_wpb bT_X10_season 1 (b1 := (30, [some (.ref 0), some (.int seed), some (.int m), some (.int what)], [], σ)) (b2 := (21, [some (.ref 0), some (.int seed), some (.int m), some (.int what)], [], σ)) (C := bz_b (f_X10_isWithin m 1 99) = 0) (G := True) rfl trivial (fun h2 => ?_) (fun h2 => ?_)
    · skip
      have h2 := bz_b0 h2
      refine bz_wpn bT_X10_season 1 (b := (32, [some (.ref 0), some (.int seed), some (.int m), some (.int what)], [.int (-2)], σ)) (G := True) rfl trivial ?_
      refine bz_wpr bT_X10_season rfl rfl trivial ?_
      have e9 : f_X10_season_0 σ seed m what = ((-2), σ) := by rw [f_X10_season_0, if_pos (h1), if_neg (bz_ff h2)]
      exact ⟨by rw [e9], by rw [e9]⟩
    · skip
      have h2 := bz_b1 h2
      refine bz_wpn bT_X10_season 3 (b := (24, [some (.ref 0), some (.int seed), some (.int m), some (.int what)], [.int 2, .int 0, .int what], σ)) (G := True) rfl trivial ?_
      refine bz_wci bT_X10_season [.int what, .int 0, .int 2] (pc' := 27) (rest := []) rfl rfl (Nat.le_of_ble_eq_true rfl) rfl (Nat.le_of_ble_eq_true rfl) rfl (s_X10_isWithin σ what 0 2) rfl ?_
      refine bz_wpb bT_X10_season 1 (b1 := (33, [some (.ref 0), some (.int seed), some (.int m), some (.int what)], [], σ)) (b2 := (30, [some (.ref 0), some (.int seed), some (.int m), some (.int what)], [], σ)) (C := ¬ bz_b (f_X10_isWithin what 0 2) = 0) (G := True) rfl trivial (fun h3 => ?_) (fun h3 => ?_)
      · skip
        have h3 := bz_b1 h3
        refine bz_wpn bT_X10_season 6 (b := (43, [some (.ref 0), some (.int seed), some (.int m), some (.int what)], [.ref 1, .int m, .int seed, .ref 8], σ)) (G := True) rfl trivial ?_
        refine bz_wcv bT_X10_season [.ref 8, .int seed, .int m, .ref 1] (pc' := 46) (rest := []) rfl rfl (Nat.le_of_ble_eq_true rfl) rfl (Nat.le_of_ble_eq_true rfl) rfl (s_X8_runSeason_8_1 σ seed m (bz_seed h1) (bz_m99 h2)) rfl ?_
        generalize hτ1 : f_X8_runSeason_8_1 σ seed m = τ1
        refine bz_wpn bT_X10_season 2 (b := (bz_sw (what).toInt [(0, 72), (1, 83)] 94, [some (.ref 0), some (.int seed), some (.int m), some (.int what)], [], τ1)) (G := True) rfl trivial ?_
        by_cases w4 : what = 0
        · rw [show bz_sw (what).toInt [(0, 72), (1, 83)] 94 = 72 from by rw [w4]; decide]
          refine bz_wpn bT_X10_season 4 (b := (82, [some (.ref 0), some (.int seed), some (.int m), some (.int what)], [.int (τ1.1 9 1)], τ1)) (G := True) rfl trivial ?_
          refine bz_wpr bT_X10_season rfl rfl trivial ?_
          have e9 : f_X10_season_0 σ seed m what = ((τ1.1 9 1), τ1) := by rw [f_X10_season_0, if_pos (h1), if_pos (h2), if_pos (h3), hτ1, f_X10_season_0_a, if_pos (w4)]
          exact ⟨by rw [e9], by rw [e9]⟩
        by_cases w5 : what = 1
        · rw [show bz_sw (what).toInt [(0, 72), (1, 83)] 94 = 83 from by rw [w5]; decide]
          refine bz_wpn bT_X10_season 4 (b := (93, [some (.ref 0), some (.int seed), some (.int m), some (.int what)], [.int (τ1.1 9 2)], τ1)) (G := True) rfl trivial ?_
          refine bz_wpr bT_X10_season rfl rfl trivial ?_
          have e9 : f_X10_season_0 σ seed m what = ((τ1.1 9 2), τ1) := by rw [f_X10_season_0, if_pos (h1), if_pos (h2), if_pos (h3), hτ1, f_X10_season_0_a, if_neg (w4), if_pos (w5)]
          exact ⟨by rw [e9], by rw [e9]⟩
        · rw [show bz_sw (what).toInt [(0, 72), (1, 83)] 94 = 94 from by simp only [bz_mk, bz_sw]; rw [if_neg (lv_neT w4 (by decide)), if_neg (lv_neT w5 (by decide))]]
          refine bz_wpn bT_X10_season 3 (b := (101, [some (.ref 0), some (.int seed), some (.int m), some (.int what)], [.ref 9], τ1)) (G := True) rfl trivial ?_
          refine bz_wci bT_X10_season [.ref 9] (pc' := 104) (rest := []) rfl rfl (Nat.le_of_ble_eq_true rfl) rfl (Nat.le_of_ble_eq_true rfl) rfl (s_X6_howManyDown_9 τ1) rfl ?_
          refine bz_wpr bT_X10_season rfl rfl trivial ?_
          have e9 : f_X10_season_0 σ seed m what = ((f_X6_howManyDown_9 τ1), τ1) := by rw [f_X10_season_0, if_pos (h1), if_pos (h2), if_pos (h3), hτ1, f_X10_season_0_a, if_neg (w4), if_neg (w5)]
          exact ⟨by rw [e9], by rw [e9]⟩
      · skip
        have h3 := bz_b0 (Decidable.not_not.mp h3)
        refine bz_wpn bT_X10_season 1 (b := (32, [some (.ref 0), some (.int seed), some (.int m), some (.int what)], [.int (-2)], σ)) (G := True) rfl trivial ?_
        refine bz_wpr bT_X10_season rfl rfl trivial ?_
        have e9 : f_X10_season_0 σ seed m what = ((-2), σ) := by rw [f_X10_season_0, if_pos (h1), if_pos (h2), if_neg (bz_ff h3)]
        exact ⟨by rw [e9], by rw [e9]⟩
theorem rf_X10_season_0_a (σ : bz_S) (seed : Int32) (m : Int32) (what : Int32) (τ1 : bz_S) (fτ1 : bz_fr [8, 9, 10, 11] σ τ1) : bz_fr [8, 9, 10, 11] σ (f_X10_season_0_a σ seed m what τ1).2 := by
  unfold f_X10_season_0_a
  exact (bz_ite2 fτ1 (bz_ite2 fτ1 fτ1))
theorem rf_X10_season_0 (σ : bz_S) (seed : Int32) (m : Int32) (what : Int32) : bz_fr [8, 9, 10, 11] σ (f_X10_season_0 σ seed m what).2 := by
  unfold f_X10_season_0
  exact (bz_ite2 (bz_ite2 (bz_ite2 (rf_X10_season_0_a σ seed m what (f_X8_runSeason_8_1 σ seed m) (bz_fr_mo (rf_X8_runSeason_8_1 σ seed m) (by decide))) bz_fr_rf) bz_fr_rf) bz_fr_rf)

def lp_hint_a (rc : bz_S → Int32 → Int32 → Int32 → (Int32 × bz_S)) (ba : Int32) (ot : Int32) (c : Int32) (what : Int32) (σ : bz_S) (lf : Int32) (lw : Int32) (way : Int32) (τ1 : Int32 × bz_S) : Int32 × bz_S := if τ1.1 = (-6) then (rc τ1.2 lf lw (way + 1)) else (if lf = (-6) then (rc τ1.2 τ1.1 way (way + 1)) else (if lf ≤ τ1.1 then (rc τ1.2 lf lw (way + 1)) else (rc τ1.2 τ1.1 way (way + 1))))
def lp_hint (ba : Int32) (ot : Int32) (c : Int32) (what : Int32) : Nat → bz_S → Int32 → Int32 → Int32 → Int32 × bz_S
  | 0, σ, lf, lw, way => if what = 0 then (lf, σ) else (lw, σ)
  | n + 1, σ, lf, lw, way => (lp_hint_a (lp_hint ba ot c what n) ba ot c what σ lf lw way (f_X8_forceToTouch_8_1 σ ba way ot c))
set_option maxRecDepth 100000 in
theorem s_lp_hint {X : bz_X} (ba : Int32) (ot : Int32) (c : Int32) (what : Int32) (hb : vp_in ba 3) : ∀ (n : Nat) (σ : bz_S) (lf : Int32) (lw : Int32) (way : Int32) (j9 : Nat) (hi : way = nI j9) (hj : j9 + n = 8), bz_wp bz_P X mX10_hint (bz_pi (lp_hint ba ot c what n σ lf lw way).1 (lp_hint ba ot c what n σ lf lw way).2) (79, [some (.ref 0), some (.int ba), some (.int ot), some (.int c), some (.int what), some (.int lf), some (.int lw), some (.int way), none], [], σ) := by
  intro n
  induction n with
  | zero =>
    intro σ lf lw way j9 hi hj
    refine bz_wpb bT_X10_hint 3 (b1 := (139, [some (.ref 0), some (.int ba), some (.int ot), some (.int c), some (.int what), some (.int lf), some (.int lw), some (.int way), none], [], σ)) (b2 := (86, [some (.ref 0), some (.int ba), some (.int ot), some (.int c), some (.int what), some (.int lf), some (.int lw), some (.int way), none], [], σ)) (C := 8 ≤ way) (G := True) rfl trivial (fun _ => ?_) (fun z => absurd (show (8 : Int32) ≤ way from by rw [hi, show j9 = 8 from by omega]; decide) z)
    refine bz_wpb bT_X10_hint 2 (b1 := (149, [some (.ref 0), some (.int ba), some (.int ot), some (.int c), some (.int what), some (.int lf), some (.int lw), some (.int way), none], [], σ)) (b2 := (144, [some (.ref 0), some (.int ba), some (.int ot), some (.int c), some (.int what), some (.int lf), some (.int lw), some (.int way), none], [], σ)) (C := ¬ what = 0) (G := True) rfl trivial (fun h1 => ?_) (fun h1 => ?_)
    · skip
      refine bz_wpn bT_X10_hint 1 (b := (151, [some (.ref 0), some (.int ba), some (.int ot), some (.int c), some (.int what), some (.int lf), some (.int lw), some (.int way), none], [.int lw], σ)) (G := True) rfl trivial ?_
      refine bz_wpr bT_X10_hint rfl rfl trivial ?_
      have e9 : lp_hint ba ot c what 0 σ lf lw way = (lw, σ) := by rw [lp_hint, if_neg (h1)]
      exact ⟨by rw [e9], by rw [e9]⟩
    · skip
      refine bz_wpn bT_X10_hint 2 (b := (151, [some (.ref 0), some (.int ba), some (.int ot), some (.int c), some (.int what), some (.int lf), some (.int lw), some (.int way), none], [.int lf], σ)) (G := True) rfl trivial ?_
      refine bz_wpr bT_X10_hint rfl rfl trivial ?_
      have e9 : lp_hint ba ot c what 0 σ lf lw way = (lf, σ) := by rw [lp_hint, if_pos ((Decidable.not_not.mp h1))]
      exact ⟨by rw [e9], by rw [e9]⟩
  | succ n ih =>
    intro σ lf lw way j9 hi hj
    refine bz_wpb bT_X10_hint 3 (b1 := (139, [some (.ref 0), some (.int ba), some (.int ot), some (.int c), some (.int what), some (.int lf), some (.int lw), some (.int way), none], [], σ)) (b2 := (86, [some (.ref 0), some (.int ba), some (.int ot), some (.int c), some (.int what), some (.int lf), some (.int lw), some (.int way), none], [], σ)) (C := 8 ≤ way) (G := True) rfl trivial (fun z => absurd z (show ¬ (8 : Int32) ≤ way from by rw [hi]; exact nI_ge (b := 8) (by omega) (by decide))) (fun _ => ?_)
    refine bz_wpn bT_X10_hint 8 (b := (99, [some (.ref 0), some (.int ba), some (.int ot), some (.int c), some (.int what), some (.int lf), some (.int lw), some (.int way), none], [.int c, .int ot, .int way, .int ba, .ref 1, .ref 8], σ)) (G := True) rfl trivial ?_
    refine bz_wci bT_X10_hint [.ref 8, .ref 1, .int ba, .int way, .int ot, .int c] (pc' := 102) (rest := []) rfl rfl (Nat.le_of_ble_eq_true rfl) rfl (Nat.le_of_ble_eq_true rfl) rfl (s_X8_forceToTouch_8_1 σ ba way ot c hb) rfl ?_
    generalize hτ1 : f_X8_forceToTouch_8_1 σ ba way ot c = τ1
    refine bz_wpb bT_X10_hint 4 (b1 := (133, [some (.ref 0), some (.int ba), some (.int ot), some (.int c), some (.int what), some (.int lf), some (.int lw), some (.int way), some (.int τ1.1)], [], τ1.2)) (b2 := (111, [some (.ref 0), some (.int ba), some (.int ot), some (.int c), some (.int what), some (.int lf), some (.int lw), some (.int way), some (.int τ1.1)], [], τ1.2)) (C := τ1.1 = (-6)) (G := True) rfl trivial (fun h1 => ?_) (fun h1 => ?_)
    · skip
      refine bz_wpn bT_X10_hint 2 (b := (79, [some (.ref 0), some (.int ba), some (.int ot), some (.int c), some (.int what), some (.int lf), some (.int lw), some (.int (way + 1)), some (.int τ1.1)], [], τ1.2)) (G := True) rfl trivial ?_
      have e9 : lp_hint ba ot c what (n + 1) σ lf lw way = (lp_hint ba ot c what n τ1.2 lf lw (way + 1)) := by rw [lp_hint, hτ1, lp_hint_a, if_pos (h1)]
      rw [e9]
      refine bz_wpw (L' := [some (.ref 0), some (.int ba), some (.int ot), some (.int c), some (.int what), some (.int lf), some (.int lw), some (.int (way + 1)), none]) (by exact ⟨rfl, rfl, rfl, rfl, rfl, rfl, rfl, rfl, trivial⟩) ?_
      exact ih τ1.2 lf lw (way + 1) (j9 + 1) (by rw [hi]; exact nI_1 j9) (by omega)
    · skip
      refine bz_wpb bT_X10_hint 3 (b1 := (125, [some (.ref 0), some (.int ba), some (.int ot), some (.int c), some (.int what), some (.int lf), some (.int lw), some (.int way), some (.int τ1.1)], [], τ1.2)) (b2 := (118, [some (.ref 0), some (.int ba), some (.int ot), some (.int c), some (.int what), some (.int lf), some (.int lw), some (.int way), some (.int τ1.1)], [], τ1.2)) (C := lf = (-6)) (G := True) rfl trivial (fun h2 => ?_) (fun h2 => ?_)
      · skip
        refine bz_wpn bT_X10_hint 6 (b := (79, [some (.ref 0), some (.int ba), some (.int ot), some (.int c), some (.int what), some (.int τ1.1), some (.int way), some (.int (way + 1)), some (.int τ1.1)], [], τ1.2)) (G := True) rfl trivial ?_
        have e9 : lp_hint ba ot c what (n + 1) σ lf lw way = (lp_hint ba ot c what n τ1.2 τ1.1 way (way + 1)) := by rw [lp_hint, hτ1, lp_hint_a, if_neg (h1), if_pos (h2)]
        rw [e9]
        refine bz_wpw (L' := [some (.ref 0), some (.int ba), some (.int ot), some (.int c), some (.int what), some (.int τ1.1), some (.int way), some (.int (way + 1)), none]) (by exact ⟨rfl, rfl, rfl, rfl, rfl, rfl, rfl, rfl, trivial⟩) ?_
        exact ih τ1.2 τ1.1 way (way + 1) (j9 + 1) (by rw [hi]; exact nI_1 j9) (by omega)
      · skip
        refine bz_wpb bT_X10_hint 3 (b1 := (133, [some (.ref 0), some (.int ba), some (.int ot), some (.int c), some (.int what), some (.int lf), some (.int lw), some (.int way), some (.int τ1.1)], [], τ1.2)) (b2 := (125, [some (.ref 0), some (.int ba), some (.int ot), some (.int c), some (.int what), some (.int lf), some (.int lw), some (.int way), some (.int τ1.1)], [], τ1.2)) (C := lf ≤ τ1.1) (G := True) rfl trivial (fun h3 => ?_) (fun h3 => ?_)
        · skip
          refine bz_wpn bT_X10_hint 2 (b := (79, [some (.ref 0), some (.int ba), some (.int ot), some (.int c), some (.int what), some (.int lf), some (.int lw), some (.int (way + 1)), some (.int τ1.1)], [], τ1.2)) (G := True) rfl trivial ?_
          have e9 : lp_hint ba ot c what (n + 1) σ lf lw way = (lp_hint ba ot c what n τ1.2 lf lw (way + 1)) := by rw [lp_hint, hτ1, lp_hint_a, if_neg (h1), if_neg (h2), if_pos (h3)]
          rw [e9]
          refine bz_wpw (L' := [some (.ref 0), some (.int ba), some (.int ot), some (.int c), some (.int what), some (.int lf), some (.int lw), some (.int (way + 1)), none]) (by exact ⟨rfl, rfl, rfl, rfl, rfl, rfl, rfl, rfl, trivial⟩) ?_
          exact ih τ1.2 lf lw (way + 1) (j9 + 1) (by rw [hi]; exact nI_1 j9) (by omega)
        · skip
          refine bz_wpn bT_X10_hint 6 (b := (79, [some (.ref 0), some (.int ba), some (.int ot), some (.int c), some (.int what), some (.int τ1.1), some (.int way), some (.int (way + 1)), some (.int τ1.1)], [], τ1.2)) (G := True) rfl trivial ?_
          have e9 : lp_hint ba ot c what (n + 1) σ lf lw way = (lp_hint ba ot c what n τ1.2 τ1.1 way (way + 1)) := by rw [lp_hint, hτ1, lp_hint_a, if_neg (h1), if_neg (h2), if_neg (h3)]
          rw [e9]
          refine bz_wpw (L' := [some (.ref 0), some (.int ba), some (.int ot), some (.int c), some (.int what), some (.int τ1.1), some (.int way), some (.int (way + 1)), none]) (by exact ⟨rfl, rfl, rfl, rfl, rfl, rfl, rfl, rfl, trivial⟩) ?_
          exact ih τ1.2 τ1.1 way (way + 1) (j9 + 1) (by rw [hi]; exact nI_1 j9) (by omega)
theorem rlp_hint_a (rc : bz_S → Int32 → Int32 → Int32 → (Int32 × bz_S)) (ba : Int32) (ot : Int32) (c : Int32) (what : Int32) (σ : bz_S) (lf : Int32) (lw : Int32) (way : Int32) (τ1 : Int32 × bz_S) (ihc : ∀ (σ : bz_S) (lf : Int32) (lw : Int32) (way : Int32), bz_fr [8, 9, 10, 11] σ (rc σ lf lw way).2) (fτ1 : bz_fr [8, 9, 10, 11] σ τ1.2) : bz_fr [8, 9, 10, 11] σ (lp_hint_a rc ba ot c what σ lf lw way τ1).2 := by
  unfold lp_hint_a
  exact (bz_ite2 (bz_fr_tr (τ := τ1.2) fτ1 (ihc τ1.2 lf lw (way + 1))) (bz_ite2 (bz_fr_tr (τ := τ1.2) fτ1 (ihc τ1.2 τ1.1 way (way + 1))) (bz_ite2 (bz_fr_tr (τ := τ1.2) fτ1 (ihc τ1.2 lf lw (way + 1))) (bz_fr_tr (τ := τ1.2) fτ1 (ihc τ1.2 τ1.1 way (way + 1))))))
theorem rlp_hint (ba : Int32) (ot : Int32) (c : Int32) (what : Int32) : ∀ (n : Nat) (σ : bz_S) (lf : Int32) (lw : Int32) (way : Int32), bz_fr [8, 9, 10, 11] σ (lp_hint ba ot c what n σ lf lw way).2 := by
  intro n
  induction n with
  | zero =>
    intro σ lf lw way
    rw [lp_hint]
    exact (bz_ite2 bz_fr_rf bz_fr_rf)
  | succ n ihc =>
    intro σ lf lw way
    rw [lp_hint]
    exact (rlp_hint_a (lp_hint ba ot c what n) ba ot c what σ lf lw way (f_X8_forceToTouch_8_1 σ ba way ot c) ihc (bz_fr_mo (rf_X8_forceToTouch_8_1 σ ba way ot c) (by decide)))

def f_X10_hint_0 (σ : bz_S) (ba : Int32) (ot : Int32) (c : Int32) (what : Int32) : Int32 × bz_S := if f_X10_isBall ba = true then if f_X10_isBall ot = true then if ba = ot then ((-1), σ) else (if f_X10_isWithin c 0 4 = true then if f_X10_isWithin what 0 1 = true then if f_X6_isDown_1 σ ba = true then ((-6), σ) else (if f_X6_isDown_1 σ ot = true then ((-6), σ) else lp_hint ba ot c what (bz_k 8) σ (-6) (-6) 0) else ((-2), σ) else ((-2), σ)) else ((-1), σ) else ((-1), σ)
set_option maxRecDepth 100000 in
theorem s_X10_hint_0 {X : bz_X} (σ : bz_S) (ba : Int32) (ot : Int32) (c : Int32) (what : Int32) : bz_C bz_P X mX10_hint [.ref 0, .int ba, .int ot, .int c, .int what] σ (bz_pi (f_X10_hint_0 σ ba ot c what).1 (f_X10_hint_0 σ ba ot c what).2) := by
  show bz_wp bz_P X mX10_hint (bz_pi (f_X10_hint_0 σ ba ot c what).1 (f_X10_hint_0 σ ba ot c what).2) (0, [some (.ref 0), some (.int ba), some (.int ot), some (.int c), some (.int what), none, none, none, none], [], σ)
  refine bz_wpn bT_X10_hint 1 (b := (1, [some (.ref 0), some (.int ba), some (.int ot), some (.int c), some (.int what), none, none, none, none], [.int ba], σ)) (G := True) rfl trivial ?_
  refine bz_wci bT_X10_hint [.int ba] (pc' := 4) (rest := []) rfl rfl (Nat.le_of_ble_eq_true rfl) rfl (Nat.le_of_ble_eq_true rfl) rfl (s_X10_isBall σ ba) rfl ?_
  refine bz_wpb bT_X10_hint 1 (b1 := (19, [some (.ref 0), some (.int ba), some (.int ot), some (.int c), some (.int what), none, none, none, none], [], σ)) (b2 := (7, [some (.ref 0), some (.int ba), some (.int ot), some (.int c), some (.int what), none, none, none, none], [], σ)) (C := bz_b (f_X10_isBall ba) = 0) (G := True) rfl trivial (fun h1 => ?_) (fun h1 => ?_)
  · skip
    have h1 := bz_b0 h1
    refine bz_wpn bT_X10_hint 1 (b := (20, [some (.ref 0), some (.int ba), some (.int ot), some (.int c), some (.int what), none, none, none, none], [.int (-1)], σ)) (G := True) rfl trivial ?_
    refine bz_wpr bT_X10_hint rfl rfl trivial ?_
    have e9 : f_X10_hint_0 σ ba ot c what = ((-1), σ) := by rw [f_X10_hint_0, if_neg (bz_ff h1)]
    exact ⟨by rw [e9], by rw [e9]⟩
  · skip
    have h1 := bz_b1 h1
    refine bz_wpn bT_X10_hint 1 (b := (8, [some (.ref 0), some (.int ba), some (.int ot), some (.int c), some (.int what), none, none, none, none], [.int ot], σ)) (G := True) rfl trivial ?_
    refine bz_wci bT_X10_hint [.int ot] (pc' := 11) (rest := []) rfl rfl (Nat.le_of_ble_eq_true rfl) rfl (Nat.le_of_ble_eq_true rfl) rfl (s_X10_isBall σ ot) rfl ?_
    refine bz_wpb bT_X10_hint 1 (b1 := (19, [some (.ref 0), some (.int ba), some (.int ot), some (.int c), some (.int what), none, none, none, none], [], σ)) (b2 := (14, [some (.ref 0), some (.int ba), some (.int ot), some (.int c), some (.int what), none, none, none, none], [], σ)) (C := bz_b (f_X10_isBall ot) = 0) (G := True) rfl trivial (fun h2 => ?_) (fun h2 => ?_)
    · skip
      have h2 := bz_b0 h2
      refine bz_wpn bT_X10_hint 1 (b := (20, [some (.ref 0), some (.int ba), some (.int ot), some (.int c), some (.int what), none, none, none, none], [.int (-1)], σ)) (G := True) rfl trivial ?_
      refine bz_wpr bT_X10_hint rfl rfl trivial ?_
      have e9 : f_X10_hint_0 σ ba ot c what = ((-1), σ) := by rw [f_X10_hint_0, if_pos (h1), if_neg (bz_ff h2)]
      exact ⟨by rw [e9], by rw [e9]⟩
    · skip
      have h2 := bz_b1 h2
      refine bz_wpb bT_X10_hint 3 (b1 := (21, [some (.ref 0), some (.int ba), some (.int ot), some (.int c), some (.int what), none, none, none, none], [], σ)) (b2 := (19, [some (.ref 0), some (.int ba), some (.int ot), some (.int c), some (.int what), none, none, none, none], [], σ)) (C := ¬ ba = ot) (G := True) rfl trivial (fun h3 => ?_) (fun h3 => ?_)
      · skip
        refine bz_wpn bT_X10_hint 3 (b := (24, [some (.ref 0), some (.int ba), some (.int ot), some (.int c), some (.int what), none, none, none, none], [.int 4, .int 0, .int c], σ)) (G := True) rfl trivial ?_
        refine bz_wci bT_X10_hint [.int c, .int 0, .int 4] (pc' := 27) (rest := []) rfl rfl (Nat.le_of_ble_eq_true rfl) rfl (Nat.le_of_ble_eq_true rfl) rfl (s_X10_isWithin σ c 0 4) rfl ?_
        refine bz_wpb bT_X10_hint 1 (b1 := (40, [some (.ref 0), some (.int ba), some (.int ot), some (.int c), some (.int what), none, none, none, none], [], σ)) (b2 := (30, [some (.ref 0), some (.int ba), some (.int ot), some (.int c), some (.int what), none, none, none, none], [], σ)) (C := bz_b (f_X10_isWithin c 0 4) = 0) (G := True) rfl trivial (fun h4 => ?_) (fun h4 => ?_)
        · skip
          have h4 := bz_b0 h4
          refine bz_wpn bT_X10_hint 1 (b := (42, [some (.ref 0), some (.int ba), some (.int ot), some (.int c), some (.int what), none, none, none, none], [.int (-2)], σ)) (G := True) rfl trivial ?_
          refine bz_wpr bT_X10_hint rfl rfl trivial ?_
          have e9 : f_X10_hint_0 σ ba ot c what = ((-2), σ) := by rw [f_X10_hint_0, if_pos (h1), if_pos (h2), if_neg (h3), if_neg (bz_ff h4)]
          exact ⟨by rw [e9], by rw [e9]⟩
        · skip
          have h4 := bz_b1 h4
          refine bz_wpn bT_X10_hint 3 (b := (34, [some (.ref 0), some (.int ba), some (.int ot), some (.int c), some (.int what), none, none, none, none], [.int 1, .int 0, .int what], σ)) (G := True) rfl trivial ?_
          refine bz_wci bT_X10_hint [.int what, .int 0, .int 1] (pc' := 37) (rest := []) rfl rfl (Nat.le_of_ble_eq_true rfl) rfl (Nat.le_of_ble_eq_true rfl) rfl (s_X10_isWithin σ what 0 1) rfl ?_
          refine bz_wpb bT_X10_hint 1 (b1 := (43, [some (.ref 0), some (.int ba), some (.int ot), some (.int c), some (.int what), none, none, none, none], [], σ)) (b2 := (40, [some (.ref 0), some (.int ba), some (.int ot), some (.int c), some (.int what), none, none, none, none], [], σ)) (C := ¬ bz_b (f_X10_isWithin what 0 1) = 0) (G := True) rfl trivial (fun h5 => ?_) (fun h5 => ?_)
          · skip
            have h5 := bz_b1 h5
            refine bz_wpn bT_X10_hint 3 (b := (48, [some (.ref 0), some (.int ba), some (.int ot), some (.int c), some (.int what), none, none, none, none], [.int ba, .ref 1], σ)) (G := True) rfl trivial ?_
            refine bz_wci bT_X10_hint [.ref 1, .int ba] (pc' := 51) (rest := []) rfl rfl (Nat.le_of_ble_eq_true rfl) rfl (Nat.le_of_ble_eq_true rfl) rfl (s_X6_isDown_1 σ ba) rfl ?_
            refine bz_wpb bT_X10_hint 1 (b1 := (65, [some (.ref 0), some (.int ba), some (.int ot), some (.int c), some (.int what), none, none, none, none], [], σ)) (b2 := (54, [some (.ref 0), some (.int ba), some (.int ot), some (.int c), some (.int what), none, none, none, none], [], σ)) (C := ¬ bz_b (f_X6_isDown_1 σ ba) = 0) (G := True) rfl trivial (fun h6 => ?_) (fun h6 => ?_)
            · skip
              have h6 := bz_b1 h6
              refine bz_wpn bT_X10_hint 1 (b := (67, [some (.ref 0), some (.int ba), some (.int ot), some (.int c), some (.int what), none, none, none, none], [.int (-6)], σ)) (G := True) rfl trivial ?_
              refine bz_wpr bT_X10_hint rfl rfl trivial ?_
              have e9 : f_X10_hint_0 σ ba ot c what = ((-6), σ) := by rw [f_X10_hint_0, if_pos (h1), if_pos (h2), if_neg (h3), if_pos (h4), if_pos (h5), if_pos (h6)]
              exact ⟨by rw [e9], by rw [e9]⟩
            · skip
              have h6 := bz_b0 (Decidable.not_not.mp h6)
              refine bz_wpn bT_X10_hint 3 (b := (59, [some (.ref 0), some (.int ba), some (.int ot), some (.int c), some (.int what), none, none, none, none], [.int ot, .ref 1], σ)) (G := True) rfl trivial ?_
              refine bz_wci bT_X10_hint [.ref 1, .int ot] (pc' := 62) (rest := []) rfl rfl (Nat.le_of_ble_eq_true rfl) rfl (Nat.le_of_ble_eq_true rfl) rfl (s_X6_isDown_1 σ ot) rfl ?_
              refine bz_wpb bT_X10_hint 1 (b1 := (68, [some (.ref 0), some (.int ba), some (.int ot), some (.int c), some (.int what), none, none, none, none], [], σ)) (b2 := (65, [some (.ref 0), some (.int ba), some (.int ot), some (.int c), some (.int what), none, none, none, none], [], σ)) (C := bz_b (f_X6_isDown_1 σ ot) = 0) (G := True) rfl trivial (fun h7 => ?_) (fun h7 => ?_)
              · skip
                have h7 := bz_b0 h7
                refine bz_wpn bT_X10_hint 6 (b := (79, [some (.ref 0), some (.int ba), some (.int ot), some (.int c), some (.int what), some (.int (-6)), some (.int (-6)), some (.int 0), none], [], σ)) (G := True) rfl trivial ?_
                have e9 : f_X10_hint_0 σ ba ot c what = lp_hint ba ot c what (bz_k 8) σ (-6) (-6) 0 := by rw [f_X10_hint_0, if_pos (h1), if_pos (h2), if_neg (h3), if_pos (h4), if_pos (h5), if_neg (bz_ff h6), if_neg (bz_ff h7)]
                rw [e9]
                exact s_lp_hint ba ot c what (bz_ball h1) (bz_k 8) σ (-6) (-6) 0 0 rfl (by rw [bz_k_eq])
              · skip
                have h7 := bz_b1 h7
                refine bz_wpn bT_X10_hint 1 (b := (67, [some (.ref 0), some (.int ba), some (.int ot), some (.int c), some (.int what), none, none, none, none], [.int (-6)], σ)) (G := True) rfl trivial ?_
                refine bz_wpr bT_X10_hint rfl rfl trivial ?_
                have e9 : f_X10_hint_0 σ ba ot c what = ((-6), σ) := by rw [f_X10_hint_0, if_pos (h1), if_pos (h2), if_neg (h3), if_pos (h4), if_pos (h5), if_neg (bz_ff h6), if_pos (h7)]
                exact ⟨by rw [e9], by rw [e9]⟩
          · skip
            have h5 := bz_b0 (Decidable.not_not.mp h5)
            refine bz_wpn bT_X10_hint 1 (b := (42, [some (.ref 0), some (.int ba), some (.int ot), some (.int c), some (.int what), none, none, none, none], [.int (-2)], σ)) (G := True) rfl trivial ?_
            refine bz_wpr bT_X10_hint rfl rfl trivial ?_
            have e9 : f_X10_hint_0 σ ba ot c what = ((-2), σ) := by rw [f_X10_hint_0, if_pos (h1), if_pos (h2), if_neg (h3), if_pos (h4), if_neg (bz_ff h5)]
            exact ⟨by rw [e9], by rw [e9]⟩
      · skip
        refine bz_wpn bT_X10_hint 1 (b := (20, [some (.ref 0), some (.int ba), some (.int ot), some (.int c), some (.int what), none, none, none, none], [.int (-1)], σ)) (G := True) rfl trivial ?_
        refine bz_wpr bT_X10_hint rfl rfl trivial ?_
        have e9 : f_X10_hint_0 σ ba ot c what = ((-1), σ) := by rw [f_X10_hint_0, if_pos (h1), if_pos (h2), if_pos ((Decidable.not_not.mp h3))]
        exact ⟨by rw [e9], by rw [e9]⟩
theorem rf_X10_hint_0 (σ : bz_S) (ba : Int32) (ot : Int32) (c : Int32) (what : Int32) : bz_fr [8, 9, 10, 11] σ (f_X10_hint_0 σ ba ot c what).2 := by
  unfold f_X10_hint_0
  exact (bz_ite2 (bz_ite2 (bz_ite2 bz_fr_rf (bz_ite2 (bz_ite2 (bz_ite2 bz_fr_rf (bz_ite2 bz_fr_rf (bz_fr_tr (τ := σ) bz_fr_rf (bz_fr_mo (rlp_hint ba ot c what (bz_k 8) σ (-6) (-6) 0) (by decide))))) bz_fr_rf) bz_fr_rf)) bz_fr_rf) bz_fr_rf)
