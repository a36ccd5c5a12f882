/-- a long's size -/
def bz_ab (x : Int64) : Nat := x.toInt.natAbs
theorem bz_ab_m (a b : Int64) : bz_ab (a % b) = bz_ab a % bz_ab b := by
  unfold bz_ab
  rw [Int64.toInt_mod, Int.natAbs_tmod]
theorem bz_ab_0 {b : Int64} (h : bz_ab b = 0) : b = 0 := Int64.toInt_inj.mp ((Int.natAbs_eq_zero.mp h).trans (by decide))
theorem bz_ab_p {b : Int64} (h : ¬ (lg_cmp b 0) = 0) : 0 < bz_ab b := Nat.pos_of_ne_zero (fun z => bz_lcn h (bz_ab_0 z))
theorem bz_lc0 {b : Int64} (h : lg_cmp b 0 = 0) : b = 0 := by
  unfold lg_cmp at h
  split at h
  · exact absurd h (by decide)
  · split at h
    · assumption
    · exact absurd h (by decide)

def lp_low : Nat → Int64 → Int64 → Int64
  | 0, a, b => a
  | n + 1, a, b => if (lg_cmp b 0) = 0 then a else (lp_low n b (a % b))
set_option maxRecDepth 100000 in
theorem lp_low0_blk1 {X : bz_X} (up : Int64) (lo : Int64) (part : Int32) (σ : bz_S) (a : Int64) (b : Int64) : bz_run X bt_X11_lowest 4 (6, [some (.long up), none, some (.long lo), none, some (.int part), some (.long a), none, some (.long b), none, none, none], [], σ) = some (True, if (lg_cmp b 0) = 0 then (31, [some (.long up), none, some (.long lo), none, some (.int part), some (.long a), none, some (.long b), none, none, none], [], σ) else (13, [some (.long up), none, some (.long lo), none, some (.int part), some (.long a), none, some (.long b), none, none, none], [], σ)) := rfl
set_option maxRecDepth 100000 in
theorem lp_low_blk1 {X : bz_X} (up : Int64) (lo : Int64) (part : Int32) (σ : bz_S) (a : Int64) (b : Int64) : bz_run X bt_X11_lowest 4 (6, [some (.long up), none, some (.long lo), none, some (.int part), some (.long a), none, some (.long b), none, none, none], [], σ) = some (True, if (lg_cmp b 0) = 0 then (31, [some (.long up), none, some (.long lo), none, some (.int part), some (.long a), none, some (.long b), none, none, none], [], σ) else (13, [some (.long up), none, some (.long lo), none, some (.int part), some (.long a), none, some (.long b), none, none, none], [], σ)) := rfl
set_option maxRecDepth 100000 in
theorem lp_low_blk2 {X : bz_X} (up : Int64) (lo : Int64) (part : Int32) (σ : bz_S) (a : Int64) (b : Int64) : bz_run X bt_X11_lowest 9 (13, [some (.long up), none, some (.long lo), none, some (.int part), some (.long a), none, some (.long b), none, none, none], [], σ) = some (¬ b = 0 ∧ True, (6, [some (.long up), none, some (.long lo), none, some (.int part), some (.long b), none, some (.long (a % b)), none, some (.long (a % b)), none], [], σ)) := rfl
set_option maxRecDepth 100000 in
theorem s_lp_low {X : bz_X} {Q : bz_Q} (up lo : Int64) (part : Int32) : ∀ (n : Nat) (σ : bz_S) (a : Int64) (b : Int64) (gm : bz_ab b ≤ n) (kk : bz_wp bz_P X mX11_lowest Q (31, [some (.long up), none, some (.long lo), none, some (.int part), some (.long (lp_low n a b)), none, none, none, none, none], [], σ)), bz_wp bz_P X mX11_lowest (Q) (6, [some (.long up), none, some (.long lo), none, some (.int part), some (.long a), none, some (.long b), none, none, none], [], σ) := by
  intro n
  induction n with
  | zero =>
    intro σ a b gm kk
    refine bz_wpb bT_X11_lowest 4 (b1 := (31, [some (.long up), none, some (.long lo), none, some (.int part), some (.long a), none, some (.long b), none, none, none], [], σ)) (b2 := (13, [some (.long up), none, some (.long lo), none, some (.int part), some (.long a), none, some (.long b), none, none, none], [], σ)) (C := (lg_cmp b 0) = 0) (G := True) (lp_low0_blk1 up lo part σ a b) trivial (fun _ => ?_) (fun z => absurd (show (lg_cmp b 0) = 0 from by rw [bz_ab_0 (Nat.le_zero.mp gm)]; decide) z)
    have e9 : lp_low 0 a b = a := by rw [lp_low]
    rw [e9] at kk
    refine bz_wpw (by exact ⟨rfl, rfl, rfl, rfl, trivial⟩) kk
  | succ n ih =>
    intro σ a b gm kk
    refine bz_wpb bT_X11_lowest 4 (b1 := (31, [some (.long up), none, some (.long lo), none, some (.int part), some (.long a), none, some (.long b), none, none, none], [], σ)) (b2 := (13, [some (.long up), none, some (.long lo), none, some (.int part), some (.long a), none, some (.long b), none, none, none], [], σ)) (C := (lg_cmp b 0) = 0) (G := True) (lp_low_blk1 up lo part σ a b) trivial (fun h1 => ?_) (fun h1 => ?_)
    · skip
      have e9 : lp_low (n + 1) a b = a := by rw [lp_low, if_pos (h1)]
      rw [e9] at kk
      refine bz_wpw (by exact ⟨rfl, rfl, rfl, rfl, trivial⟩) kk
    · skip
      refine bz_wpn bT_X11_lowest 9 (b := (6, [some (.long up), none, some (.long lo), none, some (.int part), some (.long b), none, some (.long (a % b)), none, some (.long (a % b)), none], [], σ)) (G := ¬ b = 0 ∧ True) (lp_low_blk2 up lo part σ a b) ⟨(bz_lcn (by assumption)), trivial⟩ ?_
      have e9 : lp_low (n + 1) a b = (lp_low n b (a % b)) := by rw [lp_low, if_neg (h1)]
      rw [e9] at kk
      refine bz_wpw (L' := [some (.long up), none, some (.long lo), none, some (.int part), some (.long b), none, some (.long (a % b)), none, none, none]) (by exact ⟨rfl, rfl, rfl, rfl, rfl, trivial⟩) ?_
      exact ih σ b (a % b) (by have h8 := bz_ab_p (b := b) (by assumption); have h9 := Nat.mod_lt (bz_ab a) h8; rw [bz_ab_m]; omega) kk

theorem q_low : ∀ (n : Nat) (a b : Int64), bz_ab b ≤ n → bz_ab (lp_low n a b) = Nat.gcd (bz_ab b) (bz_ab a) := by
  intro n
  induction n with
  | zero =>
    intro a b hB
    rw [lp_low, Nat.le_zero.mp hB, Nat.gcd_zero_left]
  | succ n ih =>
    intro a b hB
    rw [lp_low]
    split
    · rename_i h
      rw [show bz_ab b = 0 from by rw [bz_lc0 h]; decide, Nat.gcd_zero_left]
    · rename_i h
      have h8 := bz_ab_p h
      have h9 := Nat.mod_lt (bz_ab a) h8
      rw [ih b (a % b) (by rw [bz_ab_m]; omega), bz_ab_m]
      exact (Nat.gcd_rec (bz_ab b) (bz_ab a)).symm
theorem bz_low_n {up lo : Int64} (hl : ¬ lo = 0) : ¬ lp_low (bz_ab up) lo up = 0 := by
  have q := q_low (bz_ab up) lo up (Nat.le_refl _)
  intro z
  rw [z] at q
  have h1 : Nat.gcd (bz_ab up) (bz_ab lo) = 0 := q.symm.trans (by decide)
  exact hl (bz_ab_0 (Nat.eq_zero_of_gcd_eq_zero_right h1))

def f_X11_lowest (up : Int64) (lo : Int64) (part : Int32) : Int64 := if part = 0 then (up / (lp_low (bz_ab up) lo up)) else (lo / (lp_low (bz_ab up) lo up))
set_option maxRecDepth 100000 in
theorem f_X11_lowest_blk1 {X : bz_X} (σ : bz_S) (up : Int64) (lo : Int64) (part : Int32) : bz_run X bt_X11_lowest 4 (0, [some (.long up), none, some (.long lo), none, some (.int part), none, none, none, none, none, none], [], σ) = some (True, (6, [some (.long up), none, some (.long lo), none, some (.int part), some (.long lo), none, some (.long up), none, none, none], [], σ)) := rfl
set_option maxRecDepth 100000 in
theorem f_X11_lowest_blk2 {X : bz_X} (σ : bz_S) (up : Int64) (lo : Int64) (part : Int32) : bz_run X bt_X11_lowest 2 (31, [some (.long up), none, some (.long lo), none, some (.int part), some (.long (lp_low (bz_ab up) lo up)), none, none, none, none, none], [], σ) = some (True, if ¬ part = 0 then (43, [some (.long up), none, some (.long lo), none, some (.int part), some (.long (lp_low (bz_ab up) lo up)), none, none, none, none, none], [], σ) else (36, [some (.long up), none, some (.long lo), none, some (.int part), some (.long (lp_low (bz_ab up) lo up)), none, none, none, none, none], [], σ)) := rfl
set_option maxRecDepth 100000 in
theorem f_X11_lowest_blk3 {X : bz_X} (σ : bz_S) (up : Int64) (lo : Int64) (part : Int32) : bz_run X bt_X11_lowest 3 (43, [some (.long up), none, some (.long lo), none, some (.int part), some (.long (lp_low (bz_ab up) lo up)), none, none, none, none, none], [], σ) = some (¬ (lp_low (bz_ab up) lo up) = 0 ∧ True, (47, [some (.long up), none, some (.long lo), none, some (.int part), some (.long (lp_low (bz_ab up) lo up)), none, none, none, none, none], [.long (lo / (lp_low (bz_ab up) lo up))], σ)) := rfl
set_option maxRecDepth 100000 in
theorem f_X11_lowest_blk4 {X : bz_X} (σ : bz_S) (up : Int64) (lo : Int64) (part : Int32) : bz_run X bt_X11_lowest 4 (36, [some (.long up), none, some (.long lo), none, some (.int part), some (.long (lp_low (bz_ab up) lo up)), none, none, none, none, none], [], σ) = some (¬ (lp_low (bz_ab up) lo up) = 0 ∧ True, (47, [some (.long up), none, some (.long lo), none, some (.int part), some (.long (lp_low (bz_ab up) lo up)), none, none, none, none, none], [.long (up / (lp_low (bz_ab up) lo up))], σ)) := rfl
set_option maxRecDepth 100000 in
theorem s_X11_lowest {X : bz_X} (σ : bz_S) (up : Int64) (lo : Int64) (part : Int32) (hl : ¬ lo = 0) : bz_C bz_P X mX11_lowest [.long up, .long lo, .int part] σ (bz_pl (f_X11_lowest up lo part) σ) := by
  show bz_wp bz_P X mX11_lowest (bz_pl (f_X11_lowest up lo part) σ) (0, [some (.long up), none, some (.long lo), none, some (.int part), none, none, none, none, none, none], [], σ)
  refine bz_wpn bT_X11_lowest 4 (b := (6, [some (.long up), none, some (.long lo), none, some (.int part), some (.long lo), none, some (.long up), none, none, none], [], σ)) (G := True) (f_X11_lowest_blk1 σ up lo part) trivial ?_
  refine s_lp_low up lo part (bz_ab up) σ lo up (Nat.le_refl _) ?_
  refine bz_wpb bT_X11_lowest 2 (b1 := (43, [some (.long up), none, some (.long lo), none, some (.int part), some (.long (lp_low (bz_ab up) lo up)), none, none, none, none, none], [], σ)) (b2 := (36, [some (.long up), none, some (.long lo), none, some (.int part), some (.long (lp_low (bz_ab up) lo up)), none, none, none, none, none], [], σ)) (C := ¬ part = 0) (G := True) (f_X11_lowest_blk2 σ up lo part) trivial (fun h1 => ?_) (fun h1 => ?_)
  · skip
    refine bz_wpn bT_X11_lowest 3 (b := (47, [some (.long up), none, some (.long lo), none, some (.int part), some (.long (lp_low (bz_ab up) lo up)), none, none, none, none, none], [.long (lo / (lp_low (bz_ab up) lo up))], σ)) (G := ¬ (lp_low (bz_ab up) lo up) = 0 ∧ True) (f_X11_lowest_blk3 σ up lo part) ⟨(bz_low_n hl), trivial⟩ ?_
    refine bz_wpr bT_X11_lowest rfl rfl trivial ?_
    have e9 : f_X11_lowest up lo part = (lo / (lp_low (bz_ab up) lo up)) := by rw [f_X11_lowest, if_neg (h1)]
    exact ⟨by rw [e9], rfl⟩
  · skip
    refine bz_wpn bT_X11_lowest 4 (b := (47, [some (.long up), none, some (.long lo), none, some (.int part), some (.long (lp_low (bz_ab up) lo up)), none, none, none, none, none], [.long (up / (lp_low (bz_ab up) lo up))], σ)) (G := ¬ (lp_low (bz_ab up) lo up) = 0 ∧ True) (f_X11_lowest_blk4 σ up lo part) ⟨(bz_low_n hl), trivial⟩ ?_
    refine bz_wpr bT_X11_lowest rfl rfl trivial ?_
    have e9 : f_X11_lowest up lo part = (up / (lp_low (bz_ab up) lo up)) := by rw [f_X11_lowest, if_pos ((Decidable.not_not.mp h1))]
    exact ⟨by rw [e9], rfl⟩

def lp_mpow (ba : Int64) : Nat → Int64 → Int32 → Int64
  | 0, pr, iv => pr
  | n + 1, pr, iv => (lp_mpow ba n (pr * ba) (iv + 1))
set_option maxRecDepth 100000 in
theorem lp_mpow0_blk1 {X : bz_X} (ba : Int64) (ti : Int32) (σ : bz_S) (pr : Int64) (iv : Int32) : bz_run X bt_X11_power 3 (5, [some (.long ba), none, some (.int ti), some (.long pr), none, some (.int iv)], [], σ) = some (True, if ti ≤ iv then (21, [some (.long ba), none, some (.int ti), some (.long pr), none, some (.int iv)], [], σ) else (11, [some (.long ba), none, some (.int ti), some (.long pr), none, some (.int iv)], [], σ)) := rfl
set_option maxRecDepth 100000 in
theorem lp_mpow0_blk2 {X : bz_X} (ba : Int64) (ti : Int32) (σ : bz_S) (pr : Int64) (iv : Int32) : bz_run X bt_X11_power 1 (21, [some (.long ba), none, some (.int ti), some (.long pr), none, some (.int iv)], [], σ) = some (True, (22, [some (.long ba), none, some (.int ti), some (.long pr), none, some (.int iv)], [.long pr], σ)) := rfl
set_option maxRecDepth 100000 in
theorem lp_mpow_blk1 {X : bz_X} (ba : Int64) (ti : Int32) (σ : bz_S) (pr : Int64) (iv : Int32) : bz_run X bt_X11_power 3 (5, [some (.long ba), none, some (.int ti), some (.long pr), none, some (.int iv)], [], σ) = some (True, if ti ≤ iv then (21, [some (.long ba), none, some (.int ti), some (.long pr), none, some (.int iv)], [], σ) else (11, [some (.long ba), none, some (.int ti), some (.long pr), none, some (.int iv)], [], σ)) := rfl
set_option maxRecDepth 100000 in
theorem lp_mpow_blk2 {X : bz_X} (ba : Int64) (ti : Int32) (σ : bz_S) (pr : Int64) (iv : Int32) : bz_run X bt_X11_power 6 (11, [some (.long ba), none, some (.int ti), some (.long pr), none, some (.int iv)], [], σ) = some (True, (5, [some (.long ba), none, some (.int ti), some (.long (pr * ba)), none, some (.int (iv + 1))], [], σ)) := rfl
set_option maxRecDepth 100000 in
theorem s_lp_mpow {X : bz_X} (ba : Int64) (ti : Int32) (TI : Nat) (hT : ti = nI TI) (hT2 : TI < 100) : ∀ (n : Nat) (σ : bz_S) (pr : Int64) (iv : Int32) (j9 : Nat) (hi : iv = nI j9) (hj : j9 + n = TI), bz_wp bz_P X mX11_power (bz_pl (lp_mpow ba n pr iv) σ) (5, [some (.long ba), none, some (.int ti), some (.long pr), none, some (.int iv)], [], σ) := by
  intro n
  induction n with
  | zero =>
    intro σ pr iv j9 hi hj
    refine bz_wpb bT_X11_power 3 (b1 := (21, [some (.long ba), none, some (.int ti), some (.long pr), none, some (.int iv)], [], σ)) (b2 := (11, [some (.long ba), none, some (.int ti), some (.long pr), none, some (.int iv)], [], σ)) (C := ti ≤ iv) (G := True) (lp_mpow0_blk1 ba ti σ pr iv) trivial (fun _ => ?_) (fun z => absurd (show ti ≤ iv from by rw [hi, hT]; exact nI_le (by omega) (by omega)) z)
    refine bz_wpn bT_X11_power 1 (b := (22, [some (.long ba), none, some (.int ti), some (.long pr), none, some (.int iv)], [.long pr], σ)) (G := True) (lp_mpow0_blk2 ba ti σ pr iv) trivial ?_
    refine bz_wpr bT_X11_power rfl rfl trivial ?_
    have e9 : lp_mpow ba 0 pr iv = pr := by rw [lp_mpow]
    exact ⟨by rw [e9], rfl⟩
  | succ n ih =>
    intro σ pr iv j9 hi hj
    refine bz_wpb bT_X11_power 3 (b1 := (21, [some (.long ba), none, some (.int ti), some (.long pr), none, some (.int iv)], [], σ)) (b2 := (11, [some (.long ba), none, some (.int ti), some (.long pr), none, some (.int iv)], [], σ)) (C := ti ≤ iv) (G := True) (lp_mpow_blk1 ba ti σ pr iv) trivial (fun z => absurd z (show ¬ ti ≤ iv from by rw [hi, hT]; exact nI_ge (by omega) (by omega))) (fun _ => ?_)
    refine bz_wpn bT_X11_power 6 (b := (5, [some (.long ba), none, some (.int ti), some (.long (pr * ba)), none, some (.int (iv + 1))], [], σ)) (G := True) (lp_mpow_blk2 ba ti σ pr iv) trivial ?_
    have e9 : lp_mpow ba (n + 1) pr iv = (lp_mpow ba n (pr * ba) (iv + 1)) := by rw [lp_mpow]
    rw [e9]
    exact ih σ (pr * ba) (iv + 1) (j9 + 1) (by rw [hi]; exact nI_1 j9) (by omega)

def f_X11_power (ba : Int64) (ti : Int32) : Int64 := lp_mpow ba ti.toNatClampNeg 1 0
set_option maxRecDepth 100000 in
theorem f_X11_power_blk1 {X : bz_X} (σ : bz_S) (ba : Int64) (ti : Int32) : bz_run X bt_X11_power 4 (0, [some (.long ba), none, some (.int ti), none, none, none], [], σ) = some (True, (5, [some (.long ba), none, some (.int ti), some (.long 1), none, some (.int 0)], [], σ)) := rfl
set_option maxRecDepth 100000 in
theorem s_X11_power {X : bz_X} (σ : bz_S) (ba : Int64) (ti : Int32) (ht : ∃ N, N < 100 ∧ ti = nI N) : bz_C bz_P X mX11_power [.long ba, .int ti] σ (bz_pl (f_X11_power ba ti) σ) := by
  show bz_wp bz_P X mX11_power (bz_pl (f_X11_power ba ti) σ) (0, [some (.long ba), none, some (.int ti), none, none, none], [], σ)
  refine bz_wpn bT_X11_power 4 (b := (5, [some (.long ba), none, some (.int ti), some (.long 1), none, some (.int 0)], [], σ)) (G := True) (f_X11_power_blk1 σ ba ti) trivial ?_
  have e9 : f_X11_power ba ti = lp_mpow ba ti.toNatClampNeg 1 0 := by rw [f_X11_power]
  rw [e9]
  obtain ⟨TI, hT2, hT⟩ := ht
  exact s_lp_mpow ba ti TI hT hT2 _ σ 1 0 0 rfl (by rw [hT, nI_clamp (by omega)]; omega)

theorem bz_9 {x y : Int32} {a b : Nat} (hx : x = nI a) (hy : y = nI b) : (9 * x) + y = nI (9 * a + b) := by
  rw [hx, hy]
  show nI 9 * nI a + nI b = _
  rw [bz_mulN, nI_add]
theorem bz_81 {x y : Int32} {a b : Nat} (hx : x = nI a) (hy : y = nI b) (h : 9 * a + b < 81) : vp_in ((9 * x) + y) 81 := by
  rw [bz_9 hx hy]
  exact vp_in_nI h (by decide)
theorem bz_82 {x y : Int32} {a b : Nat} (hx : x = nI a) (hy : y = nI b) (h : 9 * a + b + 1 < 81) : vp_in (((9 * x) + y) + 1) 81 := by
  rw [bz_9 hx hy, nI_1]
  exact vp_in_nI h (by decide)

def lp_fc1 (a : Int32) (b : Int32) : Nat → bz_S → Int32 → bz_S
  | 0, σ, e => σ
  | n + 1, σ, e => if e = ((9 * a) + b) then (lp_fc1 a b n (σ.1, (bz_up σ.2 49 e.toNatClampNeg 1)) (e + 1)) else (lp_fc1 a b n (σ.1, (bz_up σ.2 49 e.toNatClampNeg 0)) (e + 1))
set_option maxRecDepth 100000 in
theorem lp_fc10_blk1 {X : bz_X} (a : Int32) (b : Int32) (g : Int32) (t : Int32) (σ : bz_S) (e : Int32) : bz_run X bt_X11_findChance 3 (3, [some (.ref 32), some (.int g), some (.int t), some (.int a), some (.int b), some (.int e), none], [], σ) = some (True, if 81 ≤ e then (40, [some (.ref 32), some (.int g), some (.int t), some (.int a), some (.int b), some (.int e), none], [], σ) else (10, [some (.ref 32), some (.int g), some (.int t), some (.int a), some (.int b), some (.int e), none], [], σ)) := rfl
set_option maxRecDepth 100000 in
theorem lp_fc1_blk1 {X : bz_X} (a : Int32) (b : Int32) (g : Int32) (t : Int32) (σ : bz_S) (e : Int32) : bz_run X bt_X11_findChance 3 (3, [some (.ref 32), some (.int g), some (.int t), some (.int a), some (.int b), some (.int e), none], [], σ) = some (True, if 81 ≤ e then (40, [some (.ref 32), some (.int g), some (.int t), some (.int a), some (.int b), some (.int e), none], [], σ) else (10, [some (.ref 32), some (.int g), some (.int t), some (.int a), some (.int b), some (.int e), none], [], σ)) := rfl
set_option maxRecDepth 100000 in
theorem lp_fc1_blk2 {X : bz_X} (a : Int32) (b : Int32) (g : Int32) (t : Int32) (σ : bz_S) (e : Int32) : bz_run X bt_X11_findChance 10 (10, [some (.ref 32), some (.int g), some (.int t), some (.int a), some (.int b), some (.int e), none], [], σ) = some (True, if ¬ e = ((9 * a) + b) then (32, [some (.ref 32), some (.int g), some (.int t), some (.int a), some (.int b), some (.int e), none], [.int e, .ref 49], σ) else (28, [some (.ref 32), some (.int g), some (.int t), some (.int a), some (.int b), some (.int e), none], [.int e, .ref 49], σ)) := rfl
set_option maxRecDepth 100000 in
theorem lp_fc1_blk3 {X : bz_X} (a : Int32) (b : Int32) (g : Int32) (t : Int32) (σ : bz_S) (e : Int32) : bz_run X bt_X11_findChance 4 (32, [some (.ref 32), some (.int g), some (.int t), some (.int a), some (.int b), some (.int e), none], [.int e, .ref 49], σ) = some (vp_in e 81 ∧ True, (3, [some (.ref 32), some (.int g), some (.int t), some (.int a), some (.int b), some (.int (e + 1)), none], [], (σ.1, (bz_up σ.2 49 e.toNatClampNeg 0)))) := rfl
set_option maxRecDepth 100000 in
theorem lp_fc1_blk4 {X : bz_X} (a : Int32) (b : Int32) (g : Int32) (t : Int32) (σ : bz_S) (e : Int32) : bz_run X bt_X11_findChance 5 (28, [some (.ref 32), some (.int g), some (.int t), some (.int a), some (.int b), some (.int e), none], [.int e, .ref 49], σ) = some (vp_in e 81 ∧ True, (3, [some (.ref 32), some (.int g), some (.int t), some (.int a), some (.int b), some (.int (e + 1)), none], [], (σ.1, (bz_up σ.2 49 e.toNatClampNeg 1)))) := rfl
set_option maxRecDepth 100000 in
theorem s_lp_fc1 {X : bz_X} (a : Int32) (b : Int32) {Q : bz_Q} (g t : Int32) : ∀ (n : Nat) (σ : bz_S) (e : Int32) (j9 : Nat) (hi : e = nI j9) (hj : j9 + n = 81) (kk : bz_wp bz_P X mX11_findChance Q (40, [some (.ref 32), some (.int g), some (.int t), some (.int a), some (.int b), none, none], [], (lp_fc1 a b n σ e))), bz_wp bz_P X mX11_findChance (Q) (3, [some (.ref 32), some (.int g), some (.int t), some (.int a), some (.int b), some (.int e), none], [], σ) := by
  intro n
  induction n with
  | zero =>
    intro σ e j9 hi hj kk
    refine bz_wpb bT_X11_findChance 3 (b1 := (40, [some (.ref 32), some (.int g), some (.int t), some (.int a), some (.int b), some (.int e), none], [], σ)) (b2 := (10, [some (.ref 32), some (.int g), some (.int t), some (.int a), some (.int b), some (.int e), none], [], σ)) (C := 81 ≤ e) (G := True) (lp_fc10_blk1 a b g t σ e) trivial (fun _ => ?_) (fun z => absurd (show (81 : Int32) ≤ e from by rw [hi, show j9 = 81 from by omega]; decide) z)
    have e9 : lp_fc1 a b 0 σ e = σ := by rw [lp_fc1]
    rw [e9] at kk
    refine bz_wpw (by exact ⟨rfl, rfl, rfl, rfl, rfl, trivial⟩) kk
  | succ n ih =>
    intro σ e j9 hi hj kk
    refine bz_wpb bT_X11_findChance 3 (b1 := (40, [some (.ref 32), some (.int g), some (.int t), some (.int a), some (.int b), some (.int e), none], [], σ)) (b2 := (10, [some (.ref 32), some (.int g), some (.int t), some (.int a), some (.int b), some (.int e), none], [], σ)) (C := 81 ≤ e) (G := True) (lp_fc1_blk1 a b g t σ e) trivial (fun z => absurd z (show ¬ (81 : Int32) ≤ e from by rw [hi]; exact nI_ge (b := 81) (by omega) (by decide))) (fun _ => ?_)
    refine bz_wpb bT_X11_findChance 10 (b1 := (32, [some (.ref 32), some (.int g), some (.int t), some (.int a), some (.int b), some (.int e), none], [.int e, .ref 49], σ)) (b2 := (28, [some (.ref 32), some (.int g), some (.int t), some (.int a), some (.int b), some (.int e), none], [.int e, .ref 49], σ)) (C := ¬ e = ((9 * a) + b)) (G := True) (lp_fc1_blk2 a b g t σ e) trivial (fun h1 => ?_) (fun h1 => ?_)
    · skip
      refine bz_wpn bT_X11_findChance 4 (b := (3, [some (.ref 32), some (.int g), some (.int t), some (.int a), some (.int b), some (.int (e + 1)), none], [], (σ.1, (bz_up σ.2 49 e.toNatClampNeg 0)))) (G := vp_in e 81 ∧ True) (lp_fc1_blk3 a b g t σ e) ⟨(by rw [hi]; exact vp_in_nI (by omega) (by decide)), trivial⟩ ?_
      have e9 : lp_fc1 a b (n + 1) σ e = (lp_fc1 a b n (σ.1, (bz_up σ.2 49 e.toNatClampNeg 0)) (e + 1)) := by rw [lp_fc1, if_neg (h1)]
      rw [e9] at kk
      exact ih (σ.1, (bz_up σ.2 49 e.toNatClampNeg 0)) (e + 1) (j9 + 1) (by rw [hi]; exact nI_1 j9) (by omega) kk
    · skip
      refine bz_wpn bT_X11_findChance 5 (b := (3, [some (.ref 32), some (.int g), some (.int t), some (.int a), some (.int b), some (.int (e + 1)), none], [], (σ.1, (bz_up σ.2 49 e.toNatClampNeg 1)))) (G := vp_in e 81 ∧ True) (lp_fc1_blk4 a b g t σ e) ⟨(by rw [hi]; exact vp_in_nI (by omega) (by decide)), trivial⟩ ?_
      have e9 : lp_fc1 a b (n + 1) σ e = (lp_fc1 a b n (σ.1, (bz_up σ.2 49 e.toNatClampNeg 1)) (e + 1)) := by rw [lp_fc1, if_pos ((Decidable.not_not.mp h1))]
      rw [e9] at kk
      exact ih (σ.1, (bz_up σ.2 49 e.toNatClampNeg 1)) (e + 1) (j9 + 1) (by rw [hi]; exact nI_1 j9) (by omega) kk
theorem rlp_fc1 (a : Int32) (b : Int32) : ∀ (n : Nat) (σ : bz_S) (e : Int32), bz_fr [49] σ (lp_fc1 a b n σ e) := by
  intro n
  induction n with
  | zero =>
    intro σ e
    rw [lp_fc1]
    exact bz_fr_rf
  | succ n ihc =>
    intro σ e
    rw [lp_fc1]
    exact (bz_ite (bz_fr_tr (τ := (σ.1, (bz_up σ.2 49 e.toNatClampNeg 1))) ⟨(bz_fr_rf).1, (bz_f1_up (bz_fr_rf).2 (by decide))⟩ (ihc (σ.1, (bz_up σ.2 49 e.toNatClampNeg 1)) (e + 1))) (bz_fr_tr (τ := (σ.1, (bz_up σ.2 49 e.toNatClampNeg 0))) ⟨(bz_fr_rf).1, (bz_f1_up (bz_fr_rf).2 (by decide))⟩ (ihc (σ.1, (bz_up σ.2 49 e.toNatClampNeg 0)) (e + 1))))
theorem qlp_fc1 (a : Int32) (b : Int32) : ∀ (n : Nat) (σ : bz_S) (e : Int32), bz_fo ([] : List Nat) σ (lp_fc1 a b n σ e) := by
  intro n
  induction n with
  | zero =>
    intro σ e
    rw [lp_fc1]
    exact bz_fo_rf
  | succ n ihc =>
    intro σ e
    rw [lp_fc1]
    exact (bz_ite (bz_fo_tr (τ := (σ.1, (bz_up σ.2 49 e.toNatClampNeg 1))) bz_fo_rf (ihc (σ.1, (bz_up σ.2 49 e.toNatClampNeg 1)) (e + 1))) (bz_fo_tr (τ := (σ.1, (bz_up σ.2 49 e.toNatClampNeg 0))) bz_fo_rf (ihc (σ.1, (bz_up σ.2 49 e.toNatClampNeg 0)) (e + 1))))

def lp_fc3 (t : Int32) (x : Int32) : Nat → bz_S → Int32 → bz_S
  | 0, σ, y => σ
  | n + 1, σ, y => (lp_fc3 t x n (σ.1, (bz_up (bz_up σ.2 49 (((9 * (x + 1)) + y).toNatClampNeg) ((σ.2 49 (((9 * (x + 1)) + y).toNatClampNeg)) + ((Int32.toInt64 t) * (σ.2 49 (((9 * x) + y).toNatClampNeg))))) 49 ((((9 * x) + y) + 1).toNatClampNeg) (((bz_up σ.2 49 (((9 * (x + 1)) + y).toNatClampNeg) ((σ.2 49 (((9 * (x + 1)) + y).toNatClampNeg)) + ((Int32.toInt64 t) * (σ.2 49 (((9 * x) + y).toNatClampNeg))))) 49 ((((9 * x) + y) + 1).toNatClampNeg)) + ((10 - (Int32.toInt64 t)) * ((bz_up σ.2 49 (((9 * (x + 1)) + y).toNatClampNeg) ((σ.2 49 (((9 * (x + 1)) + y).toNatClampNeg)) + ((Int32.toInt64 t) * (σ.2 49 (((9 * x) + y).toNatClampNeg))))) 49 (((9 * x) + y).toNatClampNeg)))))) (y + 1))
set_option maxRecDepth 100000 in
theorem lp_fc30_blk1 {X : bz_X} (t : Int32) (x : Int32) (g : Int32) (a : Int32) (b : Int32) (σ : bz_S) (y : Int32) : bz_run X bt_X11_findChance 3 (53, [some (.ref 32), some (.int g), some (.int t), some (.int a), some (.int b), some (.int x), some (.int y)], [], σ) = some (True, if g ≤ y then (137, [some (.ref 32), some (.int g), some (.int t), some (.int a), some (.int b), some (.int x), some (.int y)], [], σ) else (59, [some (.ref 32), some (.int g), some (.int t), some (.int a), some (.int b), some (.int x), some (.int y)], [], σ)) := rfl
set_option maxRecDepth 100000 in
theorem lp_fc3_blk1 {X : bz_X} (t : Int32) (x : Int32) (g : Int32) (a : Int32) (b : Int32) (σ : bz_S) (y : Int32) : bz_run X bt_X11_findChance 3 (53, [some (.ref 32), some (.int g), some (.int t), some (.int a), some (.int b), some (.int x), some (.int y)], [], σ) = some (True, if g ≤ y then (137, [some (.ref 32), some (.int g), some (.int t), some (.int a), some (.int b), some (.int x), some (.int y)], [], σ) else (59, [some (.ref 32), some (.int g), some (.int t), some (.int a), some (.int b), some (.int x), some (.int y)], [], σ)) := rfl
set_option maxRecDepth 100000 in
theorem lp_fc3_blk2 {X : bz_X} (t : Int32) (x : Int32) (g : Int32) (a : Int32) (b : Int32) (σ : bz_S) (y : Int32) : bz_run X bt_X11_findChance 34 (59, [some (.ref 32), some (.int g), some (.int t), some (.int a), some (.int b), some (.int x), some (.int y)], [], σ) = some (vp_in ((9 * (x + 1)) + y) 81 ∧ vp_in ((9 * x) + y) 81 ∧ vp_in ((9 * (x + 1)) + y) 81 ∧ True, (108, [some (.ref 32), some (.int g), some (.int t), some (.int a), some (.int b), some (.int x), some (.int y)], [.int (((9 * x) + y) + 1), .ref 49, .int (((9 * x) + y) + 1), .ref 49], (σ.1, (bz_up σ.2 49 (((9 * (x + 1)) + y).toNatClampNeg) ((σ.2 49 (((9 * (x + 1)) + y).toNatClampNeg)) + ((Int32.toInt64 t) * (σ.2 49 (((9 * x) + y).toNatClampNeg)))))))) := rfl
set_option maxRecDepth 100000 in
theorem lp_fc3_blk3 {X : bz_X} (t : Int32) (x : Int32) (g : Int32) (a : Int32) (b : Int32) (σ : bz_S) (y : Int32) : bz_run X bt_X11_findChance 12 (108, [some (.ref 32), some (.int g), some (.int t), some (.int a), some (.int b), some (.int x), some (.int y)], [.int (((9 * x) + y) + 1), .ref 49, .int (((9 * x) + y) + 1), .ref 49], (σ.1, (bz_up σ.2 49 (((9 * (x + 1)) + y).toNatClampNeg) ((σ.2 49 (((9 * (x + 1)) + y).toNatClampNeg)) + ((Int32.toInt64 t) * (σ.2 49 (((9 * x) + y).toNatClampNeg))))))) = some (vp_in (((9 * x) + y) + 1) 81 ∧ True, (127, [some (.ref 32), some (.int g), some (.int t), some (.int a), some (.int b), some (.int x), some (.int y)], [.int ((9 * x) + y), .ref 49, .long (10 - (Int32.toInt64 t)), .long ((bz_up σ.2 49 (((9 * (x + 1)) + y).toNatClampNeg) ((σ.2 49 (((9 * (x + 1)) + y).toNatClampNeg)) + ((Int32.toInt64 t) * (σ.2 49 (((9 * x) + y).toNatClampNeg))))) 49 ((((9 * x) + y) + 1).toNatClampNeg)), .int (((9 * x) + y) + 1), .ref 49], (σ.1, (bz_up σ.2 49 (((9 * (x + 1)) + y).toNatClampNeg) ((σ.2 49 (((9 * (x + 1)) + y).toNatClampNeg)) + ((Int32.toInt64 t) * (σ.2 49 (((9 * x) + y).toNatClampNeg)))))))) := rfl
set_option maxRecDepth 100000 in
theorem lp_fc3_blk4 {X : bz_X} (t : Int32) (x : Int32) (g : Int32) (a : Int32) (b : Int32) (σ : bz_S) (y : Int32) : bz_run X bt_X11_findChance 3 (127, [some (.ref 32), some (.int g), some (.int t), some (.int a), some (.int b), some (.int x), some (.int y)], [.int ((9 * x) + y), .ref 49, .long (10 - (Int32.toInt64 t)), .long ((bz_up σ.2 49 (((9 * (x + 1)) + y).toNatClampNeg) ((σ.2 49 (((9 * (x + 1)) + y).toNatClampNeg)) + ((Int32.toInt64 t) * (σ.2 49 (((9 * x) + y).toNatClampNeg))))) 49 ((((9 * x) + y) + 1).toNatClampNeg)), .int (((9 * x) + y) + 1), .ref 49], (σ.1, (bz_up σ.2 49 (((9 * (x + 1)) + y).toNatClampNeg) ((σ.2 49 (((9 * (x + 1)) + y).toNatClampNeg)) + ((Int32.toInt64 t) * (σ.2 49 (((9 * x) + y).toNatClampNeg))))))) = some (vp_in ((9 * x) + y) 81 ∧ True, (130, [some (.ref 32), some (.int g), some (.int t), some (.int a), some (.int b), some (.int x), some (.int y)], [.long (((bz_up σ.2 49 (((9 * (x + 1)) + y).toNatClampNeg) ((σ.2 49 (((9 * (x + 1)) + y).toNatClampNeg)) + ((Int32.toInt64 t) * (σ.2 49 (((9 * x) + y).toNatClampNeg))))) 49 ((((9 * x) + y) + 1).toNatClampNeg)) + ((10 - (Int32.toInt64 t)) * ((bz_up σ.2 49 (((9 * (x + 1)) + y).toNatClampNeg) ((σ.2 49 (((9 * (x + 1)) + y).toNatClampNeg)) + ((Int32.toInt64 t) * (σ.2 49 (((9 * x) + y).toNatClampNeg))))) 49 (((9 * x) + y).toNatClampNeg)))), .int (((9 * x) + y) + 1), .ref 49], (σ.1, (bz_up σ.2 49 (((9 * (x + 1)) + y).toNatClampNeg) ((σ.2 49 (((9 * (x + 1)) + y).toNatClampNeg)) + ((Int32.toInt64 t) * (σ.2 49 (((9 * x) + y).toNatClampNeg)))))))) := rfl
set_option maxRecDepth 100000 in
theorem lp_fc3_blk5 {X : bz_X} (t : Int32) (x : Int32) (g : Int32) (a : Int32) (b : Int32) (σ : bz_S) (y : Int32) : bz_run X bt_X11_findChance 3 (130, [some (.ref 32), some (.int g), some (.int t), some (.int a), some (.int b), some (.int x), some (.int y)], [.long (((bz_up σ.2 49 (((9 * (x + 1)) + y).toNatClampNeg) ((σ.2 49 (((9 * (x + 1)) + y).toNatClampNeg)) + ((Int32.toInt64 t) * (σ.2 49 (((9 * x) + y).toNatClampNeg))))) 49 ((((9 * x) + y) + 1).toNatClampNeg)) + ((10 - (Int32.toInt64 t)) * ((bz_up σ.2 49 (((9 * (x + 1)) + y).toNatClampNeg) ((σ.2 49 (((9 * (x + 1)) + y).toNatClampNeg)) + ((Int32.toInt64 t) * (σ.2 49 (((9 * x) + y).toNatClampNeg))))) 49 (((9 * x) + y).toNatClampNeg)))), .int (((9 * x) + y) + 1), .ref 49], (σ.1, (bz_up σ.2 49 (((9 * (x + 1)) + y).toNatClampNeg) ((σ.2 49 (((9 * (x + 1)) + y).toNatClampNeg)) + ((Int32.toInt64 t) * (σ.2 49 (((9 * x) + y).toNatClampNeg))))))) = some (vp_in (((9 * x) + y) + 1) 81 ∧ True, (53, [some (.ref 32), some (.int g), some (.int t), some (.int a), some (.int b), some (.int x), some (.int (y + 1))], [], (σ.1, (bz_up (bz_up σ.2 49 (((9 * (x + 1)) + y).toNatClampNeg) ((σ.2 49 (((9 * (x + 1)) + y).toNatClampNeg)) + ((Int32.toInt64 t) * (σ.2 49 (((9 * x) + y).toNatClampNeg))))) 49 ((((9 * x) + y) + 1).toNatClampNeg) (((bz_up σ.2 49 (((9 * (x + 1)) + y).toNatClampNeg) ((σ.2 49 (((9 * (x + 1)) + y).toNatClampNeg)) + ((Int32.toInt64 t) * (σ.2 49 (((9 * x) + y).toNatClampNeg))))) 49 ((((9 * x) + y) + 1).toNatClampNeg)) + ((10 - (Int32.toInt64 t)) * ((bz_up σ.2 49 (((9 * (x + 1)) + y).toNatClampNeg) ((σ.2 49 (((9 * (x + 1)) + y).toNatClampNeg)) + ((Int32.toInt64 t) * (σ.2 49 (((9 * x) + y).toNatClampNeg))))) 49 (((9 * x) + y).toNatClampNeg)))))))) := rfl
set_option maxRecDepth 100000 in
theorem s_lp_fc3 {X : bz_X} (t : Int32) (x : Int32) {Q : bz_Q} (g a b : Int32) (GN : Nat) (hG : g = nI GN) (hG2 : GN ≤ 8) (XN : Nat) (hX : x = nI XN) (hX2 : XN < GN) : ∀ (n : Nat) (σ : bz_S) (y : Int32) (j9 : Nat) (hi : y = nI j9) (hj : j9 + n = GN) (kk : bz_wp bz_P X mX11_findChance Q (137, [some (.ref 32), some (.int g), some (.int t), some (.int a), some (.int b), some (.int x), none], [], (lp_fc3 t x n σ y))), bz_wp bz_P X mX11_findChance (Q) (53, [some (.ref 32), some (.int g), some (.int t), some (.int a), some (.int b), some (.int x), some (.int y)], [], σ) := by
  intro n
  induction n with
  | zero =>
    intro σ y j9 hi hj kk
    refine bz_wpb bT_X11_findChance 3 (b1 := (137, [some (.ref 32), some (.int g), some (.int t), some (.int a), some (.int b), some (.int x), some (.int y)], [], σ)) (b2 := (59, [some (.ref 32), some (.int g), some (.int t), some (.int a), some (.int b), some (.int x), some (.int y)], [], σ)) (C := g ≤ y) (G := True) (lp_fc30_blk1 t x g a b σ y) trivial (fun _ => ?_) (fun z => absurd (show g ≤ y from by rw [hi, hG]; exact nI_le (by omega) (by omega)) z)
    have e9 : lp_fc3 t x 0 σ y = σ := by rw [lp_fc3]
    rw [e9] at kk
    refine bz_wpw (by exact ⟨rfl, rfl, rfl, rfl, rfl, rfl, trivial⟩) kk
  | succ n ih =>
    intro σ y j9 hi hj kk
    refine bz_wpb bT_X11_findChance 3 (b1 := (137, [some (.ref 32), some (.int g), some (.int t), some (.int a), some (.int b), some (.int x), some (.int y)], [], σ)) (b2 := (59, [some (.ref 32), some (.int g), some (.int t), some (.int a), some (.int b), some (.int x), some (.int y)], [], σ)) (C := g ≤ y) (G := True) (lp_fc3_blk1 t x g a b σ y) trivial (fun z => absurd z (show ¬ g ≤ y from by rw [hi, hG]; exact nI_ge (by omega) (by omega))) (fun _ => ?_)
    refine bz_wpn bT_X11_findChance 34 (b := (108, [some (.ref 32), some (.int g), some (.int t), some (.int a), some (.int b), some (.int x), some (.int y)], [.int (((9 * x) + y) + 1), .ref 49, .int (((9 * x) + y) + 1), .ref 49], (σ.1, (bz_up σ.2 49 (((9 * (x + 1)) + y).toNatClampNeg) ((σ.2 49 (((9 * (x + 1)) + y).toNatClampNeg)) + ((Int32.toInt64 t) * (σ.2 49 (((9 * x) + y).toNatClampNeg)))))))) (G := vp_in ((9 * (x + 1)) + y) 81 ∧ vp_in ((9 * x) + y) 81 ∧ vp_in ((9 * (x + 1)) + y) 81 ∧ True) (lp_fc3_blk2 t x g a b σ y) ⟨(bz_81 (a := XN + 1) (b := j9) (by rw [hX]; exact nI_1 XN) hi (by omega)), (bz_81 hX hi (by omega)), (bz_81 (a := XN + 1) (b := j9) (by rw [hX]; exact nI_1 XN) hi (by omega)), trivial⟩ ?_
    refine bz_wpn bT_X11_findChance 12 (b := (127, [some (.ref 32), some (.int g), some (.int t), some (.int a), some (.int b), some (.int x), some (.int y)], [.int ((9 * x) + y), .ref 49, .long (10 - (Int32.toInt64 t)), .long ((bz_up σ.2 49 (((9 * (x + 1)) + y).toNatClampNeg) ((σ.2 49 (((9 * (x + 1)) + y).toNatClampNeg)) + ((Int32.toInt64 t) * (σ.2 49 (((9 * x) + y).toNatClampNeg))))) 49 ((((9 * x) + y) + 1).toNatClampNeg)), .int (((9 * x) + y) + 1), .ref 49], (σ.1, (bz_up σ.2 49 (((9 * (x + 1)) + y).toNatClampNeg) ((σ.2 49 (((9 * (x + 1)) + y).toNatClampNeg)) + ((Int32.toInt64 t) * (σ.2 49 (((9 * x) + y).toNatClampNeg)))))))) (G := vp_in (((9 * x) + y) + 1) 81 ∧ True) (lp_fc3_blk3 t x g a b σ y) ⟨(bz_82 hX hi (by omega)), trivial⟩ ?_
    refine bz_wpn bT_X11_findChance 3 (b := (130, [some (.ref 32), some (.int g), some (.int t), some (.int a), some (.int b), some (.int x), some (.int y)], [.long (((bz_up σ.2 49 (((9 * (x + 1)) + y).toNatClampNeg) ((σ.2 49 (((9 * (x + 1)) + y).toNatClampNeg)) + ((Int32.toInt64 t) * (σ.2 49 (((9 * x) + y).toNatClampNeg))))) 49 ((((9 * x) + y) + 1).toNatClampNeg)) + ((10 - (Int32.toInt64 t)) * ((bz_up σ.2 49 (((9 * (x + 1)) + y).toNatClampNeg) ((σ.2 49 (((9 * (x + 1)) + y).toNatClampNeg)) + ((Int32.toInt64 t) * (σ.2 49 (((9 * x) + y).toNatClampNeg))))) 49 (((9 * x) + y).toNatClampNeg)))), .int (((9 * x) + y) + 1), .ref 49], (σ.1, (bz_up σ.2 49 (((9 * (x + 1)) + y).toNatClampNeg) ((σ.2 49 (((9 * (x + 1)) + y).toNatClampNeg)) + ((Int32.toInt64 t) * (σ.2 49 (((9 * x) + y).toNatClampNeg)))))))) (G := vp_in ((9 * x) + y) 81 ∧ True) (lp_fc3_blk4 t x g a b σ y) ⟨(bz_81 hX hi (by omega)), trivial⟩ ?_
    refine bz_wpn bT_X11_findChance 3 (b := (53, [some (.ref 32), some (.int g), some (.int t), some (.int a), some (.int b), some (.int x), some (.int (y + 1))], [], (σ.1, (bz_up (bz_up σ.2 49 (((9 * (x + 1)) + y).toNatClampNeg) ((σ.2 49 (((9 * (x + 1)) + y).toNatClampNeg)) + ((Int32.toInt64 t) * (σ.2 49 (((9 * x) + y).toNatClampNeg))))) 49 ((((9 * x) + y) + 1).toNatClampNeg) (((bz_up σ.2 49 (((9 * (x + 1)) + y).toNatClampNeg) ((σ.2 49 (((9 * (x + 1)) + y).toNatClampNeg)) + ((Int32.toInt64 t) * (σ.2 49 (((9 * x) + y).toNatClampNeg))))) 49 ((((9 * x) + y) + 1).toNatClampNeg)) + ((10 - (Int32.toInt64 t)) * ((bz_up σ.2 49 (((9 * (x + 1)) + y).toNatClampNeg) ((σ.2 49 (((9 * (x + 1)) + y).toNatClampNeg)) + ((Int32.toInt64 t) * (σ.2 49 (((9 * x) + y).toNatClampNeg))))) 49 (((9 * x) + y).toNatClampNeg)))))))) (G := vp_in (((9 * x) + y) + 1) 81 ∧ True) (lp_fc3_blk5 t x g a b σ y) ⟨(bz_82 hX hi (by omega)), trivial⟩ ?_
    have e9 : lp_fc3 t x (n + 1) σ y = (lp_fc3 t x n (σ.1, (bz_up (bz_up σ.2 49 (((9 * (x + 1)) + y).toNatClampNeg) ((σ.2 49 (((9 * (x + 1)) + y).toNatClampNeg)) + ((Int32.toInt64 t) * (σ.2 49 (((9 * x) + y).toNatClampNeg))))) 49 ((((9 * x) + y) + 1).toNatClampNeg) (((bz_up σ.2 49 (((9 * (x + 1)) + y).toNatClampNeg) ((σ.2 49 (((9 * (x + 1)) + y).toNatClampNeg)) + ((Int32.toInt64 t) * (σ.2 49 (((9 * x) + y).toNatClampNeg))))) 49 ((((9 * x) + y) + 1).toNatClampNeg)) + ((10 - (Int32.toInt64 t)) * ((bz_up σ.2 49 (((9 * (x + 1)) + y).toNatClampNeg) ((σ.2 49 (((9 * (x + 1)) + y).toNatClampNeg)) + ((Int32.toInt64 t) * (σ.2 49 (((9 * x) + y).toNatClampNeg))))) 49 (((9 * x) + y).toNatClampNeg)))))) (y + 1)) := by rw [lp_fc3]
    rw [e9] at kk
    exact ih (σ.1, (bz_up (bz_up σ.2 49 (((9 * (x + 1)) + y).toNatClampNeg) ((σ.2 49 (((9 * (x + 1)) + y).toNatClampNeg)) + ((Int32.toInt64 t) * (σ.2 49 (((9 * x) + y).toNatClampNeg))))) 49 ((((9 * x) + y) + 1).toNatClampNeg) (((bz_up σ.2 49 (((9 * (x + 1)) + y).toNatClampNeg) ((σ.2 49 (((9 * (x + 1)) + y).toNatClampNeg)) + ((Int32.toInt64 t) * (σ.2 49 (((9 * x) + y).toNatClampNeg))))) 49 ((((9 * x) + y) + 1).toNatClampNeg)) + ((10 - (Int32.toInt64 t)) * ((bz_up σ.2 49 (((9 * (x + 1)) + y).toNatClampNeg) ((σ.2 49 (((9 * (x + 1)) + y).toNatClampNeg)) + ((Int32.toInt64 t) * (σ.2 49 (((9 * x) + y).toNatClampNeg))))) 49 (((9 * x) + y).toNatClampNeg)))))) (y + 1) (j9 + 1) (by rw [hi]; exact nI_1 j9) (by omega) kk
theorem rlp_fc3 (t : Int32) (x : Int32) : ∀ (n : Nat) (σ : bz_S) (y : Int32), bz_fr [49] σ (lp_fc3 t x n σ y) := by
  intro n
  induction n with
  | zero =>
    intro σ y
    rw [lp_fc3]
    exact bz_fr_rf
  | succ n ihc =>
    intro σ y
    rw [lp_fc3]
    exact (bz_fr_tr (τ := (σ.1, (bz_up (bz_up σ.2 49 (((9 * (x + 1)) + y).toNatClampNeg) ((σ.2 49 (((9 * (x + 1)) + y).toNatClampNeg)) + ((Int32.toInt64 t) * (σ.2 49 (((9 * x) + y).toNatClampNeg))))) 49 ((((9 * x) + y) + 1).toNatClampNeg) (((bz_up σ.2 49 (((9 * (x + 1)) + y).toNatClampNeg) ((σ.2 49 (((9 * (x + 1)) + y).toNatClampNeg)) + ((Int32.toInt64 t) * (σ.2 49 (((9 * x) + y).toNatClampNeg))))) 49 ((((9 * x) + y) + 1).toNatClampNeg)) + ((10 - (Int32.toInt64 t)) * ((bz_up σ.2 49 (((9 * (x + 1)) + y).toNatClampNeg) ((σ.2 49 (((9 * (x + 1)) + y).toNatClampNeg)) + ((Int32.toInt64 t) * (σ.2 49 (((9 * x) + y).toNatClampNeg))))) 49 (((9 * x) + y).toNatClampNeg))))))) ⟨(bz_fr_rf).1, (bz_f1_up (bz_f1_up (bz_fr_rf).2 (by decide)) (by decide))⟩ (ihc (σ.1, (bz_up (bz_up σ.2 49 (((9 * (x + 1)) + y).toNatClampNeg) ((σ.2 49 (((9 * (x + 1)) + y).toNatClampNeg)) + ((Int32.toInt64 t) * (σ.2 49 (((9 * x) + y).toNatClampNeg))))) 49 ((((9 * x) + y) + 1).toNatClampNeg) (((bz_up σ.2 49 (((9 * (x + 1)) + y).toNatClampNeg) ((σ.2 49 (((9 * (x + 1)) + y).toNatClampNeg)) + ((Int32.toInt64 t) * (σ.2 49 (((9 * x) + y).toNatClampNeg))))) 49 ((((9 * x) + y) + 1).toNatClampNeg)) + ((10 - (Int32.toInt64 t)) * ((bz_up σ.2 49 (((9 * (x + 1)) + y).toNatClampNeg) ((σ.2 49 (((9 * (x + 1)) + y).toNatClampNeg)) + ((Int32.toInt64 t) * (σ.2 49 (((9 * x) + y).toNatClampNeg))))) 49 (((9 * x) + y).toNatClampNeg)))))) (y + 1)))
theorem qlp_fc3 (t : Int32) (x : Int32) : ∀ (n : Nat) (σ : bz_S) (y : Int32), bz_fo ([] : List Nat) σ (lp_fc3 t x n σ y) := by
  intro n
  induction n with
  | zero =>
    intro σ y
    rw [lp_fc3]
    exact bz_fo_rf
  | succ n ihc =>
    intro σ y
    rw [lp_fc3]
    exact (bz_fo_tr (τ := (σ.1, (bz_up (bz_up σ.2 49 (((9 * (x + 1)) + y).toNatClampNeg) ((σ.2 49 (((9 * (x + 1)) + y).toNatClampNeg)) + ((Int32.toInt64 t) * (σ.2 49 (((9 * x) + y).toNatClampNeg))))) 49 ((((9 * x) + y) + 1).toNatClampNeg) (((bz_up σ.2 49 (((9 * (x + 1)) + y).toNatClampNeg) ((σ.2 49 (((9 * (x + 1)) + y).toNatClampNeg)) + ((Int32.toInt64 t) * (σ.2 49 (((9 * x) + y).toNatClampNeg))))) 49 ((((9 * x) + y) + 1).toNatClampNeg)) + ((10 - (Int32.toInt64 t)) * ((bz_up σ.2 49 (((9 * (x + 1)) + y).toNatClampNeg) ((σ.2 49 (((9 * (x + 1)) + y).toNatClampNeg)) + ((Int32.toInt64 t) * (σ.2 49 (((9 * x) + y).toNatClampNeg))))) 49 (((9 * x) + y).toNatClampNeg))))))) bz_fo_rf (ihc (σ.1, (bz_up (bz_up σ.2 49 (((9 * (x + 1)) + y).toNatClampNeg) ((σ.2 49 (((9 * (x + 1)) + y).toNatClampNeg)) + ((Int32.toInt64 t) * (σ.2 49 (((9 * x) + y).toNatClampNeg))))) 49 ((((9 * x) + y) + 1).toNatClampNeg) (((bz_up σ.2 49 (((9 * (x + 1)) + y).toNatClampNeg) ((σ.2 49 (((9 * (x + 1)) + y).toNatClampNeg)) + ((Int32.toInt64 t) * (σ.2 49 (((9 * x) + y).toNatClampNeg))))) 49 ((((9 * x) + y) + 1).toNatClampNeg)) + ((10 - (Int32.toInt64 t)) * ((bz_up σ.2 49 (((9 * (x + 1)) + y).toNatClampNeg) ((σ.2 49 (((9 * (x + 1)) + y).toNatClampNeg)) + ((Int32.toInt64 t) * (σ.2 49 (((9 * x) + y).toNatClampNeg))))) 49 (((9 * x) + y).toNatClampNeg)))))) (y + 1)))

def lp_fc2_a (rc : bz_S → Int32 → bz_S) (g : Int32) (t : Int32) (b : Int32) (σ : bz_S) (x : Int32) (τ1 : bz_S) : bz_S := (rc τ1 (x + 1))
def lp_fc2 (g : Int32) (t : Int32) (b : Int32) : Nat → bz_S → Int32 → bz_S
  | 0, σ, x => σ
  | n + 1, σ, x => (lp_fc2_a (lp_fc2 g t b n) g t b σ x ((lp_fc3 t x (g - b).toNatClampNeg σ b)))
set_option maxRecDepth 100000 in
theorem lp_fc20_blk1 {X : bz_X} (g : Int32) (t : Int32) (b : Int32) (a : Int32) (σ : bz_S) (x : Int32) : bz_run X bt_X11_findChance 3 (43, [some (.ref 32), some (.int g), some (.int t), some (.int a), some (.int b), some (.int x), none], [], σ) = some (True, if g ≤ x then (143, [some (.ref 32), some (.int g), some (.int t), some (.int a), some (.int b), some (.int x), none], [], σ) else (49, [some (.ref 32), some (.int g), some (.int t), some (.int a), some (.int b), some (.int x), none], [], σ)) := rfl
set_option maxRecDepth 100000 in
theorem lp_fc2_blk1 {X : bz_X} (g : Int32) (t : Int32) (b : Int32) (a : Int32) (σ : bz_S) (x : Int32) : bz_run X bt_X11_findChance 3 (43, [some (.ref 32), some (.int g), some (.int t), some (.int a), some (.int b), some (.int x), none], [], σ) = some (True, if g ≤ x then (143, [some (.ref 32), some (.int g), some (.int t), some (.int a), some (.int b), some (.int x), none], [], σ) else (49, [some (.ref 32), some (.int g), some (.int t), some (.int a), some (.int b), some (.int x), none], [], σ)) := rfl
set_option maxRecDepth 100000 in
theorem lp_fc2_blk2 {X : bz_X} (g : Int32) (t : Int32) (b : Int32) (a : Int32) (σ : bz_S) (x : Int32) : bz_run X bt_X11_findChance 2 (49, [some (.ref 32), some (.int g), some (.int t), some (.int a), some (.int b), some (.int x), none], [], σ) = some (True, (53, [some (.ref 32), some (.int g), some (.int t), some (.int a), some (.int b), some (.int x), some (.int b)], [], σ)) := rfl
set_option maxRecDepth 100000 in
theorem lp_fc2_blk3 {X : bz_X} (g : Int32) (t : Int32) (b : Int32) (a : Int32) (σ : bz_S) (x : Int32) (τ1 : bz_S) : bz_run X bt_X11_findChance 2 (137, [some (.ref 32), some (.int g), some (.int t), some (.int a), some (.int b), some (.int x), none], [], τ1) = some (True, (43, [some (.ref 32), some (.int g), some (.int t), some (.int a), some (.int b), some (.int (x + 1)), none], [], τ1)) := rfl
set_option maxRecDepth 100000 in
theorem s_lp_fc2 {X : bz_X} (g : Int32) (t : Int32) (b : Int32) (a : Int32) (GN : Nat) (hG : g = nI GN) (hG2 : GN ≤ 8) (BN : Nat) (hB : b = nI BN) (hB2 : BN < GN) : ∀ (n : Nat) (σ : bz_S) (x : Int32) (j9 : Nat) (hi : x = nI j9) (hj : j9 + n = GN), bz_wp bz_P X mX11_findChance (bz_pv (lp_fc2 g t b n σ x)) (43, [some (.ref 32), some (.int g), some (.int t), some (.int a), some (.int b), some (.int x), none], [], σ) := by
  intro n
  induction n with
  | zero =>
    intro σ x j9 hi hj
    refine bz_wpb bT_X11_findChance 3 (b1 := (143, [some (.ref 32), some (.int g), some (.int t), some (.int a), some (.int b), some (.int x), none], [], σ)) (b2 := (49, [some (.ref 32), some (.int g), some (.int t), some (.int a), some (.int b), some (.int x), none], [], σ)) (C := g ≤ x) (G := True) (lp_fc20_blk1 g t b a σ x) trivial (fun _ => ?_) (fun z => absurd (show g ≤ x from by rw [hi, hG]; exact nI_le (by omega) (by omega)) z)
    refine bz_wpr bT_X11_findChance rfl rfl trivial ?_
    have e9 : lp_fc2 g t b 0 σ x = σ := by rw [lp_fc2]
    exact ⟨rfl, by rw [e9]⟩
  | succ n ih =>
    intro σ x j9 hi hj
    refine bz_wpb bT_X11_findChance 3 (b1 := (143, [some (.ref 32), some (.int g), some (.int t), some (.int a), some (.int b), some (.int x), none], [], σ)) (b2 := (49, [some (.ref 32), some (.int g), some (.int t), some (.int a), some (.int b), some (.int x), none], [], σ)) (C := g ≤ x) (G := True) (lp_fc2_blk1 g t b a σ x) trivial (fun z => absurd z (show ¬ g ≤ x from by rw [hi, hG]; exact nI_ge (by omega) (by omega))) (fun _ => ?_)
    refine bz_wpn bT_X11_findChance 2 (b := (53, [some (.ref 32), some (.int g), some (.int t), some (.int a), some (.int b), some (.int x), some (.int b)], [], σ)) (G := True) (lp_fc2_blk2 g t b a σ x) trivial ?_
    refine s_lp_fc3 t x g a b GN hG hG2 j9 hi (by omega) (g - b).toNatClampNeg σ b BN hB (by rw [hG, hB, bz_subN (by omega), nI_clamp (by omega)]; omega) ?_
    generalize hτ1 : (lp_fc3 t x (g - b).toNatClampNeg σ b) = τ1
    refine bz_wpn bT_X11_findChance 2 (b := (43, [some (.ref 32), some (.int g), some (.int t), some (.int a), some (.int b), some (.int (x + 1)), none], [], τ1)) (G := True) (lp_fc2_blk3 g t b a σ x τ1) trivial ?_
    have e9 : lp_fc2 g t b (n + 1) σ x = (lp_fc2 g t b n τ1 (x + 1)) := by rw [lp_fc2, hτ1, lp_fc2_a]
    rw [e9]
    exact ih τ1 (x + 1) (j9 + 1) (by rw [hi]; exact nI_1 j9) (by omega)
theorem rlp_fc2_a (rc : bz_S → Int32 → bz_S) (g : Int32) (t : Int32) (b : Int32) (σ : bz_S) (x : Int32) (τ1 : bz_S) (ihc : ∀ (σ : bz_S) (x : Int32), bz_fr [49] σ (rc σ x)) (fτ1 : bz_fr [49] σ τ1) : bz_fr [49] σ (lp_fc2_a rc g t b σ x τ1) := by
  unfold lp_fc2_a
  exact (bz_fr_tr (τ := τ1) fτ1 (ihc τ1 (x + 1)))
theorem rlp_fc2 (g : Int32) (t : Int32) (b : Int32) : ∀ (n : Nat) (σ : bz_S) (x : Int32), bz_fr [49] σ (lp_fc2 g t b n σ x) := by
  intro n
  induction n with
  | zero =>
    intro σ x
    rw [lp_fc2]
    exact bz_fr_rf
  | succ n ihc =>
    intro σ x
    rw [lp_fc2]
    exact (rlp_fc2_a (lp_fc2 g t b n) g t b σ x ((lp_fc3 t x (g - b).toNatClampNeg σ b)) ihc (bz_fr_mo (rlp_fc3 t x (g - b).toNatClampNeg σ b) (by decide)))
theorem qlp_fc2_a (rc : bz_S → Int32 → bz_S) (g : Int32) (t : Int32) (b : Int32) (σ : bz_S) (x : Int32) (τ1 : bz_S) (ihc : ∀ (σ : bz_S) (x : Int32), bz_fo ([] : List Nat) σ (rc σ x)) (fτ1 : bz_fo ([] : List Nat) σ τ1) : bz_fo ([] : List Nat) σ (lp_fc2_a rc g t b σ x τ1) := by
  unfold lp_fc2_a
  exact (bz_fo_tr (τ := τ1) fτ1 (ihc τ1 (x + 1)))
theorem qlp_fc2 (g : Int32) (t : Int32) (b : Int32) : ∀ (n : Nat) (σ : bz_S) (x : Int32), bz_fo ([] : List Nat) σ (lp_fc2 g t b n σ x) := by
  intro n
  induction n with
  | zero =>
    intro σ x
    rw [lp_fc2]
    exact bz_fo_rf
  | succ n ihc =>
    intro σ x
    rw [lp_fc2]
    exact (qlp_fc2_a (lp_fc2 g t b n) g t b σ x ((lp_fc3 t x (g - b).toNatClampNeg σ b)) ihc (bz_fo_mo (qlp_fc3 t x (g - b).toNatClampNeg σ b) (by decide)))

def f_X11_findChance_32_a (σ : bz_S) (g : Int32) (t : Int32) (a : Int32) (b : Int32) (τ1 : bz_S) : bz_S := lp_fc2 g t b (g - a).toNatClampNeg τ1 a
def f_X11_findChance_32 (σ : bz_S) (g : Int32) (t : Int32) (a : Int32) (b : Int32) : bz_S := (f_X11_findChance_32_a σ g t a b ((lp_fc1 a b (bz_k 81) σ 0)))
set_option maxRecDepth 100000 in
theorem f_X11_findChance_32_blk1 {X : bz_X} (σ : bz_S) (g : Int32) (t : Int32) (a : Int32) (b : Int32) : bz_run X bt_X11_findChance 2 (0, [some (.ref 32), some (.int g), some (.int t), some (.int a), some (.int b), none, none], [], σ) = some (True, (3, [some (.ref 32), some (.int g), some (.int t), some (.int a), some (.int b), some (.int 0), none], [], σ)) := rfl
set_option maxRecDepth 100000 in
theorem f_X11_findChance_32_blk2 {X : bz_X} (σ : bz_S) (g : Int32) (t : Int32) (a : Int32) (b : Int32) (τ1 : bz_S) : bz_run X bt_X11_findChance 2 (40, [some (.ref 32), some (.int g), some (.int t), some (.int a), some (.int b), none, none], [], τ1) = some (True, (43, [some (.ref 32), some (.int g), some (.int t), some (.int a), some (.int b), some (.int a), none], [], τ1)) := rfl
set_option maxRecDepth 100000 in
theorem s_X11_findChance_32 {X : bz_X} (σ : bz_S) (g : Int32) (t : Int32) (a : Int32) (b : Int32) (GN AN BN : Nat) (hG : g = nI GN) (hG2 : GN ≤ 8) (hA : a = nI AN) (hA2 : AN < GN) (hB : b = nI BN) (hB2 : BN < GN) : bz_C bz_P X mX11_findChance [.ref 32, .int g, .int t, .int a, .int b] σ (bz_pv (f_X11_findChance_32 σ g t a b)) := by
  show bz_wp bz_P X mX11_findChance (bz_pv (f_X11_findChance_32 σ g t a b)) (0, [some (.ref 32), some (.int g), some (.int t), some (.int a), some (.int b), none, none], [], σ)
  refine bz_wpn bT_X11_findChance 2 (b := (3, [some (.ref 32), some (.int g), some (.int t), some (.int a), some (.int b), some (.int 0), none], [], σ)) (G := True) (f_X11_findChance_32_blk1 σ g t a b) trivial ?_
  refine s_lp_fc1 a b g t (bz_k 81) σ 0 0 rfl (by rw [bz_k_eq]) ?_
  generalize hτ1 : (lp_fc1 a b (bz_k 81) σ 0) = τ1
  refine bz_wpn bT_X11_findChance 2 (b := (43, [some (.ref 32), some (.int g), some (.int t), some (.int a), some (.int b), some (.int a), none], [], τ1)) (G := True) (f_X11_findChance_32_blk2 σ g t a b τ1) trivial ?_
  have e9 : f_X11_findChance_32 σ g t a b = lp_fc2 g t b (g - a).toNatClampNeg τ1 a := by rw [f_X11_findChance_32, hτ1, f_X11_findChance_32_a]
  rw [e9]
  exact s_lp_fc2 g t b a GN hG hG2 BN hB hB2 (g - a).toNatClampNeg τ1 a AN hA (by rw [hG, hA, bz_subN (by omega), nI_clamp (by omega)]; omega)
theorem rf_X11_findChance_32_a (σ : bz_S) (g : Int32) (t : Int32) (a : Int32) (b : Int32) (τ1 : bz_S) (fτ1 : bz_fr [49] σ τ1) : bz_fr [49] σ (f_X11_findChance_32_a σ g t a b τ1) := by
  unfold f_X11_findChance_32_a
  exact (bz_fr_tr (τ := τ1) fτ1 (bz_fr_mo (rlp_fc2 g t b (g - a).toNatClampNeg τ1 a) (by decide)))
theorem rf_X11_findChance_32 (σ : bz_S) (g : Int32) (t : Int32) (a : Int32) (b : Int32) : bz_fr [49] σ (f_X11_findChance_32 σ g t a b) := by
  unfold f_X11_findChance_32
  exact (rf_X11_findChance_32_a σ g t a b ((lp_fc1 a b (bz_k 81) σ 0)) (bz_fr_mo (rlp_fc1 a b (bz_k 81) σ 0) (by decide)))
theorem qf_X11_findChance_32_a (σ : bz_S) (g : Int32) (t : Int32) (a : Int32) (b : Int32) (τ1 : bz_S) (fτ1 : bz_fo ([] : List Nat) σ τ1) : bz_fo ([] : List Nat) σ (f_X11_findChance_32_a σ g t a b τ1) := by
  unfold f_X11_findChance_32_a
  exact (bz_fo_tr (τ := τ1) fτ1 (bz_fo_mo (qlp_fc2 g t b (g - a).toNatClampNeg τ1 a) (by decide)))
theorem qf_X11_findChance_32 (σ : bz_S) (g : Int32) (t : Int32) (a : Int32) (b : Int32) : bz_fo ([] : List Nat) σ (f_X11_findChance_32 σ g t a b) := by
  unfold f_X11_findChance_32
  exact (qf_X11_findChance_32_a σ g t a b ((lp_fc1 a b (bz_k 81) σ 0)) (bz_fo_mo (qlp_fc1 a b (bz_k 81) σ 0) (by decide)))

theorem bz_mt {g a b : Int32} (h1 : f_X11_in (Int32.toInt64 g) 1 8 = true) (h2 : f_X11_in (Int32.toInt64 a) 0 (Int32.toInt64 (g - 1)) = true) (h3 : f_X11_in (Int32.toInt64 b) 0 (Int32.toInt64 (g - 1)) = true) : ∃ GN AN BN, g = nI GN ∧ GN ≤ 8 ∧ a = nI AN ∧ AN < GN ∧ b = nI BN ∧ BN < GN := by
  rw [bz_inW (lo := 1) (hi := 8) (by decide) (by decide)] at h1
  rw [bz_inW (lo := 0) (hi := g - 1) (by decide) rfl] at h2
  rw [bz_inW (lo := 0) (hi := g - 1) (by decide) rfl] at h3
  obtain ⟨GN, g1, g2, rfl⟩ := bz_wN (a := 1) (b := 8) (by decide) (by decide) (by decide) h1
  have e : nI GN - 1 = nI (GN - 1) := bz_subN (b := 1) (by omega)
  rw [e] at h2 h3
  obtain ⟨AN, _, a2, rfl⟩ := bz_wN (a := 0) (b := GN - 1) (by decide) (nI_toInt (by omega)) (by omega) h2
  obtain ⟨BN, _, b2, rfl⟩ := bz_wN (a := 0) (b := GN - 1) (by decide) (nI_toInt (by omega)) (by omega) h3
  exact ⟨GN, AN, BN, rfl, by omega, rfl, by omega, rfl, by omega⟩
theorem bz_lgT {g a b : Int32} {GN AN BN : Nat} (hG : g = nI GN) (hG2 : GN ≤ 8) (hA : a = nI AN) (hA2 : AN < GN) (hB : b = nI BN) (hB2 : BN < GN) : ((((g - a) + g) - b) - 1) = nI (GN - AN + GN - BN - 1) := by
  rw [hG, hA, hB, bz_subN (by omega), nI_add, bz_subN (by omega)]
  exact bz_subN (b := 1) (by omega)
theorem bz_pw1 {g a b lg y : Int32} {GN AN BN j : Nat} (hL : lg = nI (GN - AN + GN - BN - 1)) (hG : g = nI GN) (hG2 : GN ≤ 8) (hA : a = nI AN) (hA2 : AN < GN) (hB : b = nI BN) (hB2 : BN < GN) (hi : y = nI j) (h1 : BN ≤ j) (h2 : j < GN) : (lg - (((g - a) + y) - b)) = nI (GN - 1 - j) := by
  rw [hL, hG, hA, hB, hi, bz_subN (by omega), nI_add, bz_subN (by omega), bz_subN (by omega)]
  congr 1
  omega
theorem bz_pw2 {g a b lg x : Int32} {GN AN BN j : Nat} (hL : lg = nI (GN - AN + GN - BN - 1)) (hG : g = nI GN) (hG2 : GN ≤ 8) (hA : a = nI AN) (hA2 : AN < GN) (hB : b = nI BN) (hB2 : BN < GN) (hi : x = nI j) (h1 : AN ≤ j) (h2 : j < GN) : (lg - (((x - a) + g) - b)) = nI (GN - 1 - j) := by
  rw [hL, hG, hA, hB, hi, bz_subN (by omega), nI_add, bz_subN (by omega), bz_subN (by omega)]
  congr 1
  omega
theorem m_p10a : ∀ N : Fin 16, ¬ f_X11_power 10 (nI N) = 0 := by decide +kernel
theorem m_p10 {N : Nat} (h : N < 16) : ¬ f_X11_power 10 (nI N) = 0 := m_p10a ⟨N, h⟩

def lp_mw1 (g : Int32) (a : Int32) (b : Int32) (lg : Int32) : Nat → bz_S → Int64 → Int64 → Int32 → bz_S × Int64 × Int64
  | 0, σ, ws, me, y => (σ, ws, me)
  | n + 1, σ, ws, me, y => (lp_mw1 g a b lg n σ (ws + ((σ.2 49 (((9 * g) + y).toNatClampNeg)) * (f_X11_power 10 (lg - (((g - a) + y) - b))))) (me + (((Int32.toInt64 (((g - a) + y) - b)) * (σ.2 49 (((9 * g) + y).toNatClampNeg))) * (f_X11_power 10 (lg - (((g - a) + y) - b))))) (y + 1))
set_option maxRecDepth 100000 in
theorem lp_mw10_blk1 {X : bz_X} (g : Int32) (a : Int32) (b : Int32) (lg : Int32) (t : Int32) (what : Int32) (part : Int32) (σ : bz_S) (ws : Int64) (me : Int64) (y : Int32) : bz_run X bt_X11_match 3 (108, [some (.ref 32), some (.int g), some (.int t), some (.int a), some (.int b), some (.int what), some (.int part), some (.int lg), some (.long ws), none, some (.long me), none, some (.int y), none], [], σ) = some (True, if g ≤ y then (193, [some (.ref 32), some (.int g), some (.int t), some (.int a), some (.int b), some (.int what), some (.int part), some (.int lg), some (.long ws), none, some (.long me), none, some (.int y), none], [], σ) else (114, [some (.ref 32), some (.int g), some (.int t), some (.int a), some (.int b), some (.int what), some (.int part), some (.int lg), some (.long ws), none, some (.long me), none, some (.int y), none], [], σ)) := rfl
set_option maxRecDepth 100000 in
theorem lp_mw1_blk1 {X : bz_X} (g : Int32) (a : Int32) (b : Int32) (lg : Int32) (t : Int32) (what : Int32) (part : Int32) (σ : bz_S) (ws : Int64) (me : Int64) (y : Int32) : bz_run X bt_X11_match 3 (108, [some (.ref 32), some (.int g), some (.int t), some (.int a), some (.int b), some (.int what), some (.int part), some (.int lg), some (.long ws), none, some (.long me), none, some (.int y), none], [], σ) = some (True, if g ≤ y then (193, [some (.ref 32), some (.int g), some (.int t), some (.int a), some (.int b), some (.int what), some (.int part), some (.int lg), some (.long ws), none, some (.long me), none, some (.int y), none], [], σ) else (114, [some (.ref 32), some (.int g), some (.int t), some (.int a), some (.int b), some (.int what), some (.int part), some (.int lg), some (.long ws), none, some (.long me), none, some (.int y), none], [], σ)) := rfl
set_option maxRecDepth 100000 in
theorem lp_mw1_blk2 {X : bz_X} (g : Int32) (a : Int32) (b : Int32) (lg : Int32) (t : Int32) (what : Int32) (part : Int32) (σ : bz_S) (ws : Int64) (me : Int64) (y : Int32) : bz_run X bt_X11_match 21 (114, [some (.ref 32), some (.int g), some (.int t), some (.int a), some (.int b), some (.int what), some (.int part), some (.int lg), some (.long ws), none, some (.long me), none, some (.int y), none], [], σ) = some (vp_in ((9 * g) + y) 81 ∧ True, (147, [some (.ref 32), some (.int g), some (.int t), some (.int a), some (.int b), some (.int what), some (.int part), some (.int lg), some (.long ws), none, some (.long me), none, some (.int y), some (.int (((g - a) + y) - b))], [.int (lg - (((g - a) + y) - b)), .long 10, .long (σ.2 49 (((9 * g) + y).toNatClampNeg)), .long ws], σ)) := rfl
set_option maxRecDepth 100000 in
theorem lp_mw1_blk3 {X : bz_X} (g : Int32) (a : Int32) (b : Int32) (lg : Int32) (t : Int32) (what : Int32) (part : Int32) (σ : bz_S) (ws : Int64) (me : Int64) (y : Int32) : bz_run X bt_X11_match 19 (150, [some (.ref 32), some (.int g), some (.int t), some (.int a), some (.int b), some (.int what), some (.int part), some (.int lg), some (.long ws), none, some (.long me), none, some (.int y), some (.int (((g - a) + y) - b))], [.long (f_X11_power 10 (lg - (((g - a) + y) - b))), .long (σ.2 49 (((9 * g) + y).toNatClampNeg)), .long ws], σ) = some (vp_in ((9 * g) + y) 81 ∧ True, (180, [some (.ref 32), some (.int g), some (.int t), some (.int a), some (.int b), some (.int what), some (.int part), some (.int lg), some (.long (ws + ((σ.2 49 (((9 * g) + y).toNatClampNeg)) * (f_X11_power 10 (lg - (((g - a) + y) - b)))))), none, some (.long me), none, some (.int y), some (.int (((g - a) + y) - b))], [.int (lg - (((g - a) + y) - b)), .long 10, .long ((Int32.toInt64 (((g - a) + y) - b)) * (σ.2 49 (((9 * g) + y).toNatClampNeg))), .long me], σ)) := rfl
set_option maxRecDepth 100000 in
theorem lp_mw1_blk4 {X : bz_X} (g : Int32) (a : Int32) (b : Int32) (lg : Int32) (t : Int32) (what : Int32) (part : Int32) (σ : bz_S) (ws : Int64) (me : Int64) (y : Int32) : bz_run X bt_X11_match 5 (183, [some (.ref 32), some (.int g), some (.int t), some (.int a), some (.int b), some (.int what), some (.int part), some (.int lg), some (.long (ws + ((σ.2 49 (((9 * g) + y).toNatClampNeg)) * (f_X11_power 10 (lg - (((g - a) + y) - b)))))), none, some (.long me), none, some (.int y), some (.int (((g - a) + y) - b))], [.long (f_X11_power 10 (lg - (((g - a) + y) - b))), .long ((Int32.toInt64 (((g - a) + y) - b)) * (σ.2 49 (((9 * g) + y).toNatClampNeg))), .long me], σ) = some (True, (108, [some (.ref 32), some (.int g), some (.int t), some (.int a), some (.int b), some (.int what), some (.int part), some (.int lg), some (.long (ws + ((σ.2 49 (((9 * g) + y).toNatClampNeg)) * (f_X11_power 10 (lg - (((g - a) + y) - b)))))), none, some (.long (me + (((Int32.toInt64 (((g - a) + y) - b)) * (σ.2 49 (((9 * g) + y).toNatClampNeg))) * (f_X11_power 10 (lg - (((g - a) + y) - b)))))), none, some (.int (y + 1)), some (.int (((g - a) + y) - b))], [], σ)) := rfl
set_option maxRecDepth 100000 in
theorem s_lp_mw1 {X : bz_X} (g : Int32) (a : Int32) (b : Int32) (lg : Int32) {Q : bz_Q} (t what part : Int32) (GN AN BN : Nat) (hG : g = nI GN) (hG2 : GN ≤ 8) (hA : a = nI AN) (hA2 : AN < GN) (hB : b = nI BN) (hB2 : BN < GN) (hL : lg = nI (GN - AN + GN - BN - 1)) : ∀ (n : Nat) (σ : bz_S) (ws : Int64) (me : Int64) (y : Int32) (j9 : Nat) (hi : y = nI j9) (hj : j9 + n = GN) (gb : BN ≤ j9) (kk : bz_wp bz_P X mX11_match Q (193, [some (.ref 32), some (.int g), some (.int t), some (.int a), some (.int b), some (.int what), some (.int part), some (.int lg), some (.long ((lp_mw1 g a b lg n σ ws me y).2.1)), none, some (.long ((lp_mw1 g a b lg n σ ws me y).2.2)), none, none, none], [], (lp_mw1 g a b lg n σ ws me y).1)), bz_wp bz_P X mX11_match (Q) (108, [some (.ref 32), some (.int g), some (.int t), some (.int a), some (.int b), some (.int what), some (.int part), some (.int lg), some (.long ws), none, some (.long me), none, some (.int y), none], [], σ) := by
  intro n
  induction n with
  | zero =>
    intro σ ws me y j9 hi hj gb kk
    refine bz_wpb bT_X11_match 3 (b1 := (193, [some (.ref 32), some (.int g), some (.int t), some (.int a), some (.int b), some (.int what), some (.int part), some (.int lg), some (.long ws), none, some (.long me), none, some (.int y), none], [], σ)) (b2 := (114, [some (.ref 32), some (.int g), some (.int t), some (.int a), some (.int b), some (.int what), some (.int part), some (.int lg), some (.long ws), none, some (.long me), none, some (.int y), none], [], σ)) (C := g ≤ y) (G := True) (lp_mw10_blk1 g a b lg t what part σ ws me y) trivial (fun _ => ?_) (fun z => absurd (show g ≤ y from by rw [hi, hG]; exact nI_le (by omega) (by omega)) z)
    have e9 : lp_mw1 g a b lg 0 σ ws me y = (σ, ws, me) := by rw [lp_mw1]
    rw [e9] at kk
    refine bz_wpw (by exact ⟨rfl, rfl, rfl, rfl, rfl, rfl, rfl, rfl, rfl, rfl, trivial⟩) kk
  | succ n ih =>
    intro σ ws me y j9 hi hj gb kk
    refine bz_wpb bT_X11_match 3 (b1 := (193, [some (.ref 32), some (.int g), some (.int t), some (.int a), some (.int b), some (.int what), some (.int part), some (.int lg), some (.long ws), none, some (.long me), none, some (.int y), none], [], σ)) (b2 := (114, [some (.ref 32), some (.int g), some (.int t), some (.int a), some (.int b), some (.int what), some (.int part), some (.int lg), some (.long ws), none, some (.long me), none, some (.int y), none], [], σ)) (C := g ≤ y) (G := True) (lp_mw1_blk1 g a b lg t what part σ ws me y) trivial (fun z => absurd z (show ¬ g ≤ y from by rw [hi, hG]; exact nI_ge (by omega) (by omega))) (fun _ => ?_)
    refine bz_wpn bT_X11_match 21 (b := (147, [some (.ref 32), some (.int g), some (.int t), some (.int a), some (.int b), some (.int what), some (.int part), some (.int lg), some (.long ws), none, some (.long me), none, some (.int y), some (.int (((g - a) + y) - b))], [.int (lg - (((g - a) + y) - b)), .long 10, .long (σ.2 49 (((9 * g) + y).toNatClampNeg)), .long ws], σ)) (G := vp_in ((9 * g) + y) 81 ∧ True) (lp_mw1_blk2 g a b lg t what part σ ws me y) ⟨(bz_81 hG hi (by omega)), trivial⟩ ?_
    refine bz_wcl bT_X11_match [.long 10, .int (lg - (((g - a) + y) - b))] (pc' := 150) (rest := [.long (σ.2 49 (((9 * g) + y).toNatClampNeg)), .long ws]) rfl rfl (Nat.le_of_ble_eq_true rfl) rfl (Nat.le_of_ble_eq_true rfl) rfl (s_X11_power σ 10 (lg - (((g - a) + y) - b)) ⟨_, by omega, bz_pw1 hL hG hG2 hA hA2 hB hB2 hi gb (by omega)⟩) rfl ?_
    refine bz_wpn bT_X11_match 19 (b := (180, [some (.ref 32), some (.int g), some (.int t), some (.int a), some (.int b), some (.int what), some (.int part), some (.int lg), some (.long (ws + ((σ.2 49 (((9 * g) + y).toNatClampNeg)) * (f_X11_power 10 (lg - (((g - a) + y) - b)))))), none, some (.long me), none, some (.int y), some (.int (((g - a) + y) - b))], [.int (lg - (((g - a) + y) - b)), .long 10, .long ((Int32.toInt64 (((g - a) + y) - b)) * (σ.2 49 (((9 * g) + y).toNatClampNeg))), .long me], σ)) (G := vp_in ((9 * g) + y) 81 ∧ True) (lp_mw1_blk3 g a b lg t what part σ ws me y) ⟨(bz_81 hG hi (by omega)), trivial⟩ ?_
    refine bz_wcl bT_X11_match [.long 10, .int (lg - (((g - a) + y) - b))] (pc' := 183) (rest := [.long ((Int32.toInt64 (((g - a) + y) - b)) * (σ.2 49 (((9 * g) + y).toNatClampNeg))), .long me]) rfl rfl (Nat.le_of_ble_eq_true rfl) rfl (Nat.le_of_ble_eq_true rfl) rfl (s_X11_power σ 10 (lg - (((g - a) + y) - b)) ⟨_, by omega, bz_pw1 hL hG hG2 hA hA2 hB hB2 hi gb (by omega)⟩) rfl ?_
    refine bz_wpn bT_X11_match 5 (b := (108, [some (.ref 32), some (.int g), some (.int t), some (.int a), some (.int b), some (.int what), some (.int part), some (.int lg), some (.long (ws + ((σ.2 49 (((9 * g) + y).toNatClampNeg)) * (f_X11_power 10 (lg - (((g - a) + y) - b)))))), none, some (.long (me + (((Int32.toInt64 (((g - a) + y) - b)) * (σ.2 49 (((9 * g) + y).toNatClampNeg))) * (f_X11_power 10 (lg - (((g - a) + y) - b)))))), none, some (.int (y + 1)), some (.int (((g - a) + y) - b))], [], σ)) (G := True) (lp_mw1_blk4 g a b lg t what part σ ws me y) trivial ?_
    have e9 : lp_mw1 g a b lg (n + 1) σ ws me y = (lp_mw1 g a b lg n σ (ws + ((σ.2 49 (((9 * g) + y).toNatClampNeg)) * (f_X11_power 10 (lg - (((g - a) + y) - b))))) (me + (((Int32.toInt64 (((g - a) + y) - b)) * (σ.2 49 (((9 * g) + y).toNatClampNeg))) * (f_X11_power 10 (lg - (((g - a) + y) - b))))) (y + 1)) := by rw [lp_mw1]
    rw [e9] at kk
    refine bz_wpw (L' := [some (.ref 32), some (.int g), some (.int t), some (.int a), some (.int b), some (.int what), some (.int part), some (.int lg), some (.long (ws + ((σ.2 49 (((9 * g) + y).toNatClampNeg)) * (f_X11_power 10 (lg - (((g - a) + y) - b)))))), none, some (.long (me + (((Int32.toInt64 (((g - a) + y) - b)) * (σ.2 49 (((9 * g) + y).toNatClampNeg))) * (f_X11_power 10 (lg - (((g - a) + y) - b)))))), none, some (.int (y + 1)), none]) (by exact ⟨rfl, rfl, rfl, rfl, rfl, rfl, rfl, rfl, rfl, rfl, rfl, trivial⟩) ?_
    exact ih σ (ws + ((σ.2 49 (((9 * g) + y).toNatClampNeg)) * (f_X11_power 10 (lg - (((g - a) + y) - b))))) (me + (((Int32.toInt64 (((g - a) + y) - b)) * (σ.2 49 (((9 * g) + y).toNatClampNeg))) * (f_X11_power 10 (lg - (((g - a) + y) - b))))) (y + 1) (j9 + 1) (by rw [hi]; exact nI_1 j9) (by omega) (by omega) kk
theorem rlp_mw1 (g : Int32) (a : Int32) (b : Int32) (lg : Int32) : ∀ (n : Nat) (σ : bz_S) (ws : Int64) (me : Int64) (y : Int32), bz_fr [] σ (lp_mw1 g a b lg n σ ws me y).1 := by
  intro n
  induction n with
  | zero =>
    intro σ ws me y
    rw [lp_mw1]
    exact bz_fr_rf
  | succ n ihc =>
    intro σ ws me y
    rw [lp_mw1]
    exact (bz_fr_tr (τ := σ) bz_fr_rf (ihc σ (ws + ((σ.2 49 (((9 * g) + y).toNatClampNeg)) * (f_X11_power 10 (lg - (((g - a) + y) - b))))) (me + (((Int32.toInt64 (((g - a) + y) - b)) * (σ.2 49 (((9 * g) + y).toNatClampNeg))) * (f_X11_power 10 (lg - (((g - a) + y) - b))))) (y + 1)))
theorem qlp_mw1 (g : Int32) (a : Int32) (b : Int32) (lg : Int32) : ∀ (n : Nat) (σ : bz_S) (ws : Int64) (me : Int64) (y : Int32), bz_fo ([] : List Nat) σ (lp_mw1 g a b lg n σ ws me y).1 := by
  intro n
  induction n with
  | zero =>
    intro σ ws me y
    rw [lp_mw1]
    exact bz_fo_rf
  | succ n ihc =>
    intro σ ws me y
    rw [lp_mw1]
    exact (bz_fo_tr (τ := σ) bz_fo_rf (ihc σ (ws + ((σ.2 49 (((9 * g) + y).toNatClampNeg)) * (f_X11_power 10 (lg - (((g - a) + y) - b))))) (me + (((Int32.toInt64 (((g - a) + y) - b)) * (σ.2 49 (((9 * g) + y).toNatClampNeg))) * (f_X11_power 10 (lg - (((g - a) + y) - b))))) (y + 1)))

def lp_mw2 (g : Int32) (a : Int32) (b : Int32) (lg : Int32) : Nat → bz_S → Int64 → Int32 → bz_S × Int64
  | 0, σ, me, x => (σ, me)
  | n + 1, σ, me, x => (lp_mw2 g a b lg n σ (me + (((Int32.toInt64 (((x - a) + g) - b)) * (σ.2 49 (((9 * x) + g).toNatClampNeg))) * (f_X11_power 10 (lg - (((x - a) + g) - b))))) (x + 1))
set_option maxRecDepth 100000 in
theorem lp_mw20_blk1 {X : bz_X} (g : Int32) (a : Int32) (b : Int32) (lg : Int32) (t : Int32) (what : Int32) (part : Int32) (ws : Int64) (σ : bz_S) (me : Int64) (x : Int32) : bz_run X bt_X11_match 3 (196, [some (.ref 32), some (.int g), some (.int t), some (.int a), some (.int b), some (.int what), some (.int part), some (.int lg), some (.long ws), none, some (.long me), none, some (.int x), none], [], σ) = some (True, if g ≤ x then (252, [some (.ref 32), some (.int g), some (.int t), some (.int a), some (.int b), some (.int what), some (.int part), some (.int lg), some (.long ws), none, some (.long me), none, some (.int x), none], [], σ) else (202, [some (.ref 32), some (.int g), some (.int t), some (.int a), some (.int b), some (.int what), some (.int part), some (.int lg), some (.long ws), none, some (.long me), none, some (.int x), none], [], σ)) := rfl
set_option maxRecDepth 100000 in
theorem lp_mw2_blk1 {X : bz_X} (g : Int32) (a : Int32) (b : Int32) (lg : Int32) (t : Int32) (what : Int32) (part : Int32) (ws : Int64) (σ : bz_S) (me : Int64) (x : Int32) : bz_run X bt_X11_match 3 (196, [some (.ref 32), some (.int g), some (.int t), some (.int a), some (.int b), some (.int what), some (.int part), some (.int lg), some (.long ws), none, some (.long me), none, some (.int x), none], [], σ) = some (True, if g ≤ x then (252, [some (.ref 32), some (.int g), some (.int t), some (.int a), some (.int b), some (.int what), some (.int part), some (.int lg), some (.long ws), none, some (.long me), none, some (.int x), none], [], σ) else (202, [some (.ref 32), some (.int g), some (.int t), some (.int a), some (.int b), some (.int what), some (.int part), some (.int lg), some (.long ws), none, some (.long me), none, some (.int x), none], [], σ)) := rfl
set_option maxRecDepth 100000 in
theorem lp_mw2_blk2 {X : bz_X} (g : Int32) (a : Int32) (b : Int32) (lg : Int32) (t : Int32) (what : Int32) (part : Int32) (ws : Int64) (σ : bz_S) (me : Int64) (x : Int32) : bz_run X bt_X11_match 24 (202, [some (.ref 32), some (.int g), some (.int t), some (.int a), some (.int b), some (.int what), some (.int part), some (.int lg), some (.long ws), none, some (.long me), none, some (.int x), none], [], σ) = some (vp_in ((9 * x) + g) 81 ∧ True, (239, [some (.ref 32), some (.int g), some (.int t), some (.int a), some (.int b), some (.int what), some (.int part), some (.int lg), some (.long ws), none, some (.long me), none, some (.int x), some (.int (((x - a) + g) - b))], [.int (lg - (((x - a) + g) - b)), .long 10, .long ((Int32.toInt64 (((x - a) + g) - b)) * (σ.2 49 (((9 * x) + g).toNatClampNeg))), .long me], σ)) := rfl
set_option maxRecDepth 100000 in
theorem lp_mw2_blk3 {X : bz_X} (g : Int32) (a : Int32) (b : Int32) (lg : Int32) (t : Int32) (what : Int32) (part : Int32) (ws : Int64) (σ : bz_S) (me : Int64) (x : Int32) : bz_run X bt_X11_match 5 (242, [some (.ref 32), some (.int g), some (.int t), some (.int a), some (.int b), some (.int what), some (.int part), some (.int lg), some (.long ws), none, some (.long me), none, some (.int x), some (.int (((x - a) + g) - b))], [.long (f_X11_power 10 (lg - (((x - a) + g) - b))), .long ((Int32.toInt64 (((x - a) + g) - b)) * (σ.2 49 (((9 * x) + g).toNatClampNeg))), .long me], σ) = some (True, (196, [some (.ref 32), some (.int g), some (.int t), some (.int a), some (.int b), some (.int what), some (.int part), some (.int lg), some (.long ws), none, some (.long (me + (((Int32.toInt64 (((x - a) + g) - b)) * (σ.2 49 (((9 * x) + g).toNatClampNeg))) * (f_X11_power 10 (lg - (((x - a) + g) - b)))))), none, some (.int (x + 1)), some (.int (((x - a) + g) - b))], [], σ)) := rfl
set_option maxRecDepth 100000 in
theorem s_lp_mw2 {X : bz_X} (g : Int32) (a : Int32) (b : Int32) (lg : Int32) {Q : bz_Q} (ws : Int64) (t what part : Int32) (GN AN BN : Nat) (hG : g = nI GN) (hG2 : GN ≤ 8) (hA : a = nI AN) (hA2 : AN < GN) (hB : b = nI BN) (hB2 : BN < GN) (hL : lg = nI (GN - AN + GN - BN - 1)) : ∀ (n : Nat) (σ : bz_S) (me : Int64) (x : Int32) (j9 : Nat) (hi : x = nI j9) (hj : j9 + n = GN) (gb : AN ≤ j9) (kk : bz_wp bz_P X mX11_match Q (252, [some (.ref 32), some (.int g), some (.int t), some (.int a), some (.int b), some (.int what), some (.int part), some (.int lg), some (.long ws), none, some (.long ((lp_mw2 g a b lg n σ me x).2)), none, none, none], [], (lp_mw2 g a b lg n σ me x).1)), bz_wp bz_P X mX11_match (Q) (196, [some (.ref 32), some (.int g), some (.int t), some (.int a), some (.int b), some (.int what), some (.int part), some (.int lg), some (.long ws), none, some (.long me), none, some (.int x), none], [], σ) := by
  intro n
  induction n with
  | zero =>
    intro σ me x j9 hi hj gb kk
    refine bz_wpb bT_X11_match 3 (b1 := (252, [some (.ref 32), some (.int g), some (.int t), some (.int a), some (.int b), some (.int what), some (.int part), some (.int lg), some (.long ws), none, some (.long me), none, some (.int x), none], [], σ)) (b2 := (202, [some (.ref 32), some (.int g), some (.int t), some (.int a), some (.int b), some (.int what), some (.int part), some (.int lg), some (.long ws), none, some (.long me), none, some (.int x), none], [], σ)) (C := g ≤ x) (G := True) (lp_mw20_blk1 g a b lg t what part ws σ me x) trivial (fun _ => ?_) (fun z => absurd (show g ≤ x from by rw [hi, hG]; exact nI_le (by omega) (by omega)) z)
    have e9 : lp_mw2 g a b lg 0 σ me x = (σ, me) := by rw [lp_mw2]
    rw [e9] at kk
    refine bz_wpw (by exact ⟨rfl, rfl, rfl, rfl, rfl, rfl, rfl, rfl, rfl, rfl, trivial⟩) kk
  | succ n ih =>
    intro σ me x j9 hi hj gb kk
    refine bz_wpb bT_X11_match 3 (b1 := (252, [some (.ref 32), some (.int g), some (.int t), some (.int a), some (.int b), some (.int what), some (.int part), some (.int lg), some (.long ws), none, some (.long me), none, some (.int x), none], [], σ)) (b2 := (202, [some (.ref 32), some (.int g), some (.int t), some (.int a), some (.int b), some (.int what), some (.int part), some (.int lg), some (.long ws), none, some (.long me), none, some (.int x), none], [], σ)) (C := g ≤ x) (G := True) (lp_mw2_blk1 g a b lg t what part ws σ me x) trivial (fun z => absurd z (show ¬ g ≤ x from by rw [hi, hG]; exact nI_ge (by omega) (by omega))) (fun _ => ?_)
    refine bz_wpn bT_X11_match 24 (b := (239, [some (.ref 32), some (.int g), some (.int t), some (.int a), some (.int b), some (.int what), some (.int part), some (.int lg), some (.long ws), none, some (.long me), none, some (.int x), some (.int (((x - a) + g) - b))], [.int (lg - (((x - a) + g) - b)), .long 10, .long ((Int32.toInt64 (((x - a) + g) - b)) * (σ.2 49 (((9 * x) + g).toNatClampNeg))), .long me], σ)) (G := vp_in ((9 * x) + g) 81 ∧ True) (lp_mw2_blk2 g a b lg t what part ws σ me x) ⟨(bz_81 hi hG (by omega)), trivial⟩ ?_
    refine bz_wcl bT_X11_match [.long 10, .int (lg - (((x - a) + g) - b))] (pc' := 242) (rest := [.long ((Int32.toInt64 (((x - a) + g) - b)) * (σ.2 49 (((9 * x) + g).toNatClampNeg))), .long me]) rfl rfl (Nat.le_of_ble_eq_true rfl) rfl (Nat.le_of_ble_eq_true rfl) rfl (s_X11_power σ 10 (lg - (((x - a) + g) - b)) ⟨_, by omega, bz_pw2 hL hG hG2 hA hA2 hB hB2 hi gb (by omega)⟩) rfl ?_
    refine bz_wpn bT_X11_match 5 (b := (196, [some (.ref 32), some (.int g), some (.int t), some (.int a), some (.int b), some (.int what), some (.int part), some (.int lg), some (.long ws), none, some (.long (me + (((Int32.toInt64 (((x - a) + g) - b)) * (σ.2 49 (((9 * x) + g).toNatClampNeg))) * (f_X11_power 10 (lg - (((x - a) + g) - b)))))), none, some (.int (x + 1)), some (.int (((x - a) + g) - b))], [], σ)) (G := True) (lp_mw2_blk3 g a b lg t what part ws σ me x) trivial ?_
    have e9 : lp_mw2 g a b lg (n + 1) σ me x = (lp_mw2 g a b lg n σ (me + (((Int32.toInt64 (((x - a) + g) - b)) * (σ.2 49 (((9 * x) + g).toNatClampNeg))) * (f_X11_power 10 (lg - (((x - a) + g) - b))))) (x + 1)) := by rw [lp_mw2]
    rw [e9] at kk
    refine bz_wpw (L' := [some (.ref 32), some (.int g), some (.int t), some (.int a), some (.int b), some (.int what), some (.int part), some (.int lg), some (.long ws), none, some (.long (me + (((Int32.toInt64 (((x - a) + g) - b)) * (σ.2 49 (((9 * x) + g).toNatClampNeg))) * (f_X11_power 10 (lg - (((x - a) + g) - b)))))), none, some (.int (x + 1)), none]) (by exact ⟨rfl, rfl, rfl, rfl, rfl, rfl, rfl, rfl, rfl, rfl, rfl, trivial⟩) ?_
    exact ih σ (me + (((Int32.toInt64 (((x - a) + g) - b)) * (σ.2 49 (((9 * x) + g).toNatClampNeg))) * (f_X11_power 10 (lg - (((x - a) + g) - b))))) (x + 1) (j9 + 1) (by rw [hi]; exact nI_1 j9) (by omega) (by omega) kk
theorem rlp_mw2 (g : Int32) (a : Int32) (b : Int32) (lg : Int32) : ∀ (n : Nat) (σ : bz_S) (me : Int64) (x : Int32), bz_fr [] σ (lp_mw2 g a b lg n σ me x).1 := by
  intro n
  induction n with
  | zero =>
    intro σ me x
    rw [lp_mw2]
    exact bz_fr_rf
  | succ n ihc =>
    intro σ me x
    rw [lp_mw2]
    exact (bz_fr_tr (τ := σ) bz_fr_rf (ihc σ (me + (((Int32.toInt64 (((x - a) + g) - b)) * (σ.2 49 (((9 * x) + g).toNatClampNeg))) * (f_X11_power 10 (lg - (((x - a) + g) - b))))) (x + 1)))
theorem qlp_mw2 (g : Int32) (a : Int32) (b : Int32) (lg : Int32) : ∀ (n : Nat) (σ : bz_S) (me : Int64) (x : Int32), bz_fo ([] : List Nat) σ (lp_mw2 g a b lg n σ me x).1 := by
  intro n
  induction n with
  | zero =>
    intro σ me x
    rw [lp_mw2]
    exact bz_fo_rf
  | succ n ihc =>
    intro σ me x
    rw [lp_mw2]
    exact (bz_fo_tr (τ := σ) bz_fo_rf (ihc σ (me + (((Int32.toInt64 (((x - a) + g) - b)) * (σ.2 49 (((9 * x) + g).toNatClampNeg))) * (f_X11_power 10 (lg - (((x - a) + g) - b))))) (x + 1)))

def f_X11_match_32_c (σ : bz_S) (g : Int32) (t : Int32) (a : Int32) (b : Int32) (what : Int32) (part : Int32) (τ1 : bz_S) (τ2 : bz_S × Int64 × Int64) (τ3 : bz_S × Int64) : Int64 × bz_S := if what = 0 then ((f_X11_lowest τ2.2.1 (f_X11_power 10 ((((g - a) + g) - b) - 1)) part), τ3.1) else ((f_X11_lowest τ3.2 (f_X11_power 10 ((((g - a) + g) - b) - 1)) part), τ3.1)
def f_X11_match_32_b (σ : bz_S) (g : Int32) (t : Int32) (a : Int32) (b : Int32) (what : Int32) (part : Int32) (τ1 : bz_S) (τ2 : bz_S × Int64 × Int64) : Int64 × bz_S := (f_X11_match_32_c σ g t a b what part τ1 τ2 ((lp_mw2 g a b ((((g - a) + g) - b) - 1) (g - a).toNatClampNeg τ2.1 τ2.2.2 a)))
def f_X11_match_32_a (σ : bz_S) (g : Int32) (t : Int32) (a : Int32) (b : Int32) (what : Int32) (part : Int32) (τ1 : bz_S) : Int64 × bz_S := (f_X11_match_32_b σ g t a b what part τ1 ((lp_mw1 g a b ((((g - a) + g) - b) - 1) (g - b).toNatClampNeg τ1 0 0 b)))
def f_X11_match_32 (σ : bz_S) (g : Int32) (t : Int32) (a : Int32) (b : Int32) (what : Int32) (part : Int32) : Int64 × bz_S := if f_X11_in (Int32.toInt64 g) 1 8 = true then if f_X11_in (Int32.toInt64 t) 0 10 = true then if f_X11_in (Int32.toInt64 a) 0 (Int32.toInt64 (g - 1)) = true then if f_X11_in (Int32.toInt64 b) 0 (Int32.toInt64 (g - 1)) = true then if f_X11_in (Int32.toInt64 what) 0 1 = true then if f_X11_in (Int32.toInt64 part) 0 1 = true then (f_X11_match_32_a σ g t a b what part (f_X11_findChance_32 σ g t a b)) else ((-1000000000000000002), σ) else ((-1000000000000000002), σ) else ((-1000000000000000002), σ) else ((-1000000000000000002), σ) else ((-1000000000000000002), σ) else ((-1000000000000000002), σ)
set_option maxRecDepth 100000 in
theorem f_X11_match_32_blk1 {X : bz_X} (σ : bz_S) (g : Int32) (t : Int32) (a : Int32) (b : Int32) (what : Int32) (part : Int32) : bz_run X bt_X11_match 4 (0, [some (.ref 32), some (.int g), some (.int t), some (.int a), some (.int b), some (.int what), some (.int part), none, none, none, none, none, none, none], [], σ) = some (True, (6, [some (.ref 32), some (.int g), some (.int t), some (.int a), some (.int b), some (.int what), some (.int part), none, none, none, none, none, none, none], [.long 8, .long 1, .long (Int32.toInt64 g)], σ)) := rfl
set_option maxRecDepth 100000 in
theorem f_X11_match_32_blk2 {X : bz_X} (σ : bz_S) (g : Int32) (t : Int32) (a : Int32) (b : Int32) (what : Int32) (part : Int32) : bz_run X bt_X11_match 1 (9, [some (.ref 32), some (.int g), some (.int t), some (.int a), some (.int b), some (.int what), some (.int part), none, none, none, none, none, none, none], [.int (bz_b (f_X11_in (Int32.toInt64 g) 1 8))], σ) = some (True, if bz_b (f_X11_in (Int32.toInt64 g) 1 8) = 0 then (73, [some (.ref 32), some (.int g), some (.int t), some (.int a), some (.int b), some (.int what), some (.int part), none, none, none, none, none, none, none], [], σ) else (12, [some (.ref 32), some (.int g), some (.int t), some (.int a), some (.int b), some (.int what), some (.int part), none, none, none, none, none, none, none], [], σ)) := rfl
set_option maxRecDepth 100000 in
theorem f_X11_match_32_blk3 {X : bz_X} (σ : bz_S) (g : Int32) (t : Int32) (a : Int32) (b : Int32) (what : Int32) (part : Int32) : bz_run X bt_X11_match 1 (73, [some (.ref 32), some (.int g), some (.int t), some (.int a), some (.int b), some (.int what), some (.int part), none, none, none, none, none, none, none], [], σ) = some (True, (76, [some (.ref 32), some (.int g), some (.int t), some (.int a), some (.int b), some (.int what), some (.int part), none, none, none, none, none, none, none], [.long (-1000000000000000002)], σ)) := rfl
set_option maxRecDepth 100000 in
theorem f_X11_match_32_blk4 {X : bz_X} (σ : bz_S) (g : Int32) (t : Int32) (a : Int32) (b : Int32) (what : Int32) (part : Int32) : bz_run X bt_X11_match 4 (12, [some (.ref 32), some (.int g), some (.int t), some (.int a), some (.int b), some (.int what), some (.int part), none, none, none, none, none, none, none], [], σ) = some (True, (18, [some (.ref 32), some (.int g), some (.int t), some (.int a), some (.int b), some (.int what), some (.int part), none, none, none, none, none, none, none], [.long 10, .long 0, .long (Int32.toInt64 t)], σ)) := rfl
set_option maxRecDepth 100000 in
theorem f_X11_match_32_blk5 {X : bz_X} (σ : bz_S) (g : Int32) (t : Int32) (a : Int32) (b : Int32) (what : Int32) (part : Int32) : bz_run X bt_X11_match 1 (21, [some (.ref 32), some (.int g), some (.int t), some (.int a), some (.int b), some (.int what), some (.int part), none, none, none, none, none, none, none], [.int (bz_b (f_X11_in (Int32.toInt64 t) 0 10))], σ) = some (True, if bz_b (f_X11_in (Int32.toInt64 t) 0 10) = 0 then (73, [some (.ref 32), some (.int g), some (.int t), some (.int a), some (.int b), some (.int what), some (.int part), none, none, none, none, none, none, none], [], σ) else (24, [some (.ref 32), some (.int g), some (.int t), some (.int a), some (.int b), some (.int what), some (.int part), none, none, none, none, none, none, none], [], σ)) := rfl
set_option maxRecDepth 100000 in
theorem f_X11_match_32_blk6 {X : bz_X} (σ : bz_S) (g : Int32) (t : Int32) (a : Int32) (b : Int32) (what : Int32) (part : Int32) : bz_run X bt_X11_match 1 (73, [some (.ref 32), some (.int g), some (.int t), some (.int a), some (.int b), some (.int what), some (.int part), none, none, none, none, none, none, none], [], σ) = some (True, (76, [some (.ref 32), some (.int g), some (.int t), some (.int a), some (.int b), some (.int what), some (.int part), none, none, none, none, none, none, none], [.long (-1000000000000000002)], σ)) := rfl
set_option maxRecDepth 100000 in
theorem f_X11_match_32_blk7 {X : bz_X} (σ : bz_S) (g : Int32) (t : Int32) (a : Int32) (b : Int32) (what : Int32) (part : Int32) : bz_run X bt_X11_match 7 (24, [some (.ref 32), some (.int g), some (.int t), some (.int a), some (.int b), some (.int what), some (.int part), none, none, none, none, none, none, none], [], σ) = some (True, (31, [some (.ref 32), some (.int g), some (.int t), some (.int a), some (.int b), some (.int what), some (.int part), none, none, none, none, none, none, none], [.long (Int32.toInt64 (g - 1)), .long 0, .long (Int32.toInt64 a)], σ)) := rfl
set_option maxRecDepth 100000 in
theorem f_X11_match_32_blk8 {X : bz_X} (σ : bz_S) (g : Int32) (t : Int32) (a : Int32) (b : Int32) (what : Int32) (part : Int32) : bz_run X bt_X11_match 1 (34, [some (.ref 32), some (.int g), some (.int t), some (.int a), some (.int b), some (.int what), some (.int part), none, none, none, none, none, none, none], [.int (bz_b (f_X11_in (Int32.toInt64 a) 0 (Int32.toInt64 (g - 1))))], σ) = some (True, if bz_b (f_X11_in (Int32.toInt64 a) 0 (Int32.toInt64 (g - 1))) = 0 then (73, [some (.ref 32), some (.int g), some (.int t), some (.int a), some (.int b), some (.int what), some (.int part), none, none, none, none, none, none, none], [], σ) else (37, [some (.ref 32), some (.int g), some (.int t), some (.int a), some (.int b), some (.int what), some (.int part), none, none, none, none, none, none, none], [], σ)) := rfl
set_option maxRecDepth 100000 in
theorem f_X11_match_32_blk9 {X : bz_X} (σ : bz_S) (g : Int32) (t : Int32) (a : Int32) (b : Int32) (what : Int32) (part : Int32) : bz_run X bt_X11_match 1 (73, [some (.ref 32), some (.int g), some (.int t), some (.int a), some (.int b), some (.int what), some (.int part), none, none, none, none, none, none, none], [], σ) = some (True, (76, [some (.ref 32), some (.int g), some (.int t), some (.int a), some (.int b), some (.int what), some (.int part), none, none, none, none, none, none, none], [.long (-1000000000000000002)], σ)) := rfl
set_option maxRecDepth 100000 in
theorem f_X11_match_32_blk10 {X : bz_X} (σ : bz_S) (g : Int32) (t : Int32) (a : Int32) (b : Int32) (what : Int32) (part : Int32) : bz_run X bt_X11_match 7 (37, [some (.ref 32), some (.int g), some (.int t), some (.int a), some (.int b), some (.int what), some (.int part), none, none, none, none, none, none, none], [], σ) = some (True, (45, [some (.ref 32), some (.int g), some (.int t), some (.int a), some (.int b), some (.int what), some (.int part), none, none, none, none, none, none, none], [.long (Int32.toInt64 (g - 1)), .long 0, .long (Int32.toInt64 b)], σ)) := rfl
set_option maxRecDepth 100000 in
theorem f_X11_match_32_blk11 {X : bz_X} (σ : bz_S) (g : Int32) (t : Int32) (a : Int32) (b : Int32) (what : Int32) (part : Int32) : bz_run X bt_X11_match 1 (48, [some (.ref 32), some (.int g), some (.int t), some (.int a), some (.int b), some (.int what), some (.int part), none, none, none, none, none, none, none], [.int (bz_b (f_X11_in (Int32.toInt64 b) 0 (Int32.toInt64 (g - 1))))], σ) = some (True, if bz_b (f_X11_in (Int32.toInt64 b) 0 (Int32.toInt64 (g - 1))) = 0 then (73, [some (.ref 32), some (.int g), some (.int t), some (.int a), some (.int b), some (.int what), some (.int part), none, none, none, none, none, none, none], [], σ) else (51, [some (.ref 32), some (.int g), some (.int t), some (.int a), some (.int b), some (.int what), some (.int part), none, none, none, none, none, none, none], [], σ)) := rfl
set_option maxRecDepth 100000 in
theorem f_X11_match_32_blk12 {X : bz_X} (σ : bz_S) (g : Int32) (t : Int32) (a : Int32) (b : Int32) (what : Int32) (part : Int32) : bz_run X bt_X11_match 1 (73, [some (.ref 32), some (.int g), some (.int t), some (.int a), some (.int b), some (.int what), some (.int part), none, none, none, none, none, none, none], [], σ) = some (True, (76, [some (.ref 32), some (.int g), some (.int t), some (.int a), some (.int b), some (.int what), some (.int part), none, none, none, none, none, none, none], [.long (-1000000000000000002)], σ)) := rfl
set_option maxRecDepth 100000 in
theorem f_X11_match_32_blk13 {X : bz_X} (σ : bz_S) (g : Int32) (t : Int32) (a : Int32) (b : Int32) (what : Int32) (part : Int32) : bz_run X bt_X11_match 4 (51, [some (.ref 32), some (.int g), some (.int t), some (.int a), some (.int b), some (.int what), some (.int part), none, none, none, none, none, none, none], [], σ) = some (True, (56, [some (.ref 32), some (.int g), some (.int t), some (.int a), some (.int b), some (.int what), some (.int part), none, none, none, none, none, none, none], [.long 1, .long 0, .long (Int32.toInt64 what)], σ)) := rfl
set_option maxRecDepth 100000 in
theorem f_X11_match_32_blk14 {X : bz_X} (σ : bz_S) (g : Int32) (t : Int32) (a : Int32) (b : Int32) (what : Int32) (part : Int32) : bz_run X bt_X11_match 1 (59, [some (.ref 32), some (.int g), some (.int t), some (.int a), some (.int b), some (.int what), some (.int part), none, none, none, none, none, none, none], [.int (bz_b (f_X11_in (Int32.toInt64 what) 0 1))], σ) = some (True, if bz_b (f_X11_in (Int32.toInt64 what) 0 1) = 0 then (73, [some (.ref 32), some (.int g), some (.int t), some (.int a), some (.int b), some (.int what), some (.int part), none, none, none, none, none, none, none], [], σ) else (62, [some (.ref 32), some (.int g), some (.int t), some (.int a), some (.int b), some (.int what), some (.int part), none, none, none, none, none, none, none], [], σ)) := rfl
set_option maxRecDepth 100000 in
theorem f_X11_match_32_blk15 {X : bz_X} (σ : bz_S) (g : Int32) (t : Int32) (a : Int32) (b : Int32) (what : Int32) (part : Int32) : bz_run X bt_X11_match 1 (73, [some (.ref 32), some (.int g), some (.int t), some (.int a), some (.int b), some (.int what), some (.int part), none, none, none, none, none, none, none], [], σ) = some (True, (76, [some (.ref 32), some (.int g), some (.int t), some (.int a), some (.int b), some (.int what), some (.int part), none, none, none, none, none, none, none], [.long (-1000000000000000002)], σ)) := rfl
set_option maxRecDepth 100000 in
theorem f_X11_match_32_blk16 {X : bz_X} (σ : bz_S) (g : Int32) (t : Int32) (a : Int32) (b : Int32) (what : Int32) (part : Int32) : bz_run X bt_X11_match 4 (62, [some (.ref 32), some (.int g), some (.int t), some (.int a), some (.int b), some (.int what), some (.int part), none, none, none, none, none, none, none], [], σ) = some (True, (67, [some (.ref 32), some (.int g), some (.int t), some (.int a), some (.int b), some (.int what), some (.int part), none, none, none, none, none, none, none], [.long 1, .long 0, .long (Int32.toInt64 part)], σ)) := rfl
set_option maxRecDepth 100000 in
theorem f_X11_match_32_blk17 {X : bz_X} (σ : bz_S) (g : Int32) (t : Int32) (a : Int32) (b : Int32) (what : Int32) (part : Int32) : bz_run X bt_X11_match 1 (70, [some (.ref 32), some (.int g), some (.int t), some (.int a), some (.int b), some (.int what), some (.int part), none, none, none, none, none, none, none], [.int (bz_b (f_X11_in (Int32.toInt64 part) 0 1))], σ) = some (True, if ¬ bz_b (f_X11_in (Int32.toInt64 part) 0 1) = 0 then (77, [some (.ref 32), some (.int g), some (.int t), some (.int a), some (.int b), some (.int what), some (.int part), none, none, none, none, none, none, none], [], σ) else (73, [some (.ref 32), some (.int g), some (.int t), some (.int a), some (.int b), some (.int what), some (.int part), none, none, none, none, none, none, none], [], σ)) := rfl
set_option maxRecDepth 100000 in
theorem f_X11_match_32_blk18 {X : bz_X} (σ : bz_S) (g : Int32) (t : Int32) (a : Int32) (b : Int32) (what : Int32) (part : Int32) : bz_run X bt_X11_match 5 (77, [some (.ref 32), some (.int g), some (.int t), some (.int a), some (.int b), some (.int what), some (.int part), none, none, none, none, none, none, none], [], σ) = some (True, (83, [some (.ref 32), some (.int g), some (.int t), some (.int a), some (.int b), some (.int what), some (.int part), none, none, none, none, none, none, none], [.int b, .int a, .int t, .int g, .ref 32], σ)) := rfl
set_option maxRecDepth 100000 in
theorem f_X11_match_32_blk19 {X : bz_X} (σ : bz_S) (g : Int32) (t : Int32) (a : Int32) (b : Int32) (what : Int32) (part : Int32) (τ1 : bz_S) : bz_run X bt_X11_match 16 (86, [some (.ref 32), some (.int g), some (.int t), some (.int a), some (.int b), some (.int what), some (.int part), none, none, none, none, none, none, none], [], τ1) = some (True, (108, [some (.ref 32), some (.int g), some (.int t), some (.int a), some (.int b), some (.int what), some (.int part), some (.int ((((g - a) + g) - b) - 1)), some (.long 0), none, some (.long 0), none, some (.int b), none], [], τ1)) := rfl
set_option maxRecDepth 100000 in
theorem f_X11_match_32_blk20 {X : bz_X} (σ : bz_S) (g : Int32) (t : Int32) (a : Int32) (b : Int32) (what : Int32) (part : Int32) (τ1 : bz_S) (τ2 : bz_S × Int64 × Int64) : bz_run X bt_X11_match 2 (193, [some (.ref 32), some (.int g), some (.int t), some (.int a), some (.int b), some (.int what), some (.int part), some (.int ((((g - a) + g) - b) - 1)), some (.long τ2.2.1), none, some (.long τ2.2.2), none, none, none], [], τ2.1) = some (True, (196, [some (.ref 32), some (.int g), some (.int t), some (.int a), some (.int b), some (.int what), some (.int part), some (.int ((((g - a) + g) - b) - 1)), some (.long τ2.2.1), none, some (.long τ2.2.2), none, some (.int a), none], [], τ2.1)) := rfl
set_option maxRecDepth 100000 in
theorem f_X11_match_32_blk21 {X : bz_X} (σ : bz_S) (g : Int32) (t : Int32) (a : Int32) (b : Int32) (what : Int32) (part : Int32) (τ1 : bz_S) (τ2 : bz_S × Int64 × Int64) (τ3 : bz_S × Int64) : bz_run X bt_X11_match 2 (252, [some (.ref 32), some (.int g), some (.int t), some (.int a), some (.int b), some (.int what), some (.int part), some (.int ((((g - a) + g) - b) - 1)), some (.long τ2.2.1), none, some (.long τ3.2), none, none, none], [], τ3.1) = some (True, if ¬ what = 0 then (262, [some (.ref 32), some (.int g), some (.int t), some (.int a), some (.int b), some (.int what), some (.int part), some (.int ((((g - a) + g) - b) - 1)), some (.long τ2.2.1), none, some (.long τ3.2), none, none, none], [], τ3.1) else (257, [some (.ref 32), some (.int g), some (.int t), some (.int a), some (.int b), some (.int what), some (.int part), some (.int ((((g - a) + g) - b) - 1)), some (.long τ2.2.1), none, some (.long τ3.2), none, none, none], [], τ3.1)) := rfl
set_option maxRecDepth 100000 in
theorem f_X11_match_32_blk22 {X : bz_X} (σ : bz_S) (g : Int32) (t : Int32) (a : Int32) (b : Int32) (what : Int32) (part : Int32) (τ1 : bz_S) (τ2 : bz_S × Int64 × Int64) (τ3 : bz_S × Int64) : bz_run X bt_X11_match 3 (262, [some (.ref 32), some (.int g), some (.int t), some (.int a), some (.int b), some (.int what), some (.int part), some (.int ((((g - a) + g) - b) - 1)), some (.long τ2.2.1), none, some (.long τ3.2), none, none, none], [], τ3.1) = some (True, (269, [some (.ref 32), some (.int g), some (.int t), some (.int a), some (.int b), some (.int what), some (.int part), some (.int ((((g - a) + g) - b) - 1)), some (.long τ2.2.1), none, some (.long τ3.2), none, none, none], [.int ((((g - a) + g) - b) - 1), .long 10, .long τ3.2], τ3.1)) := rfl
set_option maxRecDepth 100000 in
theorem f_X11_match_32_blk23 {X : bz_X} (σ : bz_S) (g : Int32) (t : Int32) (a : Int32) (b : Int32) (what : Int32) (part : Int32) (τ1 : bz_S) (τ2 : bz_S × Int64 × Int64) (τ3 : bz_S × Int64) : bz_run X bt_X11_match 1 (272, [some (.ref 32), some (.int g), some (.int t), some (.int a), some (.int b), some (.int what), some (.int part), some (.int ((((g - a) + g) - b) - 1)), some (.long τ2.2.1), none, some (.long τ3.2), none, none, none], [.long (f_X11_power 10 ((((g - a) + g) - b) - 1)), .long τ3.2], τ3.1) = some (True, (274, [some (.ref 32), some (.int g), some (.int t), some (.int a), some (.int b), some (.int what), some (.int part), some (.int ((((g - a) + g) - b) - 1)), some (.long τ2.2.1), none, some (.long τ3.2), none, none, none], [.int part, .long (f_X11_power 10 ((((g - a) + g) - b) - 1)), .long τ3.2], τ3.1)) := rfl
set_option maxRecDepth 100000 in
theorem f_X11_match_32_blk24 {X : bz_X} (σ : bz_S) (g : Int32) (t : Int32) (a : Int32) (b : Int32) (what : Int32) (part : Int32) (τ1 : bz_S) (τ2 : bz_S × Int64 × Int64) (τ3 : bz_S × Int64) : bz_run X bt_X11_match 4 (257, [some (.ref 32), some (.int g), some (.int t), some (.int a), some (.int b), some (.int what), some (.int part), some (.int ((((g - a) + g) - b) - 1)), some (.long τ2.2.1), none, some (.long τ3.2), none, none, none], [], τ3.1) = some (True, (269, [some (.ref 32), some (.int g), some (.int t), some (.int a), some (.int b), some (.int what), some (.int part), some (.int ((((g - a) + g) - b) - 1)), some (.long τ2.2.1), none, some (.long τ3.2), none, none, none], [.int ((((g - a) + g) - b) - 1), .long 10, .long τ2.2.1], τ3.1)) := rfl
set_option maxRecDepth 100000 in
theorem f_X11_match_32_blk25 {X : bz_X} (σ : bz_S) (g : Int32) (t : Int32) (a : Int32) (b : Int32) (what : Int32) (part : Int32) (τ1 : bz_S) (τ2 : bz_S × Int64 × Int64) (τ3 : bz_S × Int64) : bz_run X bt_X11_match 1 (272, [some (.ref 32), some (.int g), some (.int t), some (.int a), some (.int b), some (.int what), some (.int part), some (.int ((((g - a) + g) - b) - 1)), some (.long τ2.2.1), none, some (.long τ3.2), none, none, none], [.long (f_X11_power 10 ((((g - a) + g) - b) - 1)), .long τ2.2.1], τ3.1) = some (True, (274, [some (.ref 32), some (.int g), some (.int t), some (.int a), some (.int b), some (.int what), some (.int part), some (.int ((((g - a) + g) - b) - 1)), some (.long τ2.2.1), none, some (.long τ3.2), none, none, none], [.int part, .long (f_X11_power 10 ((((g - a) + g) - b) - 1)), .long τ2.2.1], τ3.1)) := rfl
set_option maxRecDepth 100000 in
theorem f_X11_match_32_blk26 {X : bz_X} (σ : bz_S) (g : Int32) (t : Int32) (a : Int32) (b : Int32) (what : Int32) (part : Int32) : bz_run X bt_X11_match 1 (73, [some (.ref 32), some (.int g), some (.int t), some (.int a), some (.int b), some (.int what), some (.int part), none, none, none, none, none, none, none], [], σ) = some (True, (76, [some (.ref 32), some (.int g), some (.int t), some (.int a), some (.int b), some (.int what), some (.int part), none, none, none, none, none, none, none], [.long (-1000000000000000002)], σ)) := rfl
set_option maxRecDepth 100000 in
theorem s_X11_match_32 {X : bz_X} (σ : bz_S) (g : Int32) (t : Int32) (a : Int32) (b : Int32) (what : Int32) (part : Int32) : bz_C bz_P X mX11_match [.ref 32, .int g, .int t, .int a, .int b, .int what, .int part] σ (bz_pl (f_X11_match_32 σ g t a b what part).1 (f_X11_match_32 σ g t a b what part).2) := by
  show bz_wp bz_P X mX11_match (bz_pl (f_X11_match_32 σ g t a b what part).1 (f_X11_match_32 σ g t a b what part).2) (0, [some (.ref 32), some (.int g), some (.int t), some (.int a), some (.int b), some (.int what), some (.int part), none, none, none, none, none, none, none], [], σ)
  refine bz_wpn bT_X11_match 4 (b := (6, [some (.ref 32), some (.int g), some (.int t), some (.int a), some (.int b), some (.int what), some (.int part), none, none, none, none, none, none, none], [.long 8, .long 1, .long (Int32.toInt64 g)], σ)) (G := True) (f_X11_match_32_blk1 σ g t a b what part) trivial ?_
  refine bz_wci bT_X11_match [.long (Int32.toInt64 g), .long 1, .long 8] (pc' := 9) (rest := []) rfl rfl (Nat.le_of_ble_eq_true rfl) rfl (Nat.le_of_ble_eq_true rfl) rfl (s_X11_in σ (Int32.toInt64 g) 1 8) rfl ?_
  refine bz_wpb bT_X11_match 1 (b1 := (73, [some (.ref 32), some (.int g), some (.int t), some (.int a), some (.int b), some (.int what), some (.int part), none, none, none, none, none, none, none], [], σ)) (b2 := (12, [some (.ref 32), some (.int g), some (.int t), some (.int a), some (.int b), some (.int what), some (.int part), none, none, none, none, none, none, none], [], σ)) (C := bz_b (f_X11_in (Int32.toInt64 g) 1 8) = 0) (G := True) (f_X11_match_32_blk2 σ g t a b what part) trivial (fun h1 => ?_) (fun h1 => ?_)
  · skip
    have h1 := bz_b0 h1
    refine bz_wpn bT_X11_match 1 (b := (76, [some (.ref 32), some (.int g), some (.int t), some (.int a), some (.int b), some (.int what), some (.int part), none, none, none, none, none, none, none], [.long (-1000000000000000002)], σ)) (G := True) (f_X11_match_32_blk3 σ g t a b what part) trivial ?_
    refine bz_wpr bT_X11_match rfl rfl trivial ?_
    have e9 : f_X11_match_32 σ g t a b what part = ((-1000000000000000002), σ) := by rw [f_X11_match_32, if_neg (bz_ff h1)]
    exact ⟨by rw [e9], by rw [e9]⟩
  · skip
    have h1 := bz_b1 h1
    refine bz_wpn bT_X11_match 4 (b := (18, [some (.ref 32), some (.int g), some (.int t), some (.int a), some (.int b), some (.int what), some (.int part), none, none, none, none, none, none, none], [.long 10, .long 0, .long (Int32.toInt64 t)], σ)) (G := True) (f_X11_match_32_blk4 σ g t a b what part) trivial ?_
    refine bz_wci bT_X11_match [.long (Int32.toInt64 t), .long 0, .long 10] (pc' := 21) (rest := []) rfl rfl (Nat.le_of_ble_eq_true rfl) rfl (Nat.le_of_ble_eq_true rfl) rfl (s_X11_in σ (Int32.toInt64 t) 0 10) rfl ?_
    refine bz_wpb bT_X11_match 1 (b1 := (73, [some (.ref 32), some (.int g), some (.int t), some (.int a), some (.int b), some (.int what), some (.int part), none, none, none, none, none, none, none], [], σ)) (b2 := (24, [some (.ref 32), some (.int g), some (.int t), some (.int a), some (.int b), some (.int what), some (.int part), none, none, none, none, none, none, none], [], σ)) (C := bz_b (f_X11_in (Int32.toInt64 t) 0 10) = 0) (G := True) (f_X11_match_32_blk5 σ g t a b what part) trivial (fun h2 => ?_) (fun h2 => ?_)
    · skip
      have h2 := bz_b0 h2
      refine bz_wpn bT_X11_match 1 (b := (76, [some (.ref 32), some (.int g), some (.int t), some (.int a), some (.int b), some (.int what), some (.int part), none, none, none, none, none, none, none], [.long (-1000000000000000002)], σ)) (G := True) (f_X11_match_32_blk6 σ g t a b what part) trivial ?_
      refine bz_wpr bT_X11_match rfl rfl trivial ?_
      have e9 : f_X11_match_32 σ g t a b what part = ((-1000000000000000002), σ) := by rw [f_X11_match_32, if_pos (h1), if_neg (bz_ff h2)]
      exact ⟨by rw [e9], by rw [e9]⟩
    · skip
      have h2 := bz_b1 h2
      refine bz_wpn bT_X11_match 7 (b := (31, [some (.ref 32), some (.int g), some (.int t), some (.int a), some (.int b), some (.int what), some (.int part), none, none, none, none, none, none, none], [.long (Int32.toInt64 (g - 1)), .long 0, .long (Int32.toInt64 a)], σ)) (G := True) (f_X11_match_32_blk7 σ g t a b what part) trivial ?_
      refine bz_wci bT_X11_match [.long (Int32.toInt64 a), .long 0, .long (Int32.toInt64 (g - 1))] (pc' := 34) (rest := []) rfl rfl (Nat.le_of_ble_eq_true rfl) rfl (Nat.le_of_ble_eq_true rfl) rfl (s_X11_in σ (Int32.toInt64 a) 0 (Int32.toInt64 (g - 1))) rfl ?_
      refine bz_wpb bT_X11_match 1 (b1 := (73, [some (.ref 32), some (.int g), some (.int t), some (.int a), some (.int b), some (.int what), some (.int part), none, none, none, none, none, none, none], [], σ)) (b2 := (37, [some (.ref 32), some (.int g), some (.int t), some (.int a), some (.int b), some (.int what), some (.int part), none, none, none, none, none, none, none], [], σ)) (C := bz_b (f_X11_in (Int32.toInt64 a) 0 (Int32.toInt64 (g - 1))) = 0) (G := True) (f_X11_match_32_blk8 σ g t a b what part) trivial (fun h3 => ?_) (fun h3 => ?_)
      · skip
        have h3 := bz_b0 h3
        refine bz_wpn bT_X11_match 1 (b := (76, [some (.ref 32), some (.int g), some (.int t), some (.int a), some (.int b), some (.int what), some (.int part), none, none, none, none, none, none, none], [.long (-1000000000000000002)], σ)) (G := True) (f_X11_match_32_blk9 σ g t a b what part) trivial ?_
        refine bz_wpr bT_X11_match rfl rfl trivial ?_
        have e9 : f_X11_match_32 σ g t a b what part = ((-1000000000000000002), σ) := by rw [f_X11_match_32, if_pos (h1), if_pos (h2), if_neg (bz_ff h3)]
        exact ⟨by rw [e9], by rw [e9]⟩
      · skip
        have h3 := bz_b1 h3
        refine bz_wpn bT_X11_match 7 (b := (45, [some (.ref 32), some (.int g), some (.int t), some (.int a), some (.int b), some (.int what), some (.int part), none, none, none, none, none, none, none], [.long (Int32.toInt64 (g - 1)), .long 0, .long (Int32.toInt64 b)], σ)) (G := True) (f_X11_match_32_blk10 σ g t a b what part) trivial ?_
        refine bz_wci bT_X11_match [.long (Int32.toInt64 b), .long 0, .long (Int32.toInt64 (g - 1))] (pc' := 48) (rest := []) rfl rfl (Nat.le_of_ble_eq_true rfl) rfl (Nat.le_of_ble_eq_true rfl) rfl (s_X11_in σ (Int32.toInt64 b) 0 (Int32.toInt64 (g - 1))) rfl ?_
        refine bz_wpb bT_X11_match 1 (b1 := (73, [some (.ref 32), some (.int g), some (.int t), some (.int a), some (.int b), some (.int what), some (.int part), none, none, none, none, none, none, none], [], σ)) (b2 := (51, [some (.ref 32), some (.int g), some (.int t), some (.int a), some (.int b), some (.int what), some (.int part), none, none, none, none, none, none, none], [], σ)) (C := bz_b (f_X11_in (Int32.toInt64 b) 0 (Int32.toInt64 (g - 1))) = 0) (G := True) (f_X11_match_32_blk11 σ g t a b what part) trivial (fun h4 => ?_) (fun h4 => ?_)
        · skip
          have h4 := bz_b0 h4
          refine bz_wpn bT_X11_match 1 (b := (76, [some (.ref 32), some (.int g), some (.int t), some (.int a), some (.int b), some (.int what), some (.int part), none, none, none, none, none, none, none], [.long (-1000000000000000002)], σ)) (G := True) (f_X11_match_32_blk12 σ g t a b what part) trivial ?_
          refine bz_wpr bT_X11_match rfl rfl trivial ?_
          have e9 : f_X11_match_32 σ g t a b what part = ((-1000000000000000002), σ) := by rw [f_X11_match_32, if_pos (h1), if_pos (h2), if_pos (h3), if_neg (bz_ff h4)]
          exact ⟨by rw [e9], by rw [e9]⟩
        · skip
          have h4 := bz_b1 h4
          refine bz_wpn bT_X11_match 4 (b := (56, [some (.ref 32), some (.int g), some (.int t), some (.int a), some (.int b), some (.int what), some (.int part), none, none, none, none, none, none, none], [.long 1, .long 0, .long (Int32.toInt64 what)], σ)) (G := True) (f_X11_match_32_blk13 σ g t a b what part) trivial ?_
          refine bz_wci bT_X11_match [.long (Int32.toInt64 what), .long 0, .long 1] (pc' := 59) (rest := []) rfl rfl (Nat.le_of_ble_eq_true rfl) rfl (Nat.le_of_ble_eq_true rfl) rfl (s_X11_in σ (Int32.toInt64 what) 0 1) rfl ?_
          refine bz_wpb bT_X11_match 1 (b1 := (73, [some (.ref 32), some (.int g), some (.int t), some (.int a), some (.int b), some (.int what), some (.int part), none, none, none, none, none, none, none], [], σ)) (b2 := (62, [some (.ref 32), some (.int g), some (.int t), some (.int a), some (.int b), some (.int what), some (.int part), none, none, none, none, none, none, none], [], σ)) (C := bz_b (f_X11_in (Int32.toInt64 what) 0 1) = 0) (G := True) (f_X11_match_32_blk14 σ g t a b what part) trivial (fun h5 => ?_) (fun h5 => ?_)
          · skip
            have h5 := bz_b0 h5
            refine bz_wpn bT_X11_match 1 (b := (76, [some (.ref 32), some (.int g), some (.int t), some (.int a), some (.int b), some (.int what), some (.int part), none, none, none, none, none, none, none], [.long (-1000000000000000002)], σ)) (G := True) (f_X11_match_32_blk15 σ g t a b what part) trivial ?_
            refine bz_wpr bT_X11_match rfl rfl trivial ?_
            have e9 : f_X11_match_32 σ g t a b what part = ((-1000000000000000002), σ) := by rw [f_X11_match_32, if_pos (h1), if_pos (h2), if_pos (h3), if_pos (h4), if_neg (bz_ff h5)]
            exact ⟨by rw [e9], by rw [e9]⟩
          · skip
            have h5 := bz_b1 h5
            refine bz_wpn bT_X11_match 4 (b := (67, [some (.ref 32), some (.int g), some (.int t), some (.int a), some (.int b), some (.int what), some (.int part), none, none, none, none, none, none, none], [.long 1, .long 0, .long (Int32.toInt64 part)], σ)) (G := True) (f_X11_match_32_blk16 σ g t a b what part) trivial ?_
            refine bz_wci bT_X11_match [.long (Int32.toInt64 part), .long 0, .long 1] (pc' := 70) (rest := []) rfl rfl (Nat.le_of_ble_eq_true rfl) rfl (Nat.le_of_ble_eq_true rfl) rfl (s_X11_in σ (Int32.toInt64 part) 0 1) rfl ?_
            refine bz_wpb bT_X11_match 1 (b1 := (77, [some (.ref 32), some (.int g), some (.int t), some (.int a), some (.int b), some (.int what), some (.int part), none, none, none, none, none, none, none], [], σ)) (b2 := (73, [some (.ref 32), some (.int g), some (.int t), some (.int a), some (.int b), some (.int what), some (.int part), none, none, none, none, none, none, none], [], σ)) (C := ¬ bz_b (f_X11_in (Int32.toInt64 part) 0 1) = 0) (G := True) (f_X11_match_32_blk17 σ g t a b what part) trivial (fun h6 => ?_) (fun h6 => ?_)
            · skip
              have h6 := bz_b1 h6
              obtain ⟨GN, AN, BN, hG, hG2, hA, hA2, hB, hB2⟩ := bz_mt (g := g) (a := a) (b := b) (by assumption) (by assumption) (by assumption)
              refine bz_wpn bT_X11_match 5 (b := (83, [some (.ref 32), some (.int g), some (.int t), some (.int a), some (.int b), some (.int what), some (.int part), none, none, none, none, none, none, none], [.int b, .int a, .int t, .int g, .ref 32], σ)) (G := True) (f_X11_match_32_blk18 σ g t a b what part) trivial ?_
              refine bz_wcv bT_X11_match [.ref 32, .int g, .int t, .int a, .int b] (pc' := 86) (rest := []) rfl rfl (Nat.le_of_ble_eq_true rfl) rfl (Nat.le_of_ble_eq_true rfl) rfl (s_X11_findChance_32 σ g t a b GN AN BN hG hG2 hA hA2 hB hB2) rfl ?_
              generalize hτ1 : f_X11_findChance_32 σ g t a b = τ1
              refine bz_wpn bT_X11_match 16 (b := (108, [some (.ref 32), some (.int g), some (.int t), some (.int a), some (.int b), some (.int what), some (.int part), some (.int ((((g - a) + g) - b) - 1)), some (.long 0), none, some (.long 0), none, some (.int b), none], [], τ1)) (G := True) (f_X11_match_32_blk19 σ g t a b what part τ1) trivial ?_
              refine s_lp_mw1 g a b ((((g - a) + g) - b) - 1) t what part GN AN BN hG hG2 hA hA2 hB hB2 (bz_lgT hG hG2 hA hA2 hB hB2) (g - b).toNatClampNeg τ1 0 0 b BN hB (by rw [hG, hB, bz_subN (by omega), nI_clamp (by omega)]; omega) (Nat.le_refl _) ?_
              generalize hτ2 : (lp_mw1 g a b ((((g - a) + g) - b) - 1) (g - b).toNatClampNeg τ1 0 0 b) = τ2
              refine bz_wpn bT_X11_match 2 (b := (196, [some (.ref 32), some (.int g), some (.int t), some (.int a), some (.int b), some (.int what), some (.int part), some (.int ((((g - a) + g) - b) - 1)), some (.long τ2.2.1), none, some (.long τ2.2.2), none, some (.int a), none], [], τ2.1)) (G := True) (f_X11_match_32_blk20 σ g t a b what part τ1 τ2) trivial ?_
              refine s_lp_mw2 g a b ((((g - a) + g) - b) - 1) τ2.2.1 t what part GN AN BN hG hG2 hA hA2 hB hB2 (bz_lgT hG hG2 hA hA2 hB hB2) (g - a).toNatClampNeg τ2.1 τ2.2.2 a AN hA (by rw [hG, hA, bz_subN (by omega), nI_clamp (by omega)]; omega) (Nat.le_refl _) ?_
              generalize hτ3 : (lp_mw2 g a b ((((g - a) + g) - b) - 1) (g - a).toNatClampNeg τ2.1 τ2.2.2 a) = τ3
              refine bz_wpb bT_X11_match 2 (b1 := (262, [some (.ref 32), some (.int g), some (.int t), some (.int a), some (.int b), some (.int what), some (.int part), some (.int ((((g - a) + g) - b) - 1)), some (.long τ2.2.1), none, some (.long τ3.2), none, none, none], [], τ3.1)) (b2 := (257, [some (.ref 32), some (.int g), some (.int t), some (.int a), some (.int b), some (.int what), some (.int part), some (.int ((((g - a) + g) - b) - 1)), some (.long τ2.2.1), none, some (.long τ3.2), none, none, none], [], τ3.1)) (C := ¬ what = 0) (G := True) (f_X11_match_32_blk21 σ g t a b what part τ1 τ2 τ3) trivial (fun h7 => ?_) (fun h7 => ?_)
              · skip
                refine bz_wpn bT_X11_match 3 (b := (269, [some (.ref 32), some (.int g), some (.int t), some (.int a), some (.int b), some (.int what), some (.int part), some (.int ((((g - a) + g) - b) - 1)), some (.long τ2.2.1), none, some (.long τ3.2), none, none, none], [.int ((((g - a) + g) - b) - 1), .long 10, .long τ3.2], τ3.1)) (G := True) (f_X11_match_32_blk22 σ g t a b what part τ1 τ2 τ3) trivial ?_
                refine bz_wcl bT_X11_match [.long 10, .int ((((g - a) + g) - b) - 1)] (pc' := 272) (rest := [.long τ3.2]) rfl rfl (Nat.le_of_ble_eq_true rfl) rfl (Nat.le_of_ble_eq_true rfl) rfl (s_X11_power τ3.1 10 ((((g - a) + g) - b) - 1) ⟨_, by omega, (bz_lgT hG hG2 hA hA2 hB hB2)⟩) rfl ?_
                refine bz_wpn bT_X11_match 1 (b := (274, [some (.ref 32), some (.int g), some (.int t), some (.int a), some (.int b), some (.int what), some (.int part), some (.int ((((g - a) + g) - b) - 1)), some (.long τ2.2.1), none, some (.long τ3.2), none, none, none], [.int part, .long (f_X11_power 10 ((((g - a) + g) - b) - 1)), .long τ3.2], τ3.1)) (G := True) (f_X11_match_32_blk23 σ g t a b what part τ1 τ2 τ3) trivial ?_
                refine bz_wcl bT_X11_match [.long τ3.2, .long (f_X11_power 10 ((((g - a) + g) - b) - 1)), .int part] (pc' := 277) (rest := []) rfl rfl (Nat.le_of_ble_eq_true rfl) rfl (Nat.le_of_ble_eq_true rfl) rfl (s_X11_lowest τ3.1 τ3.2 (f_X11_power 10 ((((g - a) + g) - b) - 1)) part (by rw [(bz_lgT hG hG2 hA hA2 hB hB2)]; exact m_p10 (by omega))) rfl ?_
                refine bz_wpr bT_X11_match rfl rfl trivial ?_
                have e9 : f_X11_match_32 σ g t a b what part = ((f_X11_lowest τ3.2 (f_X11_power 10 ((((g - a) + g) - b) - 1)) part), τ3.1) := by rw [f_X11_match_32, if_pos (h1), if_pos (h2), if_pos (h3), if_pos (h4), if_pos (h5), if_pos (h6), hτ1, f_X11_match_32_a, hτ2, f_X11_match_32_b, hτ3, f_X11_match_32_c, if_neg (h7)]
                exact ⟨by rw [e9], by rw [e9]⟩
              · skip
                refine bz_wpn bT_X11_match 4 (b := (269, [some (.ref 32), some (.int g), some (.int t), some (.int a), some (.int b), some (.int what), some (.int part), some (.int ((((g - a) + g) - b) - 1)), some (.long τ2.2.1), none, some (.long τ3.2), none, none, none], [.int ((((g - a) + g) - b) - 1), .long 10, .long τ2.2.1], τ3.1)) (G := True) (f_X11_match_32_blk24 σ g t a b what part τ1 τ2 τ3) trivial ?_
                refine bz_wcl bT_X11_match [.long 10, .int ((((g - a) + g) - b) - 1)] (pc' := 272) (rest := [.long τ2.2.1]) rfl rfl (Nat.le_of_ble_eq_true rfl) rfl (Nat.le_of_ble_eq_true rfl) rfl (s_X11_power τ3.1 10 ((((g - a) + g) - b) - 1) ⟨_, by omega, (bz_lgT hG hG2 hA hA2 hB hB2)⟩) rfl ?_
                refine bz_wpn bT_X11_match 1 (b := (274, [some (.ref 32), some (.int g), some (.int t), some (.int a), some (.int b), some (.int what), some (.int part), some (.int ((((g - a) + g) - b) - 1)), some (.long τ2.2.1), none, some (.long τ3.2), none, none, none], [.int part, .long (f_X11_power 10 ((((g - a) + g) - b) - 1)), .long τ2.2.1], τ3.1)) (G := True) (f_X11_match_32_blk25 σ g t a b what part τ1 τ2 τ3) trivial ?_
                refine bz_wcl bT_X11_match [.long τ2.2.1, .long (f_X11_power 10 ((((g - a) + g) - b) - 1)), .int part] (pc' := 277) (rest := []) rfl rfl (Nat.le_of_ble_eq_true rfl) rfl (Nat.le_of_ble_eq_true rfl) rfl (s_X11_lowest τ3.1 τ2.2.1 (f_X11_power 10 ((((g - a) + g) - b) - 1)) part (by rw [(bz_lgT hG hG2 hA hA2 hB hB2)]; exact m_p10 (by omega))) rfl ?_
                refine bz_wpr bT_X11_match rfl rfl trivial ?_
                have e9 : f_X11_match_32 σ g t a b what part = ((f_X11_lowest τ2.2.1 (f_X11_power 10 ((((g - a) + g) - b) - 1)) part), τ3.1) := by rw [f_X11_match_32, if_pos (h1), if_pos (h2), if_pos (h3), if_pos (h4), if_pos (h5), if_pos (h6), hτ1, f_X11_match_32_a, hτ2, f_X11_match_32_b, hτ3, f_X11_match_32_c, if_pos ((Decidable.not_not.mp h7))]
                exact ⟨by rw [e9], by rw [e9]⟩
            · skip
              have h6 := bz_b0 (Decidable.not_not.mp h6)
              refine bz_wpn bT_X11_match 1 (b := (76, [some (.ref 32), some (.int g), some (.int t), some (.int a), some (.int b), some (.int what), some (.int part), none, none, none, none, none, none, none], [.long (-1000000000000000002)], σ)) (G := True) (f_X11_match_32_blk26 σ g t a b what part) trivial ?_
              refine bz_wpr bT_X11_match rfl rfl trivial ?_
              have e9 : f_X11_match_32 σ g t a b what part = ((-1000000000000000002), σ) := by rw [f_X11_match_32, if_pos (h1), if_pos (h2), if_pos (h3), if_pos (h4), if_pos (h5), if_neg (bz_ff h6)]
              exact ⟨by rw [e9], by rw [e9]⟩
theorem rf_X11_match_32_c (σ : bz_S) (g : Int32) (t : Int32) (a : Int32) (b : Int32) (what : Int32) (part : Int32) (τ1 : bz_S) (τ2 : bz_S × Int64 × Int64) (τ3 : bz_S × Int64) (fτ1 : bz_fr [49] σ τ1) (fτ2 : bz_fr [49] σ τ2.1) (fτ3 : bz_fr [49] σ τ3.1) : bz_fr [49] σ (f_X11_match_32_c σ g t a b what part τ1 τ2 τ3).2 := by
  unfold f_X11_match_32_c
  exact (bz_ite2 fτ3 fτ3)
theorem rf_X11_match_32_b (σ : bz_S) (g : Int32) (t : Int32) (a : Int32) (b : Int32) (what : Int32) (part : Int32) (τ1 : bz_S) (τ2 : bz_S × Int64 × Int64) (fτ1 : bz_fr [49] σ τ1) (fτ2 : bz_fr [49] σ τ2.1) : bz_fr [49] σ (f_X11_match_32_b σ g t a b what part τ1 τ2).2 := by
  unfold f_X11_match_32_b
  exact (rf_X11_match_32_c σ g t a b what part τ1 τ2 ((lp_mw2 g a b ((((g - a) + g) - b) - 1) (g - a).toNatClampNeg τ2.1 τ2.2.2 a)) fτ1 fτ2 (bz_fr_tr (τ := τ2.1) fτ2 (bz_fr_mo (rlp_mw2 g a b ((((g - a) + g) - b) - 1) (g - a).toNatClampNeg τ2.1 τ2.2.2 a) (by decide))))
theorem rf_X11_match_32_a (σ : bz_S) (g : Int32) (t : Int32) (a : Int32) (b : Int32) (what : Int32) (part : Int32) (τ1 : bz_S) (fτ1 : bz_fr [49] σ τ1) : bz_fr [49] σ (f_X11_match_32_a σ g t a b what part τ1).2 := by
  unfold f_X11_match_32_a
  exact (rf_X11_match_32_b σ g t a b what part τ1 ((lp_mw1 g a b ((((g - a) + g) - b) - 1) (g - b).toNatClampNeg τ1 0 0 b)) fτ1 (bz_fr_tr (τ := τ1) fτ1 (bz_fr_mo (rlp_mw1 g a b ((((g - a) + g) - b) - 1) (g - b).toNatClampNeg τ1 0 0 b) (by decide))))
theorem rf_X11_match_32 (σ : bz_S) (g : Int32) (t : Int32) (a : Int32) (b : Int32) (what : Int32) (part : Int32) : bz_fr [49] σ (f_X11_match_32 σ g t a b what part).2 := by
  unfold f_X11_match_32
  exact (bz_ite2 (bz_ite2 (bz_ite2 (bz_ite2 (bz_ite2 (bz_ite2 (rf_X11_match_32_a σ g t a b what part (f_X11_findChance_32 σ g t a b) (bz_fr_mo (rf_X11_findChance_32 σ g t a b) (by decide))) bz_fr_rf) bz_fr_rf) bz_fr_rf) bz_fr_rf) bz_fr_rf) bz_fr_rf)
theorem qf_X11_match_32_c (σ : bz_S) (g : Int32) (t : Int32) (a : Int32) (b : Int32) (what : Int32) (part : Int32) (τ1 : bz_S) (τ2 : bz_S × Int64 × Int64) (τ3 : bz_S × Int64) (fτ1 : bz_fo ([] : List Nat) σ τ1) (fτ2 : bz_fo ([] : List Nat) σ τ2.1) (fτ3 : bz_fo ([] : List Nat) σ τ3.1) : bz_fo ([] : List Nat) σ (f_X11_match_32_c σ g t a b what part τ1 τ2 τ3).2 := by
  unfold f_X11_match_32_c
  exact (bz_ite2 fτ3 fτ3)
theorem qf_X11_match_32_b (σ : bz_S) (g : Int32) (t : Int32) (a : Int32) (b : Int32) (what : Int32) (part : Int32) (τ1 : bz_S) (τ2 : bz_S × Int64 × Int64) (fτ1 : bz_fo ([] : List Nat) σ τ1) (fτ2 : bz_fo ([] : List Nat) σ τ2.1) : bz_fo ([] : List Nat) σ (f_X11_match_32_b σ g t a b what part τ1 τ2).2 := by
  unfold f_X11_match_32_b
  exact (qf_X11_match_32_c σ g t a b what part τ1 τ2 ((lp_mw2 g a b ((((g - a) + g) - b) - 1) (g - a).toNatClampNeg τ2.1 τ2.2.2 a)) fτ1 fτ2 (bz_fo_tr (τ := τ2.1) fτ2 (bz_fo_mo (qlp_mw2 g a b ((((g - a) + g) - b) - 1) (g - a).toNatClampNeg τ2.1 τ2.2.2 a) (by decide))))
theorem qf_X11_match_32_a (σ : bz_S) (g : Int32) (t : Int32) (a : Int32) (b : Int32) (what : Int32) (part : Int32) (τ1 : bz_S) (fτ1 : bz_fo ([] : List Nat) σ τ1) : bz_fo ([] : List Nat) σ (f_X11_match_32_a σ g t a b what part τ1).2 := by
  unfold f_X11_match_32_a
  exact (qf_X11_match_32_b σ g t a b what part τ1 ((lp_mw1 g a b ((((g - a) + g) - b) - 1) (g - b).toNatClampNeg τ1 0 0 b)) fτ1 (bz_fo_tr (τ := τ1) fτ1 (bz_fo_mo (qlp_mw1 g a b ((((g - a) + g) - b) - 1) (g - b).toNatClampNeg τ1 0 0 b) (by decide))))
theorem qf_X11_match_32 (σ : bz_S) (g : Int32) (t : Int32) (a : Int32) (b : Int32) (what : Int32) (part : Int32) : bz_fo ([] : List Nat) σ (f_X11_match_32 σ g t a b what part).2 := by
  unfold f_X11_match_32
  exact (bz_ite2 (bz_ite2 (bz_ite2 (bz_ite2 (bz_ite2 (bz_ite2 (qf_X11_match_32_a σ g t a b what part (f_X11_findChance_32 σ g t a b) (bz_fo_mo (qf_X11_findChance_32 σ g t a b) (by decide))) bz_fo_rf) bz_fo_rf) bz_fo_rf) bz_fo_rf) bz_fo_rf) bz_fo_rf)
