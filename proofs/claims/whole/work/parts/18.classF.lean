def lp_reach : Nat → Int64 → Int32 → Int32 → Int32 → Int64
  | 0, re, at_, by_, fo => re
  | n + 1, re, at_, by_, fo => if f_X10_isPocket (f_X10_next at_ (f_X10_turned at_ by_)) = true then re else (lp_reach n (re ||| (f_X10_bit (f_X10_next at_ (f_X10_turned at_ by_)))) (f_X10_next at_ (f_X10_turned at_ by_)) (f_X10_turned at_ by_) (fo + 1))
set_option maxRecDepth 100000 in
theorem s_lp_reach {X : bz_X} (cell way : Int32) : ∀ (n : Nat) (σ : bz_S) (re : Int64) (at_ : Int32) (by_ : Int32) (fo : Int32) (j9 : Nat) (hi : fo = nI j9) (hj : j9 + n = 10), bz_wp bz_P X mX10_reachOf (bz_pl (lp_reach n re at_ by_ fo) σ) (11, [some (.int cell), some (.int way), some (.long re), none, some (.int at_), some (.int by_), some (.int fo)], [], σ) := by
  intro n
  induction n with
  | zero =>
    intro σ re at_ by_ fo j9 hi hj
    refine bz_wpb bT_X10_reachOf 3 (b1 := (60, [some (.int cell), some (.int way), some (.long re), none, some (.int at_), some (.int by_), some (.int fo)], [], σ)) (b2 := (18, [some (.int cell), some (.int way), some (.long re), none, some (.int at_), some (.int by_), some (.int fo)], [], σ)) (C := 9 < fo) (G := True) rfl trivial (fun _ => ?_) (fun z => absurd (show (9 : Int32) < fo from by rw [hi, show j9 = 10 from by omega]; decide) z)
    refine bz_wpn bT_X10_reachOf 1 (b := (61, [some (.int cell), some (.int way), some (.long re), none, some (.int at_), some (.int by_), some (.int fo)], [.long re], σ)) (G := True) rfl trivial ?_
    refine bz_wpr bT_X10_reachOf rfl rfl trivial ?_
    have e9 : lp_reach 0 re at_ by_ fo = re := by rw [lp_reach]
    exact ⟨by rw [e9], rfl⟩
  | succ n ih =>
    intro σ re at_ by_ fo j9 hi hj
    refine bz_wpb bT_X10_reachOf 3 (b1 := (60, [some (.int cell), some (.int way), some (.long re), none, some (.int at_), some (.int by_), some (.int fo)], [], σ)) (b2 := (18, [some (.int cell), some (.int way), some (.long re), none, some (.int at_), some (.int by_), some (.int fo)], [], σ)) (C := 9 < fo) (G := True) rfl trivial (fun z => absurd z (show ¬ (9 : Int32) < fo from by rw [hi]; exact nI_nlt (a := 9) (by omega) (by decide))) (fun _ => ?_)
    refine bz_wpn bT_X10_reachOf 2 (b := (22, [some (.int cell), some (.int way), some (.long re), none, some (.int at_), some (.int by_), some (.int fo)], [.int by_, .int at_], σ)) (G := True) rfl trivial ?_
    refine bz_wci bT_X10_reachOf [.int at_, .int by_] (pc' := 25) (rest := []) rfl rfl (Nat.le_of_ble_eq_true rfl) rfl (Nat.le_of_ble_eq_true rfl) rfl (s_X10_turned σ at_ by_) rfl ?_
    refine bz_wpn bT_X10_reachOf 3 (b := (31, [some (.int cell), some (.int way), some (.long re), none, some (.int at_), some (.int (f_X10_turned at_ by_)), some (.int fo)], [.int (f_X10_turned at_ by_), .int at_], σ)) (G := True) rfl trivial ?_
    refine bz_wci bT_X10_reachOf [.int at_, .int (f_X10_turned at_ by_)] (pc' := 34) (rest := []) rfl rfl (Nat.le_of_ble_eq_true rfl) rfl (Nat.le_of_ble_eq_true rfl) rfl (s_X10_next σ at_ (f_X10_turned at_ by_)) rfl ?_
    refine bz_wpn bT_X10_reachOf 2 (b := (38, [some (.int cell), some (.int way), some (.long re), none, some (.int (f_X10_next at_ (f_X10_turned at_ by_))), some (.int (f_X10_turned at_ by_)), some (.int fo)], [.int (f_X10_next at_ (f_X10_turned at_ by_))], σ)) (G := True) rfl trivial ?_
    refine bz_wci bT_X10_reachOf [.int (f_X10_next at_ (f_X10_turned at_ by_))] (pc' := 41) (rest := []) rfl rfl (Nat.le_of_ble_eq_true rfl) rfl (Nat.le_of_ble_eq_true rfl) rfl (s_X10_isPocket σ (f_X10_next at_ (f_X10_turned at_ by_))) rfl ?_
    refine bz_wpb bT_X10_reachOf 1 (b1 := (46, [some (.int cell), some (.int way), some (.long re), none, some (.int (f_X10_next at_ (f_X10_turned at_ by_))), some (.int (f_X10_turned at_ by_)), some (.int fo)], [], σ)) (b2 := (44, [some (.int cell), some (.int way), some (.long re), none, some (.int (f_X10_next at_ (f_X10_turned at_ by_))), some (.int (f_X10_turned at_ by_)), some (.int fo)], [], σ)) (C := bz_b (f_X10_isPocket (f_X10_next at_ (f_X10_turned at_ by_))) = 0) (G := True) rfl trivial (fun h1 => ?_) (fun h1 => ?_)
    · skip
      have h1 := bz_b0 h1
      refine bz_wpn bT_X10_reachOf 2 (b := (49, [some (.int cell), some (.int way), some (.long re), none, some (.int (f_X10_next at_ (f_X10_turned at_ by_))), some (.int (f_X10_turned at_ by_)), some (.int fo)], [.int (f_X10_next at_ (f_X10_turned at_ by_)), .long re], σ)) (G := True) rfl trivial ?_
      refine bz_wcl bT_X10_reachOf [.int (f_X10_next at_ (f_X10_turned at_ by_))] (pc' := 52) (rest := [.long re]) rfl rfl (Nat.le_of_ble_eq_true rfl) rfl (Nat.le_of_ble_eq_true rfl) rfl (s_X10_bit σ (f_X10_next at_ (f_X10_turned at_ by_))) rfl ?_
      refine bz_wpn bT_X10_reachOf 4 (b := (11, [some (.int cell), some (.int way), some (.long (re ||| (f_X10_bit (f_X10_next at_ (f_X10_turned at_ by_))))), none, some (.int (f_X10_next at_ (f_X10_turned at_ by_))), some (.int (f_X10_turned at_ by_)), some (.int (fo + 1))], [], σ)) (G := True) rfl trivial ?_
      have e9 : lp_reach (n + 1) re at_ by_ fo = (lp_reach n (re ||| (f_X10_bit (f_X10_next at_ (f_X10_turned at_ by_)))) (f_X10_next at_ (f_X10_turned at_ by_)) (f_X10_turned at_ by_) (fo + 1)) := by rw [lp_reach, if_neg (bz_ff h1)]
      rw [e9]
      exact ih σ (re ||| (f_X10_bit (f_X10_next at_ (f_X10_turned at_ by_)))) (f_X10_next at_ (f_X10_turned at_ by_)) (f_X10_turned at_ by_) (fo + 1) (j9 + 1) (by rw [hi]; exact nI_1 j9) (by omega)
    · skip
      have h1 := bz_b1 h1
      refine bz_wpn bT_X10_reachOf 1 (b := (45, [some (.int cell), some (.int way), some (.long re), none, some (.int (f_X10_next at_ (f_X10_turned at_ by_))), some (.int (f_X10_turned at_ by_)), some (.int fo)], [.long re], σ)) (G := True) rfl trivial ?_
      refine bz_wpr bT_X10_reachOf rfl rfl trivial ?_
      have e9 : lp_reach (n + 1) re at_ by_ fo = re := by rw [lp_reach, if_pos (h1)]
      exact ⟨by rw [e9], rfl⟩

def f_X10_reachOf (cell : Int32) (way : Int32) : Int64 := lp_reach (bz_k 9) 0 cell way 1
set_option maxRecDepth 100000 in
theorem s_X10_reachOf {X : bz_X} (σ : bz_S) (cell : Int32) (way : Int32) : bz_C bz_P X mX10_reachOf [.int cell, .int way] σ (bz_pl (f_X10_reachOf cell way) σ) := by
  show bz_wp bz_P X mX10_reachOf (bz_pl (f_X10_reachOf cell way) σ) (0, [some (.int cell), some (.int way), none, none, none, none, none], [], σ)
  refine bz_wpn bT_X10_reachOf 8 (b := (11, [some (.int cell), some (.int way), some (.long 0), none, some (.int cell), some (.int way), some (.int 1)], [], σ)) (G := True) rfl trivial ?_
  have e9 : f_X10_reachOf cell way = lp_reach (bz_k 9) 0 cell way 1 := by rw [f_X10_reachOf]
  rw [e9]
  exact s_lp_reach cell way (bz_k 9) σ 0 cell way 1 1 rfl (by rw [bz_k_eq])

def lp_into (cell : Int32) (set : Int64) : Nat → Int32 → Int32
  | 0, way => (-6)
  | n + 1, way => if (lg_cmp ((f_X10_reachOf cell way) &&& set) 0) = 0 then (lp_into cell set n (way + 1)) else way
set_option maxRecDepth 100000 in
theorem s_lp_into {X : bz_X} (cell : Int32) (set : Int64) : ∀ (n : Nat) (σ : bz_S) (way : Int32) (j9 : Nat) (hi : way = nI j9) (hj : j9 + n = 8), bz_wp bz_P X mX10_firstWayInto (bz_pi (lp_into cell set n way) σ) (2, [some (.int cell), some (.long set), none, some (.int way)], [], σ) := by
  intro n
  induction n with
  | zero =>
    intro σ way j9 hi hj
    refine bz_wpb bT_X10_firstWayInto 3 (b1 := (28, [some (.int cell), some (.long set), none, some (.int way)], [], σ)) (b2 := (8, [some (.int cell), some (.long set), none, some (.int way)], [], σ)) (C := 8 ≤ way) (G := True) rfl trivial (fun _ => ?_) (fun z => absurd (show (8 : Int32) ≤ way from by rw [hi, show j9 = 8 from by omega]; decide) z)
    refine bz_wpn bT_X10_firstWayInto 1 (b := (30, [some (.int cell), some (.long set), none, some (.int way)], [.int (-6)], σ)) (G := True) rfl trivial ?_
    refine bz_wpr bT_X10_firstWayInto rfl rfl trivial ?_
    have e9 : lp_into cell set 0 way = (-6) := by rw [lp_into]
    exact ⟨by rw [e9], rfl⟩
  | succ n ih =>
    intro σ way j9 hi hj
    refine bz_wpb bT_X10_firstWayInto 3 (b1 := (28, [some (.int cell), some (.long set), none, some (.int way)], [], σ)) (b2 := (8, [some (.int cell), some (.long set), none, some (.int way)], [], σ)) (C := 8 ≤ way) (G := True) rfl trivial (fun z => absurd z (show ¬ (8 : Int32) ≤ way from by rw [hi]; exact nI_ge (b := 8) (by omega) (by decide))) (fun _ => ?_)
    refine bz_wpn bT_X10_firstWayInto 2 (b := (10, [some (.int cell), some (.long set), none, some (.int way)], [.int way, .int cell], σ)) (G := True) rfl trivial ?_
    refine bz_wcl bT_X10_firstWayInto [.int cell, .int way] (pc' := 13) (rest := []) rfl rfl (Nat.le_of_ble_eq_true rfl) rfl (Nat.le_of_ble_eq_true rfl) rfl (s_X10_reachOf σ cell way) rfl ?_
    refine bz_wpb bT_X10_firstWayInto 5 (b1 := (22, [some (.int cell), some (.long set), none, some (.int way)], [], σ)) (b2 := (20, [some (.int cell), some (.long set), none, some (.int way)], [], σ)) (C := (lg_cmp ((f_X10_reachOf cell way) &&& set) 0) = 0) (G := True) rfl trivial (fun h1 => ?_) (fun h1 => ?_)
    · skip
      refine bz_wpn bT_X10_firstWayInto 2 (b := (2, [some (.int cell), some (.long set), none, some (.int (way + 1))], [], σ)) (G := True) rfl trivial ?_
      have e9 : lp_into cell set (n + 1) way = (lp_into cell set n (way + 1)) := by rw [lp_into, if_pos (h1)]
      rw [e9]
      exact ih σ (way + 1) (j9 + 1) (by rw [hi]; exact nI_1 j9) (by omega)
    · skip
      refine bz_wpn bT_X10_firstWayInto 1 (b := (21, [some (.int cell), some (.long set), none, some (.int way)], [.int way], σ)) (G := True) rfl trivial ?_
      refine bz_wpr bT_X10_firstWayInto rfl rfl trivial ?_
      have e9 : lp_into cell set (n + 1) way = way := by rw [lp_into, if_neg (h1)]
      exact ⟨by rw [e9], rfl⟩

def f_X10_firstWayInto (cell : Int32) (set : Int64) : Int32 := lp_into cell set (bz_k 8) 0
set_option maxRecDepth 100000 in
theorem s_X10_firstWayInto {X : bz_X} (σ : bz_S) (cell : Int32) (set : Int64) : bz_C bz_P X mX10_firstWayInto [.int cell, .long set] σ (bz_pi (f_X10_firstWayInto cell set) σ) := by
  show bz_wp bz_P X mX10_firstWayInto (bz_pi (f_X10_firstWayInto cell set) σ) (0, [some (.int cell), some (.long set), none, none], [], σ)
  refine bz_wpn bT_X10_firstWayInto 2 (b := (2, [some (.int cell), some (.long set), none, some (.int 0)], [], σ)) (G := True) rfl trivial ?_
  have e9 : f_X10_firstWayInto cell set = lp_into cell set (bz_k 8) 0 := by rw [f_X10_firstWayInto]
  rw [e9]
  exact s_lp_into cell set (bz_k 8) σ 0 0 rfl (by rw [bz_k_eq])

def lp_wider (set : Int64) : Nat → Int64 → Int32 → Int64
  | 0, wd, cl9 => wd
  | n + 1, wd, cl9 => if f_X10_isPlace cl9 = true then if (f_X10_firstWayInto cl9 set) = (-6) then (lp_wider set n wd (cl9 + 1)) else (lp_wider set n (wd ||| (f_X10_bit cl9)) (cl9 + 1)) else (lp_wider set n wd (cl9 + 1))
set_option maxRecDepth 100000 in
theorem s_lp_wider {X : bz_X} (set : Int64) : ∀ (n : Nat) (σ : bz_S) (wd : Int64) (cl9 : Int32) (j9 : Nat) (hi : cl9 = nI j9) (hj : j9 + n = 45), bz_wp bz_P X mX10_withAllThatReach (bz_pl (lp_wider set n wd cl9) σ) (5, [some (.long set), none, some (.long wd), none, some (.int cl9)], [], σ) := by
  intro n
  induction n with
  | zero =>
    intro σ wd cl9 j9 hi hj
    refine bz_wpb bT_X10_withAllThatReach 3 (b1 := (45, [some (.long set), none, some (.long wd), none, some (.int cl9)], [], σ)) (b2 := (12, [some (.long set), none, some (.long wd), none, some (.int cl9)], [], σ)) (C := 45 ≤ cl9) (G := True) rfl trivial (fun _ => ?_) (fun z => absurd (show (45 : Int32) ≤ cl9 from by rw [hi, show j9 = 45 from by omega]; decide) z)
    refine bz_wpn bT_X10_withAllThatReach 1 (b := (46, [some (.long set), none, some (.long wd), none, some (.int cl9)], [.long wd], σ)) (G := True) rfl trivial ?_
    refine bz_wpr bT_X10_withAllThatReach rfl rfl trivial ?_
    have e9 : lp_wider set 0 wd cl9 = wd := by rw [lp_wider]
    exact ⟨by rw [e9], rfl⟩
  | succ n ih =>
    intro σ wd cl9 j9 hi hj
    refine bz_wpb bT_X10_withAllThatReach 3 (b1 := (45, [some (.long set), none, some (.long wd), none, some (.int cl9)], [], σ)) (b2 := (12, [some (.long set), none, some (.long wd), none, some (.int cl9)], [], σ)) (C := 45 ≤ cl9) (G := True) rfl trivial (fun z => absurd z (show ¬ (45 : Int32) ≤ cl9 from by rw [hi]; exact nI_ge (b := 45) (by omega) (by decide))) (fun _ => ?_)
    refine bz_wpn bT_X10_withAllThatReach 1 (b := (14, [some (.long set), none, some (.long wd), none, some (.int cl9)], [.int cl9], σ)) (G := True) rfl trivial ?_
    refine bz_wci bT_X10_withAllThatReach [.int cl9] (pc' := 17) (rest := []) rfl rfl (Nat.le_of_ble_eq_true rfl) rfl (Nat.le_of_ble_eq_true rfl) rfl (s_X10_isPlace σ cl9) rfl ?_
    refine bz_wpb bT_X10_withAllThatReach 1 (b1 := (39, [some (.long set), none, some (.long wd), none, some (.int cl9)], [], σ)) (b2 := (20, [some (.long set), none, some (.long wd), none, some (.int cl9)], [], σ)) (C := bz_b (f_X10_isPlace cl9) = 0) (G := True) rfl trivial (fun h1 => ?_) (fun h1 => ?_)
    · skip
      have h1 := bz_b0 h1
      refine bz_wpn bT_X10_withAllThatReach 2 (b := (5, [some (.long set), none, some (.long wd), none, some (.int (cl9 + 1))], [], σ)) (G := True) rfl trivial ?_
      have e9 : lp_wider set (n + 1) wd cl9 = (lp_wider set n wd (cl9 + 1)) := by rw [lp_wider, if_neg (bz_ff h1)]
      rw [e9]
      exact ih σ wd (cl9 + 1) (j9 + 1) (by rw [hi]; exact nI_1 j9) (by omega)
    · skip
      have h1 := bz_b1 h1
      refine bz_wpn bT_X10_withAllThatReach 2 (b := (23, [some (.long set), none, some (.long wd), none, some (.int cl9)], [.long set, .int cl9], σ)) (G := True) rfl trivial ?_
      refine bz_wci bT_X10_withAllThatReach [.int cl9, .long set] (pc' := 26) (rest := []) rfl rfl (Nat.le_of_ble_eq_true rfl) rfl (Nat.le_of_ble_eq_true rfl) rfl (s_X10_firstWayInto σ cl9 set) rfl ?_
      refine bz_wpb bT_X10_withAllThatReach 2 (b1 := (39, [some (.long set), none, some (.long wd), none, some (.int cl9)], [], σ)) (b2 := (31, [some (.long set), none, some (.long wd), none, some (.int cl9)], [], σ)) (C := (f_X10_firstWayInto cl9 set) = (-6)) (G := True) rfl trivial (fun h2 => ?_) (fun h2 => ?_)
      · skip
        refine bz_wpn bT_X10_withAllThatReach 2 (b := (5, [some (.long set), none, some (.long wd), none, some (.int (cl9 + 1))], [], σ)) (G := True) rfl trivial ?_
        have e9 : lp_wider set (n + 1) wd cl9 = (lp_wider set n wd (cl9 + 1)) := by rw [lp_wider, if_pos (h1), if_pos (h2)]
        rw [e9]
        exact ih σ wd (cl9 + 1) (j9 + 1) (by rw [hi]; exact nI_1 j9) (by omega)
      · skip
        refine bz_wpn bT_X10_withAllThatReach 2 (b := (34, [some (.long set), none, some (.long wd), none, some (.int cl9)], [.int cl9, .long wd], σ)) (G := True) rfl trivial ?_
        refine bz_wcl bT_X10_withAllThatReach [.int cl9] (pc' := 37) (rest := [.long wd]) rfl rfl (Nat.le_of_ble_eq_true rfl) rfl (Nat.le_of_ble_eq_true rfl) rfl (s_X10_bit σ cl9) rfl ?_
        refine bz_wpn bT_X10_withAllThatReach 4 (b := (5, [some (.long set), none, some (.long (wd ||| (f_X10_bit cl9))), none, some (.int (cl9 + 1))], [], σ)) (G := True) rfl trivial ?_
        have e9 : lp_wider set (n + 1) wd cl9 = (lp_wider set n (wd ||| (f_X10_bit cl9)) (cl9 + 1)) := by rw [lp_wider, if_pos (h1), if_neg (h2)]
        rw [e9]
        exact ih σ (wd ||| (f_X10_bit cl9)) (cl9 + 1) (j9 + 1) (by rw [hi]; exact nI_1 j9) (by omega)

def f_X10_withAllThatReach (set : Int64) : Int64 := lp_wider set (bz_k 45) set 0
set_option maxRecDepth 100000 in
theorem s_X10_withAllThatReach {X : bz_X} (σ : bz_S) (set : Int64) : bz_C bz_P X mX10_withAllThatReach [.long set] σ (bz_pl (f_X10_withAllThatReach set) σ) := by
  show bz_wp bz_P X mX10_withAllThatReach (bz_pl (f_X10_withAllThatReach set) σ) (0, [some (.long set), none, none, none, none], [], σ)
  refine bz_wpn bT_X10_withAllThatReach 4 (b := (5, [some (.long set), none, some (.long set), none, some (.int 0)], [], σ)) (G := True) rfl trivial ?_
  have e9 : f_X10_withAllThatReach set = lp_wider set (bz_k 45) set 0 := by rw [f_X10_withAllThatReach]
  rw [e9]
  exact s_lp_wider set (bz_k 45) σ set 0 0 rfl (by rw [bz_k_eq])

def lp_strokes (fm : Int32) (to : Int32) (what : Int32) : Nat → Int64 → Int32 → Int32
  | 0, near, ct => (-6)
  | n + 1, near, ct => if (f_X10_firstWayInto fm near) = (-6) then (lp_strokes fm to what n (f_X10_withAllThatReach near) (ct + 1)) else (if what = 0 then ct else (f_X10_firstWayInto fm near))
set_option maxRecDepth 100000 in
theorem s_lp_strokes {X : bz_X} (fm : Int32) (to : Int32) (what : Int32) : ∀ (n : Nat) (σ : bz_S) (near : Int64) (ct : Int32) (j9 : Nat) (hi : ct = nI j9) (hj : j9 + n = 45), bz_wp bz_P X mX10_strokes (bz_pi (lp_strokes fm to what n near ct) σ) (53, [some (.ref 0), some (.int fm), some (.int to), some (.int what), some (.long near), none, some (.int ct), none], [], σ) := by
  intro n
  induction n with
  | zero =>
    intro σ near ct j9 hi hj
    refine bz_wpb bT_X10_strokes 3 (b1 := (100, [some (.ref 0), some (.int fm), some (.int to), some (.int what), some (.long near), none, some (.int ct), none], [], σ)) (b2 := (60, [some (.ref 0), some (.int fm), some (.int to), some (.int what), some (.long near), none, some (.int ct), none], [], σ)) (C := 45 ≤ ct) (G := True) rfl trivial (fun _ => ?_) (fun z => absurd (show (45 : Int32) ≤ ct from by rw [hi, show j9 = 45 from by omega]; decide) z)
    refine bz_wpn bT_X10_strokes 1 (b := (102, [some (.ref 0), some (.int fm), some (.int to), some (.int what), some (.long near), none, some (.int ct), none], [.int (-6)], σ)) (G := True) rfl trivial ?_
    refine bz_wpr bT_X10_strokes rfl rfl trivial ?_
    have e9 : lp_strokes fm to what 0 near ct = (-6) := by rw [lp_strokes]
    exact ⟨by rw [e9], rfl⟩
  | succ n ih =>
    intro σ near ct j9 hi hj
    refine bz_wpb bT_X10_strokes 3 (b1 := (100, [some (.ref 0), some (.int fm), some (.int to), some (.int what), some (.long near), none, some (.int ct), none], [], σ)) (b2 := (60, [some (.ref 0), some (.int fm), some (.int to), some (.int what), some (.long near), none, some (.int ct), none], [], σ)) (C := 45 ≤ ct) (G := True) rfl trivial (fun z => absurd z (show ¬ (45 : Int32) ≤ ct from by rw [hi]; exact nI_ge (b := 45) (by omega) (by decide))) (fun _ => ?_)
    refine bz_wpn bT_X10_strokes 2 (b := (63, [some (.ref 0), some (.int fm), some (.int to), some (.int what), some (.long near), none, some (.int ct), none], [.long near, .int fm], σ)) (G := True) rfl trivial ?_
    refine bz_wci bT_X10_strokes [.int fm, .long near] (pc' := 66) (rest := []) rfl rfl (Nat.le_of_ble_eq_true rfl) rfl (Nat.le_of_ble_eq_true rfl) rfl (s_X10_firstWayInto σ fm near) rfl ?_
    refine bz_wpb bT_X10_strokes 4 (b1 := (87, [some (.ref 0), some (.int fm), some (.int to), some (.int what), some (.long near), none, some (.int ct), some (.int (f_X10_firstWayInto fm near))], [], σ)) (b2 := (75, [some (.ref 0), some (.int fm), some (.int to), some (.int what), some (.long near), none, some (.int ct), some (.int (f_X10_firstWayInto fm near))], [], σ)) (C := (f_X10_firstWayInto fm near) = (-6)) (G := True) rfl trivial (fun h1 => ?_) (fun h1 => ?_)
    · skip
      refine bz_wpn bT_X10_strokes 1 (b := (89, [some (.ref 0), some (.int fm), some (.int to), some (.int what), some (.long near), none, some (.int ct), some (.int (f_X10_firstWayInto fm near))], [.long near], σ)) (G := True) rfl trivial ?_
      refine bz_wcl bT_X10_strokes [.long near] (pc' := 92) (rest := []) rfl rfl (Nat.le_of_ble_eq_true rfl) rfl (Nat.le_of_ble_eq_true rfl) rfl (s_X10_withAllThatReach σ near) rfl ?_
      refine bz_wpn bT_X10_strokes 3 (b := (53, [some (.ref 0), some (.int fm), some (.int to), some (.int what), some (.long (f_X10_withAllThatReach near)), none, some (.int (ct + 1)), some (.int (f_X10_firstWayInto fm near))], [], σ)) (G := True) rfl trivial ?_
      have e9 : lp_strokes fm to what (n + 1) near ct = (lp_strokes fm to what n (f_X10_withAllThatReach near) (ct + 1)) := by rw [lp_strokes, if_pos (h1)]
      rw [e9]
      refine bz_wpw (L' := [some (.ref 0), some (.int fm), some (.int to), some (.int what), some (.long (f_X10_withAllThatReach near)), none, some (.int (ct + 1)), none]) (by exact ⟨rfl, rfl, rfl, rfl, rfl, rfl, trivial⟩) ?_
      exact ih σ (f_X10_withAllThatReach near) (ct + 1) (j9 + 1) (by rw [hi]; exact nI_1 j9) (by omega)
    · skip
      refine bz_wpb bT_X10_strokes 2 (b1 := (84, [some (.ref 0), some (.int fm), some (.int to), some (.int what), some (.long near), none, some (.int ct), some (.int (f_X10_firstWayInto fm near))], [], σ)) (b2 := (79, [some (.ref 0), some (.int fm), some (.int to), some (.int what), some (.long near), none, some (.int ct), some (.int (f_X10_firstWayInto fm near))], [], σ)) (C := ¬ what = 0) (G := True) rfl trivial (fun h2 => ?_) (fun h2 => ?_)
      · skip
        refine bz_wpn bT_X10_strokes 1 (b := (86, [some (.ref 0), some (.int fm), some (.int to), some (.int what), some (.long near), none, some (.int ct), some (.int (f_X10_firstWayInto fm near))], [.int (f_X10_firstWayInto fm near)], σ)) (G := True) rfl trivial ?_
        refine bz_wpr bT_X10_strokes rfl rfl trivial ?_
        have e9 : lp_strokes fm to what (n + 1) near ct = (f_X10_firstWayInto fm near) := by rw [lp_strokes, if_neg (h1), if_neg (h2)]
        exact ⟨by rw [e9], rfl⟩
      · skip
        refine bz_wpn bT_X10_strokes 2 (b := (86, [some (.ref 0), some (.int fm), some (.int to), some (.int what), some (.long near), none, some (.int ct), some (.int (f_X10_firstWayInto fm near))], [.int ct], σ)) (G := True) rfl trivial ?_
        refine bz_wpr bT_X10_strokes rfl rfl trivial ?_
        have e9 : lp_strokes fm to what (n + 1) near ct = ct := by rw [lp_strokes, if_neg (h1), if_pos ((Decidable.not_not.mp h2))]
        exact ⟨by rw [e9], rfl⟩

def f_X10_strokes_0 (fm : Int32) (to : Int32) (what : Int32) : Int32 := if f_X10_isPlace fm = true then if f_X10_isPlace to = true then if f_X10_isWithin what 0 1 = true then if fm = to then if what = 0 then 0 else (-6) else lp_strokes fm to what (bz_k 44) (f_X10_bit to) 1 else (-2) else (-1) else (-1)
set_option maxRecDepth 100000 in
theorem s_X10_strokes_0 {X : bz_X} (σ : bz_S) (fm : Int32) (to : Int32) (what : Int32) : bz_C bz_P X mX10_strokes [.ref 0, .int fm, .int to, .int what] σ (bz_pi (f_X10_strokes_0 fm to what) σ) := by
  show bz_wp bz_P X mX10_strokes (bz_pi (f_X10_strokes_0 fm to what) σ) (0, [some (.ref 0), some (.int fm), some (.int to), some (.int what), none, none, none, none], [], σ)
  refine bz_wpn bT_X10_strokes 1 (b := (1, [some (.ref 0), some (.int fm), some (.int to), some (.int what), none, none, none, none], [.int fm], σ)) (G := True) rfl trivial ?_
  refine bz_wci bT_X10_strokes [.int fm] (pc' := 4) (rest := []) rfl rfl (Nat.le_of_ble_eq_true rfl) rfl (Nat.le_of_ble_eq_true rfl) rfl (s_X10_isPlace σ fm) rfl ?_
  refine bz_wpb bT_X10_strokes 1 (b1 := (14, [some (.ref 0), some (.int fm), some (.int to), some (.int what), none, none, none, none], [], σ)) (b2 := (7, [some (.ref 0), some (.int fm), some (.int to), some (.int what), none, none, none, none], [], σ)) (C := bz_b (f_X10_isPlace fm) = 0) (G := True) rfl trivial (fun h1 => ?_) (fun h1 => ?_)
  · skip
    have h1 := bz_b0 h1
    refine bz_wpn bT_X10_strokes 1 (b := (15, [some (.ref 0), some (.int fm), some (.int to), some (.int what), none, none, none, none], [.int (-1)], σ)) (G := True) rfl trivial ?_
    refine bz_wpr bT_X10_strokes rfl rfl trivial ?_
    have e9 : f_X10_strokes_0 fm to what = (-1) := by rw [f_X10_strokes_0, if_neg (bz_ff h1)]
    exact ⟨by rw [e9], rfl⟩
  · skip
    have h1 := bz_b1 h1
    refine bz_wpn bT_X10_strokes 1 (b := (8, [some (.ref 0), some (.int fm), some (.int to), some (.int what), none, none, none, none], [.int to], σ)) (G := True) rfl trivial ?_
    refine bz_wci bT_X10_strokes [.int to] (pc' := 11) (rest := []) rfl rfl (Nat.le_of_ble_eq_true rfl) rfl (Nat.le_of_ble_eq_true rfl) rfl (s_X10_isPlace σ to) rfl ?_
    refine bz_wpb bT_X10_strokes 1 (b1 := (16, [some (.ref 0), some (.int fm), some (.int to), some (.int what), none, none, none, none], [], σ)) (b2 := (14, [some (.ref 0), some (.int fm), some (.int to), some (.int what), none, none, none, none], [], σ)) (C := ¬ bz_b (f_X10_isPlace to) = 0) (G := True) rfl trivial (fun h2 => ?_) (fun h2 => ?_)
    · skip
      have h2 := bz_b1 h2
      refine bz_wpn bT_X10_strokes 3 (b := (19, [some (.ref 0), some (.int fm), some (.int to), some (.int what), none, none, none, none], [.int 1, .int 0, .int what], σ)) (G := True) rfl trivial ?_
      refine bz_wci bT_X10_strokes [.int what, .int 0, .int 1] (pc' := 22) (rest := []) rfl rfl (Nat.le_of_ble_eq_true rfl) rfl (Nat.le_of_ble_eq_true rfl) rfl (s_X10_isWithin σ what 0 1) rfl ?_
      refine bz_wpb bT_X10_strokes 1 (b1 := (28, [some (.ref 0), some (.int fm), some (.int to), some (.int what), none, none, none, none], [], σ)) (b2 := (25, [some (.ref 0), some (.int fm), some (.int to), some (.int what), none, none, none, none], [], σ)) (C := ¬ bz_b (f_X10_isWithin what 0 1) = 0) (G := True) rfl trivial (fun h3 => ?_) (fun h3 => ?_)
      · skip
        have h3 := bz_b1 h3
        refine bz_wpb bT_X10_strokes 3 (b1 := (44, [some (.ref 0), some (.int fm), some (.int to), some (.int what), none, none, none, none], [], σ)) (b2 := (33, [some (.ref 0), some (.int fm), some (.int to), some (.int what), none, none, none, none], [], σ)) (C := ¬ fm = to) (G := True) rfl trivial (fun h4 => ?_) (fun h4 => ?_)
        · skip
          refine bz_wpn bT_X10_strokes 1 (b := (45, [some (.ref 0), some (.int fm), some (.int to), some (.int what), none, none, none, none], [.int to], σ)) (G := True) rfl trivial ?_
          refine bz_wcl bT_X10_strokes [.int to] (pc' := 48) (rest := []) rfl rfl (Nat.le_of_ble_eq_true rfl) rfl (Nat.le_of_ble_eq_true rfl) rfl (s_X10_bit σ to) rfl ?_
          refine bz_wpn bT_X10_strokes 3 (b := (53, [some (.ref 0), some (.int fm), some (.int to), some (.int what), some (.long (f_X10_bit to)), none, some (.int 1), none], [], σ)) (G := True) rfl trivial ?_
          have e9 : f_X10_strokes_0 fm to what = lp_strokes fm to what (bz_k 44) (f_X10_bit to) 1 := by rw [f_X10_strokes_0, if_pos (h1), if_pos (h2), if_pos (h3), if_neg (h4)]
          rw [e9]
          exact s_lp_strokes fm to what (bz_k 44) σ (f_X10_bit to) 1 1 rfl (by rw [bz_k_eq])
        · skip
          refine bz_wpb bT_X10_strokes 2 (b1 := (41, [some (.ref 0), some (.int fm), some (.int to), some (.int what), none, none, none, none], [], σ)) (b2 := (37, [some (.ref 0), some (.int fm), some (.int to), some (.int what), none, none, none, none], [], σ)) (C := ¬ what = 0) (G := True) rfl trivial (fun h5 => ?_) (fun h5 => ?_)
          · skip
            refine bz_wpn bT_X10_strokes 1 (b := (43, [some (.ref 0), some (.int fm), some (.int to), some (.int what), none, none, none, none], [.int (-6)], σ)) (G := True) rfl trivial ?_
            refine bz_wpr bT_X10_strokes rfl rfl trivial ?_
            have e9 : f_X10_strokes_0 fm to what = (-6) := by rw [f_X10_strokes_0, if_pos (h1), if_pos (h2), if_pos (h3), if_pos ((Decidable.not_not.mp h4)), if_neg (h5)]
            exact ⟨by rw [e9], rfl⟩
          · skip
            refine bz_wpn bT_X10_strokes 2 (b := (43, [some (.ref 0), some (.int fm), some (.int to), some (.int what), none, none, none, none], [.int 0], σ)) (G := True) rfl trivial ?_
            refine bz_wpr bT_X10_strokes rfl rfl trivial ?_
            have e9 : f_X10_strokes_0 fm to what = 0 := by rw [f_X10_strokes_0, if_pos (h1), if_pos (h2), if_pos (h3), if_pos ((Decidable.not_not.mp h4)), if_pos ((Decidable.not_not.mp h5))]
            exact ⟨by rw [e9], rfl⟩
      · skip
        have h3 := bz_b0 (Decidable.not_not.mp h3)
        refine bz_wpn bT_X10_strokes 1 (b := (27, [some (.ref 0), some (.int fm), some (.int to), some (.int what), none, none, none, none], [.int (-2)], σ)) (G := True) rfl trivial ?_
        refine bz_wpr bT_X10_strokes rfl rfl trivial ?_
        have e9 : f_X10_strokes_0 fm to what = (-2) := by rw [f_X10_strokes_0, if_pos (h1), if_pos (h2), if_neg (bz_ff h3)]
        exact ⟨by rw [e9], rfl⟩
    · skip
      have h2 := bz_b0 (Decidable.not_not.mp h2)
      refine bz_wpn bT_X10_strokes 1 (b := (15, [some (.ref 0), some (.int fm), some (.int to), some (.int what), none, none, none, none], [.int (-1)], σ)) (G := True) rfl trivial ?_
      refine bz_wpr bT_X10_strokes rfl rfl trivial ?_
      have e9 : f_X10_strokes_0 fm to what = (-1) := by rw [f_X10_strokes_0, if_pos (h1), if_neg (bz_ff h2)]
      exact ⟨by rw [e9], rfl⟩

def lp_power (ba : Int32) : Nat → Int64 → Int32 → Int64
  | 0, pr, iv => pr
  | n + 1, pr, iv => (lp_power ba n (pr * (Int32.toInt64 ba)) (iv + 1))
set_option maxRecDepth 100000 in
theorem s_lp_power {X : bz_X} (ba : Int32) (ti : Int32) (TI : Nat) (hT : ti = nI TI) (hT2 : TI < 100) : ∀ (n : Nat) (σ : bz_S) (pr : Int64) (iv : Int32) (j9 : Nat) (hi : iv = nI j9) (hj : j9 + n = TI), bz_wp bz_P X mX2_power (bz_pl (lp_power ba n pr iv) σ) (5, [some (.int ba), some (.int ti), some (.long pr), none, some (.int iv)], [], σ) := by
  intro n
  induction n with
  | zero =>
    intro σ pr iv j9 hi hj
    refine bz_wpb bT_X2_power 3 (b1 := (22, [some (.int ba), some (.int ti), some (.long pr), none, some (.int iv)], [], σ)) (b2 := (11, [some (.int ba), some (.int ti), some (.long pr), none, some (.int iv)], [], σ)) (C := ti ≤ iv) (G := True) rfl trivial (fun _ => ?_) (fun z => absurd (show ti ≤ iv from by rw [hi, hT]; exact nI_le (by omega) (by omega)) z)
    refine bz_wpn bT_X2_power 1 (b := (23, [some (.int ba), some (.int ti), some (.long pr), none, some (.int iv)], [.long pr], σ)) (G := True) rfl trivial ?_
    refine bz_wpr bT_X2_power rfl rfl trivial ?_
    have e9 : lp_power ba 0 pr iv = pr := by rw [lp_power]
    exact ⟨by rw [e9], rfl⟩
  | succ n ih =>
    intro σ pr iv j9 hi hj
    refine bz_wpb bT_X2_power 3 (b1 := (22, [some (.int ba), some (.int ti), some (.long pr), none, some (.int iv)], [], σ)) (b2 := (11, [some (.int ba), some (.int ti), some (.long pr), none, some (.int iv)], [], σ)) (C := ti ≤ iv) (G := True) rfl trivial (fun z => absurd z (show ¬ ti ≤ iv from by rw [hi, hT]; exact nI_ge (by omega) (by omega))) (fun _ => ?_)
    refine bz_wpn bT_X2_power 7 (b := (5, [some (.int ba), some (.int ti), some (.long (pr * (Int32.toInt64 ba))), none, some (.int (iv + 1))], [], σ)) (G := True) rfl trivial ?_
    have e9 : lp_power ba (n + 1) pr iv = (lp_power ba n (pr * (Int32.toInt64 ba)) (iv + 1)) := by rw [lp_power]
    rw [e9]
    exact ih σ (pr * (Int32.toInt64 ba)) (iv + 1) (j9 + 1) (by rw [hi]; exact nI_1 j9) (by omega)

def f_X2_power (ba : Int32) (ti : Int32) : Int64 := lp_power ba ti.toNatClampNeg 1 0
set_option maxRecDepth 100000 in
theorem s_X2_power {X : bz_X} (σ : bz_S) (ba : Int32) (ti : Int32) (ht : ∃ N, N < 100 ∧ ti = nI N) : bz_C bz_P X mX2_power [.int ba, .int ti] σ (bz_pl (f_X2_power ba ti) σ) := by
  show bz_wp bz_P X mX2_power (bz_pl (f_X2_power ba ti) σ) (0, [some (.int ba), some (.int ti), none, none, none], [], σ)
  refine bz_wpn bT_X2_power 4 (b := (5, [some (.int ba), some (.int ti), some (.long 1), none, some (.int 0)], [], σ)) (G := True) rfl trivial ?_
  have e9 : f_X2_power ba ti = lp_power ba ti.toNatClampNeg 1 0 := by rw [f_X2_power]
  rw [e9]
  obtain ⟨TI, hT2, hT⟩ := ht
  exact s_lp_power ba ti TI hT hT2 _ σ 1 0 0 rfl (by rw [hT, nI_clamp (by omega)]; omega)

theorem bz_nz64 {x : Int32} {j : Nat} (h : x = nI j) (h0 : 0 < j) (h1 : j < 2 ^ 31) : ¬ (Int32.toInt64 x) = 0 := by
  intro z
  have h2 := congrArg Int64.toInt z
  rw [Int32.toInt_toInt64, h, nI_toInt h1] at h2
  have e : (0 : Int64).toInt = 0 := by decide
  omega
theorem bz_lcn {x : Int64} (h : ¬ (lg_cmp x 0) = 0) : ¬ x = 0 := fun z => h (by rw [z]; decide)

def lp_choose (of : Int32) (so : Int32) : Nat → Int64 → Int32 → Int64
  | 0, ws, iv => ws
  | n + 1, ws, iv => (lp_choose of so n ((ws * (Int32.toInt64 ((of - so) + iv))) / (Int32.toInt64 iv)) (iv + 1))
set_option maxRecDepth 100000 in
theorem s_lp_choose {X : bz_X} (of : Int32) (so : Int32) (TI : Nat) (hT : so = nI TI) (hT2 : TI < 100) : ∀ (n : Nat) (σ : bz_S) (ws : Int64) (iv : Int32) (j9 : Nat) (hi : iv = nI j9) (hj : j9 + n = TI + 1) (h0 : 0 < j9), bz_wp bz_P X mX2_choose (bz_pl (lp_choose of so n ws iv) σ) (5, [some (.int of), some (.int so), some (.long ws), none, some (.int iv)], [], σ) := by
  intro n
  induction n with
  | zero =>
    intro σ ws iv j9 hi hj h0
    refine bz_wpb bT_X2_choose 3 (b1 := (31, [some (.int of), some (.int so), some (.long ws), none, some (.int iv)], [], σ)) (b2 := (11, [some (.int of), some (.int so), some (.long ws), none, some (.int iv)], [], σ)) (C := so < iv) (G := True) rfl trivial (fun _ => ?_) (fun z => absurd (show so < iv from by rw [hi, hT]; exact nI_lt (by omega) (by omega)) z)
    refine bz_wpn bT_X2_choose 1 (b := (32, [some (.int of), some (.int so), some (.long ws), none, some (.int iv)], [.long ws], σ)) (G := True) rfl trivial ?_
    refine bz_wpr bT_X2_choose rfl rfl trivial ?_
    have e9 : lp_choose of so 0 ws iv = ws := by rw [lp_choose]
    exact ⟨by rw [e9], rfl⟩
  | succ n ih =>
    intro σ ws iv j9 hi hj h0
    refine bz_wpb bT_X2_choose 3 (b1 := (31, [some (.int of), some (.int so), some (.long ws), none, some (.int iv)], [], σ)) (b2 := (11, [some (.int of), some (.int so), some (.long ws), none, some (.int iv)], [], σ)) (C := so < iv) (G := True) rfl trivial (fun z => absurd z (show ¬ so < iv from by rw [hi, hT]; exact nI_nlt (by omega) (by omega))) (fun _ => ?_)
    refine bz_wpn bT_X2_choose 14 (b := (5, [some (.int of), some (.int so), some (.long ((ws * (Int32.toInt64 ((of - so) + iv))) / (Int32.toInt64 iv))), none, some (.int (iv + 1))], [], σ)) (G := ¬ (Int32.toInt64 iv) = 0 ∧ True) rfl ⟨(bz_nz64 hi h0 (by omega)), trivial⟩ ?_
    have e9 : lp_choose of so (n + 1) ws iv = (lp_choose of so n ((ws * (Int32.toInt64 ((of - so) + iv))) / (Int32.toInt64 iv)) (iv + 1)) := by rw [lp_choose]
    rw [e9]
    exact ih σ ((ws * (Int32.toInt64 ((of - so) + iv))) / (Int32.toInt64 iv)) (iv + 1) (j9 + 1) (by rw [hi]; exact nI_1 j9) (by omega) (by omega)

def f_X2_choose (of : Int32) (so : Int32) : Int64 := lp_choose of so so.toNatClampNeg 1 1
set_option maxRecDepth 100000 in
theorem s_X2_choose {X : bz_X} (σ : bz_S) (of : Int32) (so : Int32) (ht : ∃ N, N < 100 ∧ so = nI N) : bz_C bz_P X mX2_choose [.int of, .int so] σ (bz_pl (f_X2_choose of so) σ) := by
  show bz_wp bz_P X mX2_choose (bz_pl (f_X2_choose of so) σ) (0, [some (.int of), some (.int so), none, none, none], [], σ)
  refine bz_wpn bT_X2_choose 4 (b := (5, [some (.int of), some (.int so), some (.long 1), none, some (.int 1)], [], σ)) (G := True) rfl trivial ?_
  have e9 : f_X2_choose of so = lp_choose of so so.toNatClampNeg 1 1 := by rw [f_X2_choose]
  rw [e9]
  obtain ⟨TI, hT2, hT⟩ := ht
  exact s_lp_choose of so TI hT hT2 _ σ 1 1 1 rfl (by rw [hT, nI_clamp (by omega)]; omega) (by decide)

def lp_gcd : Nat → Int64 → Int64 → Int32 → Int64
  | 0, gr, le, iv => gr
  | n + 1, gr, le, iv => if (lg_cmp le 0) = 0 then gr else (lp_gcd n le (gr % le) (iv + 1))
set_option maxRecDepth 100000 in
theorem s_lp_gcd {X : bz_X} (a b : Int64) : ∀ (n : Nat) (σ : bz_S) (gr : Int64) (le : Int64) (iv : Int32) (j9 : Nat) (hi : iv = nI j9) (hj : j9 + n = 1000), bz_wp bz_P X mX2_commonDivisor (bz_pl (lp_gcd n gr le iv) σ) (9, [some (.long a), none, some (.long b), none, some (.long gr), none, some (.long le), none, some (.int iv), none, none], [], σ) := by
  intro n
  induction n with
  | zero =>
    intro σ gr le iv j9 hi hj
    refine bz_wpb bT_X2_commonDivisor 3 (b1 := (45, [some (.long a), none, some (.long b), none, some (.long gr), none, some (.long le), none, some (.int iv), none, none], [], σ)) (b2 := (17, [some (.long a), none, some (.long b), none, some (.long gr), none, some (.long le), none, some (.int iv), none, none], [], σ)) (C := 1000 ≤ iv) (G := True) rfl trivial (fun _ => ?_) (fun z => absurd (show (1000 : Int32) ≤ iv from by rw [hi, show j9 = 1000 from by omega]; decide) z)
    refine bz_wpn bT_X2_commonDivisor 1 (b := (47, [some (.long a), none, some (.long b), none, some (.long gr), none, some (.long le), none, some (.int iv), none, none], [.long gr], σ)) (G := True) rfl trivial ?_
    refine bz_wpr bT_X2_commonDivisor rfl rfl trivial ?_
    have e9 : lp_gcd 0 gr le iv = gr := by rw [lp_gcd]
    exact ⟨by rw [e9], rfl⟩
  | succ n ih =>
    intro σ gr le iv j9 hi hj
    refine bz_wpb bT_X2_commonDivisor 3 (b1 := (45, [some (.long a), none, some (.long b), none, some (.long gr), none, some (.long le), none, some (.int iv), none, none], [], σ)) (b2 := (17, [some (.long a), none, some (.long b), none, some (.long gr), none, some (.long le), none, some (.int iv), none, none], [], σ)) (C := 1000 ≤ iv) (G := True) rfl trivial (fun z => absurd z (show ¬ (1000 : Int32) ≤ iv from by rw [hi]; exact nI_ge (b := 1000) (by omega) (by decide))) (fun _ => ?_)
    refine bz_wpb bT_X2_commonDivisor 4 (b1 := (45, [some (.long a), none, some (.long b), none, some (.long gr), none, some (.long le), none, some (.int iv), none, none], [], σ)) (b2 := (24, [some (.long a), none, some (.long b), none, some (.long gr), none, some (.long le), none, some (.int iv), none, none], [], σ)) (C := (lg_cmp le 0) = 0) (G := True) rfl trivial (fun h1 => ?_) (fun h1 => ?_)
    · skip
      refine bz_wpn bT_X2_commonDivisor 1 (b := (47, [some (.long a), none, some (.long b), none, some (.long gr), none, some (.long le), none, some (.int iv), none, none], [.long gr], σ)) (G := True) rfl trivial ?_
      refine bz_wpr bT_X2_commonDivisor rfl rfl trivial ?_
      have e9 : lp_gcd (n + 1) gr le iv = gr := by rw [lp_gcd, if_pos (h1)]
      exact ⟨by rw [e9], rfl⟩
    · skip
      refine bz_wpn bT_X2_commonDivisor 10 (b := (9, [some (.long a), none, some (.long b), none, some (.long le), none, some (.long (gr % le)), none, some (.int (iv + 1)), some (.long (gr % le)), none], [], σ)) (G := ¬ le = 0 ∧ True) rfl ⟨(bz_lcn (by assumption)), trivial⟩ ?_
      have e9 : lp_gcd (n + 1) gr le iv = (lp_gcd n le (gr % le) (iv + 1)) := by rw [lp_gcd, if_neg (h1)]
      rw [e9]
      refine bz_wpw (L' := [some (.long a), none, some (.long b), none, some (.long le), none, some (.long (gr % le)), none, some (.int (iv + 1)), none, none]) (by exact ⟨rfl, rfl, rfl, rfl, rfl, trivial⟩) ?_
      exact ih σ le (gr % le) (iv + 1) (j9 + 1) (by rw [hi]; exact nI_1 j9) (by omega)

def f_X2_commonDivisor (a : Int64) (b : Int64) : Int64 := lp_gcd (bz_k 1000) a b 0
set_option maxRecDepth 100000 in
theorem s_X2_commonDivisor {X : bz_X} (σ : bz_S) (a : Int64) (b : Int64) : bz_C bz_P X mX2_commonDivisor [.long a, .long b] σ (bz_pl (f_X2_commonDivisor a b) σ) := by
  show bz_wp bz_P X mX2_commonDivisor (bz_pl (f_X2_commonDivisor a b) σ) (0, [some (.long a), none, some (.long b), none, none, none, none, none, none, none, none], [], σ)
  refine bz_wpn bT_X2_commonDivisor 6 (b := (9, [some (.long a), none, some (.long b), none, some (.long a), none, some (.long b), none, some (.int 0), none, none], [], σ)) (G := True) rfl trivial ?_
  have e9 : f_X2_commonDivisor a b = lp_gcd (bz_k 1000) a b 0 := by rw [f_X2_commonDivisor]
  rw [e9]
  exact s_lp_gcd a b (bz_k 1000) σ a b 0 0 rfl (by rw [bz_k_eq])

def f_J9_max_7cf53 (a : Int32) (b : Int32) : Int32 := if a < b then b else a
set_option maxRecDepth 100000 in
theorem s_J9_max_7cf53 {X : bz_X} (σ : bz_S) (a : Int32) (b : Int32) : bz_C bz_P X mJ9_max_7cf53 [.int a, .int b] σ (bz_pi (f_J9_max_7cf53 a b) σ) := by
  show bz_wp bz_P X mJ9_max_7cf53 (bz_pi (f_J9_max_7cf53 a b) σ) (0, [some (.int a), some (.int b)], [], σ)
  refine bz_wpb bT_J9_max_7cf53 3 (b1 := (9, [some (.int a), some (.int b)], [], σ)) (b2 := (5, [some (.int a), some (.int b)], [], σ)) (C := a < b) (G := True) rfl trivial (fun h1 => ?_) (fun h1 => ?_)
  · skip
    refine bz_wpn bT_J9_max_7cf53 1 (b := (10, [some (.int a), some (.int b)], [.int b], σ)) (G := True) rfl trivial ?_
    refine bz_wpr bT_J9_max_7cf53 rfl rfl trivial ?_
    have e9 : f_J9_max_7cf53 a b = b := by rw [f_J9_max_7cf53, if_pos (h1)]
    exact ⟨by rw [e9], rfl⟩
  · skip
    refine bz_wpn bT_J9_max_7cf53 2 (b := (10, [some (.int a), some (.int b)], [.int a], σ)) (G := True) rfl trivial ?_
    refine bz_wpr bT_J9_max_7cf53 rfl rfl trivial ?_
    have e9 : f_J9_max_7cf53 a b = a := by rw [f_J9_max_7cf53, if_neg (h1)]
    exact ⟨by rw [e9], rfl⟩

def f_J9_max_f86c9 (a : Int64) (b : Int64) : Int64 := if (lg_cmp a b) < 0 then b else a
set_option maxRecDepth 100000 in
theorem s_J9_max_f86c9 {X : bz_X} (σ : bz_S) (a : Int64) (b : Int64) : bz_C bz_P X mJ9_max_f86c9 [.long a, .long b] σ (bz_pl (f_J9_max_f86c9 a b) σ) := by
  show bz_wp bz_P X mJ9_max_f86c9 (bz_pl (f_J9_max_f86c9 a b) σ) (0, [some (.long a), none, some (.long b), none], [], σ)
  refine bz_wpb bT_J9_max_f86c9 4 (b1 := (10, [some (.long a), none, some (.long b), none], [], σ)) (b2 := (6, [some (.long a), none, some (.long b), none], [], σ)) (C := (lg_cmp a b) < 0) (G := True) rfl trivial (fun h1 => ?_) (fun h1 => ?_)
  · skip
    refine bz_wpn bT_J9_max_f86c9 1 (b := (11, [some (.long a), none, some (.long b), none], [.long b], σ)) (G := True) rfl trivial ?_
    refine bz_wpr bT_J9_max_f86c9 rfl rfl trivial ?_
    have e9 : f_J9_max_f86c9 a b = b := by rw [f_J9_max_f86c9, if_pos (h1)]
    exact ⟨by rw [e9], rfl⟩
  · skip
    refine bz_wpn bT_J9_max_f86c9 2 (b := (11, [some (.long a), none, some (.long b), none], [.long a], σ)) (G := True) rfl trivial ?_
    refine bz_wpr bT_J9_max_f86c9 rfl rfl trivial ?_
    have e9 : f_J9_max_f86c9 a b = a := by rw [f_J9_max_f86c9, if_neg (h1)]
    exact ⟨by rw [e9], rfl⟩
