/-- which fields of the model stay -/
def bz_g1 (S : List Nat) (f g : Nat → Nat → Int32) : Prop := ∀ k, k ∉ S → g 32 k = f 32 k
def bz_fo (S : List Nat) (σ τ : bz_S) : Prop := bz_g1 S σ.1 τ.1
theorem bz_fo_rf {S : List Nat} {σ : bz_S} : bz_fo S σ σ := fun _ _ => rfl
theorem bz_fo_tr {S : List Nat} {σ τ υ : bz_S} (h1 : bz_fo S σ τ) (h2 : bz_fo S τ υ) : bz_fo S σ υ := fun k hk => (h2 k hk).trans (h1 k hk)
theorem bz_fo_mo {S S' : List Nat} {σ τ : bz_S} (h : bz_fo S' σ τ) (hs : ∀ x ∈ S', x ∈ S) : bz_fo S σ τ := fun k hk => h k (fun z => hk (hs k z))
theorem bz_fo_up {S : List Nat} {g f : Nat → Nat → Int32} {k : Nat} {x : Int32} (h : bz_g1 S g f) (hk : k ∈ S) : bz_g1 S g (bz_up f 32 k x) := by
  intro k' hk'
  rw [bz_up_k (fun z => hk' (by rw [z]; exact hk))]
  exact h k' hk'
theorem bz_fo_no {S : List Nat} {g f : Nat → Nat → Int32} {o k : Nat} {x : Int32} (h : bz_g1 S g f) (ho : ¬ 32 = o) : bz_g1 S g (bz_up f o k x) := by
  intro k' hk'
  rw [bz_up_o ho]
  exact h k' hk'

def f_X11_in (v : Int64) (lo : Int64) (hi : Int64) : Bool := if (lg_cmp v lo) < 0 then false else (if 0 < (lg_cmp v hi) then false else true)
set_option maxRecDepth 100000 in
theorem s_X11_in {X : bz_X} (σ : bz_S) (v : Int64) (lo : Int64) (hi : Int64) : bz_C bz_P X mX11_in [.long v, .long lo, .long hi] σ (bz_pi (bz_b (f_X11_in v lo hi)) σ) := by
  show bz_wp bz_P X mX11_in (bz_pi (bz_b (f_X11_in v lo hi)) σ) (0, [some (.long v), none, some (.long lo), none, some (.long hi), none], [], σ)
  refine bz_wpb bT_X11_in 4 (b1 := (17, [some (.long v), none, some (.long lo), none, some (.long hi), none], [], σ)) (b2 := (6, [some (.long v), none, some (.long lo), none, some (.long hi), none], [], σ)) (C := (lg_cmp v lo) < 0) (G := True) rfl trivial (fun h1 => ?_) (fun h1 => ?_)
  · skip
    refine bz_wpn bT_X11_in 1 (b := (18, [some (.long v), none, some (.long lo), none, some (.long hi), none], [.int 0], σ)) (G := True) rfl trivial ?_
    refine bz_wpr bT_X11_in rfl rfl (show (0 : Int32) = 0 ∨ (0 : Int32) = 1 by decide) ?_
    have e9 : f_X11_in v lo hi = false := by rw [f_X11_in, if_pos (h1)]
    exact ⟨by rw [e9]; rfl, rfl⟩
  · skip
    refine bz_wpb bT_X11_in 4 (b1 := (17, [some (.long v), none, some (.long lo), none, some (.long hi), none], [], σ)) (b2 := (13, [some (.long v), none, some (.long lo), none, some (.long hi), none], [], σ)) (C := 0 < (lg_cmp v hi)) (G := True) rfl trivial (fun h2 => ?_) (fun h2 => ?_)
    · skip
      refine bz_wpn bT_X11_in 1 (b := (18, [some (.long v), none, some (.long lo), none, some (.long hi), none], [.int 0], σ)) (G := True) rfl trivial ?_
      refine bz_wpr bT_X11_in rfl rfl (show (0 : Int32) = 0 ∨ (0 : Int32) = 1 by decide) ?_
      have e9 : f_X11_in v lo hi = false := by rw [f_X11_in, if_neg (h1), if_pos (h2)]
      exact ⟨by rw [e9]; rfl, rfl⟩
    · skip
      refine bz_wpn bT_X11_in 2 (b := (18, [some (.long v), none, some (.long lo), none, some (.long hi), none], [.int 1], σ)) (G := True) rfl trivial ?_
      refine bz_wpr bT_X11_in rfl rfl (show (1 : Int32) = 0 ∨ (1 : Int32) = 1 by decide) ?_
      have e9 : f_X11_in v lo hi = true := by rw [f_X11_in, if_neg (h1), if_neg (h2)]
      exact ⟨by rw [e9]; rfl, rfl⟩

theorem bz_lgc {x y : Int64} : lg_cmp x y < 0 ↔ x < y := by
  unfold lg_cmp
  by_cases h1 : y < x
  · rw [if_pos h1]
    exact ⟨fun z => absurd z (by decide), fun z => absurd z (lg_lt_not h1)⟩
  · rw [if_neg h1]
    by_cases h2 : x = y
    · rw [if_pos h2]
      exact ⟨fun z => absurd z (by decide), fun z => by subst h2; exact absurd z h1⟩
    · rw [if_neg h2]
      exact ⟨fun _ => Int64.lt_of_le_of_ne (Int64.not_lt.mp h1) h2, fun _ => by decide⟩
theorem bz_lgc' {x y : Int64} : 0 < lg_cmp x y ↔ y < x := by
  unfold lg_cmp
  by_cases h1 : y < x
  · rw [if_pos h1]
    exact ⟨fun _ => h1, fun _ => by decide⟩
  · rw [if_neg h1]
    by_cases h2 : x = y
    · rw [if_pos h2]
      exact ⟨fun z => absurd z (by decide), fun z => absurd z h1⟩
    · rw [if_neg h2]
      exact ⟨fun z => absurd z (by decide), fun z => absurd z h1⟩
/-- the model's bounds are the class's -/
theorem bz_inW {b lo hi : Int32} {l h : Int64} (hl : l = lo.toInt64) (hh : h = hi.toInt64) : f_X11_in (Int32.toInt64 b) l h = f_X10_isWithin b lo hi := by
  subst hl; subst hh
  unfold f_X11_in f_X10_isWithin
  have e1 : (Int32.toInt64 b < Int32.toInt64 lo) = (b < lo) := by rw [Int64.lt_iff_toInt_lt, Int32.lt_iff_toInt_lt, Int32.toInt_toInt64, Int32.toInt_toInt64]
  have e2 : (Int32.toInt64 hi < Int32.toInt64 b) = (hi < b) := by rw [Int64.lt_iff_toInt_lt, Int32.lt_iff_toInt_lt, Int32.toInt_toInt64, Int32.toInt_toInt64]
  simp only [bz_lgc, bz_lgc', e1, e2]

def f_X11_isBall (b : Int32) : Bool := f_X11_in (Int32.toInt64 b) 0 2
set_option maxRecDepth 100000 in
theorem s_X11_isBall {X : bz_X} (σ : bz_S) (b : Int32) : bz_C bz_P X mX11_isBall [.int b] σ (bz_pi (bz_b (f_X11_isBall b)) σ) := by
  show bz_wp bz_P X mX11_isBall (bz_pi (bz_b (f_X11_isBall b)) σ) (0, [some (.int b)], [], σ)
  refine bz_wpn bT_X11_isBall 4 (b := (6, [some (.int b)], [.long 2, .long 0, .long (Int32.toInt64 b)], σ)) (G := True) rfl trivial ?_
  refine bz_wci bT_X11_isBall [.long (Int32.toInt64 b), .long 0, .long 2] (pc' := 9) (rest := []) rfl rfl (Nat.le_of_ble_eq_true rfl) rfl (Nat.le_of_ble_eq_true rfl) rfl (s_X11_in σ (Int32.toInt64 b) 0 2) rfl ?_
  refine bz_wpr bT_X11_isBall rfl rfl (bz_b01 _) ?_
  have e9 : f_X11_isBall b = f_X11_in (Int32.toInt64 b) 0 2 := by rw [f_X11_isBall]
  exact ⟨by rw [e9], rfl⟩

def f_X11_isCell (c : Int32) : Bool := f_X11_in (Int32.toInt64 c) 0 44
set_option maxRecDepth 100000 in
theorem s_X11_isCell {X : bz_X} (σ : bz_S) (c : Int32) : bz_C bz_P X mX11_isCell [.int c] σ (bz_pi (bz_b (f_X11_isCell c)) σ) := by
  show bz_wp bz_P X mX11_isCell (bz_pi (bz_b (f_X11_isCell c)) σ) (0, [some (.int c)], [], σ)
  refine bz_wpn bT_X11_isCell 4 (b := (6, [some (.int c)], [.long 44, .long 0, .long (Int32.toInt64 c)], σ)) (G := True) rfl trivial ?_
  refine bz_wci bT_X11_isCell [.long (Int32.toInt64 c), .long 0, .long 44] (pc' := 9) (rest := []) rfl rfl (Nat.le_of_ble_eq_true rfl) rfl (Nat.le_of_ble_eq_true rfl) rfl (s_X11_in σ (Int32.toInt64 c) 0 44) rfl ?_
  refine bz_wpr bT_X11_isCell rfl rfl (bz_b01 _) ?_
  have e9 : f_X11_isCell c = f_X11_in (Int32.toInt64 c) 0 44 := by rw [f_X11_isCell]
  exact ⟨by rw [e9], rfl⟩

def f_X11_isPlace (c : Int32) : Bool := if f_X11_isCell c = true then if f_X11_isPocket c = true then false else true else false
set_option maxRecDepth 100000 in
theorem s_X11_isPlace {X : bz_X} (σ : bz_S) (c : Int32) : bz_C bz_P X mX11_isPlace [.int c] σ (bz_pi (bz_b (f_X11_isPlace c)) σ) := by
  show bz_wp bz_P X mX11_isPlace (bz_pi (bz_b (f_X11_isPlace c)) σ) (0, [some (.int c)], [], σ)
  refine bz_wpn bT_X11_isPlace 1 (b := (1, [some (.int c)], [.int c], σ)) (G := True) rfl trivial ?_
  refine bz_wci bT_X11_isPlace [.int c] (pc' := 4) (rest := []) rfl rfl (Nat.le_of_ble_eq_true rfl) rfl (Nat.le_of_ble_eq_true rfl) rfl (s_X11_isCell σ c) rfl ?_
  refine bz_wpb bT_X11_isPlace 1 (b1 := (18, [some (.int c)], [], σ)) (b2 := (7, [some (.int c)], [], σ)) (C := bz_b (f_X11_isCell c) = 0) (G := True) rfl trivial (fun h1 => ?_) (fun h1 => ?_)
  · skip
    have h1 := bz_b0 h1
    refine bz_wpn bT_X11_isPlace 1 (b := (19, [some (.int c)], [.int 0], σ)) (G := True) rfl trivial ?_
    refine bz_wpr bT_X11_isPlace rfl rfl (show (0 : Int32) = 0 ∨ (0 : Int32) = 1 by decide) ?_
    have e9 : f_X11_isPlace c = false := by rw [f_X11_isPlace, if_neg (bz_ff h1)]
    exact ⟨by rw [e9]; rfl, rfl⟩
  · skip
    have h1 := bz_b1 h1
    refine bz_wpn bT_X11_isPlace 1 (b := (8, [some (.int c)], [.int c], σ)) (G := True) rfl trivial ?_
    refine bz_wci bT_X11_isPlace [.int c] (pc' := 11) (rest := []) rfl rfl (Nat.le_of_ble_eq_true rfl) rfl (Nat.le_of_ble_eq_true rfl) rfl (s_X11_isPocket σ c) rfl ?_
    refine bz_wpb bT_X11_isPlace 1 (b1 := (18, [some (.int c)], [], σ)) (b2 := (14, [some (.int c)], [], σ)) (C := ¬ bz_b (f_X11_isPocket c) = 0) (G := True) rfl trivial (fun h2 => ?_) (fun h2 => ?_)
    · skip
      have h2 := bz_b1 h2
      refine bz_wpn bT_X11_isPlace 1 (b := (19, [some (.int c)], [.int 0], σ)) (G := True) rfl trivial ?_
      refine bz_wpr bT_X11_isPlace rfl rfl (show (0 : Int32) = 0 ∨ (0 : Int32) = 1 by decide) ?_
      have e9 : f_X11_isPlace c = false := by rw [f_X11_isPlace, if_pos (h1), if_pos (h2)]
      exact ⟨by rw [e9]; rfl, rfl⟩
    · skip
      have h2 := bz_b0 (Decidable.not_not.mp h2)
      refine bz_wpn bT_X11_isPlace 2 (b := (19, [some (.int c)], [.int 1], σ)) (G := True) rfl trivial ?_
      refine bz_wpr bT_X11_isPlace rfl rfl (show (1 : Int32) = 0 ∨ (1 : Int32) = 1 by decide) ?_
      have e9 : f_X11_isPlace c = true := by rw [f_X11_isPlace, if_pos (h1), if_neg (bz_ff h2)]
      exact ⟨by rw [e9]; rfl, rfl⟩

theorem m_isBall (b : Int32) : f_X11_isBall b = f_X10_isBall b := by
  unfold f_X11_isBall
  rw [bz_inW (lo := 0) (hi := 2) (by decide) (by decide)]
  unfold f_X10_isWithin f_X10_isBall
  have e : (2 < b) = (3 ≤ b) := by
    rw [Int32.lt_iff_toInt_lt, Int32.le_iff_toInt_le]
    have e2 : (2 : Int32).toInt = 2 := by decide
    have e3 : (3 : Int32).toInt = 3 := by decide
    rw [e2, e3]
    exact propext ⟨fun h => by omega, fun h => by omega⟩
  simp only [e]
theorem bz_mball {b : Int32} (h : f_X11_isBall b = true) : vp_in b 3 := bz_ball ((m_isBall b).symm.trans h)
theorem m_isCell (c : Int32) : f_X11_isCell c = f_X10_isCell c := bz_inW (lo := 0) (hi := 44) (by decide) (by decide)
theorem m_isPocket (c : Int32) : f_X11_isPocket c = f_X10_isPocket c := rfl
theorem m_isPlace (c : Int32) : f_X11_isPlace c = f_X10_isPlace c := by
  unfold f_X11_isPlace f_X10_isPlace
  rw [m_isCell, m_isPocket]

def f_X11_home (b : Int32) : Int32 := if b = 0 then 10 else (if b = 1 then 16 else 24)
set_option maxRecDepth 100000 in
theorem s_X11_home {X : bz_X} (σ : bz_S) (b : Int32) : bz_C bz_P X mX11_home [.int b] σ (bz_pi (f_X11_home b) σ) := by
  show bz_wp bz_P X mX11_home (bz_pi (f_X11_home b) σ) (0, [some (.int b)], [], σ)
  refine bz_wpb bT_X11_home 2 (b1 := (9, [some (.int b)], [], σ)) (b2 := (4, [some (.int b)], [], σ)) (C := ¬ b = 0) (G := True) rfl trivial (fun h1 => ?_) (fun h1 => ?_)
  · skip
    refine bz_wpb bT_X11_home 3 (b1 := (19, [some (.int b)], [], σ)) (b2 := (14, [some (.int b)], [], σ)) (C := ¬ b = 1) (G := True) rfl trivial (fun h2 => ?_) (fun h2 => ?_)
    · skip
      refine bz_wpn bT_X11_home 1 (b := (21, [some (.int b)], [.int 24], σ)) (G := True) rfl trivial ?_
      refine bz_wpr bT_X11_home rfl rfl trivial ?_
      have e9 : f_X11_home b = 24 := by rw [f_X11_home, if_neg (h1), if_neg (h2)]
      exact ⟨by rw [e9], rfl⟩
    · skip
      refine bz_wpn bT_X11_home 2 (b := (21, [some (.int b)], [.int 16], σ)) (G := True) rfl trivial ?_
      refine bz_wpr bT_X11_home rfl rfl trivial ?_
      have e9 : f_X11_home b = 16 := by rw [f_X11_home, if_neg (h1), if_pos ((Decidable.not_not.mp h2))]
      exact ⟨by rw [e9], rfl⟩
  · skip
    refine bz_wpn bT_X11_home 2 (b := (21, [some (.int b)], [.int 10], σ)) (G := True) rfl trivial ?_
    refine bz_wpr bT_X11_home rfl rfl trivial ?_
    have e9 : f_X11_home b = 10 := by rw [f_X11_home, if_pos ((Decidable.not_not.mp h1))]
    exact ⟨by rw [e9], rfl⟩

def f_X11_downwards (w : Int32) : Int32 := if w = 0 then (-1) else (if w = 1 then (-1) else (if w = 7 then (-1) else (if w = 2 then 0 else (if w = 6 then 0 else 1))))
set_option maxRecDepth 100000 in
theorem s_X11_downwards {X : bz_X} (σ : bz_S) (w : Int32) : bz_C bz_P X mX11_downwards [.int w] σ (bz_pi (f_X11_downwards w) σ) := by
  show bz_wp bz_P X mX11_downwards (bz_pi (f_X11_downwards w) σ) (0, [some (.int w)], [], σ)
  refine bz_wpb bT_X11_downwards 2 (b1 := (15, [some (.int w)], [], σ)) (b2 := (4, [some (.int w)], [], σ)) (C := w = 0) (G := True) rfl trivial (fun h1 => ?_) (fun h1 => ?_)
  · skip
    refine bz_wpn bT_X11_downwards 2 (b := (35, [some (.int w)], [.int (-1)], σ)) (G := True) rfl trivial ?_
    refine bz_wpr bT_X11_downwards rfl rfl trivial ?_
    have e9 : f_X11_downwards w = (-1) := by rw [f_X11_downwards, if_pos (h1)]
    exact ⟨by rw [e9], rfl⟩
  · skip
    refine bz_wpb bT_X11_downwards 3 (b1 := (15, [some (.int w)], [], σ)) (b2 := (9, [some (.int w)], [], σ)) (C := w = 1) (G := True) rfl trivial (fun h2 => ?_) (fun h2 => ?_)
    · skip
      refine bz_wpn bT_X11_downwards 2 (b := (35, [some (.int w)], [.int (-1)], σ)) (G := True) rfl trivial ?_
      refine bz_wpr bT_X11_downwards rfl rfl trivial ?_
      have e9 : f_X11_downwards w = (-1) := by rw [f_X11_downwards, if_neg (h1), if_pos (h2)]
      exact ⟨by rw [e9], rfl⟩
    · skip
      refine bz_wpb bT_X11_downwards 3 (b1 := (19, [some (.int w)], [], σ)) (b2 := (15, [some (.int w)], [], σ)) (C := ¬ w = 7) (G := True) rfl trivial (fun h3 => ?_) (fun h3 => ?_)
      · skip
        refine bz_wpb bT_X11_downwards 3 (b1 := (30, [some (.int w)], [], σ)) (b2 := (24, [some (.int w)], [], σ)) (C := w = 2) (G := True) rfl trivial (fun h4 => ?_) (fun h4 => ?_)
        · skip
          refine bz_wpn bT_X11_downwards 2 (b := (35, [some (.int w)], [.int 0], σ)) (G := True) rfl trivial ?_
          refine bz_wpr bT_X11_downwards rfl rfl trivial ?_
          have e9 : f_X11_downwards w = 0 := by rw [f_X11_downwards, if_neg (h1), if_neg (h2), if_neg (h3), if_pos (h4)]
          exact ⟨by rw [e9], rfl⟩
        · skip
          refine bz_wpb bT_X11_downwards 3 (b1 := (34, [some (.int w)], [], σ)) (b2 := (30, [some (.int w)], [], σ)) (C := ¬ w = 6) (G := True) rfl trivial (fun h5 => ?_) (fun h5 => ?_)
          · skip
            refine bz_wpn bT_X11_downwards 1 (b := (35, [some (.int w)], [.int 1], σ)) (G := True) rfl trivial ?_
            refine bz_wpr bT_X11_downwards rfl rfl trivial ?_
            have e9 : f_X11_downwards w = 1 := by rw [f_X11_downwards, if_neg (h1), if_neg (h2), if_neg (h3), if_neg (h4), if_neg (h5)]
            exact ⟨by rw [e9], rfl⟩
          · skip
            refine bz_wpn bT_X11_downwards 2 (b := (35, [some (.int w)], [.int 0], σ)) (G := True) rfl trivial ?_
            refine bz_wpr bT_X11_downwards rfl rfl trivial ?_
            have e9 : f_X11_downwards w = 0 := by rw [f_X11_downwards, if_neg (h1), if_neg (h2), if_neg (h3), if_neg (h4), if_pos ((Decidable.not_not.mp h5))]
            exact ⟨by rw [e9], rfl⟩
      · skip
        refine bz_wpn bT_X11_downwards 2 (b := (35, [some (.int w)], [.int (-1)], σ)) (G := True) rfl trivial ?_
        refine bz_wpr bT_X11_downwards rfl rfl trivial ?_
        have e9 : f_X11_downwards w = (-1) := by rw [f_X11_downwards, if_neg (h1), if_neg (h2), if_pos ((Decidable.not_not.mp h3))]
        exact ⟨by rw [e9], rfl⟩

def f_X11_across (w : Int32) : Int32 := if w = 0 then 0 else (if w = 4 then 0 else (if 4 ≤ w then (-1) else 1))
set_option maxRecDepth 100000 in
theorem s_X11_across {X : bz_X} (σ : bz_S) (w : Int32) : bz_C bz_P X mX11_across [.int w] σ (bz_pi (f_X11_across w) σ) := by
  show bz_wp bz_P X mX11_across (bz_pi (f_X11_across w) σ) (0, [some (.int w)], [], σ)
  refine bz_wpb bT_X11_across 2 (b1 := (9, [some (.int w)], [], σ)) (b2 := (4, [some (.int w)], [], σ)) (C := w = 0) (G := True) rfl trivial (fun h1 => ?_) (fun h1 => ?_)
  · skip
    refine bz_wpn bT_X11_across 2 (b := (23, [some (.int w)], [.int 0], σ)) (G := True) rfl trivial ?_
    refine bz_wpr bT_X11_across rfl rfl trivial ?_
    have e9 : f_X11_across w = 0 := by rw [f_X11_across, if_pos (h1)]
    exact ⟨by rw [e9], rfl⟩
  · skip
    refine bz_wpb bT_X11_across 3 (b1 := (13, [some (.int w)], [], σ)) (b2 := (9, [some (.int w)], [], σ)) (C := ¬ w = 4) (G := True) rfl trivial (fun h2 => ?_) (fun h2 => ?_)
    · skip
      refine bz_wpb bT_X11_across 3 (b1 := (22, [some (.int w)], [], σ)) (b2 := (18, [some (.int w)], [], σ)) (C := 4 ≤ w) (G := True) rfl trivial (fun h3 => ?_) (fun h3 => ?_)
      · skip
        refine bz_wpn bT_X11_across 1 (b := (23, [some (.int w)], [.int (-1)], σ)) (G := True) rfl trivial ?_
        refine bz_wpr bT_X11_across rfl rfl trivial ?_
        have e9 : f_X11_across w = (-1) := by rw [f_X11_across, if_neg (h1), if_neg (h2), if_pos (h3)]
        exact ⟨by rw [e9], rfl⟩
      · skip
        refine bz_wpn bT_X11_across 2 (b := (23, [some (.int w)], [.int 1], σ)) (G := True) rfl trivial ?_
        refine bz_wpr bT_X11_across rfl rfl trivial ?_
        have e9 : f_X11_across w = 1 := by rw [f_X11_across, if_neg (h1), if_neg (h2), if_neg (h3)]
        exact ⟨by rw [e9], rfl⟩
    · skip
      refine bz_wpn bT_X11_across 2 (b := (23, [some (.int w)], [.int 0], σ)) (G := True) rfl trivial ?_
      refine bz_wpr bT_X11_across rfl rfl trivial ?_
      have e9 : f_X11_across w = 0 := by rw [f_X11_across, if_neg (h1), if_pos ((Decidable.not_not.mp h2))]
      exact ⟨by rw [e9], rfl⟩

def f_X11_turned (c : Int32) (w : Int32) : Int32 := if f_X11_in (Int32.toInt64 ((c / 9) + (f_X11_downwards w))) 0 4 = true then if f_X11_in (Int32.toInt64 ((c % 9) + (f_X11_across w))) 0 8 = true then w else ((8 - w) % 8) else (if f_X11_in (Int32.toInt64 ((c % 9) + (f_X11_across w))) 0 8 = true then ((12 - w) % 8) else ((8 - ((12 - w) % 8)) % 8))
set_option maxRecDepth 100000 in
theorem s_X11_turned {X : bz_X} (σ : bz_S) (c : Int32) (w : Int32) : bz_C bz_P X mX11_turned [.int c, .int w] σ (bz_pi (f_X11_turned c w) σ) := by
  show bz_wp bz_P X mX11_turned (bz_pi (f_X11_turned c w) σ) (0, [some (.int c), some (.int w), none, none, none], [], σ)
  refine bz_wpn bT_X11_turned 4 (b := (5, [some (.int c), some (.int w), none, none, none], [.int w, .int (c / 9)], σ)) (G := ¬ (9 : Int32) = 0 ∧ True) rfl ⟨(by decide), trivial⟩ ?_
  refine bz_wci bT_X11_turned [.int w] (pc' := 8) (rest := [.int (c / 9)]) rfl rfl (Nat.le_of_ble_eq_true rfl) rfl (Nat.le_of_ble_eq_true rfl) rfl (s_X11_downwards σ w) rfl ?_
  refine bz_wpn bT_X11_turned 4 (b := (14, [some (.int c), some (.int w), none, none, none], [.long 4, .long 0, .long (Int32.toInt64 ((c / 9) + (f_X11_downwards w)))], σ)) (G := True) rfl trivial ?_
  refine bz_wci bT_X11_turned [.long (Int32.toInt64 ((c / 9) + (f_X11_downwards w))), .long 0, .long 4] (pc' := 17) (rest := []) rfl rfl (Nat.le_of_ble_eq_true rfl) rfl (Nat.le_of_ble_eq_true rfl) rfl (s_X11_in σ (Int32.toInt64 ((c / 9) + (f_X11_downwards w))) 0 4) rfl ?_
  refine bz_wpb bT_X11_turned 1 (b1 := (24, [some (.int c), some (.int w), none, none, none], [], σ)) (b2 := (20, [some (.int c), some (.int w), none, none, none], [], σ)) (C := ¬ bz_b (f_X11_in (Int32.toInt64 ((c / 9) + (f_X11_downwards w))) 0 4) = 0) (G := True) rfl trivial (fun h1 => ?_) (fun h1 => ?_)
  · skip
    have h1 := bz_b1 h1
    refine bz_wpn bT_X11_turned 6 (b := (31, [some (.int c), some (.int w), some (.int 0), none, none], [.int w, .int (c % 9)], σ)) (G := ¬ (9 : Int32) = 0 ∧ True) rfl ⟨(by decide), trivial⟩ ?_
    refine bz_wci bT_X11_turned [.int w] (pc' := 34) (rest := [.int (c % 9)]) rfl rfl (Nat.le_of_ble_eq_true rfl) rfl (Nat.le_of_ble_eq_true rfl) rfl (s_X11_across σ w) rfl ?_
    refine bz_wpn bT_X11_turned 4 (b := (40, [some (.int c), some (.int w), some (.int 0), none, none], [.long 8, .long 0, .long (Int32.toInt64 ((c % 9) + (f_X11_across w)))], σ)) (G := True) rfl trivial ?_
    refine bz_wci bT_X11_turned [.long (Int32.toInt64 ((c % 9) + (f_X11_across w))), .long 0, .long 8] (pc' := 43) (rest := []) rfl rfl (Nat.le_of_ble_eq_true rfl) rfl (Nat.le_of_ble_eq_true rfl) rfl (s_X11_in σ (Int32.toInt64 ((c % 9) + (f_X11_across w))) 0 8) rfl ?_
    refine bz_wpb bT_X11_turned 1 (b1 := (50, [some (.int c), some (.int w), some (.int 0), none, none], [], σ)) (b2 := (46, [some (.int c), some (.int w), some (.int 0), none, none], [], σ)) (C := ¬ bz_b (f_X11_in (Int32.toInt64 ((c % 9) + (f_X11_across w))) 0 8) = 0) (G := True) rfl trivial (fun h2 => ?_) (fun h2 => ?_)
    · skip
      have h2 := bz_b1 h2
      refine bz_wpb bT_X11_turned 4 (b1 := (66, [some (.int c), some (.int w), some (.int 0), some (.int 0), none], [], σ)) (b2 := (56, [some (.int c), some (.int w), some (.int 0), some (.int 0), none], [], σ)) (C := (0 : Int32) = 0) (G := True) rfl trivial (fun _ => ?_) (fun z => absurd (by decide) z)
      refine bz_wpb bT_X11_turned 4 (b1 := (84, [some (.int c), some (.int w), some (.int 0), some (.int 0), some (.int w)], [], σ)) (b2 := (73, [some (.int c), some (.int w), some (.int 0), some (.int 0), some (.int w)], [], σ)) (C := (0 : Int32) = 0) (G := True) rfl trivial (fun _ => ?_) (fun z => absurd (by decide) z)
      refine bz_wpn bT_X11_turned 1 (b := (86, [some (.int c), some (.int w), some (.int 0), some (.int 0), some (.int w)], [.int w], σ)) (G := True) rfl trivial ?_
      refine bz_wpr bT_X11_turned rfl rfl trivial ?_
      have e9 : f_X11_turned c w = w := by rw [f_X11_turned, if_pos (h1), if_pos (h2)]
      exact ⟨by rw [e9], rfl⟩
    · skip
      have h2 := bz_b0 (Decidable.not_not.mp h2)
      refine bz_wpb bT_X11_turned 5 (b1 := (66, [some (.int c), some (.int w), some (.int 0), some (.int 1), none], [], σ)) (b2 := (56, [some (.int c), some (.int w), some (.int 0), some (.int 1), none], [], σ)) (C := (0 : Int32) = 0) (G := True) rfl trivial (fun _ => ?_) (fun z => absurd (by decide) z)
      refine bz_wpb bT_X11_turned 4 (b1 := (84, [some (.int c), some (.int w), some (.int 0), some (.int 1), some (.int w)], [], σ)) (b2 := (73, [some (.int c), some (.int w), some (.int 0), some (.int 1), some (.int w)], [], σ)) (C := (1 : Int32) = 0) (G := True) rfl trivial (fun z => absurd z (by decide)) (fun _ => ?_)
      refine bz_wpn bT_X11_turned 6 (b := (86, [some (.int c), some (.int w), some (.int 0), some (.int 1), some (.int w)], [.int ((8 - w) % 8)], σ)) (G := ¬ (8 : Int32) = 0 ∧ True) rfl ⟨(by decide), trivial⟩ ?_
      refine bz_wpr bT_X11_turned rfl rfl trivial ?_
      have e9 : f_X11_turned c w = ((8 - w) % 8) := by rw [f_X11_turned, if_pos (h1), if_neg (bz_ff h2)]
      exact ⟨by rw [e9], rfl⟩
  · skip
    have h1 := bz_b0 (Decidable.not_not.mp h1)
    refine bz_wpn bT_X11_turned 7 (b := (31, [some (.int c), some (.int w), some (.int 1), none, none], [.int w, .int (c % 9)], σ)) (G := ¬ (9 : Int32) = 0 ∧ True) rfl ⟨(by decide), trivial⟩ ?_
    refine bz_wci bT_X11_turned [.int w] (pc' := 34) (rest := [.int (c % 9)]) rfl rfl (Nat.le_of_ble_eq_true rfl) rfl (Nat.le_of_ble_eq_true rfl) rfl (s_X11_across σ w) rfl ?_
    refine bz_wpn bT_X11_turned 4 (b := (40, [some (.int c), some (.int w), some (.int 1), none, none], [.long 8, .long 0, .long (Int32.toInt64 ((c % 9) + (f_X11_across w)))], σ)) (G := True) rfl trivial ?_
    refine bz_wci bT_X11_turned [.long (Int32.toInt64 ((c % 9) + (f_X11_across w))), .long 0, .long 8] (pc' := 43) (rest := []) rfl rfl (Nat.le_of_ble_eq_true rfl) rfl (Nat.le_of_ble_eq_true rfl) rfl (s_X11_in σ (Int32.toInt64 ((c % 9) + (f_X11_across w))) 0 8) rfl ?_
    refine bz_wpb bT_X11_turned 1 (b1 := (50, [some (.int c), some (.int w), some (.int 1), none, none], [], σ)) (b2 := (46, [some (.int c), some (.int w), some (.int 1), none, none], [], σ)) (C := ¬ bz_b (f_X11_in (Int32.toInt64 ((c % 9) + (f_X11_across w))) 0 8) = 0) (G := True) rfl trivial (fun h3 => ?_) (fun h3 => ?_)
    · skip
      have h3 := bz_b1 h3
      refine bz_wpb bT_X11_turned 4 (b1 := (66, [some (.int c), some (.int w), some (.int 1), some (.int 0), none], [], σ)) (b2 := (56, [some (.int c), some (.int w), some (.int 1), some (.int 0), none], [], σ)) (C := (1 : Int32) = 0) (G := True) rfl trivial (fun z => absurd z (by decide)) (fun _ => ?_)
      refine bz_wpb bT_X11_turned 9 (b1 := (84, [some (.int c), some (.int w), some (.int 1), some (.int 0), some (.int ((12 - w) % 8))], [], σ)) (b2 := (73, [some (.int c), some (.int w), some (.int 1), some (.int 0), some (.int ((12 - w) % 8))], [], σ)) (C := (0 : Int32) = 0) (G := ¬ (8 : Int32) = 0 ∧ True) rfl ⟨(by decide), trivial⟩ (fun _ => ?_) (fun z => absurd (by decide) z)
      refine bz_wpn bT_X11_turned 1 (b := (86, [some (.int c), some (.int w), some (.int 1), some (.int 0), some (.int ((12 - w) % 8))], [.int ((12 - w) % 8)], σ)) (G := True) rfl trivial ?_
      refine bz_wpr bT_X11_turned rfl rfl trivial ?_
      have e9 : f_X11_turned c w = ((12 - w) % 8) := by rw [f_X11_turned, if_neg (bz_ff h1), if_pos (h3)]
      exact ⟨by rw [e9], rfl⟩
    · skip
      have h3 := bz_b0 (Decidable.not_not.mp h3)
      refine bz_wpb bT_X11_turned 5 (b1 := (66, [some (.int c), some (.int w), some (.int 1), some (.int 1), none], [], σ)) (b2 := (56, [some (.int c), some (.int w), some (.int 1), some (.int 1), none], [], σ)) (C := (1 : Int32) = 0) (G := True) rfl trivial (fun z => absurd z (by decide)) (fun _ => ?_)
      refine bz_wpb bT_X11_turned 9 (b1 := (84, [some (.int c), some (.int w), some (.int 1), some (.int 1), some (.int ((12 - w) % 8))], [], σ)) (b2 := (73, [some (.int c), some (.int w), some (.int 1), some (.int 1), some (.int ((12 - w) % 8))], [], σ)) (C := (1 : Int32) = 0) (G := ¬ (8 : Int32) = 0 ∧ True) rfl ⟨(by decide), trivial⟩ (fun z => absurd z (by decide)) (fun _ => ?_)
      refine bz_wpn bT_X11_turned 6 (b := (86, [some (.int c), some (.int w), some (.int 1), some (.int 1), some (.int ((12 - w) % 8))], [.int ((8 - ((12 - w) % 8)) % 8)], σ)) (G := ¬ (8 : Int32) = 0 ∧ True) rfl ⟨(by decide), trivial⟩ ?_
      refine bz_wpr bT_X11_turned rfl rfl trivial ?_
      have e9 : f_X11_turned c w = ((8 - ((12 - w) % 8)) % 8) := by rw [f_X11_turned, if_neg (bz_ff h1), if_neg (bz_ff h3)]
      exact ⟨by rw [e9], rfl⟩

def f_X11_ahead (c : Int32) (w : Int32) : Int32 := ((c + (9 * (f_X11_downwards w))) + (f_X11_across w))
set_option maxRecDepth 100000 in
theorem s_X11_ahead {X : bz_X} (σ : bz_S) (c : Int32) (w : Int32) : bz_C bz_P X mX11_ahead [.int c, .int w] σ (bz_pi (f_X11_ahead c w) σ) := by
  show bz_wp bz_P X mX11_ahead (bz_pi (f_X11_ahead c w) σ) (0, [some (.int c), some (.int w)], [], σ)
  refine bz_wpn bT_X11_ahead 3 (b := (4, [some (.int c), some (.int w)], [.int w, .int 9, .int c], σ)) (G := True) rfl trivial ?_
  refine bz_wci bT_X11_ahead [.int w] (pc' := 7) (rest := [.int 9, .int c]) rfl rfl (Nat.le_of_ble_eq_true rfl) rfl (Nat.le_of_ble_eq_true rfl) rfl (s_X11_downwards σ w) rfl ?_
  refine bz_wpn bT_X11_ahead 3 (b := (10, [some (.int c), some (.int w)], [.int w, .int (c + (9 * (f_X11_downwards w)))], σ)) (G := True) rfl trivial ?_
  refine bz_wci bT_X11_ahead [.int w] (pc' := 13) (rest := [.int (c + (9 * (f_X11_downwards w)))]) rfl rfl (Nat.le_of_ble_eq_true rfl) rfl (Nat.le_of_ble_eq_true rfl) rfl (s_X11_across σ w) rfl ?_
  refine bz_wpn bT_X11_ahead 1 (b := (14, [some (.int c), some (.int w)], [.int ((c + (9 * (f_X11_downwards w))) + (f_X11_across w))], σ)) (G := True) rfl trivial ?_
  refine bz_wpr bT_X11_ahead rfl rfl trivial ?_
  have e9 : f_X11_ahead c w = ((c + (9 * (f_X11_downwards w))) + (f_X11_across w)) := by rw [f_X11_ahead]
  exact ⟨by rw [e9], rfl⟩

def f_X11_next (code : Int32) : Int32 := ((10 * (f_X11_ahead (code / 10) (f_X11_turned (code / 10) (code % 10)))) + (f_X11_turned (code / 10) (code % 10)))
set_option maxRecDepth 100000 in
theorem s_X11_next {X : bz_X} (σ : bz_S) (code : Int32) : bz_C bz_P X mX11_next [.int code] σ (bz_pi (f_X11_next code) σ) := by
  show bz_wp bz_P X mX11_next (bz_pi (f_X11_next code) σ) (0, [some (.int code), none], [], σ)
  refine bz_wpn bT_X11_next 6 (b := (8, [some (.int code), none], [.int (code % 10), .int (code / 10)], σ)) (G := ¬ (10 : Int32) = 0 ∧ ¬ (10 : Int32) = 0 ∧ True) rfl ⟨(by decide), (by decide), trivial⟩ ?_
  refine bz_wci bT_X11_next [.int (code / 10), .int (code % 10)] (pc' := 11) (rest := []) rfl rfl (Nat.le_of_ble_eq_true rfl) rfl (Nat.le_of_ble_eq_true rfl) rfl (s_X11_turned σ (code / 10) (code % 10)) rfl ?_
  refine bz_wpn bT_X11_next 6 (b := (19, [some (.int code), some (.int (f_X11_turned (code / 10) (code % 10)))], [.int (f_X11_turned (code / 10) (code % 10)), .int (code / 10), .int 10], σ)) (G := ¬ (10 : Int32) = 0 ∧ True) rfl ⟨(by decide), trivial⟩ ?_
  refine bz_wci bT_X11_next [.int (code / 10), .int (f_X11_turned (code / 10) (code % 10))] (pc' := 22) (rest := [.int 10]) rfl rfl (Nat.le_of_ble_eq_true rfl) rfl (Nat.le_of_ble_eq_true rfl) rfl (s_X11_ahead σ (code / 10) (f_X11_turned (code / 10) (code % 10))) rfl ?_
  refine bz_wpn bT_X11_next 3 (b := (25, [some (.int code), some (.int (f_X11_turned (code / 10) (code % 10)))], [.int ((10 * (f_X11_ahead (code / 10) (f_X11_turned (code / 10) (code % 10)))) + (f_X11_turned (code / 10) (code % 10)))], σ)) (G := True) rfl trivial ?_
  refine bz_wpr bT_X11_next rfl rfl trivial ?_
  have e9 : f_X11_next code = ((10 * (f_X11_ahead (code / 10) (f_X11_turned (code / 10) (code % 10)))) + (f_X11_turned (code / 10) (code % 10))) := by rw [f_X11_next]
  exact ⟨by rw [e9], rfl⟩

def f_X11_ballOn_32 (σ : bz_S) (c : Int32) : Int32 := if (σ.1 33 0) = c then if (σ.1 33 1) = c then if (σ.1 33 2) = c then 2 else 1 else (if (σ.1 33 2) = c then 2 else 0) else (if (σ.1 33 1) = c then if (σ.1 33 2) = c then 2 else 1 else (if (σ.1 33 2) = c then 2 else (-6)))
set_option maxRecDepth 100000 in
theorem s_X11_ballOn_32 {X : bz_X} (σ : bz_S) (c : Int32) : bz_C bz_P X mX11_ballOn [.ref 32, .int c] σ (bz_pi (f_X11_ballOn_32 σ c) σ) := by
  show bz_wp bz_P X mX11_ballOn (bz_pi (f_X11_ballOn_32 σ c) σ) (0, [some (.ref 32), some (.int c), none, none], [], σ)
  refine bz_wpb bT_X11_ballOn 7 (b1 := (32, [some (.ref 32), some (.int c), some (.int (-6)), some (.int 0)], [], σ)) (b2 := (10, [some (.ref 32), some (.int c), some (.int (-6)), some (.int 0)], [], σ)) (C := 3 ≤ (0 : Int32)) (G := True) rfl trivial (fun z => absurd z (by decide)) (fun _ => ?_)
  refine bz_wpb bT_X11_ballOn 6 (b1 := (24, [some (.ref 32), some (.int c), some (.int (-6)), some (.int 0)], [], σ)) (b2 := (20, [some (.ref 32), some (.int c), some (.int (-6)), some (.int 0)], [], σ)) (C := ¬ (σ.1 33 0) = c) (G := vp_in 0 3 ∧ True) rfl ⟨(bz_lit (by decide)), trivial⟩ (fun h1 => ?_) (fun h1 => ?_)
  · skip
    refine bz_wpb bT_X11_ballOn 7 (b1 := (32, [some (.ref 32), some (.int c), some (.int (-6)), some (.int 1)], [], σ)) (b2 := (10, [some (.ref 32), some (.int c), some (.int (-6)), some (.int 1)], [], σ)) (C := 3 ≤ (1 : Int32)) (G := True) rfl trivial (fun z => absurd z (by decide)) (fun _ => ?_)
    refine bz_wpb bT_X11_ballOn 6 (b1 := (24, [some (.ref 32), some (.int c), some (.int (-6)), some (.int 1)], [], σ)) (b2 := (20, [some (.ref 32), some (.int c), some (.int (-6)), some (.int 1)], [], σ)) (C := ¬ (σ.1 33 1) = c) (G := vp_in 1 3 ∧ True) rfl ⟨(bz_lit (by decide)), trivial⟩ (fun h2 => ?_) (fun h2 => ?_)
    · skip
      refine bz_wpb bT_X11_ballOn 7 (b1 := (32, [some (.ref 32), some (.int c), some (.int (-6)), some (.int 2)], [], σ)) (b2 := (10, [some (.ref 32), some (.int c), some (.int (-6)), some (.int 2)], [], σ)) (C := 3 ≤ (2 : Int32)) (G := True) rfl trivial (fun z => absurd z (by decide)) (fun _ => ?_)
      refine bz_wpb bT_X11_ballOn 6 (b1 := (24, [some (.ref 32), some (.int c), some (.int (-6)), some (.int 2)], [], σ)) (b2 := (20, [some (.ref 32), some (.int c), some (.int (-6)), some (.int 2)], [], σ)) (C := ¬ (σ.1 33 2) = c) (G := vp_in 2 3 ∧ True) rfl ⟨(bz_lit (by decide)), trivial⟩ (fun h3 => ?_) (fun h3 => ?_)
      · skip
        refine bz_wpb bT_X11_ballOn 7 (b1 := (32, [some (.ref 32), some (.int c), some (.int (-6)), some (.int 3)], [], σ)) (b2 := (10, [some (.ref 32), some (.int c), some (.int (-6)), some (.int 3)], [], σ)) (C := 3 ≤ (3 : Int32)) (G := True) rfl trivial (fun _ => ?_) (fun z => absurd (by decide) z)
        refine bz_wpn bT_X11_ballOn 1 (b := (33, [some (.ref 32), some (.int c), some (.int (-6)), some (.int 3)], [.int (-6)], σ)) (G := True) rfl trivial ?_
        refine bz_wpr bT_X11_ballOn rfl rfl trivial ?_
        have e9 : f_X11_ballOn_32 σ c = (-6) := by rw [f_X11_ballOn_32, if_neg (h1), if_neg (h2), if_neg (h3)]
        exact ⟨by rw [e9], rfl⟩
      · skip
        refine bz_wpb bT_X11_ballOn 8 (b1 := (32, [some (.ref 32), some (.int c), some (.int 2), some (.int 3)], [], σ)) (b2 := (10, [some (.ref 32), some (.int c), some (.int 2), some (.int 3)], [], σ)) (C := 3 ≤ (3 : Int32)) (G := True) rfl trivial (fun _ => ?_) (fun z => absurd (by decide) z)
        refine bz_wpn bT_X11_ballOn 1 (b := (33, [some (.ref 32), some (.int c), some (.int 2), some (.int 3)], [.int 2], σ)) (G := True) rfl trivial ?_
        refine bz_wpr bT_X11_ballOn rfl rfl trivial ?_
        have e9 : f_X11_ballOn_32 σ c = 2 := by rw [f_X11_ballOn_32, if_neg (h1), if_neg (h2), if_pos ((Decidable.not_not.mp h3))]
        exact ⟨by rw [e9], rfl⟩
    · skip
      refine bz_wpb bT_X11_ballOn 8 (b1 := (32, [some (.ref 32), some (.int c), some (.int 1), some (.int 2)], [], σ)) (b2 := (10, [some (.ref 32), some (.int c), some (.int 1), some (.int 2)], [], σ)) (C := 3 ≤ (2 : Int32)) (G := True) rfl trivial (fun z => absurd z (by decide)) (fun _ => ?_)
      refine bz_wpb bT_X11_ballOn 6 (b1 := (24, [some (.ref 32), some (.int c), some (.int 1), some (.int 2)], [], σ)) (b2 := (20, [some (.ref 32), some (.int c), some (.int 1), some (.int 2)], [], σ)) (C := ¬ (σ.1 33 2) = c) (G := vp_in 2 3 ∧ True) rfl ⟨(bz_lit (by decide)), trivial⟩ (fun h4 => ?_) (fun h4 => ?_)
      · skip
        refine bz_wpb bT_X11_ballOn 7 (b1 := (32, [some (.ref 32), some (.int c), some (.int 1), some (.int 3)], [], σ)) (b2 := (10, [some (.ref 32), some (.int c), some (.int 1), some (.int 3)], [], σ)) (C := 3 ≤ (3 : Int32)) (G := True) rfl trivial (fun _ => ?_) (fun z => absurd (by decide) z)
        refine bz_wpn bT_X11_ballOn 1 (b := (33, [some (.ref 32), some (.int c), some (.int 1), some (.int 3)], [.int 1], σ)) (G := True) rfl trivial ?_
        refine bz_wpr bT_X11_ballOn rfl rfl trivial ?_
        have e9 : f_X11_ballOn_32 σ c = 1 := by rw [f_X11_ballOn_32, if_neg (h1), if_pos ((Decidable.not_not.mp h2)), if_neg (h4)]
        exact ⟨by rw [e9], rfl⟩
      · skip
        refine bz_wpb bT_X11_ballOn 8 (b1 := (32, [some (.ref 32), some (.int c), some (.int 2), some (.int 3)], [], σ)) (b2 := (10, [some (.ref 32), some (.int c), some (.int 2), some (.int 3)], [], σ)) (C := 3 ≤ (3 : Int32)) (G := True) rfl trivial (fun _ => ?_) (fun z => absurd (by decide) z)
        refine bz_wpn bT_X11_ballOn 1 (b := (33, [some (.ref 32), some (.int c), some (.int 2), some (.int 3)], [.int 2], σ)) (G := True) rfl trivial ?_
        refine bz_wpr bT_X11_ballOn rfl rfl trivial ?_
        have e9 : f_X11_ballOn_32 σ c = 2 := by rw [f_X11_ballOn_32, if_neg (h1), if_pos ((Decidable.not_not.mp h2)), if_pos ((Decidable.not_not.mp h4))]
        exact ⟨by rw [e9], rfl⟩
  · skip
    refine bz_wpb bT_X11_ballOn 8 (b1 := (32, [some (.ref 32), some (.int c), some (.int 0), some (.int 1)], [], σ)) (b2 := (10, [some (.ref 32), some (.int c), some (.int 0), some (.int 1)], [], σ)) (C := 3 ≤ (1 : Int32)) (G := True) rfl trivial (fun z => absurd z (by decide)) (fun _ => ?_)
    refine bz_wpb bT_X11_ballOn 6 (b1 := (24, [some (.ref 32), some (.int c), some (.int 0), some (.int 1)], [], σ)) (b2 := (20, [some (.ref 32), some (.int c), some (.int 0), some (.int 1)], [], σ)) (C := ¬ (σ.1 33 1) = c) (G := vp_in 1 3 ∧ True) rfl ⟨(bz_lit (by decide)), trivial⟩ (fun h5 => ?_) (fun h5 => ?_)
    · skip
      refine bz_wpb bT_X11_ballOn 7 (b1 := (32, [some (.ref 32), some (.int c), some (.int 0), some (.int 2)], [], σ)) (b2 := (10, [some (.ref 32), some (.int c), some (.int 0), some (.int 2)], [], σ)) (C := 3 ≤ (2 : Int32)) (G := True) rfl trivial (fun z => absurd z (by decide)) (fun _ => ?_)
      refine bz_wpb bT_X11_ballOn 6 (b1 := (24, [some (.ref 32), some (.int c), some (.int 0), some (.int 2)], [], σ)) (b2 := (20, [some (.ref 32), some (.int c), some (.int 0), some (.int 2)], [], σ)) (C := ¬ (σ.1 33 2) = c) (G := vp_in 2 3 ∧ True) rfl ⟨(bz_lit (by decide)), trivial⟩ (fun h6 => ?_) (fun h6 => ?_)
      · skip
        refine bz_wpb bT_X11_ballOn 7 (b1 := (32, [some (.ref 32), some (.int c), some (.int 0), some (.int 3)], [], σ)) (b2 := (10, [some (.ref 32), some (.int c), some (.int 0), some (.int 3)], [], σ)) (C := 3 ≤ (3 : Int32)) (G := True) rfl trivial (fun _ => ?_) (fun z => absurd (by decide) z)
        refine bz_wpn bT_X11_ballOn 1 (b := (33, [some (.ref 32), some (.int c), some (.int 0), some (.int 3)], [.int 0], σ)) (G := True) rfl trivial ?_
        refine bz_wpr bT_X11_ballOn rfl rfl trivial ?_
        have e9 : f_X11_ballOn_32 σ c = 0 := by rw [f_X11_ballOn_32, if_pos ((Decidable.not_not.mp h1)), if_neg (h5), if_neg (h6)]
        exact ⟨by rw [e9], rfl⟩
      · skip
        refine bz_wpb bT_X11_ballOn 8 (b1 := (32, [some (.ref 32), some (.int c), some (.int 2), some (.int 3)], [], σ)) (b2 := (10, [some (.ref 32), some (.int c), some (.int 2), some (.int 3)], [], σ)) (C := 3 ≤ (3 : Int32)) (G := True) rfl trivial (fun _ => ?_) (fun z => absurd (by decide) z)
        refine bz_wpn bT_X11_ballOn 1 (b := (33, [some (.ref 32), some (.int c), some (.int 2), some (.int 3)], [.int 2], σ)) (G := True) rfl trivial ?_
        refine bz_wpr bT_X11_ballOn rfl rfl trivial ?_
        have e9 : f_X11_ballOn_32 σ c = 2 := by rw [f_X11_ballOn_32, if_pos ((Decidable.not_not.mp h1)), if_neg (h5), if_pos ((Decidable.not_not.mp h6))]
        exact ⟨by rw [e9], rfl⟩
    · skip
      refine bz_wpb bT_X11_ballOn 8 (b1 := (32, [some (.ref 32), some (.int c), some (.int 1), some (.int 2)], [], σ)) (b2 := (10, [some (.ref 32), some (.int c), some (.int 1), some (.int 2)], [], σ)) (C := 3 ≤ (2 : Int32)) (G := True) rfl trivial (fun z => absurd z (by decide)) (fun _ => ?_)
      refine bz_wpb bT_X11_ballOn 6 (b1 := (24, [some (.ref 32), some (.int c), some (.int 1), some (.int 2)], [], σ)) (b2 := (20, [some (.ref 32), some (.int c), some (.int 1), some (.int 2)], [], σ)) (C := ¬ (σ.1 33 2) = c) (G := vp_in 2 3 ∧ True) rfl ⟨(bz_lit (by decide)), trivial⟩ (fun h7 => ?_) (fun h7 => ?_)
      · skip
        refine bz_wpb bT_X11_ballOn 7 (b1 := (32, [some (.ref 32), some (.int c), some (.int 1), some (.int 3)], [], σ)) (b2 := (10, [some (.ref 32), some (.int c), some (.int 1), some (.int 3)], [], σ)) (C := 3 ≤ (3 : Int32)) (G := True) rfl trivial (fun _ => ?_) (fun z => absurd (by decide) z)
        refine bz_wpn bT_X11_ballOn 1 (b := (33, [some (.ref 32), some (.int c), some (.int 1), some (.int 3)], [.int 1], σ)) (G := True) rfl trivial ?_
        refine bz_wpr bT_X11_ballOn rfl rfl trivial ?_
        have e9 : f_X11_ballOn_32 σ c = 1 := by rw [f_X11_ballOn_32, if_pos ((Decidable.not_not.mp h1)), if_pos ((Decidable.not_not.mp h5)), if_neg (h7)]
        exact ⟨by rw [e9], rfl⟩
      · skip
        refine bz_wpb bT_X11_ballOn 8 (b1 := (32, [some (.ref 32), some (.int c), some (.int 2), some (.int 3)], [], σ)) (b2 := (10, [some (.ref 32), some (.int c), some (.int 2), some (.int 3)], [], σ)) (C := 3 ≤ (3 : Int32)) (G := True) rfl trivial (fun _ => ?_) (fun z => absurd (by decide) z)
        refine bz_wpn bT_X11_ballOn 1 (b := (33, [some (.ref 32), some (.int c), some (.int 2), some (.int 3)], [.int 2], σ)) (G := True) rfl trivial ?_
        refine bz_wpr bT_X11_ballOn rfl rfl trivial ?_
        have e9 : f_X11_ballOn_32 σ c = 2 := by rw [f_X11_ballOn_32, if_pos ((Decidable.not_not.mp h1)), if_pos ((Decidable.not_not.mp h5)), if_pos ((Decidable.not_not.mp h7))]
        exact ⟨by rw [e9], rfl⟩

def f_X11_ball_32 (σ : bz_S) (b : Int32) (c : Int32) : Int32 × bz_S := if f_X11_isBall b = true then if c = (-1) then if 0 ≤ c then if (f_X11_ballOn_32 σ c) < 0 then if 0 ≤ c then ((σ.1 33 b.toNatClampNeg), ((bz_up σ.1 33 b.toNatClampNeg c), σ.2)) else ((σ.1 33 b.toNatClampNeg), ((bz_up σ.1 33 b.toNatClampNeg (-6)), σ.2)) else (if (f_X11_ballOn_32 σ c) = b then if 0 ≤ c then ((σ.1 33 b.toNatClampNeg), ((bz_up σ.1 33 b.toNatClampNeg c), σ.2)) else ((σ.1 33 b.toNatClampNeg), ((bz_up σ.1 33 b.toNatClampNeg (-6)), σ.2)) else ((-3), σ)) else (if 0 ≤ c then ((σ.1 33 b.toNatClampNeg), ((bz_up σ.1 33 b.toNatClampNeg c), σ.2)) else ((σ.1 33 b.toNatClampNeg), ((bz_up σ.1 33 b.toNatClampNeg (-6)), σ.2))) else (if f_X11_isPlace c = true then if 0 ≤ c then if (f_X11_ballOn_32 σ c) < 0 then if 0 ≤ c then ((σ.1 33 b.toNatClampNeg), ((bz_up σ.1 33 b.toNatClampNeg c), σ.2)) else ((σ.1 33 b.toNatClampNeg), ((bz_up σ.1 33 b.toNatClampNeg (-6)), σ.2)) else (if (f_X11_ballOn_32 σ c) = b then if 0 ≤ c then ((σ.1 33 b.toNatClampNeg), ((bz_up σ.1 33 b.toNatClampNeg c), σ.2)) else ((σ.1 33 b.toNatClampNeg), ((bz_up σ.1 33 b.toNatClampNeg (-6)), σ.2)) else ((-3), σ)) else (if 0 ≤ c then ((σ.1 33 b.toNatClampNeg), ((bz_up σ.1 33 b.toNatClampNeg c), σ.2)) else ((σ.1 33 b.toNatClampNeg), ((bz_up σ.1 33 b.toNatClampNeg (-6)), σ.2))) else ((-1), σ)) else ((-1), σ)
set_option maxRecDepth 100000 in
theorem s_X11_ball_32 {X : bz_X} (σ : bz_S) (b : Int32) (c : Int32) : bz_C bz_P X mX11_ball [.ref 32, .int b, .int c] σ (bz_pi (f_X11_ball_32 σ b c).1 (f_X11_ball_32 σ b c).2) := by
  show bz_wp bz_P X mX11_ball (bz_pi (f_X11_ball_32 σ b c).1 (f_X11_ball_32 σ b c).2) (0, [some (.ref 32), some (.int b), some (.int c), none, none], [], σ)
  refine bz_wpn bT_X11_ball 1 (b := (1, [some (.ref 32), some (.int b), some (.int c), none, none], [.int b], σ)) (G := True) rfl trivial ?_
  refine bz_wci bT_X11_ball [.int b] (pc' := 4) (rest := []) rfl rfl (Nat.le_of_ble_eq_true rfl) rfl (Nat.le_of_ble_eq_true rfl) rfl (s_X11_isBall σ b) rfl ?_
  refine bz_wpb bT_X11_ball 1 (b1 := (19, [some (.ref 32), some (.int b), some (.int c), none, none], [], σ)) (b2 := (7, [some (.ref 32), some (.int b), some (.int c), none, none], [], σ)) (C := bz_b (f_X11_isBall b) = 0) (G := True) rfl trivial (fun h1 => ?_) (fun h1 => ?_)
  · skip
    have h1 := bz_b0 h1
    refine bz_wpn bT_X11_ball 1 (b := (20, [some (.ref 32), some (.int b), some (.int c), none, none], [.int (-1)], σ)) (G := True) rfl trivial ?_
    refine bz_wpr bT_X11_ball rfl rfl trivial ?_
    have e9 : f_X11_ball_32 σ b c = ((-1), σ) := by rw [f_X11_ball_32, if_neg (bz_ff h1)]
    exact ⟨by rw [e9], by rw [e9]⟩
  · skip
    have h1 := bz_b1 h1
    refine bz_wpb bT_X11_ball 3 (b1 := (21, [some (.ref 32), some (.int b), some (.int c), none, none], [], σ)) (b2 := (12, [some (.ref 32), some (.int b), some (.int c), none, none], [], σ)) (C := c = (-1)) (G := True) rfl trivial (fun h2 => ?_) (fun h2 => ?_)
    · skip
      refine bz_wpb bT_X11_ball 2 (b1 := (30, [some (.ref 32), some (.int b), some (.int c), none, none], [], σ)) (b2 := (25, [some (.ref 32), some (.int b), some (.int c), none, none], [], σ)) (C := 0 ≤ c) (G := True) rfl trivial (fun h3 => ?_) (fun h3 => ?_)
      · skip
        refine bz_wpn bT_X11_ball 2 (b := (32, [some (.ref 32), some (.int b), some (.int c), none, none], [.int c, .ref 32], σ)) (G := True) rfl trivial ?_
        refine bz_wci bT_X11_ball [.ref 32, .int c] (pc' := 35) (rest := []) rfl rfl (Nat.le_of_ble_eq_true rfl) rfl (Nat.le_of_ble_eq_true rfl) rfl (s_X11_ballOn_32 σ c) rfl ?_
        refine bz_wpb bT_X11_ball 3 (b1 := (48, [some (.ref 32), some (.int b), some (.int c), some (.int (f_X11_ballOn_32 σ c)), none], [], σ)) (b2 := (40, [some (.ref 32), some (.int b), some (.int c), some (.int (f_X11_ballOn_32 σ c)), none], [], σ)) (C := (f_X11_ballOn_32 σ c) < 0) (G := True) rfl trivial (fun h4 => ?_) (fun h4 => ?_)
        · skip
          refine bz_wpb bT_X11_ball 10 (b1 := (70, [some (.ref 32), some (.int b), some (.int c), some (.int (f_X11_ballOn_32 σ c)), some (.int (σ.1 33 b.toNatClampNeg))], [.int b, .ref 33], σ)) (b2 := (65, [some (.ref 32), some (.int b), some (.int c), some (.int (f_X11_ballOn_32 σ c)), some (.int (σ.1 33 b.toNatClampNeg))], [.int b, .ref 33], σ)) (C := 0 ≤ c) (G := vp_in b 3 ∧ True) rfl ⟨(bz_mball (by assumption)), trivial⟩ (fun h5 => ?_) (fun h5 => ?_)
          · skip
            refine bz_wpn bT_X11_ball 3 (b := (74, [some (.ref 32), some (.int b), some (.int c), some (.int (f_X11_ballOn_32 σ c)), some (.int (σ.1 33 b.toNatClampNeg))], [.int (σ.1 33 b.toNatClampNeg)], ((bz_up σ.1 33 b.toNatClampNeg c), σ.2))) (G := vp_in b 3 ∧ True) rfl ⟨(bz_mball (by assumption)), trivial⟩ ?_
            refine bz_wpr bT_X11_ball rfl rfl trivial ?_
            have e9 : f_X11_ball_32 σ b c = ((σ.1 33 b.toNatClampNeg), ((bz_up σ.1 33 b.toNatClampNeg c), σ.2)) := by rw [f_X11_ball_32, if_pos (h1), if_pos (h2), if_pos (h3), if_pos (h4), if_pos (h5)]
            exact ⟨by rw [e9], by rw [e9]⟩
          · skip
            refine bz_wpn bT_X11_ball 4 (b := (74, [some (.ref 32), some (.int b), some (.int c), some (.int (f_X11_ballOn_32 σ c)), some (.int (σ.1 33 b.toNatClampNeg))], [.int (σ.1 33 b.toNatClampNeg)], ((bz_up σ.1 33 b.toNatClampNeg (-6)), σ.2))) (G := vp_in b 3 ∧ True) rfl ⟨(bz_mball (by assumption)), trivial⟩ ?_
            refine bz_wpr bT_X11_ball rfl rfl trivial ?_
            have e9 : f_X11_ball_32 σ b c = ((σ.1 33 b.toNatClampNeg), ((bz_up σ.1 33 b.toNatClampNeg (-6)), σ.2)) := by rw [f_X11_ball_32, if_pos (h1), if_pos (h2), if_pos (h3), if_pos (h4), if_neg (h5)]
            exact ⟨by rw [e9], by rw [e9]⟩
        · skip
          refine bz_wpb bT_X11_ball 3 (b1 := (48, [some (.ref 32), some (.int b), some (.int c), some (.int (f_X11_ballOn_32 σ c)), none], [], σ)) (b2 := (45, [some (.ref 32), some (.int b), some (.int c), some (.int (f_X11_ballOn_32 σ c)), none], [], σ)) (C := (f_X11_ballOn_32 σ c) = b) (G := True) rfl trivial (fun h6 => ?_) (fun h6 => ?_)
          · skip
            refine bz_wpb bT_X11_ball 10 (b1 := (70, [some (.ref 32), some (.int b), some (.int c), some (.int (f_X11_ballOn_32 σ c)), some (.int (σ.1 33 b.toNatClampNeg))], [.int b, .ref 33], σ)) (b2 := (65, [some (.ref 32), some (.int b), some (.int c), some (.int (f_X11_ballOn_32 σ c)), some (.int (σ.1 33 b.toNatClampNeg))], [.int b, .ref 33], σ)) (C := 0 ≤ c) (G := vp_in b 3 ∧ True) rfl ⟨(bz_mball (by assumption)), trivial⟩ (fun h7 => ?_) (fun h7 => ?_)
            · skip
              refine bz_wpn bT_X11_ball 3 (b := (74, [some (.ref 32), some (.int b), some (.int c), some (.int (f_X11_ballOn_32 σ c)), some (.int (σ.1 33 b.toNatClampNeg))], [.int (σ.1 33 b.toNatClampNeg)], ((bz_up σ.1 33 b.toNatClampNeg c), σ.2))) (G := vp_in b 3 ∧ True) rfl ⟨(bz_mball (by assumption)), trivial⟩ ?_
              refine bz_wpr bT_X11_ball rfl rfl trivial ?_
              have e9 : f_X11_ball_32 σ b c = ((σ.1 33 b.toNatClampNeg), ((bz_up σ.1 33 b.toNatClampNeg c), σ.2)) := by rw [f_X11_ball_32, if_pos (h1), if_pos (h2), if_pos (h3), if_neg (h4), if_pos (h6), if_pos (h7)]
              exact ⟨by rw [e9], by rw [e9]⟩
            · skip
              refine bz_wpn bT_X11_ball 4 (b := (74, [some (.ref 32), some (.int b), some (.int c), some (.int (f_X11_ballOn_32 σ c)), some (.int (σ.1 33 b.toNatClampNeg))], [.int (σ.1 33 b.toNatClampNeg)], ((bz_up σ.1 33 b.toNatClampNeg (-6)), σ.2))) (G := vp_in b 3 ∧ True) rfl ⟨(bz_mball (by assumption)), trivial⟩ ?_
              refine bz_wpr bT_X11_ball rfl rfl trivial ?_
              have e9 : f_X11_ball_32 σ b c = ((σ.1 33 b.toNatClampNeg), ((bz_up σ.1 33 b.toNatClampNeg (-6)), σ.2)) := by rw [f_X11_ball_32, if_pos (h1), if_pos (h2), if_pos (h3), if_neg (h4), if_pos (h6), if_neg (h7)]
              exact ⟨by rw [e9], by rw [e9]⟩
          · skip
            refine bz_wpn bT_X11_ball 1 (b := (47, [some (.ref 32), some (.int b), some (.int c), some (.int (f_X11_ballOn_32 σ c)), none], [.int (-3)], σ)) (G := True) rfl trivial ?_
            refine bz_wpr bT_X11_ball rfl rfl trivial ?_
            have e9 : f_X11_ball_32 σ b c = ((-3), σ) := by rw [f_X11_ball_32, if_pos (h1), if_pos (h2), if_pos (h3), if_neg (h4), if_neg (h6)]
            exact ⟨by rw [e9], by rw [e9]⟩
      · skip
        refine bz_wpb bT_X11_ball 5 (b1 := (48, [some (.ref 32), some (.int b), some (.int c), some (.int (-6)), none], [], σ)) (b2 := (40, [some (.ref 32), some (.int b), some (.int c), some (.int (-6)), none], [], σ)) (C := ((-6) : Int32) < 0) (G := True) rfl trivial (fun _ => ?_) (fun z => absurd (by decide) z)
        refine bz_wpb bT_X11_ball 10 (b1 := (70, [some (.ref 32), some (.int b), some (.int c), some (.int (-6)), some (.int (σ.1 33 b.toNatClampNeg))], [.int b, .ref 33], σ)) (b2 := (65, [some (.ref 32), some (.int b), some (.int c), some (.int (-6)), some (.int (σ.1 33 b.toNatClampNeg))], [.int b, .ref 33], σ)) (C := 0 ≤ c) (G := vp_in b 3 ∧ True) rfl ⟨(bz_mball (by assumption)), trivial⟩ (fun h8 => ?_) (fun h8 => ?_)
        · skip
          refine bz_wpn bT_X11_ball 3 (b := (74, [some (.ref 32), some (.int b), some (.int c), some (.int (-6)), some (.int (σ.1 33 b.toNatClampNeg))], [.int (σ.1 33 b.toNatClampNeg)], ((bz_up σ.1 33 b.toNatClampNeg c), σ.2))) (G := vp_in b 3 ∧ True) rfl ⟨(bz_mball (by assumption)), trivial⟩ ?_
          refine bz_wpr bT_X11_ball rfl rfl trivial ?_
          have e9 : f_X11_ball_32 σ b c = ((σ.1 33 b.toNatClampNeg), ((bz_up σ.1 33 b.toNatClampNeg c), σ.2)) := by rw [f_X11_ball_32, if_pos (h1), if_pos (h2), if_neg (h3), if_pos (h8)]
          exact ⟨by rw [e9], by rw [e9]⟩
        · skip
          refine bz_wpn bT_X11_ball 4 (b := (74, [some (.ref 32), some (.int b), some (.int c), some (.int (-6)), some (.int (σ.1 33 b.toNatClampNeg))], [.int (σ.1 33 b.toNatClampNeg)], ((bz_up σ.1 33 b.toNatClampNeg (-6)), σ.2))) (G := vp_in b 3 ∧ True) rfl ⟨(bz_mball (by assumption)), trivial⟩ ?_
          refine bz_wpr bT_X11_ball rfl rfl trivial ?_
          have e9 : f_X11_ball_32 σ b c = ((σ.1 33 b.toNatClampNeg), ((bz_up σ.1 33 b.toNatClampNeg (-6)), σ.2)) := by rw [f_X11_ball_32, if_pos (h1), if_pos (h2), if_neg (h3), if_neg (h8)]
          exact ⟨by rw [e9], by rw [e9]⟩
    · skip
      refine bz_wpn bT_X11_ball 1 (b := (13, [some (.ref 32), some (.int b), some (.int c), none, none], [.int c], σ)) (G := True) rfl trivial ?_
      refine bz_wci bT_X11_ball [.int c] (pc' := 16) (rest := []) rfl rfl (Nat.le_of_ble_eq_true rfl) rfl (Nat.le_of_ble_eq_true rfl) rfl (s_X11_isPlace σ c) rfl ?_
      refine bz_wpb bT_X11_ball 1 (b1 := (21, [some (.ref 32), some (.int b), some (.int c), none, none], [], σ)) (b2 := (19, [some (.ref 32), some (.int b), some (.int c), none, none], [], σ)) (C := ¬ bz_b (f_X11_isPlace c) = 0) (G := True) rfl trivial (fun h9 => ?_) (fun h9 => ?_)
      · skip
        have h9 := bz_b1 h9
        refine bz_wpb bT_X11_ball 2 (b1 := (30, [some (.ref 32), some (.int b), some (.int c), none, none], [], σ)) (b2 := (25, [some (.ref 32), some (.int b), some (.int c), none, none], [], σ)) (C := 0 ≤ c) (G := True) rfl trivial (fun h10 => ?_) (fun h10 => ?_)
        · skip
          refine bz_wpn bT_X11_ball 2 (b := (32, [some (.ref 32), some (.int b), some (.int c), none, none], [.int c, .ref 32], σ)) (G := True) rfl trivial ?_
          refine bz_wci bT_X11_ball [.ref 32, .int c] (pc' := 35) (rest := []) rfl rfl (Nat.le_of_ble_eq_true rfl) rfl (Nat.le_of_ble_eq_true rfl) rfl (s_X11_ballOn_32 σ c) rfl ?_
          refine bz_wpb bT_X11_ball 3 (b1 := (48, [some (.ref 32), some (.int b), some (.int c), some (.int (f_X11_ballOn_32 σ c)), none], [], σ)) (b2 := (40, [some (.ref 32), some (.int b), some (.int c), some (.int (f_X11_ballOn_32 σ c)), none], [], σ)) (C := (f_X11_ballOn_32 σ c) < 0) (G := True) rfl trivial (fun h11 => ?_) (fun h11 => ?_)
          · skip
            refine bz_wpb bT_X11_ball 10 (b1 := (70, [some (.ref 32), some (.int b), some (.int c), some (.int (f_X11_ballOn_32 σ c)), some (.int (σ.1 33 b.toNatClampNeg))], [.int b, .ref 33], σ)) (b2 := (65, [some (.ref 32), some (.int b), some (.int c), some (.int (f_X11_ballOn_32 σ c)), some (.int (σ.1 33 b.toNatClampNeg))], [.int b, .ref 33], σ)) (C := 0 ≤ c) (G := vp_in b 3 ∧ True) rfl ⟨(bz_mball (by assumption)), trivial⟩ (fun h12 => ?_) (fun h12 => ?_)
            · skip
              refine bz_wpn bT_X11_ball 3 (b := (74, [some (.ref 32), some (.int b), some (.int c), some (.int (f_X11_ballOn_32 σ c)), some (.int (σ.1 33 b.toNatClampNeg))], [.int (σ.1 33 b.toNatClampNeg)], ((bz_up σ.1 33 b.toNatClampNeg c), σ.2))) (G := vp_in b 3 ∧ True) rfl ⟨(bz_mball (by assumption)), trivial⟩ ?_
              refine bz_wpr bT_X11_ball rfl rfl trivial ?_
              have e9 : f_X11_ball_32 σ b c = ((σ.1 33 b.toNatClampNeg), ((bz_up σ.1 33 b.toNatClampNeg c), σ.2)) := by rw [f_X11_ball_32, if_pos (h1), if_neg (h2), if_pos (h9), if_pos (h10), if_pos (h11), if_pos (h12)]
              exact ⟨by rw [e9], by rw [e9]⟩
            · skip
              refine bz_wpn bT_X11_ball 4 (b := (74, [some (.ref 32), some (.int b), some (.int c), some (.int (f_X11_ballOn_32 σ c)), some (.int (σ.1 33 b.toNatClampNeg))], [.int (σ.1 33 b.toNatClampNeg)], ((bz_up σ.1 33 b.toNatClampNeg (-6)), σ.2))) (G := vp_in b 3 ∧ True) rfl ⟨(bz_mball (by assumption)), trivial⟩ ?_
              refine bz_wpr bT_X11_ball rfl rfl trivial ?_
              have e9 : f_X11_ball_32 σ b c = ((σ.1 33 b.toNatClampNeg), ((bz_up σ.1 33 b.toNatClampNeg (-6)), σ.2)) := by rw [f_X11_ball_32, if_pos (h1), if_neg (h2), if_pos (h9), if_pos (h10), if_pos (h11), if_neg (h12)]
              exact ⟨by rw [e9], by rw [e9]⟩
          · skip
            refine bz_wpb bT_X11_ball 3 (b1 := (48, [some (.ref 32), some (.int b), some (.int c), some (.int (f_X11_ballOn_32 σ c)), none], [], σ)) (b2 := (45, [some (.ref 32), some (.int b), some (.int c), some (.int (f_X11_ballOn_32 σ c)), none], [], σ)) (C := (f_X11_ballOn_32 σ c) = b) (G := True) rfl trivial (fun h13 => ?_) (fun h13 => ?_)
            · skip
              refine bz_wpb bT_X11_ball 10 (b1 := (70, [some (.ref 32), some (.int b), some (.int c), some (.int (f_X11_ballOn_32 σ c)), some (.int (σ.1 33 b.toNatClampNeg))], [.int b, .ref 33], σ)) (b2 := (65, [some (.ref 32), some (.int b), some (.int c), some (.int (f_X11_ballOn_32 σ c)), some (.int (σ.1 33 b.toNatClampNeg))], [.int b, .ref 33], σ)) (C := 0 ≤ c) (G := vp_in b 3 ∧ True) rfl ⟨(bz_mball (by assumption)), trivial⟩ (fun h14 => ?_) (fun h14 => ?_)
              · skip
                refine bz_wpn bT_X11_ball 3 (b := (74, [some (.ref 32), some (.int b), some (.int c), some (.int (f_X11_ballOn_32 σ c)), some (.int (σ.1 33 b.toNatClampNeg))], [.int (σ.1 33 b.toNatClampNeg)], ((bz_up σ.1 33 b.toNatClampNeg c), σ.2))) (G := vp_in b 3 ∧ True) rfl ⟨(bz_mball (by assumption)), trivial⟩ ?_
                refine bz_wpr bT_X11_ball rfl rfl trivial ?_
                have e9 : f_X11_ball_32 σ b c = ((σ.1 33 b.toNatClampNeg), ((bz_up σ.1 33 b.toNatClampNeg c), σ.2)) := by rw [f_X11_ball_32, if_pos (h1), if_neg (h2), if_pos (h9), if_pos (h10), if_neg (h11), if_pos (h13), if_pos (h14)]
                exact ⟨by rw [e9], by rw [e9]⟩
              · skip
                refine bz_wpn bT_X11_ball 4 (b := (74, [some (.ref 32), some (.int b), some (.int c), some (.int (f_X11_ballOn_32 σ c)), some (.int (σ.1 33 b.toNatClampNeg))], [.int (σ.1 33 b.toNatClampNeg)], ((bz_up σ.1 33 b.toNatClampNeg (-6)), σ.2))) (G := vp_in b 3 ∧ True) rfl ⟨(bz_mball (by assumption)), trivial⟩ ?_
                refine bz_wpr bT_X11_ball rfl rfl trivial ?_
                have e9 : f_X11_ball_32 σ b c = ((σ.1 33 b.toNatClampNeg), ((bz_up σ.1 33 b.toNatClampNeg (-6)), σ.2)) := by rw [f_X11_ball_32, if_pos (h1), if_neg (h2), if_pos (h9), if_pos (h10), if_neg (h11), if_pos (h13), if_neg (h14)]
                exact ⟨by rw [e9], by rw [e9]⟩
            · skip
              refine bz_wpn bT_X11_ball 1 (b := (47, [some (.ref 32), some (.int b), some (.int c), some (.int (f_X11_ballOn_32 σ c)), none], [.int (-3)], σ)) (G := True) rfl trivial ?_
              refine bz_wpr bT_X11_ball rfl rfl trivial ?_
              have e9 : f_X11_ball_32 σ b c = ((-3), σ) := by rw [f_X11_ball_32, if_pos (h1), if_neg (h2), if_pos (h9), if_pos (h10), if_neg (h11), if_neg (h13)]
              exact ⟨by rw [e9], by rw [e9]⟩
        · skip
          refine bz_wpb bT_X11_ball 5 (b1 := (48, [some (.ref 32), some (.int b), some (.int c), some (.int (-6)), none], [], σ)) (b2 := (40, [some (.ref 32), some (.int b), some (.int c), some (.int (-6)), none], [], σ)) (C := ((-6) : Int32) < 0) (G := True) rfl trivial (fun _ => ?_) (fun z => absurd (by decide) z)
          refine bz_wpb bT_X11_ball 10 (b1 := (70, [some (.ref 32), some (.int b), some (.int c), some (.int (-6)), some (.int (σ.1 33 b.toNatClampNeg))], [.int b, .ref 33], σ)) (b2 := (65, [some (.ref 32), some (.int b), some (.int c), some (.int (-6)), some (.int (σ.1 33 b.toNatClampNeg))], [.int b, .ref 33], σ)) (C := 0 ≤ c) (G := vp_in b 3 ∧ True) rfl ⟨(bz_mball (by assumption)), trivial⟩ (fun h15 => ?_) (fun h15 => ?_)
          · skip
            refine bz_wpn bT_X11_ball 3 (b := (74, [some (.ref 32), some (.int b), some (.int c), some (.int (-6)), some (.int (σ.1 33 b.toNatClampNeg))], [.int (σ.1 33 b.toNatClampNeg)], ((bz_up σ.1 33 b.toNatClampNeg c), σ.2))) (G := vp_in b 3 ∧ True) rfl ⟨(bz_mball (by assumption)), trivial⟩ ?_
            refine bz_wpr bT_X11_ball rfl rfl trivial ?_
            have e9 : f_X11_ball_32 σ b c = ((σ.1 33 b.toNatClampNeg), ((bz_up σ.1 33 b.toNatClampNeg c), σ.2)) := by rw [f_X11_ball_32, if_pos (h1), if_neg (h2), if_pos (h9), if_neg (h10), if_pos (h15)]
            exact ⟨by rw [e9], by rw [e9]⟩
          · skip
            refine bz_wpn bT_X11_ball 4 (b := (74, [some (.ref 32), some (.int b), some (.int c), some (.int (-6)), some (.int (σ.1 33 b.toNatClampNeg))], [.int (σ.1 33 b.toNatClampNeg)], ((bz_up σ.1 33 b.toNatClampNeg (-6)), σ.2))) (G := vp_in b 3 ∧ True) rfl ⟨(bz_mball (by assumption)), trivial⟩ ?_
            refine bz_wpr bT_X11_ball rfl rfl trivial ?_
            have e9 : f_X11_ball_32 σ b c = ((σ.1 33 b.toNatClampNeg), ((bz_up σ.1 33 b.toNatClampNeg (-6)), σ.2)) := by rw [f_X11_ball_32, if_pos (h1), if_neg (h2), if_pos (h9), if_neg (h10), if_neg (h15)]
            exact ⟨by rw [e9], by rw [e9]⟩
      · skip
        have h9 := bz_b0 (Decidable.not_not.mp h9)
        refine bz_wpn bT_X11_ball 1 (b := (20, [some (.ref 32), some (.int b), some (.int c), none, none], [.int (-1)], σ)) (G := True) rfl trivial ?_
        refine bz_wpr bT_X11_ball rfl rfl trivial ?_
        have e9 : f_X11_ball_32 σ b c = ((-1), σ) := by rw [f_X11_ball_32, if_pos (h1), if_neg (h2), if_neg (bz_ff h9)]
        exact ⟨by rw [e9], by rw [e9]⟩
theorem rf_X11_ball_32 (σ : bz_S) (b : Int32) (c : Int32) : bz_fr [33] σ (f_X11_ball_32 σ b c).2 := by
  unfold f_X11_ball_32
  exact (bz_ite2 (bz_ite2 (bz_ite2 (bz_ite2 (bz_ite2 ⟨(bz_f1_up (bz_fr_rf).1 (by decide)), (bz_fr_rf).2⟩ ⟨(bz_f1_up (bz_fr_rf).1 (by decide)), (bz_fr_rf).2⟩) (bz_ite2 (bz_ite2 ⟨(bz_f1_up (bz_fr_rf).1 (by decide)), (bz_fr_rf).2⟩ ⟨(bz_f1_up (bz_fr_rf).1 (by decide)), (bz_fr_rf).2⟩) bz_fr_rf)) (bz_ite2 ⟨(bz_f1_up (bz_fr_rf).1 (by decide)), (bz_fr_rf).2⟩ ⟨(bz_f1_up (bz_fr_rf).1 (by decide)), (bz_fr_rf).2⟩)) (bz_ite2 (bz_ite2 (bz_ite2 (bz_ite2 ⟨(bz_f1_up (bz_fr_rf).1 (by decide)), (bz_fr_rf).2⟩ ⟨(bz_f1_up (bz_fr_rf).1 (by decide)), (bz_fr_rf).2⟩) (bz_ite2 (bz_ite2 ⟨(bz_f1_up (bz_fr_rf).1 (by decide)), (bz_fr_rf).2⟩ ⟨(bz_f1_up (bz_fr_rf).1 (by decide)), (bz_fr_rf).2⟩) bz_fr_rf)) (bz_ite2 ⟨(bz_f1_up (bz_fr_rf).1 (by decide)), (bz_fr_rf).2⟩ ⟨(bz_f1_up (bz_fr_rf).1 (by decide)), (bz_fr_rf).2⟩)) bz_fr_rf)) bz_fr_rf)
theorem qf_X11_ball_32 (σ : bz_S) (b : Int32) (c : Int32) : bz_fo ([] : List Nat) σ (f_X11_ball_32 σ b c).2 := by
  unfold f_X11_ball_32
  exact (bz_ite2 (bz_ite2 (bz_ite2 (bz_ite2 (bz_ite2 (bz_fo_no (f := _) bz_fo_rf (by decide)) (bz_fo_no (f := _) bz_fo_rf (by decide))) (bz_ite2 (bz_ite2 (bz_fo_no (f := _) bz_fo_rf (by decide)) (bz_fo_no (f := _) bz_fo_rf (by decide))) bz_fo_rf)) (bz_ite2 (bz_fo_no (f := _) bz_fo_rf (by decide)) (bz_fo_no (f := _) bz_fo_rf (by decide)))) (bz_ite2 (bz_ite2 (bz_ite2 (bz_ite2 (bz_fo_no (f := _) bz_fo_rf (by decide)) (bz_fo_no (f := _) bz_fo_rf (by decide))) (bz_ite2 (bz_ite2 (bz_fo_no (f := _) bz_fo_rf (by decide)) (bz_fo_no (f := _) bz_fo_rf (by decide))) bz_fo_rf)) (bz_ite2 (bz_fo_no (f := _) bz_fo_rf (by decide)) (bz_fo_no (f := _) bz_fo_rf (by decide)))) bz_fo_rf)) bz_fo_rf)

def f_X11_score_32 (σ : bz_S) (pt : Int32) (fl : Int32) : Int32 × bz_S := if f_X11_in (Int32.toInt64 pt) 0 99 = true then if f_X11_in (Int32.toInt64 fl) 0 99 = true then (((100 * (σ.1 32 1)) + (σ.1 32 2)), ((bz_up (bz_up σ.1 32 1 pt) 32 2 fl), σ.2)) else ((-2), σ) else ((-2), σ)
set_option maxRecDepth 100000 in
theorem s_X11_score_32 {X : bz_X} (σ : bz_S) (pt : Int32) (fl : Int32) : bz_C bz_P X mX11_score [.ref 32, .int pt, .int fl] σ (bz_pi (f_X11_score_32 σ pt fl).1 (f_X11_score_32 σ pt fl).2) := by
  show bz_wp bz_P X mX11_score (bz_pi (f_X11_score_32 σ pt fl).1 (f_X11_score_32 σ pt fl).2) (0, [some (.ref 32), some (.int pt), some (.int fl), none], [], σ)
  refine bz_wpn bT_X11_score 4 (b := (6, [some (.ref 32), some (.int pt), some (.int fl), none], [.long 99, .long 0, .long (Int32.toInt64 pt)], σ)) (G := True) rfl trivial ?_
  refine bz_wci bT_X11_score [.long (Int32.toInt64 pt), .long 0, .long 99] (pc' := 9) (rest := []) rfl rfl (Nat.le_of_ble_eq_true rfl) rfl (Nat.le_of_ble_eq_true rfl) rfl (s_X11_in σ (Int32.toInt64 pt) 0 99) rfl ?_
  refine bz_wpb bT_X11_score 1 (b1 := (24, [some (.ref 32), some (.int pt), some (.int fl), none], [], σ)) (b2 := (12, [some (.ref 32), some (.int pt), some (.int fl), none], [], σ)) (C := bz_b (f_X11_in (Int32.toInt64 pt) 0 99) = 0) (G := True) rfl trivial (fun h1 => ?_) (fun h1 => ?_)
  · skip
    have h1 := bz_b0 h1
    refine bz_wpn bT_X11_score 1 (b := (26, [some (.ref 32), some (.int pt), some (.int fl), none], [.int (-2)], σ)) (G := True) rfl trivial ?_
    refine bz_wpr bT_X11_score rfl rfl trivial ?_
    have e9 : f_X11_score_32 σ pt fl = ((-2), σ) := by rw [f_X11_score_32, if_neg (bz_ff h1)]
    exact ⟨by rw [e9], by rw [e9]⟩
  · skip
    have h1 := bz_b1 h1
    refine bz_wpn bT_X11_score 4 (b := (18, [some (.ref 32), some (.int pt), some (.int fl), none], [.long 99, .long 0, .long (Int32.toInt64 fl)], σ)) (G := True) rfl trivial ?_
    refine bz_wci bT_X11_score [.long (Int32.toInt64 fl), .long 0, .long 99] (pc' := 21) (rest := []) rfl rfl (Nat.le_of_ble_eq_true rfl) rfl (Nat.le_of_ble_eq_true rfl) rfl (s_X11_in σ (Int32.toInt64 fl) 0 99) rfl ?_
    refine bz_wpb bT_X11_score 1 (b1 := (27, [some (.ref 32), some (.int pt), some (.int fl), none], [], σ)) (b2 := (24, [some (.ref 32), some (.int pt), some (.int fl), none], [], σ)) (C := ¬ bz_b (f_X11_in (Int32.toInt64 fl) 0 99) = 0) (G := True) rfl trivial (fun h2 => ?_) (fun h2 => ?_)
    · skip
      have h2 := bz_b1 h2
      refine bz_wpn bT_X11_score 15 (b := (51, [some (.ref 32), some (.int pt), some (.int fl), some (.int ((100 * (σ.1 32 1)) + (σ.1 32 2)))], [.int ((100 * (σ.1 32 1)) + (σ.1 32 2))], ((bz_up (bz_up σ.1 32 1 pt) 32 2 fl), σ.2))) (G := True) rfl trivial ?_
      refine bz_wpr bT_X11_score rfl rfl trivial ?_
      have e9 : f_X11_score_32 σ pt fl = (((100 * (σ.1 32 1)) + (σ.1 32 2)), ((bz_up (bz_up σ.1 32 1 pt) 32 2 fl), σ.2)) := by rw [f_X11_score_32, if_pos (h1), if_pos (h2)]
      exact ⟨by rw [e9], by rw [e9]⟩
    · skip
      have h2 := bz_b0 (Decidable.not_not.mp h2)
      refine bz_wpn bT_X11_score 1 (b := (26, [some (.ref 32), some (.int pt), some (.int fl), none], [.int (-2)], σ)) (G := True) rfl trivial ?_
      refine bz_wpr bT_X11_score rfl rfl trivial ?_
      have e9 : f_X11_score_32 σ pt fl = ((-2), σ) := by rw [f_X11_score_32, if_pos (h1), if_neg (bz_ff h2)]
      exact ⟨by rw [e9], by rw [e9]⟩
theorem rf_X11_score_32 (σ : bz_S) (pt : Int32) (fl : Int32) : bz_fr [32] σ (f_X11_score_32 σ pt fl).2 := by
  unfold f_X11_score_32
  exact (bz_ite2 (bz_ite2 ⟨(bz_f1_up (bz_f1_up (bz_fr_rf).1 (by decide)) (by decide)), (bz_fr_rf).2⟩ bz_fr_rf) bz_fr_rf)
theorem qf_X11_score_32 (σ : bz_S) (pt : Int32) (fl : Int32) : bz_fo [1, 2] σ (f_X11_score_32 σ pt fl).2 := by
  unfold f_X11_score_32
  exact (bz_ite2 (bz_ite2 (bz_fo_up (f := _) (bz_fo_up (f := _) bz_fo_rf (by decide)) (by decide)) bz_fo_rf) bz_fo_rf)

def bz_padM (σ : bz_S) : Prop := ∃ N, N ≤ 60 ∧ σ.1 32 8 = nI N
theorem bz_padM_i {σ : bz_S} (hp : bz_padM σ) (h : ¬ (σ.1 32 8) = 60) : vp_in (σ.1 32 8) 60 := by
  obtain ⟨N, h60, hN⟩ := hp
  rw [hN] at h ⊢
  have h1 : N ≠ 60 := fun z => h (by rw [z]; rfl)
  exact vp_in_nI (by omega) (by decide)
def bz_sgM (σ : bz_S) : Prop := ∃ N, N ≤ 8 ∧ σ.1 32 6 = nI N
theorem bz_sgM_i {σ : bz_S} (hp : bz_sgM σ) (h : ¬ (σ.1 32 6) = 8) : vp_in (σ.1 32 6) 8 := by
  obtain ⟨N, h60, hN⟩ := hp
  rw [hN] at h ⊢
  have h1 : N ≠ 8 := fun z => h (by rw [z]; rfl)
  exact vp_in_nI (by omega) (by decide)

def f_X11_say_32 (σ : bz_S) (c : Int32) : Int32 × bz_S := if f_X11_in (Int32.toInt64 c) 33 126 = true then if (σ.1 32 8) = 60 then ((-4), σ) else (((σ.1 32 8) + 1), ((bz_up (bz_up σ.1 36 ((σ.1 32 8).toNatClampNeg) c) 32 8 ((σ.1 32 8) + 1)), σ.2)) else ((-2), σ)
set_option maxRecDepth 100000 in
theorem s_X11_say_32 {X : bz_X} (σ : bz_S) (c : Int32) (hp : bz_padM σ) : bz_C bz_P X mX11_say [.ref 32, .int c] σ (bz_pi (f_X11_say_32 σ c).1 (f_X11_say_32 σ c).2) := by
  show bz_wp bz_P X mX11_say (bz_pi (f_X11_say_32 σ c).1 (f_X11_say_32 σ c).2) (0, [some (.ref 32), some (.int c)], [], σ)
  refine bz_wpn bT_X11_say 4 (b := (8, [some (.ref 32), some (.int c)], [.long 126, .long 33, .long (Int32.toInt64 c)], σ)) (G := True) rfl trivial ?_
  refine bz_wci bT_X11_say [.long (Int32.toInt64 c), .long 33, .long 126] (pc' := 11) (rest := []) rfl rfl (Nat.le_of_ble_eq_true rfl) rfl (Nat.le_of_ble_eq_true rfl) rfl (s_X11_in σ (Int32.toInt64 c) 33 126) rfl ?_
  refine bz_wpb bT_X11_say 1 (b1 := (17, [some (.ref 32), some (.int c)], [], σ)) (b2 := (14, [some (.ref 32), some (.int c)], [], σ)) (C := ¬ bz_b (f_X11_in (Int32.toInt64 c) 33 126) = 0) (G := True) rfl trivial (fun h1 => ?_) (fun h1 => ?_)
  · skip
    have h1 := bz_b1 h1
    refine bz_wpb bT_X11_say 4 (b1 := (29, [some (.ref 32), some (.int c)], [], σ)) (b2 := (26, [some (.ref 32), some (.int c)], [], σ)) (C := ¬ (σ.1 32 8) = 60) (G := True) rfl trivial (fun h2 => ?_) (fun h2 => ?_)
    · skip
      refine bz_wpn bT_X11_say 14 (b := (53, [some (.ref 32), some (.int c)], [.int ((σ.1 32 8) + 1)], ((bz_up (bz_up σ.1 36 ((σ.1 32 8).toNatClampNeg) c) 32 8 ((σ.1 32 8) + 1)), σ.2))) (G := vp_in (σ.1 32 8) 60 ∧ True) rfl ⟨(bz_padM_i hp h2), trivial⟩ ?_
      refine bz_wpr bT_X11_say rfl rfl trivial ?_
      have e9 : f_X11_say_32 σ c = (((σ.1 32 8) + 1), ((bz_up (bz_up σ.1 36 ((σ.1 32 8).toNatClampNeg) c) 32 8 ((σ.1 32 8) + 1)), σ.2)) := by rw [f_X11_say_32, if_pos (h1), if_neg (h2)]
      exact ⟨by rw [e9], by rw [e9]⟩
    · skip
      refine bz_wpn bT_X11_say 1 (b := (28, [some (.ref 32), some (.int c)], [.int (-4)], σ)) (G := True) rfl trivial ?_
      refine bz_wpr bT_X11_say rfl rfl trivial ?_
      have e9 : f_X11_say_32 σ c = ((-4), σ) := by rw [f_X11_say_32, if_pos (h1), if_pos ((Decidable.not_not.mp h2))]
      exact ⟨by rw [e9], by rw [e9]⟩
  · skip
    have h1 := bz_b0 (Decidable.not_not.mp h1)
    refine bz_wpn bT_X11_say 1 (b := (16, [some (.ref 32), some (.int c)], [.int (-2)], σ)) (G := True) rfl trivial ?_
    refine bz_wpr bT_X11_say rfl rfl trivial ?_
    have e9 : f_X11_say_32 σ c = ((-2), σ) := by rw [f_X11_say_32, if_neg (bz_ff h1)]
    exact ⟨by rw [e9], by rw [e9]⟩
theorem rf_X11_say_32 (σ : bz_S) (c : Int32) : bz_fr [32, 36] σ (f_X11_say_32 σ c).2 := by
  unfold f_X11_say_32
  exact (bz_ite2 (bz_ite2 bz_fr_rf ⟨(bz_f1_up (bz_f1_up (bz_fr_rf).1 (by decide)) (by decide)), (bz_fr_rf).2⟩) bz_fr_rf)
theorem qf_X11_say_32 (σ : bz_S) (c : Int32) : bz_fo [8] σ (f_X11_say_32 σ c).2 := by
  unfold f_X11_say_32
  exact (bz_ite2 (bz_ite2 bz_fo_rf (bz_fo_up (f := _) (bz_fo_no (f := _) bz_fo_rf (by decide)) (by decide))) bz_fo_rf)

def f_X11_wipe_32 (σ : bz_S)  : Int32 × bz_S := ((σ.1 32 8), ((bz_up σ.1 32 8 0), σ.2))
set_option maxRecDepth 100000 in
theorem s_X11_wipe_32 {X : bz_X} (σ : bz_S) : bz_C bz_P X mX11_wipe [.ref 32] σ (bz_pi (f_X11_wipe_32 σ).1 (f_X11_wipe_32 σ).2) := by
  show bz_wp bz_P X mX11_wipe (bz_pi (f_X11_wipe_32 σ).1 (f_X11_wipe_32 σ).2) (0, [some (.ref 32), none], [], σ)
  refine bz_wpn bT_X11_wipe 7 (b := (11, [some (.ref 32), some (.int (σ.1 32 8))], [.int (σ.1 32 8)], ((bz_up σ.1 32 8 0), σ.2))) (G := True) rfl trivial ?_
  refine bz_wpr bT_X11_wipe rfl rfl trivial ?_
  have e9 : f_X11_wipe_32 σ = ((σ.1 32 8), ((bz_up σ.1 32 8 0), σ.2)) := by rw [f_X11_wipe_32]
  exact ⟨by rw [e9], by rw [e9]⟩
theorem rf_X11_wipe_32 (σ : bz_S)  : bz_fr [32] σ (f_X11_wipe_32 σ).2 := by
  unfold f_X11_wipe_32
  exact ⟨(bz_f1_up (bz_fr_rf).1 (by decide)), (bz_fr_rf).2⟩
theorem qf_X11_wipe_32 (σ : bz_S)  : bz_fo [8] σ (f_X11_wipe_32 σ).2 := by
  unfold f_X11_wipe_32
  exact (bz_fo_up (f := _) bz_fo_rf (by decide))

def f_X11_close_32 (σ : bz_S) (wh : Int32) : Int32 × bz_S := (0, ((bz_up (bz_up σ.1 37 ((σ.1 32 13).toNatClampNeg) wh) 32 13 ((σ.1 32 13) + 1)), σ.2))
set_option maxRecDepth 100000 in
theorem s_X11_close_32 {X : bz_X} (σ : bz_S) (wh : Int32) (ha : vp_in (σ.1 32 13) 60) : bz_C bz_P X mX11_close [.ref 32, .int wh] σ (bz_pi (f_X11_close_32 σ wh).1 (f_X11_close_32 σ wh).2) := by
  show bz_wp bz_P X mX11_close (bz_pi (f_X11_close_32 σ wh).1 (f_X11_close_32 σ wh).2) (0, [some (.ref 32), some (.int wh)], [], σ)
  refine bz_wpn bT_X11_close 13 (b := (21, [some (.ref 32), some (.int wh)], [.int 0], ((bz_up (bz_up σ.1 37 ((σ.1 32 13).toNatClampNeg) wh) 32 13 ((σ.1 32 13) + 1)), σ.2))) (G := vp_in (σ.1 32 13) 60 ∧ True) rfl ⟨ha, trivial⟩ ?_
  refine bz_wpr bT_X11_close rfl rfl trivial ?_
  have e9 : f_X11_close_32 σ wh = (0, ((bz_up (bz_up σ.1 37 ((σ.1 32 13).toNatClampNeg) wh) 32 13 ((σ.1 32 13) + 1)), σ.2)) := by rw [f_X11_close_32]
  exact ⟨by rw [e9], by rw [e9]⟩
theorem rf_X11_close_32 (σ : bz_S) (wh : Int32) : bz_fr [32, 37] σ (f_X11_close_32 σ wh).2 := by
  unfold f_X11_close_32
  exact ⟨(bz_f1_up (bz_f1_up (bz_fr_rf).1 (by decide)) (by decide)), (bz_fr_rf).2⟩
theorem qf_X11_close_32 (σ : bz_S) (wh : Int32) : bz_fo [13] σ (f_X11_close_32 σ wh).2 := by
  unfold f_X11_close_32
  exact (bz_fo_up (f := _) (bz_fo_no (f := _) bz_fo_rf (by decide)) (by decide))

def f_X11_begin_32_a (σ : bz_S) (c : Int32) (τ1 : Int32 × bz_S) : Int32 × bz_S := (τ1.1, τ1.2)
def f_X11_begin_32_b (σ : bz_S) (c : Int32) (τ2 : Int32 × bz_S) : Int32 × bz_S := (τ2.1, τ2.2)
def f_X11_begin_32_c (σ : bz_S) (c : Int32) (τ3 : Int32 × bz_S) : Int32 × bz_S := (τ3.1, τ3.2)
def f_X11_begin_32_d (σ : bz_S) (c : Int32) (τ4 : Int32 × bz_S) : Int32 × bz_S := (τ4.1, τ4.2)
def f_X11_begin_32 (σ : bz_S) (c : Int32) : Int32 × bz_S := if f_X11_in (Int32.toInt64 c) 65 67 = true then if f_X11_in (Int32.toInt64 c) 65 67 = true then (1, ((bz_up (bz_up (bz_up σ.1 38 ((σ.1 32 13).toNatClampNeg) (c - 65)) 39 ((σ.1 32 13).toNatClampNeg) 0) 40 ((σ.1 32 13).toNatClampNeg) 0), σ.2)) else (if c = 126 then (f_X11_begin_32_d σ c (f_X11_close_32 ((bz_up (bz_up (bz_up σ.1 38 ((σ.1 32 13).toNatClampNeg) (c - 65)) 39 ((σ.1 32 13).toNatClampNeg) 0) 40 ((σ.1 32 13).toNatClampNeg) 0), σ.2) 2)) else (if c = 46 then (f_X11_begin_32_c σ c (f_X11_close_32 ((bz_up (bz_up (bz_up σ.1 38 ((σ.1 32 13).toNatClampNeg) (c - 65)) 39 ((σ.1 32 13).toNatClampNeg) 0) 40 ((σ.1 32 13).toNatClampNeg) 0), σ.2) 3)) else ((-6), ((bz_up (bz_up (bz_up σ.1 38 ((σ.1 32 13).toNatClampNeg) (c - 65)) 39 ((σ.1 32 13).toNatClampNeg) 0) 40 ((σ.1 32 13).toNatClampNeg) 0), σ.2)))) else (if f_X11_in (Int32.toInt64 c) 65 67 = true then (1, ((bz_up (bz_up (bz_up σ.1 38 ((σ.1 32 13).toNatClampNeg) 0) 39 ((σ.1 32 13).toNatClampNeg) 0) 40 ((σ.1 32 13).toNatClampNeg) 0), σ.2)) else (if c = 126 then (f_X11_begin_32_b σ c (f_X11_close_32 ((bz_up (bz_up (bz_up σ.1 38 ((σ.1 32 13).toNatClampNeg) 0) 39 ((σ.1 32 13).toNatClampNeg) 0) 40 ((σ.1 32 13).toNatClampNeg) 0), σ.2) 2)) else (if c = 46 then (f_X11_begin_32_a σ c (f_X11_close_32 ((bz_up (bz_up (bz_up σ.1 38 ((σ.1 32 13).toNatClampNeg) 0) 39 ((σ.1 32 13).toNatClampNeg) 0) 40 ((σ.1 32 13).toNatClampNeg) 0), σ.2) 3)) else ((-6), ((bz_up (bz_up (bz_up σ.1 38 ((σ.1 32 13).toNatClampNeg) 0) 39 ((σ.1 32 13).toNatClampNeg) 0) 40 ((σ.1 32 13).toNatClampNeg) 0), σ.2)))))
set_option maxRecDepth 100000 in
theorem s_X11_begin_32 {X : bz_X} (σ : bz_S) (c : Int32) (ha : vp_in (σ.1 32 13) 60) : bz_C bz_P X mX11_begin [.ref 32, .int c] σ (bz_pi (f_X11_begin_32 σ c).1 (f_X11_begin_32 σ c).2) := by
  show bz_wp bz_P X mX11_begin (bz_pi (f_X11_begin_32 σ c).1 (f_X11_begin_32 σ c).2) (0, [some (.ref 32), some (.int c), none], [], σ)
  refine bz_wpn bT_X11_begin 4 (b := (8, [some (.ref 32), some (.int c), none], [.long 67, .long 65, .long (Int32.toInt64 c)], σ)) (G := True) rfl trivial ?_
  refine bz_wci bT_X11_begin [.long (Int32.toInt64 c), .long 65, .long 67] (pc' := 11) (rest := []) rfl rfl (Nat.le_of_ble_eq_true rfl) rfl (Nat.le_of_ble_eq_true rfl) rfl (s_X11_in σ (Int32.toInt64 c) 65 67) rfl ?_
  refine bz_wpb bT_X11_begin 7 (b1 := (31, [some (.ref 32), some (.int c), some (.int (bz_b (f_X11_in (Int32.toInt64 c) 65 67)))], [.int (σ.1 32 13), .ref 38], σ)) (b2 := (24, [some (.ref 32), some (.int c), some (.int (bz_b (f_X11_in (Int32.toInt64 c) 65 67)))], [.int (σ.1 32 13), .ref 38], σ)) (C := bz_b (f_X11_in (Int32.toInt64 c) 65 67) = 0) (G := True) rfl trivial (fun h1 => ?_) (fun h1 => ?_)
  · skip
    have h1 := bz_b0 h1
    refine bz_wpn bT_X11_begin 7 (b := (42, [some (.ref 32), some (.int c), some (.int (bz_b (f_X11_in (Int32.toInt64 c) 65 67)))], [.int 0, .int (σ.1 32 13), .ref 39], ((bz_up σ.1 38 ((σ.1 32 13).toNatClampNeg) 0), σ.2))) (G := vp_in (σ.1 32 13) 60 ∧ True) rfl ⟨ha, trivial⟩ ?_
    refine bz_wpn bT_X11_begin 6 (b := (52, [some (.ref 32), some (.int c), some (.int (bz_b (f_X11_in (Int32.toInt64 c) 65 67)))], [.int 0, .int (σ.1 32 13), .ref 40], ((bz_up (bz_up σ.1 38 ((σ.1 32 13).toNatClampNeg) 0) 39 ((σ.1 32 13).toNatClampNeg) 0), σ.2))) (G := vp_in (σ.1 32 13) 60 ∧ True) rfl ⟨ha, trivial⟩ ?_
    refine bz_wpb bT_X11_begin 3 (b1 := (61, [some (.ref 32), some (.int c), some (.int (bz_b (f_X11_in (Int32.toInt64 c) 65 67)))], [], ((bz_up (bz_up (bz_up σ.1 38 ((σ.1 32 13).toNatClampNeg) 0) 39 ((σ.1 32 13).toNatClampNeg) 0) 40 ((σ.1 32 13).toNatClampNeg) 0), σ.2))) (b2 := (57, [some (.ref 32), some (.int c), some (.int (bz_b (f_X11_in (Int32.toInt64 c) 65 67)))], [], ((bz_up (bz_up (bz_up σ.1 38 ((σ.1 32 13).toNatClampNeg) 0) 39 ((σ.1 32 13).toNatClampNeg) 0) 40 ((σ.1 32 13).toNatClampNeg) 0), σ.2))) (C := bz_b (f_X11_in (Int32.toInt64 c) 65 67) = 0) (G := vp_in (σ.1 32 13) 60 ∧ True) rfl ⟨ha, trivial⟩ (fun h2 => ?_) (fun h2 => ?_)
    · skip
      have h2 := bz_b0 h2
      refine bz_wpb bT_X11_begin 3 (b1 := (75, [some (.ref 32), some (.int c), some (.int (bz_b (f_X11_in (Int32.toInt64 c) 65 67)))], [], ((bz_up (bz_up (bz_up σ.1 38 ((σ.1 32 13).toNatClampNeg) 0) 39 ((σ.1 32 13).toNatClampNeg) 0) 40 ((σ.1 32 13).toNatClampNeg) 0), σ.2))) (b2 := (67, [some (.ref 32), some (.int c), some (.int (bz_b (f_X11_in (Int32.toInt64 c) 65 67)))], [], ((bz_up (bz_up (bz_up σ.1 38 ((σ.1 32 13).toNatClampNeg) 0) 39 ((σ.1 32 13).toNatClampNeg) 0) 40 ((σ.1 32 13).toNatClampNeg) 0), σ.2))) (C := ¬ c = 126) (G := True) rfl trivial (fun h3 => ?_) (fun h3 => ?_)
      · skip
        refine bz_wpb bT_X11_begin 3 (b1 := (89, [some (.ref 32), some (.int c), some (.int (bz_b (f_X11_in (Int32.toInt64 c) 65 67)))], [], ((bz_up (bz_up (bz_up σ.1 38 ((σ.1 32 13).toNatClampNeg) 0) 39 ((σ.1 32 13).toNatClampNeg) 0) 40 ((σ.1 32 13).toNatClampNeg) 0), σ.2))) (b2 := (81, [some (.ref 32), some (.int c), some (.int (bz_b (f_X11_in (Int32.toInt64 c) 65 67)))], [], ((bz_up (bz_up (bz_up σ.1 38 ((σ.1 32 13).toNatClampNeg) 0) 39 ((σ.1 32 13).toNatClampNeg) 0) 40 ((σ.1 32 13).toNatClampNeg) 0), σ.2))) (C := ¬ c = 46) (G := True) rfl trivial (fun h4 => ?_) (fun h4 => ?_)
        · skip
          refine bz_wpn bT_X11_begin 1 (b := (91, [some (.ref 32), some (.int c), some (.int (bz_b (f_X11_in (Int32.toInt64 c) 65 67)))], [.int (-6)], ((bz_up (bz_up (bz_up σ.1 38 ((σ.1 32 13).toNatClampNeg) 0) 39 ((σ.1 32 13).toNatClampNeg) 0) 40 ((σ.1 32 13).toNatClampNeg) 0), σ.2))) (G := True) rfl trivial ?_
          refine bz_wpr bT_X11_begin rfl rfl trivial ?_
          have e9 : f_X11_begin_32 σ c = ((-6), ((bz_up (bz_up (bz_up σ.1 38 ((σ.1 32 13).toNatClampNeg) 0) 39 ((σ.1 32 13).toNatClampNeg) 0) 40 ((σ.1 32 13).toNatClampNeg) 0), σ.2)) := by rw [f_X11_begin_32, if_neg (bz_ff h1), if_neg (bz_ff h2), if_neg (h3), if_neg (h4)]
          exact ⟨by rw [e9], by rw [e9]⟩
        · skip
          refine bz_wpn bT_X11_begin 2 (b := (83, [some (.ref 32), some (.int c), some (.int (bz_b (f_X11_in (Int32.toInt64 c) 65 67)))], [.int 3, .ref 32], ((bz_up (bz_up (bz_up σ.1 38 ((σ.1 32 13).toNatClampNeg) 0) 39 ((σ.1 32 13).toNatClampNeg) 0) 40 ((σ.1 32 13).toNatClampNeg) 0), σ.2))) (G := True) rfl trivial ?_
          refine bz_wci bT_X11_begin [.ref 32, .int 3] (pc' := 86) (rest := []) rfl rfl (Nat.le_of_ble_eq_true rfl) rfl (Nat.le_of_ble_eq_true rfl) rfl (s_X11_close_32 ((bz_up (bz_up (bz_up σ.1 38 ((σ.1 32 13).toNatClampNeg) 0) 39 ((σ.1 32 13).toNatClampNeg) 0) 40 ((σ.1 32 13).toNatClampNeg) 0), σ.2) 3 ha) rfl ?_
          generalize hτ1 : f_X11_close_32 ((bz_up (bz_up (bz_up σ.1 38 ((σ.1 32 13).toNatClampNeg) 0) 39 ((σ.1 32 13).toNatClampNeg) 0) 40 ((σ.1 32 13).toNatClampNeg) 0), σ.2) 3 = τ1
          refine bz_wpn bT_X11_begin 1 (b := (91, [some (.ref 32), some (.int c), some (.int (bz_b (f_X11_in (Int32.toInt64 c) 65 67)))], [.int τ1.1], τ1.2)) (G := True) rfl trivial ?_
          refine bz_wpr bT_X11_begin rfl rfl trivial ?_
          have e9 : f_X11_begin_32 σ c = (τ1.1, τ1.2) := by rw [f_X11_begin_32, if_neg (bz_ff h1), if_neg (bz_ff h2), if_neg (h3), if_pos ((Decidable.not_not.mp h4)), hτ1, f_X11_begin_32_a]
          exact ⟨by rw [e9], by rw [e9]⟩
      · skip
        refine bz_wpn bT_X11_begin 2 (b := (69, [some (.ref 32), some (.int c), some (.int (bz_b (f_X11_in (Int32.toInt64 c) 65 67)))], [.int 2, .ref 32], ((bz_up (bz_up (bz_up σ.1 38 ((σ.1 32 13).toNatClampNeg) 0) 39 ((σ.1 32 13).toNatClampNeg) 0) 40 ((σ.1 32 13).toNatClampNeg) 0), σ.2))) (G := True) rfl trivial ?_
        refine bz_wci bT_X11_begin [.ref 32, .int 2] (pc' := 72) (rest := []) rfl rfl (Nat.le_of_ble_eq_true rfl) rfl (Nat.le_of_ble_eq_true rfl) rfl (s_X11_close_32 ((bz_up (bz_up (bz_up σ.1 38 ((σ.1 32 13).toNatClampNeg) 0) 39 ((σ.1 32 13).toNatClampNeg) 0) 40 ((σ.1 32 13).toNatClampNeg) 0), σ.2) 2 ha) rfl ?_
        generalize hτ2 : f_X11_close_32 ((bz_up (bz_up (bz_up σ.1 38 ((σ.1 32 13).toNatClampNeg) 0) 39 ((σ.1 32 13).toNatClampNeg) 0) 40 ((σ.1 32 13).toNatClampNeg) 0), σ.2) 2 = τ2
        refine bz_wpn bT_X11_begin 1 (b := (91, [some (.ref 32), some (.int c), some (.int (bz_b (f_X11_in (Int32.toInt64 c) 65 67)))], [.int τ2.1], τ2.2)) (G := True) rfl trivial ?_
        refine bz_wpr bT_X11_begin rfl rfl trivial ?_
        have e9 : f_X11_begin_32 σ c = (τ2.1, τ2.2) := by rw [f_X11_begin_32, if_neg (bz_ff h1), if_neg (bz_ff h2), if_pos ((Decidable.not_not.mp h3)), hτ2, f_X11_begin_32_b]
        exact ⟨by rw [e9], by rw [e9]⟩
    · skip
      have h2 := bz_b1 h2
      refine bz_wpn bT_X11_begin 2 (b := (91, [some (.ref 32), some (.int c), some (.int (bz_b (f_X11_in (Int32.toInt64 c) 65 67)))], [.int 1], ((bz_up (bz_up (bz_up σ.1 38 ((σ.1 32 13).toNatClampNeg) 0) 39 ((σ.1 32 13).toNatClampNeg) 0) 40 ((σ.1 32 13).toNatClampNeg) 0), σ.2))) (G := True) rfl trivial ?_
      refine bz_wpr bT_X11_begin rfl rfl trivial ?_
      have e9 : f_X11_begin_32 σ c = (1, ((bz_up (bz_up (bz_up σ.1 38 ((σ.1 32 13).toNatClampNeg) 0) 39 ((σ.1 32 13).toNatClampNeg) 0) 40 ((σ.1 32 13).toNatClampNeg) 0), σ.2)) := by rw [f_X11_begin_32, if_neg (bz_ff h1), if_pos (h2)]
      exact ⟨by rw [e9], by rw [e9]⟩
  · skip
    have h1 := bz_b1 h1
    refine bz_wpn bT_X11_begin 10 (b := (42, [some (.ref 32), some (.int c), some (.int (bz_b (f_X11_in (Int32.toInt64 c) 65 67)))], [.int 0, .int (σ.1 32 13), .ref 39], ((bz_up σ.1 38 ((σ.1 32 13).toNatClampNeg) (c - 65)), σ.2))) (G := vp_in (σ.1 32 13) 60 ∧ True) rfl ⟨ha, trivial⟩ ?_
    refine bz_wpn bT_X11_begin 6 (b := (52, [some (.ref 32), some (.int c), some (.int (bz_b (f_X11_in (Int32.toInt64 c) 65 67)))], [.int 0, .int (σ.1 32 13), .ref 40], ((bz_up (bz_up σ.1 38 ((σ.1 32 13).toNatClampNeg) (c - 65)) 39 ((σ.1 32 13).toNatClampNeg) 0), σ.2))) (G := vp_in (σ.1 32 13) 60 ∧ True) rfl ⟨ha, trivial⟩ ?_
    refine bz_wpb bT_X11_begin 3 (b1 := (61, [some (.ref 32), some (.int c), some (.int (bz_b (f_X11_in (Int32.toInt64 c) 65 67)))], [], ((bz_up (bz_up (bz_up σ.1 38 ((σ.1 32 13).toNatClampNeg) (c - 65)) 39 ((σ.1 32 13).toNatClampNeg) 0) 40 ((σ.1 32 13).toNatClampNeg) 0), σ.2))) (b2 := (57, [some (.ref 32), some (.int c), some (.int (bz_b (f_X11_in (Int32.toInt64 c) 65 67)))], [], ((bz_up (bz_up (bz_up σ.1 38 ((σ.1 32 13).toNatClampNeg) (c - 65)) 39 ((σ.1 32 13).toNatClampNeg) 0) 40 ((σ.1 32 13).toNatClampNeg) 0), σ.2))) (C := bz_b (f_X11_in (Int32.toInt64 c) 65 67) = 0) (G := vp_in (σ.1 32 13) 60 ∧ True) rfl ⟨ha, trivial⟩ (fun h5 => ?_) (fun h5 => ?_)
    · skip
      have h5 := bz_b0 h5
      refine bz_wpb bT_X11_begin 3 (b1 := (75, [some (.ref 32), some (.int c), some (.int (bz_b (f_X11_in (Int32.toInt64 c) 65 67)))], [], ((bz_up (bz_up (bz_up σ.1 38 ((σ.1 32 13).toNatClampNeg) (c - 65)) 39 ((σ.1 32 13).toNatClampNeg) 0) 40 ((σ.1 32 13).toNatClampNeg) 0), σ.2))) (b2 := (67, [some (.ref 32), some (.int c), some (.int (bz_b (f_X11_in (Int32.toInt64 c) 65 67)))], [], ((bz_up (bz_up (bz_up σ.1 38 ((σ.1 32 13).toNatClampNeg) (c - 65)) 39 ((σ.1 32 13).toNatClampNeg) 0) 40 ((σ.1 32 13).toNatClampNeg) 0), σ.2))) (C := ¬ c = 126) (G := True) rfl trivial (fun h6 => ?_) (fun h6 => ?_)
      · skip
        refine bz_wpb bT_X11_begin 3 (b1 := (89, [some (.ref 32), some (.int c), some (.int (bz_b (f_X11_in (Int32.toInt64 c) 65 67)))], [], ((bz_up (bz_up (bz_up σ.1 38 ((σ.1 32 13).toNatClampNeg) (c - 65)) 39 ((σ.1 32 13).toNatClampNeg) 0) 40 ((σ.1 32 13).toNatClampNeg) 0), σ.2))) (b2 := (81, [some (.ref 32), some (.int c), some (.int (bz_b (f_X11_in (Int32.toInt64 c) 65 67)))], [], ((bz_up (bz_up (bz_up σ.1 38 ((σ.1 32 13).toNatClampNeg) (c - 65)) 39 ((σ.1 32 13).toNatClampNeg) 0) 40 ((σ.1 32 13).toNatClampNeg) 0), σ.2))) (C := ¬ c = 46) (G := True) rfl trivial (fun h7 => ?_) (fun h7 => ?_)
        · skip
          refine bz_wpn bT_X11_begin 1 (b := (91, [some (.ref 32), some (.int c), some (.int (bz_b (f_X11_in (Int32.toInt64 c) 65 67)))], [.int (-6)], ((bz_up (bz_up (bz_up σ.1 38 ((σ.1 32 13).toNatClampNeg) (c - 65)) 39 ((σ.1 32 13).toNatClampNeg) 0) 40 ((σ.1 32 13).toNatClampNeg) 0), σ.2))) (G := True) rfl trivial ?_
          refine bz_wpr bT_X11_begin rfl rfl trivial ?_
          have e9 : f_X11_begin_32 σ c = ((-6), ((bz_up (bz_up (bz_up σ.1 38 ((σ.1 32 13).toNatClampNeg) (c - 65)) 39 ((σ.1 32 13).toNatClampNeg) 0) 40 ((σ.1 32 13).toNatClampNeg) 0), σ.2)) := by rw [f_X11_begin_32, if_pos (h1), if_neg (bz_ff h5), if_neg (h6), if_neg (h7)]
          exact ⟨by rw [e9], by rw [e9]⟩
        · skip
          refine bz_wpn bT_X11_begin 2 (b := (83, [some (.ref 32), some (.int c), some (.int (bz_b (f_X11_in (Int32.toInt64 c) 65 67)))], [.int 3, .ref 32], ((bz_up (bz_up (bz_up σ.1 38 ((σ.1 32 13).toNatClampNeg) (c - 65)) 39 ((σ.1 32 13).toNatClampNeg) 0) 40 ((σ.1 32 13).toNatClampNeg) 0), σ.2))) (G := True) rfl trivial ?_
          refine bz_wci bT_X11_begin [.ref 32, .int 3] (pc' := 86) (rest := []) rfl rfl (Nat.le_of_ble_eq_true rfl) rfl (Nat.le_of_ble_eq_true rfl) rfl (s_X11_close_32 ((bz_up (bz_up (bz_up σ.1 38 ((σ.1 32 13).toNatClampNeg) (c - 65)) 39 ((σ.1 32 13).toNatClampNeg) 0) 40 ((σ.1 32 13).toNatClampNeg) 0), σ.2) 3 ha) rfl ?_
          generalize hτ3 : f_X11_close_32 ((bz_up (bz_up (bz_up σ.1 38 ((σ.1 32 13).toNatClampNeg) (c - 65)) 39 ((σ.1 32 13).toNatClampNeg) 0) 40 ((σ.1 32 13).toNatClampNeg) 0), σ.2) 3 = τ3
          refine bz_wpn bT_X11_begin 1 (b := (91, [some (.ref 32), some (.int c), some (.int (bz_b (f_X11_in (Int32.toInt64 c) 65 67)))], [.int τ3.1], τ3.2)) (G := True) rfl trivial ?_
          refine bz_wpr bT_X11_begin rfl rfl trivial ?_
          have e9 : f_X11_begin_32 σ c = (τ3.1, τ3.2) := by rw [f_X11_begin_32, if_pos (h1), if_neg (bz_ff h5), if_neg (h6), if_pos ((Decidable.not_not.mp h7)), hτ3, f_X11_begin_32_c]
          exact ⟨by rw [e9], by rw [e9]⟩
      · skip
        refine bz_wpn bT_X11_begin 2 (b := (69, [some (.ref 32), some (.int c), some (.int (bz_b (f_X11_in (Int32.toInt64 c) 65 67)))], [.int 2, .ref 32], ((bz_up (bz_up (bz_up σ.1 38 ((σ.1 32 13).toNatClampNeg) (c - 65)) 39 ((σ.1 32 13).toNatClampNeg) 0) 40 ((σ.1 32 13).toNatClampNeg) 0), σ.2))) (G := True) rfl trivial ?_
        refine bz_wci bT_X11_begin [.ref 32, .int 2] (pc' := 72) (rest := []) rfl rfl (Nat.le_of_ble_eq_true rfl) rfl (Nat.le_of_ble_eq_true rfl) rfl (s_X11_close_32 ((bz_up (bz_up (bz_up σ.1 38 ((σ.1 32 13).toNatClampNeg) (c - 65)) 39 ((σ.1 32 13).toNatClampNeg) 0) 40 ((σ.1 32 13).toNatClampNeg) 0), σ.2) 2 ha) rfl ?_
        generalize hτ4 : f_X11_close_32 ((bz_up (bz_up (bz_up σ.1 38 ((σ.1 32 13).toNatClampNeg) (c - 65)) 39 ((σ.1 32 13).toNatClampNeg) 0) 40 ((σ.1 32 13).toNatClampNeg) 0), σ.2) 2 = τ4
        refine bz_wpn bT_X11_begin 1 (b := (91, [some (.ref 32), some (.int c), some (.int (bz_b (f_X11_in (Int32.toInt64 c) 65 67)))], [.int τ4.1], τ4.2)) (G := True) rfl trivial ?_
        refine bz_wpr bT_X11_begin rfl rfl trivial ?_
        have e9 : f_X11_begin_32 σ c = (τ4.1, τ4.2) := by rw [f_X11_begin_32, if_pos (h1), if_neg (bz_ff h5), if_pos ((Decidable.not_not.mp h6)), hτ4, f_X11_begin_32_d]
        exact ⟨by rw [e9], by rw [e9]⟩
    · skip
      have h5 := bz_b1 h5
      refine bz_wpn bT_X11_begin 2 (b := (91, [some (.ref 32), some (.int c), some (.int (bz_b (f_X11_in (Int32.toInt64 c) 65 67)))], [.int 1], ((bz_up (bz_up (bz_up σ.1 38 ((σ.1 32 13).toNatClampNeg) (c - 65)) 39 ((σ.1 32 13).toNatClampNeg) 0) 40 ((σ.1 32 13).toNatClampNeg) 0), σ.2))) (G := True) rfl trivial ?_
      refine bz_wpr bT_X11_begin rfl rfl trivial ?_
      have e9 : f_X11_begin_32 σ c = (1, ((bz_up (bz_up (bz_up σ.1 38 ((σ.1 32 13).toNatClampNeg) (c - 65)) 39 ((σ.1 32 13).toNatClampNeg) 0) 40 ((σ.1 32 13).toNatClampNeg) 0), σ.2)) := by rw [f_X11_begin_32, if_pos (h1), if_pos (h5)]
      exact ⟨by rw [e9], by rw [e9]⟩
theorem rf_X11_begin_32_d (σ : bz_S) (c : Int32) (τ4 : Int32 × bz_S) (fτ4 : bz_fr [32, 37, 38, 39, 40] σ τ4.2) : bz_fr [32, 37, 38, 39, 40] σ (f_X11_begin_32_d σ c τ4).2 := by
  unfold f_X11_begin_32_d
  exact fτ4
theorem rf_X11_begin_32_c (σ : bz_S) (c : Int32) (τ3 : Int32 × bz_S) (fτ3 : bz_fr [32, 37, 38, 39, 40] σ τ3.2) : bz_fr [32, 37, 38, 39, 40] σ (f_X11_begin_32_c σ c τ3).2 := by
  unfold f_X11_begin_32_c
  exact fτ3
theorem rf_X11_begin_32_b (σ : bz_S) (c : Int32) (τ2 : Int32 × bz_S) (fτ2 : bz_fr [32, 37, 38, 39, 40] σ τ2.2) : bz_fr [32, 37, 38, 39, 40] σ (f_X11_begin_32_b σ c τ2).2 := by
  unfold f_X11_begin_32_b
  exact fτ2
theorem rf_X11_begin_32_a (σ : bz_S) (c : Int32) (τ1 : Int32 × bz_S) (fτ1 : bz_fr [32, 37, 38, 39, 40] σ τ1.2) : bz_fr [32, 37, 38, 39, 40] σ (f_X11_begin_32_a σ c τ1).2 := by
  unfold f_X11_begin_32_a
  exact fτ1
theorem rf_X11_begin_32 (σ : bz_S) (c : Int32) : bz_fr [32, 37, 38, 39, 40] σ (f_X11_begin_32 σ c).2 := by
  unfold f_X11_begin_32
  exact (bz_ite2 (bz_ite2 ⟨(bz_f1_up (bz_f1_up (bz_f1_up (bz_fr_rf).1 (by decide)) (by decide)) (by decide)), (bz_fr_rf).2⟩ (bz_ite2 (rf_X11_begin_32_d σ c (f_X11_close_32 ((bz_up (bz_up (bz_up σ.1 38 ((σ.1 32 13).toNatClampNeg) (c - 65)) 39 ((σ.1 32 13).toNatClampNeg) 0) 40 ((σ.1 32 13).toNatClampNeg) 0), σ.2) 2) (bz_fr_tr (τ := ((bz_up (bz_up (bz_up σ.1 38 ((σ.1 32 13).toNatClampNeg) (c - 65)) 39 ((σ.1 32 13).toNatClampNeg) 0) 40 ((σ.1 32 13).toNatClampNeg) 0), σ.2)) ⟨(bz_f1_up (bz_f1_up (bz_f1_up (bz_fr_rf).1 (by decide)) (by decide)) (by decide)), (bz_fr_rf).2⟩ (bz_fr_mo (rf_X11_close_32 ((bz_up (bz_up (bz_up σ.1 38 ((σ.1 32 13).toNatClampNeg) (c - 65)) 39 ((σ.1 32 13).toNatClampNeg) 0) 40 ((σ.1 32 13).toNatClampNeg) 0), σ.2) 2) (by decide)))) (bz_ite2 (rf_X11_begin_32_c σ c (f_X11_close_32 ((bz_up (bz_up (bz_up σ.1 38 ((σ.1 32 13).toNatClampNeg) (c - 65)) 39 ((σ.1 32 13).toNatClampNeg) 0) 40 ((σ.1 32 13).toNatClampNeg) 0), σ.2) 3) (bz_fr_tr (τ := ((bz_up (bz_up (bz_up σ.1 38 ((σ.1 32 13).toNatClampNeg) (c - 65)) 39 ((σ.1 32 13).toNatClampNeg) 0) 40 ((σ.1 32 13).toNatClampNeg) 0), σ.2)) ⟨(bz_f1_up (bz_f1_up (bz_f1_up (bz_fr_rf).1 (by decide)) (by decide)) (by decide)), (bz_fr_rf).2⟩ (bz_fr_mo (rf_X11_close_32 ((bz_up (bz_up (bz_up σ.1 38 ((σ.1 32 13).toNatClampNeg) (c - 65)) 39 ((σ.1 32 13).toNatClampNeg) 0) 40 ((σ.1 32 13).toNatClampNeg) 0), σ.2) 3) (by decide)))) ⟨(bz_f1_up (bz_f1_up (bz_f1_up (bz_fr_rf).1 (by decide)) (by decide)) (by decide)), (bz_fr_rf).2⟩))) (bz_ite2 ⟨(bz_f1_up (bz_f1_up (bz_f1_up (bz_fr_rf).1 (by decide)) (by decide)) (by decide)), (bz_fr_rf).2⟩ (bz_ite2 (rf_X11_begin_32_b σ c (f_X11_close_32 ((bz_up (bz_up (bz_up σ.1 38 ((σ.1 32 13).toNatClampNeg) 0) 39 ((σ.1 32 13).toNatClampNeg) 0) 40 ((σ.1 32 13).toNatClampNeg) 0), σ.2) 2) (bz_fr_tr (τ := ((bz_up (bz_up (bz_up σ.1 38 ((σ.1 32 13).toNatClampNeg) 0) 39 ((σ.1 32 13).toNatClampNeg) 0) 40 ((σ.1 32 13).toNatClampNeg) 0), σ.2)) ⟨(bz_f1_up (bz_f1_up (bz_f1_up (bz_fr_rf).1 (by decide)) (by decide)) (by decide)), (bz_fr_rf).2⟩ (bz_fr_mo (rf_X11_close_32 ((bz_up (bz_up (bz_up σ.1 38 ((σ.1 32 13).toNatClampNeg) 0) 39 ((σ.1 32 13).toNatClampNeg) 0) 40 ((σ.1 32 13).toNatClampNeg) 0), σ.2) 2) (by decide)))) (bz_ite2 (rf_X11_begin_32_a σ c (f_X11_close_32 ((bz_up (bz_up (bz_up σ.1 38 ((σ.1 32 13).toNatClampNeg) 0) 39 ((σ.1 32 13).toNatClampNeg) 0) 40 ((σ.1 32 13).toNatClampNeg) 0), σ.2) 3) (bz_fr_tr (τ := ((bz_up (bz_up (bz_up σ.1 38 ((σ.1 32 13).toNatClampNeg) 0) 39 ((σ.1 32 13).toNatClampNeg) 0) 40 ((σ.1 32 13).toNatClampNeg) 0), σ.2)) ⟨(bz_f1_up (bz_f1_up (bz_f1_up (bz_fr_rf).1 (by decide)) (by decide)) (by decide)), (bz_fr_rf).2⟩ (bz_fr_mo (rf_X11_close_32 ((bz_up (bz_up (bz_up σ.1 38 ((σ.1 32 13).toNatClampNeg) 0) 39 ((σ.1 32 13).toNatClampNeg) 0) 40 ((σ.1 32 13).toNatClampNeg) 0), σ.2) 3) (by decide)))) ⟨(bz_f1_up (bz_f1_up (bz_f1_up (bz_fr_rf).1 (by decide)) (by decide)) (by decide)), (bz_fr_rf).2⟩))))
theorem qf_X11_begin_32_d (σ : bz_S) (c : Int32) (τ4 : Int32 × bz_S) (fτ4 : bz_fo [13] σ τ4.2) : bz_fo [13] σ (f_X11_begin_32_d σ c τ4).2 := by
  unfold f_X11_begin_32_d
  exact fτ4
theorem qf_X11_begin_32_c (σ : bz_S) (c : Int32) (τ3 : Int32 × bz_S) (fτ3 : bz_fo [13] σ τ3.2) : bz_fo [13] σ (f_X11_begin_32_c σ c τ3).2 := by
  unfold f_X11_begin_32_c
  exact fτ3
theorem qf_X11_begin_32_b (σ : bz_S) (c : Int32) (τ2 : Int32 × bz_S) (fτ2 : bz_fo [13] σ τ2.2) : bz_fo [13] σ (f_X11_begin_32_b σ c τ2).2 := by
  unfold f_X11_begin_32_b
  exact fτ2
theorem qf_X11_begin_32_a (σ : bz_S) (c : Int32) (τ1 : Int32 × bz_S) (fτ1 : bz_fo [13] σ τ1.2) : bz_fo [13] σ (f_X11_begin_32_a σ c τ1).2 := by
  unfold f_X11_begin_32_a
  exact fτ1
theorem qf_X11_begin_32 (σ : bz_S) (c : Int32) : bz_fo [13] σ (f_X11_begin_32 σ c).2 := by
  unfold f_X11_begin_32
  exact (bz_ite2 (bz_ite2 (bz_fo_no (f := _) (bz_fo_no (f := _) (bz_fo_no (f := _) bz_fo_rf (by decide)) (by decide)) (by decide)) (bz_ite2 (qf_X11_begin_32_d σ c (f_X11_close_32 ((bz_up (bz_up (bz_up σ.1 38 ((σ.1 32 13).toNatClampNeg) (c - 65)) 39 ((σ.1 32 13).toNatClampNeg) 0) 40 ((σ.1 32 13).toNatClampNeg) 0), σ.2) 2) (bz_fo_tr (τ := ((bz_up (bz_up (bz_up σ.1 38 ((σ.1 32 13).toNatClampNeg) (c - 65)) 39 ((σ.1 32 13).toNatClampNeg) 0) 40 ((σ.1 32 13).toNatClampNeg) 0), σ.2)) (bz_fo_no (f := _) (bz_fo_no (f := _) (bz_fo_no (f := _) bz_fo_rf (by decide)) (by decide)) (by decide)) (bz_fo_mo (qf_X11_close_32 ((bz_up (bz_up (bz_up σ.1 38 ((σ.1 32 13).toNatClampNeg) (c - 65)) 39 ((σ.1 32 13).toNatClampNeg) 0) 40 ((σ.1 32 13).toNatClampNeg) 0), σ.2) 2) (by decide)))) (bz_ite2 (qf_X11_begin_32_c σ c (f_X11_close_32 ((bz_up (bz_up (bz_up σ.1 38 ((σ.1 32 13).toNatClampNeg) (c - 65)) 39 ((σ.1 32 13).toNatClampNeg) 0) 40 ((σ.1 32 13).toNatClampNeg) 0), σ.2) 3) (bz_fo_tr (τ := ((bz_up (bz_up (bz_up σ.1 38 ((σ.1 32 13).toNatClampNeg) (c - 65)) 39 ((σ.1 32 13).toNatClampNeg) 0) 40 ((σ.1 32 13).toNatClampNeg) 0), σ.2)) (bz_fo_no (f := _) (bz_fo_no (f := _) (bz_fo_no (f := _) bz_fo_rf (by decide)) (by decide)) (by decide)) (bz_fo_mo (qf_X11_close_32 ((bz_up (bz_up (bz_up σ.1 38 ((σ.1 32 13).toNatClampNeg) (c - 65)) 39 ((σ.1 32 13).toNatClampNeg) 0) 40 ((σ.1 32 13).toNatClampNeg) 0), σ.2) 3) (by decide)))) (bz_fo_no (f := _) (bz_fo_no (f := _) (bz_fo_no (f := _) bz_fo_rf (by decide)) (by decide)) (by decide))))) (bz_ite2 (bz_fo_no (f := _) (bz_fo_no (f := _) (bz_fo_no (f := _) bz_fo_rf (by decide)) (by decide)) (by decide)) (bz_ite2 (qf_X11_begin_32_b σ c (f_X11_close_32 ((bz_up (bz_up (bz_up σ.1 38 ((σ.1 32 13).toNatClampNeg) 0) 39 ((σ.1 32 13).toNatClampNeg) 0) 40 ((σ.1 32 13).toNatClampNeg) 0), σ.2) 2) (bz_fo_tr (τ := ((bz_up (bz_up (bz_up σ.1 38 ((σ.1 32 13).toNatClampNeg) 0) 39 ((σ.1 32 13).toNatClampNeg) 0) 40 ((σ.1 32 13).toNatClampNeg) 0), σ.2)) (bz_fo_no (f := _) (bz_fo_no (f := _) (bz_fo_no (f := _) bz_fo_rf (by decide)) (by decide)) (by decide)) (bz_fo_mo (qf_X11_close_32 ((bz_up (bz_up (bz_up σ.1 38 ((σ.1 32 13).toNatClampNeg) 0) 39 ((σ.1 32 13).toNatClampNeg) 0) 40 ((σ.1 32 13).toNatClampNeg) 0), σ.2) 2) (by decide)))) (bz_ite2 (qf_X11_begin_32_a σ c (f_X11_close_32 ((bz_up (bz_up (bz_up σ.1 38 ((σ.1 32 13).toNatClampNeg) 0) 39 ((σ.1 32 13).toNatClampNeg) 0) 40 ((σ.1 32 13).toNatClampNeg) 0), σ.2) 3) (bz_fo_tr (τ := ((bz_up (bz_up (bz_up σ.1 38 ((σ.1 32 13).toNatClampNeg) 0) 39 ((σ.1 32 13).toNatClampNeg) 0) 40 ((σ.1 32 13).toNatClampNeg) 0), σ.2)) (bz_fo_no (f := _) (bz_fo_no (f := _) (bz_fo_no (f := _) bz_fo_rf (by decide)) (by decide)) (by decide)) (bz_fo_mo (qf_X11_close_32 ((bz_up (bz_up (bz_up σ.1 38 ((σ.1 32 13).toNatClampNeg) 0) 39 ((σ.1 32 13).toNatClampNeg) 0) 40 ((σ.1 32 13).toNatClampNeg) 0), σ.2) 3) (by decide)))) (bz_fo_no (f := _) (bz_fo_no (f := _) (bz_fo_no (f := _) bz_fo_rf (by decide)) (by decide)) (by decide))))))

def f_X11_deed_32_a (σ : bz_S) (c : Int32) (τ1 : Int32 × bz_S) : Int32 × bz_S := (τ1.1, τ1.2)
def f_X11_deed_32 (σ : bz_S) (c : Int32) : Int32 × bz_S := if c = 94 then (f_X11_deed_32_a σ c (f_X11_close_32 σ 1)) else (if f_X11_in (Int32.toInt64 c) 48 55 = true then (2, ((bz_up σ.1 39 ((σ.1 32 13).toNatClampNeg) (c - 48)), σ.2)) else ((-6), ((bz_up σ.1 39 ((σ.1 32 13).toNatClampNeg) (c - 48)), σ.2)))
set_option maxRecDepth 100000 in
theorem s_X11_deed_32 {X : bz_X} (σ : bz_S) (c : Int32) (ha : vp_in (σ.1 32 13) 60) : bz_C bz_P X mX11_deed [.ref 32, .int c] σ (bz_pi (f_X11_deed_32 σ c).1 (f_X11_deed_32 σ c).2) := by
  show bz_wp bz_P X mX11_deed (bz_pi (f_X11_deed_32 σ c).1 (f_X11_deed_32 σ c).2) (0, [some (.ref 32), some (.int c)], [], σ)
  refine bz_wpb bT_X11_deed 3 (b1 := (12, [some (.ref 32), some (.int c)], [], σ)) (b2 := (6, [some (.ref 32), some (.int c)], [], σ)) (C := ¬ c = 94) (G := True) rfl trivial (fun h1 => ?_) (fun h1 => ?_)
  · skip
    refine bz_wpn bT_X11_deed 12 (b := (33, [some (.ref 32), some (.int c)], [.long 55, .long 48, .long (Int32.toInt64 c)], ((bz_up σ.1 39 ((σ.1 32 13).toNatClampNeg) (c - 48)), σ.2))) (G := vp_in (σ.1 32 13) 60 ∧ True) rfl ⟨ha, trivial⟩ ?_
    refine bz_wci bT_X11_deed [.long (Int32.toInt64 c), .long 48, .long 55] (pc' := 36) (rest := []) rfl rfl (Nat.le_of_ble_eq_true rfl) rfl (Nat.le_of_ble_eq_true rfl) rfl (s_X11_in ((bz_up σ.1 39 ((σ.1 32 13).toNatClampNeg) (c - 48)), σ.2) (Int32.toInt64 c) 48 55) rfl ?_
    refine bz_wpb bT_X11_deed 1 (b1 := (43, [some (.ref 32), some (.int c)], [], ((bz_up σ.1 39 ((σ.1 32 13).toNatClampNeg) (c - 48)), σ.2))) (b2 := (39, [some (.ref 32), some (.int c)], [], ((bz_up σ.1 39 ((σ.1 32 13).toNatClampNeg) (c - 48)), σ.2))) (C := bz_b (f_X11_in (Int32.toInt64 c) 48 55) = 0) (G := True) rfl trivial (fun h2 => ?_) (fun h2 => ?_)
    · skip
      have h2 := bz_b0 h2
      refine bz_wpn bT_X11_deed 1 (b := (45, [some (.ref 32), some (.int c)], [.int (-6)], ((bz_up σ.1 39 ((σ.1 32 13).toNatClampNeg) (c - 48)), σ.2))) (G := True) rfl trivial ?_
      refine bz_wpr bT_X11_deed rfl rfl trivial ?_
      have e9 : f_X11_deed_32 σ c = ((-6), ((bz_up σ.1 39 ((σ.1 32 13).toNatClampNeg) (c - 48)), σ.2)) := by rw [f_X11_deed_32, if_neg (h1), if_neg (bz_ff h2)]
      exact ⟨by rw [e9], by rw [e9]⟩
    · skip
      have h2 := bz_b1 h2
      refine bz_wpn bT_X11_deed 2 (b := (45, [some (.ref 32), some (.int c)], [.int 2], ((bz_up σ.1 39 ((σ.1 32 13).toNatClampNeg) (c - 48)), σ.2))) (G := True) rfl trivial ?_
      refine bz_wpr bT_X11_deed rfl rfl trivial ?_
      have e9 : f_X11_deed_32 σ c = (2, ((bz_up σ.1 39 ((σ.1 32 13).toNatClampNeg) (c - 48)), σ.2)) := by rw [f_X11_deed_32, if_neg (h1), if_pos (h2)]
      exact ⟨by rw [e9], by rw [e9]⟩
  · skip
    refine bz_wpn bT_X11_deed 2 (b := (8, [some (.ref 32), some (.int c)], [.int 1, .ref 32], σ)) (G := True) rfl trivial ?_
    refine bz_wci bT_X11_deed [.ref 32, .int 1] (pc' := 11) (rest := []) rfl rfl (Nat.le_of_ble_eq_true rfl) rfl (Nat.le_of_ble_eq_true rfl) rfl (s_X11_close_32 σ 1 ha) rfl ?_
    generalize hτ1 : f_X11_close_32 σ 1 = τ1
    refine bz_wpr bT_X11_deed rfl rfl trivial ?_
    have e9 : f_X11_deed_32 σ c = (τ1.1, τ1.2) := by rw [f_X11_deed_32, if_pos ((Decidable.not_not.mp h1)), hτ1, f_X11_deed_32_a]
    exact ⟨by rw [e9], by rw [e9]⟩
theorem rf_X11_deed_32_a (σ : bz_S) (c : Int32) (τ1 : Int32 × bz_S) (fτ1 : bz_fr [32, 37, 39] σ τ1.2) : bz_fr [32, 37, 39] σ (f_X11_deed_32_a σ c τ1).2 := by
  unfold f_X11_deed_32_a
  exact fτ1
theorem rf_X11_deed_32 (σ : bz_S) (c : Int32) : bz_fr [32, 37, 39] σ (f_X11_deed_32 σ c).2 := by
  unfold f_X11_deed_32
  exact (bz_ite2 (rf_X11_deed_32_a σ c (f_X11_close_32 σ 1) (bz_fr_mo (rf_X11_close_32 σ 1) (by decide))) (bz_ite2 ⟨(bz_f1_up (bz_fr_rf).1 (by decide)), (bz_fr_rf).2⟩ ⟨(bz_f1_up (bz_fr_rf).1 (by decide)), (bz_fr_rf).2⟩))
theorem qf_X11_deed_32_a (σ : bz_S) (c : Int32) (τ1 : Int32 × bz_S) (fτ1 : bz_fo [13] σ τ1.2) : bz_fo [13] σ (f_X11_deed_32_a σ c τ1).2 := by
  unfold f_X11_deed_32_a
  exact fτ1
theorem qf_X11_deed_32 (σ : bz_S) (c : Int32) : bz_fo [13] σ (f_X11_deed_32 σ c).2 := by
  unfold f_X11_deed_32
  exact (bz_ite2 (qf_X11_deed_32_a σ c (f_X11_close_32 σ 1) (bz_fo_mo (qf_X11_close_32 σ 1) (by decide))) (bz_ite2 (bz_fo_no (f := _) bz_fo_rf (by decide)) (bz_fo_no (f := _) bz_fo_rf (by decide))))

def f_X11_force_32_a (σ : bz_S) (c : Int32) (τ1 : Int32 × bz_S) : Int32 × bz_S := (τ1.1, τ1.2)
def f_X11_force_32 (σ : bz_S) (c : Int32) : Int32 × bz_S := if f_X11_in (Int32.toInt64 c) 49 57 = true then (f_X11_force_32_a σ c (f_X11_close_32 ((bz_up σ.1 40 ((σ.1 32 13).toNatClampNeg) (c - 48)), σ.2) 0)) else ((-6), ((bz_up σ.1 40 ((σ.1 32 13).toNatClampNeg) (c - 48)), σ.2))
set_option maxRecDepth 100000 in
theorem s_X11_force_32 {X : bz_X} (σ : bz_S) (c : Int32) (ha : vp_in (σ.1 32 13) 60) : bz_C bz_P X mX11_force [.ref 32, .int c] σ (bz_pi (f_X11_force_32 σ c).1 (f_X11_force_32 σ c).2) := by
  show bz_wp bz_P X mX11_force (bz_pi (f_X11_force_32 σ c).1 (f_X11_force_32 σ c).2) (0, [some (.ref 32), some (.int c)], [], σ)
  refine bz_wpn bT_X11_force 12 (b := (21, [some (.ref 32), some (.int c)], [.long 57, .long 49, .long (Int32.toInt64 c)], ((bz_up σ.1 40 ((σ.1 32 13).toNatClampNeg) (c - 48)), σ.2))) (G := vp_in (σ.1 32 13) 60 ∧ True) rfl ⟨ha, trivial⟩ ?_
  refine bz_wci bT_X11_force [.long (Int32.toInt64 c), .long 49, .long 57] (pc' := 24) (rest := []) rfl rfl (Nat.le_of_ble_eq_true rfl) rfl (Nat.le_of_ble_eq_true rfl) rfl (s_X11_in ((bz_up σ.1 40 ((σ.1 32 13).toNatClampNeg) (c - 48)), σ.2) (Int32.toInt64 c) 49 57) rfl ?_
  refine bz_wpb bT_X11_force 1 (b1 := (35, [some (.ref 32), some (.int c)], [], ((bz_up σ.1 40 ((σ.1 32 13).toNatClampNeg) (c - 48)), σ.2))) (b2 := (27, [some (.ref 32), some (.int c)], [], ((bz_up σ.1 40 ((σ.1 32 13).toNatClampNeg) (c - 48)), σ.2))) (C := bz_b (f_X11_in (Int32.toInt64 c) 49 57) = 0) (G := True) rfl trivial (fun h1 => ?_) (fun h1 => ?_)
  · skip
    have h1 := bz_b0 h1
    refine bz_wpn bT_X11_force 1 (b := (37, [some (.ref 32), some (.int c)], [.int (-6)], ((bz_up σ.1 40 ((σ.1 32 13).toNatClampNeg) (c - 48)), σ.2))) (G := True) rfl trivial ?_
    refine bz_wpr bT_X11_force rfl rfl trivial ?_
    have e9 : f_X11_force_32 σ c = ((-6), ((bz_up σ.1 40 ((σ.1 32 13).toNatClampNeg) (c - 48)), σ.2)) := by rw [f_X11_force_32, if_neg (bz_ff h1)]
    exact ⟨by rw [e9], by rw [e9]⟩
  · skip
    have h1 := bz_b1 h1
    refine bz_wpn bT_X11_force 2 (b := (29, [some (.ref 32), some (.int c)], [.int 0, .ref 32], ((bz_up σ.1 40 ((σ.1 32 13).toNatClampNeg) (c - 48)), σ.2))) (G := True) rfl trivial ?_
    refine bz_wci bT_X11_force [.ref 32, .int 0] (pc' := 32) (rest := []) rfl rfl (Nat.le_of_ble_eq_true rfl) rfl (Nat.le_of_ble_eq_true rfl) rfl (s_X11_close_32 ((bz_up σ.1 40 ((σ.1 32 13).toNatClampNeg) (c - 48)), σ.2) 0 ha) rfl ?_
    generalize hτ1 : f_X11_close_32 ((bz_up σ.1 40 ((σ.1 32 13).toNatClampNeg) (c - 48)), σ.2) 0 = τ1
    refine bz_wpn bT_X11_force 1 (b := (37, [some (.ref 32), some (.int c)], [.int τ1.1], τ1.2)) (G := True) rfl trivial ?_
    refine bz_wpr bT_X11_force rfl rfl trivial ?_
    have e9 : f_X11_force_32 σ c = (τ1.1, τ1.2) := by rw [f_X11_force_32, if_pos (h1), hτ1, f_X11_force_32_a]
    exact ⟨by rw [e9], by rw [e9]⟩
theorem rf_X11_force_32_a (σ : bz_S) (c : Int32) (τ1 : Int32 × bz_S) (fτ1 : bz_fr [32, 37, 40] σ τ1.2) : bz_fr [32, 37, 40] σ (f_X11_force_32_a σ c τ1).2 := by
  unfold f_X11_force_32_a
  exact fτ1
theorem rf_X11_force_32 (σ : bz_S) (c : Int32) : bz_fr [32, 37, 40] σ (f_X11_force_32 σ c).2 := by
  unfold f_X11_force_32
  exact (bz_ite2 (rf_X11_force_32_a σ c (f_X11_close_32 ((bz_up σ.1 40 ((σ.1 32 13).toNatClampNeg) (c - 48)), σ.2) 0) (bz_fr_tr (τ := ((bz_up σ.1 40 ((σ.1 32 13).toNatClampNeg) (c - 48)), σ.2)) ⟨(bz_f1_up (bz_fr_rf).1 (by decide)), (bz_fr_rf).2⟩ (bz_fr_mo (rf_X11_close_32 ((bz_up σ.1 40 ((σ.1 32 13).toNatClampNeg) (c - 48)), σ.2) 0) (by decide)))) ⟨(bz_f1_up (bz_fr_rf).1 (by decide)), (bz_fr_rf).2⟩)
theorem qf_X11_force_32_a (σ : bz_S) (c : Int32) (τ1 : Int32 × bz_S) (fτ1 : bz_fo [13] σ τ1.2) : bz_fo [13] σ (f_X11_force_32_a σ c τ1).2 := by
  unfold f_X11_force_32_a
  exact fτ1
theorem qf_X11_force_32 (σ : bz_S) (c : Int32) : bz_fo [13] σ (f_X11_force_32 σ c).2 := by
  unfold f_X11_force_32
  exact (bz_ite2 (qf_X11_force_32_a σ c (f_X11_close_32 ((bz_up σ.1 40 ((σ.1 32 13).toNatClampNeg) (c - 48)), σ.2) 0) (bz_fo_tr (τ := ((bz_up σ.1 40 ((σ.1 32 13).toNatClampNeg) (c - 48)), σ.2)) (bz_fo_no (f := _) bz_fo_rf (by decide)) (bz_fo_mo (qf_X11_close_32 ((bz_up σ.1 40 ((σ.1 32 13).toNatClampNeg) (c - 48)), σ.2) 0) (by decide)))) (bz_fo_no (f := _) bz_fo_rf (by decide)))

def f_X11_readOn_32_a (σ : bz_S) (du : Int32) (c : Int32) (τ1 : Int32 × bz_S) : Int32 × bz_S := (τ1.1, τ1.2)
def f_X11_readOn_32_b (σ : bz_S) (du : Int32) (c : Int32) (τ2 : Int32 × bz_S) : Int32 × bz_S := (τ2.1, τ2.2)
def f_X11_readOn_32_c (σ : bz_S) (du : Int32) (c : Int32) (τ3 : Int32 × bz_S) : Int32 × bz_S := (τ3.1, τ3.2)
def f_X11_readOn_32 (σ : bz_S) (du : Int32) (c : Int32) : Int32 × bz_S := if du = 0 then (f_X11_readOn_32_c σ du c (f_X11_begin_32 σ c)) else (if du = 1 then (f_X11_readOn_32_b σ du c (f_X11_deed_32 σ c)) else (f_X11_readOn_32_a σ du c (f_X11_force_32 σ c)))
set_option maxRecDepth 100000 in
theorem s_X11_readOn_32 {X : bz_X} (σ : bz_S) (du : Int32) (c : Int32) (ha : vp_in (σ.1 32 13) 60) : bz_C bz_P X mX11_readOn [.ref 32, .int du, .int c] σ (bz_pi (f_X11_readOn_32 σ du c).1 (f_X11_readOn_32 σ du c).2) := by
  show bz_wp bz_P X mX11_readOn (bz_pi (f_X11_readOn_32 σ du c).1 (f_X11_readOn_32 σ du c).2) (0, [some (.ref 32), some (.int du), some (.int c)], [], σ)
  refine bz_wpb bT_X11_readOn 2 (b1 := (12, [some (.ref 32), some (.int du), some (.int c)], [], σ)) (b2 := (4, [some (.ref 32), some (.int du), some (.int c)], [], σ)) (C := ¬ du = 0) (G := True) rfl trivial (fun h1 => ?_) (fun h1 => ?_)
  · skip
    refine bz_wpb bT_X11_readOn 3 (b1 := (25, [some (.ref 32), some (.int du), some (.int c)], [], σ)) (b2 := (17, [some (.ref 32), some (.int du), some (.int c)], [], σ)) (C := ¬ du = 1) (G := True) rfl trivial (fun h2 => ?_) (fun h2 => ?_)
    · skip
      refine bz_wpn bT_X11_readOn 2 (b := (27, [some (.ref 32), some (.int du), some (.int c)], [.int c, .ref 32], σ)) (G := True) rfl trivial ?_
      refine bz_wci bT_X11_readOn [.ref 32, .int c] (pc' := 30) (rest := []) rfl rfl (Nat.le_of_ble_eq_true rfl) rfl (Nat.le_of_ble_eq_true rfl) rfl (s_X11_force_32 σ c ha) rfl ?_
      generalize hτ1 : f_X11_force_32 σ c = τ1
      refine bz_wpr bT_X11_readOn rfl rfl trivial ?_
      have e9 : f_X11_readOn_32 σ du c = (τ1.1, τ1.2) := by rw [f_X11_readOn_32, if_neg (h1), if_neg (h2), hτ1, f_X11_readOn_32_a]
      exact ⟨by rw [e9], by rw [e9]⟩
    · skip
      refine bz_wpn bT_X11_readOn 2 (b := (19, [some (.ref 32), some (.int du), some (.int c)], [.int c, .ref 32], σ)) (G := True) rfl trivial ?_
      refine bz_wci bT_X11_readOn [.ref 32, .int c] (pc' := 22) (rest := []) rfl rfl (Nat.le_of_ble_eq_true rfl) rfl (Nat.le_of_ble_eq_true rfl) rfl (s_X11_deed_32 σ c ha) rfl ?_
      generalize hτ2 : f_X11_deed_32 σ c = τ2
      refine bz_wpn bT_X11_readOn 1 (b := (30, [some (.ref 32), some (.int du), some (.int c)], [.int τ2.1], τ2.2)) (G := True) rfl trivial ?_
      refine bz_wpr bT_X11_readOn rfl rfl trivial ?_
      have e9 : f_X11_readOn_32 σ du c = (τ2.1, τ2.2) := by rw [f_X11_readOn_32, if_neg (h1), if_pos ((Decidable.not_not.mp h2)), hτ2, f_X11_readOn_32_b]
      exact ⟨by rw [e9], by rw [e9]⟩
  · skip
    refine bz_wpn bT_X11_readOn 2 (b := (6, [some (.ref 32), some (.int du), some (.int c)], [.int c, .ref 32], σ)) (G := True) rfl trivial ?_
    refine bz_wci bT_X11_readOn [.ref 32, .int c] (pc' := 9) (rest := []) rfl rfl (Nat.le_of_ble_eq_true rfl) rfl (Nat.le_of_ble_eq_true rfl) rfl (s_X11_begin_32 σ c ha) rfl ?_
    generalize hτ3 : f_X11_begin_32 σ c = τ3
    refine bz_wpn bT_X11_readOn 1 (b := (30, [some (.ref 32), some (.int du), some (.int c)], [.int τ3.1], τ3.2)) (G := True) rfl trivial ?_
    refine bz_wpr bT_X11_readOn rfl rfl trivial ?_
    have e9 : f_X11_readOn_32 σ du c = (τ3.1, τ3.2) := by rw [f_X11_readOn_32, if_pos ((Decidable.not_not.mp h1)), hτ3, f_X11_readOn_32_c]
    exact ⟨by rw [e9], by rw [e9]⟩
theorem rf_X11_readOn_32_c (σ : bz_S) (du : Int32) (c : Int32) (τ3 : Int32 × bz_S) (fτ3 : bz_fr [32, 37, 38, 39, 40] σ τ3.2) : bz_fr [32, 37, 38, 39, 40] σ (f_X11_readOn_32_c σ du c τ3).2 := by
  unfold f_X11_readOn_32_c
  exact fτ3
theorem rf_X11_readOn_32_b (σ : bz_S) (du : Int32) (c : Int32) (τ2 : Int32 × bz_S) (fτ2 : bz_fr [32, 37, 38, 39, 40] σ τ2.2) : bz_fr [32, 37, 38, 39, 40] σ (f_X11_readOn_32_b σ du c τ2).2 := by
  unfold f_X11_readOn_32_b
  exact fτ2
theorem rf_X11_readOn_32_a (σ : bz_S) (du : Int32) (c : Int32) (τ1 : Int32 × bz_S) (fτ1 : bz_fr [32, 37, 38, 39, 40] σ τ1.2) : bz_fr [32, 37, 38, 39, 40] σ (f_X11_readOn_32_a σ du c τ1).2 := by
  unfold f_X11_readOn_32_a
  exact fτ1
theorem rf_X11_readOn_32 (σ : bz_S) (du : Int32) (c : Int32) : bz_fr [32, 37, 38, 39, 40] σ (f_X11_readOn_32 σ du c).2 := by
  unfold f_X11_readOn_32
  exact (bz_ite2 (rf_X11_readOn_32_c σ du c (f_X11_begin_32 σ c) (bz_fr_mo (rf_X11_begin_32 σ c) (by decide))) (bz_ite2 (rf_X11_readOn_32_b σ du c (f_X11_deed_32 σ c) (bz_fr_mo (rf_X11_deed_32 σ c) (by decide))) (rf_X11_readOn_32_a σ du c (f_X11_force_32 σ c) (bz_fr_mo (rf_X11_force_32 σ c) (by decide)))))
theorem qf_X11_readOn_32_c (σ : bz_S) (du : Int32) (c : Int32) (τ3 : Int32 × bz_S) (fτ3 : bz_fo [13] σ τ3.2) : bz_fo [13] σ (f_X11_readOn_32_c σ du c τ3).2 := by
  unfold f_X11_readOn_32_c
  exact fτ3
theorem qf_X11_readOn_32_b (σ : bz_S) (du : Int32) (c : Int32) (τ2 : Int32 × bz_S) (fτ2 : bz_fo [13] σ τ2.2) : bz_fo [13] σ (f_X11_readOn_32_b σ du c τ2).2 := by
  unfold f_X11_readOn_32_b
  exact fτ2
theorem qf_X11_readOn_32_a (σ : bz_S) (du : Int32) (c : Int32) (τ1 : Int32 × bz_S) (fτ1 : bz_fo [13] σ τ1.2) : bz_fo [13] σ (f_X11_readOn_32_a σ du c τ1).2 := by
  unfold f_X11_readOn_32_a
  exact fτ1
theorem qf_X11_readOn_32 (σ : bz_S) (du : Int32) (c : Int32) : bz_fo [13] σ (f_X11_readOn_32 σ du c).2 := by
  unfold f_X11_readOn_32
  exact (bz_ite2 (qf_X11_readOn_32_c σ du c (f_X11_begin_32 σ c) (bz_fo_mo (qf_X11_begin_32 σ c) (by decide))) (bz_ite2 (qf_X11_readOn_32_b σ du c (f_X11_deed_32 σ c) (bz_fo_mo (qf_X11_deed_32 σ c) (by decide))) (qf_X11_readOn_32_a σ du c (f_X11_force_32 σ c) (bz_fo_mo (qf_X11_force_32 σ c) (by decide)))))

def f_X11_touch_32 (σ : bz_S) (ot : Int32) (fo : Int32) : bz_S := if 0 ≤ (σ.1 32 20) then ((bz_up (bz_up σ.1 32 17 ((σ.1 32 17) + 1)) 32 14 ot), σ.2) else ((bz_up (bz_up (bz_up (bz_up (bz_up σ.1 32 17 ((σ.1 32 17) + 1)) 32 20 ot) 32 19 (σ.1 32 18)) 32 21 (fo - (σ.1 32 16))) 32 14 ot), σ.2)
set_option maxRecDepth 100000 in
theorem s_X11_touch_32 {X : bz_X} (σ : bz_S) (ot : Int32) (fo : Int32) : bz_C bz_P X mX11_touch [.ref 32, .int ot, .int fo] σ (bz_pv (f_X11_touch_32 σ ot fo)) := by
  show bz_wp bz_P X mX11_touch (bz_pv (f_X11_touch_32 σ ot fo)) (0, [some (.ref 32), some (.int ot), some (.int fo)], [], σ)
  refine bz_wpb bT_X11_touch 9 (b1 := (40, [some (.ref 32), some (.int ot), some (.int fo)], [], ((bz_up σ.1 32 17 ((σ.1 32 17) + 1)), σ.2))) (b2 := (17, [some (.ref 32), some (.int ot), some (.int fo)], [], ((bz_up σ.1 32 17 ((σ.1 32 17) + 1)), σ.2))) (C := 0 ≤ (σ.1 32 20)) (G := True) rfl trivial (fun h1 => ?_) (fun h1 => ?_)
  · skip
    refine bz_wpn bT_X11_touch 3 (b := (45, [some (.ref 32), some (.int ot), some (.int fo)], [], ((bz_up (bz_up σ.1 32 17 ((σ.1 32 17) + 1)) 32 14 ot), σ.2))) (G := True) rfl trivial ?_
    refine bz_wpr bT_X11_touch rfl rfl trivial ?_
    have e9 : f_X11_touch_32 σ ot fo = ((bz_up (bz_up σ.1 32 17 ((σ.1 32 17) + 1)) 32 14 ot), σ.2) := by rw [f_X11_touch_32, if_pos (h1)]
    exact ⟨rfl, by rw [e9]⟩
  · skip
    refine bz_wpn bT_X11_touch 16 (b := (45, [some (.ref 32), some (.int ot), some (.int fo)], [], ((bz_up (bz_up (bz_up (bz_up (bz_up σ.1 32 17 ((σ.1 32 17) + 1)) 32 20 ot) 32 19 (σ.1 32 18)) 32 21 (fo - (σ.1 32 16))) 32 14 ot), σ.2))) (G := True) rfl trivial ?_
    refine bz_wpr bT_X11_touch rfl rfl trivial ?_
    have e9 : f_X11_touch_32 σ ot fo = ((bz_up (bz_up (bz_up (bz_up (bz_up σ.1 32 17 ((σ.1 32 17) + 1)) 32 20 ot) 32 19 (σ.1 32 18)) 32 21 (fo - (σ.1 32 16))) 32 14 ot), σ.2) := by rw [f_X11_touch_32, if_neg (h1)]
    exact ⟨rfl, by rw [e9]⟩
theorem rf_X11_touch_32 (σ : bz_S) (ot : Int32) (fo : Int32) : bz_fr [32] σ (f_X11_touch_32 σ ot fo) := by
  unfold f_X11_touch_32
  exact (bz_ite ⟨(bz_f1_up (bz_f1_up (bz_fr_rf).1 (by decide)) (by decide)), (bz_fr_rf).2⟩ ⟨(bz_f1_up (bz_f1_up (bz_f1_up (bz_f1_up (bz_f1_up (bz_fr_rf).1 (by decide)) (by decide)) (by decide)) (by decide)) (by decide)), (bz_fr_rf).2⟩)
theorem qf_X11_touch_32 (σ : bz_S) (ot : Int32) (fo : Int32) : bz_fo [14, 17, 19, 20, 21] σ (f_X11_touch_32 σ ot fo) := by
  unfold f_X11_touch_32
  exact (bz_ite (bz_fo_up (f := _) (bz_fo_up (f := _) bz_fo_rf (by decide)) (by decide)) (bz_fo_up (f := _) (bz_fo_up (f := _) (bz_fo_up (f := _) (bz_fo_up (f := _) (bz_fo_up (f := _) bz_fo_rf (by decide)) (by decide)) (by decide)) (by decide)) (by decide)))

def f_X11_columnOf (c : Int32) : Int32 := if 0 ≤ c then (c % 9) else 9
set_option maxRecDepth 100000 in
theorem s_X11_columnOf {X : bz_X} (σ : bz_S) (c : Int32) : bz_C bz_P X mX11_columnOf [.int c] σ (bz_pi (f_X11_columnOf c) σ) := by
  show bz_wp bz_P X mX11_columnOf (bz_pi (f_X11_columnOf c) σ) (0, [some (.int c)], [], σ)
  refine bz_wpb bT_X11_columnOf 2 (b1 := (9, [some (.int c)], [], σ)) (b2 := (4, [some (.int c)], [], σ)) (C := 0 ≤ c) (G := True) rfl trivial (fun h1 => ?_) (fun h1 => ?_)
  · skip
    refine bz_wpn bT_X11_columnOf 3 (b := (13, [some (.int c)], [.int (c % 9)], σ)) (G := ¬ (9 : Int32) = 0 ∧ True) rfl ⟨(by decide), trivial⟩ ?_
    refine bz_wpr bT_X11_columnOf rfl rfl trivial ?_
    have e9 : f_X11_columnOf c = (c % 9) := by rw [f_X11_columnOf, if_pos (h1)]
    exact ⟨by rw [e9], rfl⟩
  · skip
    refine bz_wpn bT_X11_columnOf 2 (b := (13, [some (.int c)], [.int 9], σ)) (G := True) rfl trivial ?_
    refine bz_wpr bT_X11_columnOf rfl rfl trivial ?_
    have e9 : f_X11_columnOf c = 9 := by rw [f_X11_columnOf, if_neg (h1)]
    exact ⟨by rw [e9], rfl⟩

def f_X11_drift_32 (σ : bz_S) (b : Int32) : bz_S := if (σ.1 33 b.toNatClampNeg) < 0 then σ else (if ((σ.1 33 b.toNatClampNeg) % 9) ≤ 0 then σ else (if f_X11_isPocket ((σ.1 33 b.toNatClampNeg) - 1) = true then σ else (if 0 ≤ (f_X11_ballOn_32 σ ((σ.1 33 b.toNatClampNeg) - 1)) then σ else ((bz_up σ.1 33 b.toNatClampNeg ((σ.1 33 b.toNatClampNeg) - 1)), σ.2))))
set_option maxRecDepth 100000 in
theorem s_X11_drift_32 {X : bz_X} (σ : bz_S) (b : Int32) (hb : vp_in b 3) : bz_C bz_P X mX11_drift [.ref 32, .int b] σ (bz_pv (f_X11_drift_32 σ b)) := by
  show bz_wp bz_P X mX11_drift (bz_pv (f_X11_drift_32 σ b)) (0, [some (.ref 32), some (.int b), none], [], σ)
  refine bz_wpb bT_X11_drift 7 (b1 := (46, [some (.ref 32), some (.int b), some (.int (σ.1 33 b.toNatClampNeg))], [], σ)) (b2 := (11, [some (.ref 32), some (.int b), some (.int (σ.1 33 b.toNatClampNeg))], [], σ)) (C := (σ.1 33 b.toNatClampNeg) < 0) (G := vp_in b 3 ∧ True) rfl ⟨hb, trivial⟩ (fun h1 => ?_) (fun h1 => ?_)
  · skip
    refine bz_wpr bT_X11_drift rfl rfl trivial ?_
    have e9 : f_X11_drift_32 σ b = σ := by rw [f_X11_drift_32, if_pos (h1)]
    exact ⟨rfl, by rw [e9]⟩
  · skip
    refine bz_wpb bT_X11_drift 4 (b1 := (46, [some (.ref 32), some (.int b), some (.int (σ.1 33 b.toNatClampNeg))], [], σ)) (b2 := (18, [some (.ref 32), some (.int b), some (.int (σ.1 33 b.toNatClampNeg))], [], σ)) (C := ((σ.1 33 b.toNatClampNeg) % 9) ≤ 0) (G := ¬ (9 : Int32) = 0 ∧ True) rfl ⟨(by decide), trivial⟩ (fun h2 => ?_) (fun h2 => ?_)
    · skip
      refine bz_wpr bT_X11_drift rfl rfl trivial ?_
      have e9 : f_X11_drift_32 σ b = σ := by rw [f_X11_drift_32, if_neg (h1), if_pos (h2)]
      exact ⟨rfl, by rw [e9]⟩
    · skip
      refine bz_wpn bT_X11_drift 3 (b := (21, [some (.ref 32), some (.int b), some (.int (σ.1 33 b.toNatClampNeg))], [.int ((σ.1 33 b.toNatClampNeg) - 1)], σ)) (G := True) rfl trivial ?_
      refine bz_wci bT_X11_drift [.int ((σ.1 33 b.toNatClampNeg) - 1)] (pc' := 24) (rest := []) rfl rfl (Nat.le_of_ble_eq_true rfl) rfl (Nat.le_of_ble_eq_true rfl) rfl (s_X11_isPocket σ ((σ.1 33 b.toNatClampNeg) - 1)) rfl ?_
      refine bz_wpb bT_X11_drift 1 (b1 := (46, [some (.ref 32), some (.int b), some (.int (σ.1 33 b.toNatClampNeg))], [], σ)) (b2 := (27, [some (.ref 32), some (.int b), some (.int (σ.1 33 b.toNatClampNeg))], [], σ)) (C := ¬ bz_b (f_X11_isPocket ((σ.1 33 b.toNatClampNeg) - 1)) = 0) (G := True) rfl trivial (fun h3 => ?_) (fun h3 => ?_)
      · skip
        have h3 := bz_b1 h3
        refine bz_wpr bT_X11_drift rfl rfl trivial ?_
        have e9 : f_X11_drift_32 σ b = σ := by rw [f_X11_drift_32, if_neg (h1), if_neg (h2), if_pos (h3)]
        exact ⟨rfl, by rw [e9]⟩
      · skip
        have h3 := bz_b0 (Decidable.not_not.mp h3)
        refine bz_wpn bT_X11_drift 4 (b := (31, [some (.ref 32), some (.int b), some (.int (σ.1 33 b.toNatClampNeg))], [.int ((σ.1 33 b.toNatClampNeg) - 1), .ref 32], σ)) (G := True) rfl trivial ?_
        refine bz_wci bT_X11_drift [.ref 32, .int ((σ.1 33 b.toNatClampNeg) - 1)] (pc' := 34) (rest := []) rfl rfl (Nat.le_of_ble_eq_true rfl) rfl (Nat.le_of_ble_eq_true rfl) rfl (s_X11_ballOn_32 σ ((σ.1 33 b.toNatClampNeg) - 1)) rfl ?_
        refine bz_wpb bT_X11_drift 1 (b1 := (46, [some (.ref 32), some (.int b), some (.int (σ.1 33 b.toNatClampNeg))], [], σ)) (b2 := (37, [some (.ref 32), some (.int b), some (.int (σ.1 33 b.toNatClampNeg))], [], σ)) (C := 0 ≤ (f_X11_ballOn_32 σ ((σ.1 33 b.toNatClampNeg) - 1))) (G := True) rfl trivial (fun h4 => ?_) (fun h4 => ?_)
        · skip
          refine bz_wpr bT_X11_drift rfl rfl trivial ?_
          have e9 : f_X11_drift_32 σ b = σ := by rw [f_X11_drift_32, if_neg (h1), if_neg (h2), if_neg (bz_ff h3), if_pos (h4)]
          exact ⟨rfl, by rw [e9]⟩
        · skip
          refine bz_wpn bT_X11_drift 7 (b := (46, [some (.ref 32), some (.int b), some (.int (σ.1 33 b.toNatClampNeg))], [], ((bz_up σ.1 33 b.toNatClampNeg ((σ.1 33 b.toNatClampNeg) - 1)), σ.2))) (G := vp_in b 3 ∧ True) rfl ⟨hb, trivial⟩ ?_
          refine bz_wpr bT_X11_drift rfl rfl trivial ?_
          have e9 : f_X11_drift_32 σ b = ((bz_up σ.1 33 b.toNatClampNeg ((σ.1 33 b.toNatClampNeg) - 1)), σ.2) := by rw [f_X11_drift_32, if_neg (h1), if_neg (h2), if_neg (bz_ff h3), if_neg (h4)]
          exact ⟨rfl, by rw [e9]⟩
theorem rf_X11_drift_32 (σ : bz_S) (b : Int32) : bz_fr [33] σ (f_X11_drift_32 σ b) := by
  unfold f_X11_drift_32
  exact (bz_ite bz_fr_rf (bz_ite bz_fr_rf (bz_ite bz_fr_rf (bz_ite bz_fr_rf ⟨(bz_f1_up (bz_fr_rf).1 (by decide)), (bz_fr_rf).2⟩))))
theorem qf_X11_drift_32 (σ : bz_S) (b : Int32) : bz_fo ([] : List Nat) σ (f_X11_drift_32 σ b) := by
  unfold f_X11_drift_32
  exact (bz_ite bz_fo_rf (bz_ite bz_fo_rf (bz_ite bz_fo_rf (bz_ite bz_fo_rf (bz_fo_no (f := _) bz_fo_rf (by decide))))))

def f_X11_whyNot_32 (σ : bz_S) (wh : Int32) (b : Int32) : Int32 := if wh = 0 then if 0 ≤ (σ.1 33 b.toNatClampNeg) then 0 else 1 else (if wh = 1 then if (σ.1 33 b.toNatClampNeg) < 0 then if (f_X11_ballOn_32 σ (f_X11_home b)) < 0 then 0 else 2 else 1 else (if wh = 2 then 0 else (if wh = 3 then if (σ.1 32 3) = 99 then 3 else 0 else 0)))
set_option maxRecDepth 100000 in
theorem s_X11_whyNot_32 {X : bz_X} (σ : bz_S) (wh : Int32) (b : Int32) (hb : vp_in b 3) : bz_C bz_P X mX11_whyNot [.ref 32, .int wh, .int b] σ (bz_pi (f_X11_whyNot_32 σ wh b) σ) := by
  show bz_wp bz_P X mX11_whyNot (bz_pi (f_X11_whyNot_32 σ wh b) σ) (0, [some (.ref 32), some (.int wh), some (.int b)], [], σ)
  refine bz_wpn bT_X11_whyNot 2 (b := (bz_sw (wh).toInt (bz_mk 0 [32, 47, 92, 77]) 92, [some (.ref 32), some (.int wh), some (.int b)], [], σ)) (G := True) rfl trivial ?_
  by_cases w1 : wh = 0
  · rw [show bz_sw (wh).toInt (bz_mk 0 [32, 47, 92, 77]) 92 = 32 from by rw [w1]; decide]
    refine bz_wpb bT_X11_whyNot 5 (b1 := (45, [some (.ref 32), some (.int wh), some (.int b)], [], σ)) (b2 := (41, [some (.ref 32), some (.int wh), some (.int b)], [], σ)) (C := 0 ≤ (σ.1 33 b.toNatClampNeg)) (G := vp_in b 3 ∧ True) rfl ⟨hb, trivial⟩ (fun h2 => ?_) (fun h2 => ?_)
    · skip
      refine bz_wpn bT_X11_whyNot 1 (b := (46, [some (.ref 32), some (.int wh), some (.int b)], [.int 0], σ)) (G := True) rfl trivial ?_
      refine bz_wpr bT_X11_whyNot rfl rfl trivial ?_
      have e9 : f_X11_whyNot_32 σ wh b = 0 := by rw [f_X11_whyNot_32, if_pos (w1), if_pos (h2)]
      exact ⟨by rw [e9], rfl⟩
    · skip
      refine bz_wpn bT_X11_whyNot 2 (b := (46, [some (.ref 32), some (.int wh), some (.int b)], [.int 1], σ)) (G := True) rfl trivial ?_
      refine bz_wpr bT_X11_whyNot rfl rfl trivial ?_
      have e9 : f_X11_whyNot_32 σ wh b = 1 := by rw [f_X11_whyNot_32, if_pos (w1), if_neg (h2)]
      exact ⟨by rw [e9], rfl⟩
  by_cases w3 : wh = 1
  · rw [show bz_sw (wh).toInt (bz_mk 0 [32, 47, 92, 77]) 92 = 47 from by rw [w3]; decide]
    refine bz_wpb bT_X11_whyNot 5 (b1 := (60, [some (.ref 32), some (.int wh), some (.int b)], [], σ)) (b2 := (56, [some (.ref 32), some (.int wh), some (.int b)], [], σ)) (C := (σ.1 33 b.toNatClampNeg) < 0) (G := vp_in b 3 ∧ True) rfl ⟨hb, trivial⟩ (fun h4 => ?_) (fun h4 => ?_)
    · skip
      refine bz_wpn bT_X11_whyNot 2 (b := (62, [some (.ref 32), some (.int wh), some (.int b)], [.int b, .ref 32], σ)) (G := True) rfl trivial ?_
      refine bz_wci bT_X11_whyNot [.int b] (pc' := 65) (rest := [.ref 32]) rfl rfl (Nat.le_of_ble_eq_true rfl) rfl (Nat.le_of_ble_eq_true rfl) rfl (s_X11_home σ b) rfl ?_
      refine bz_wci bT_X11_whyNot [.ref 32, .int (f_X11_home b)] (pc' := 68) (rest := []) rfl rfl (Nat.le_of_ble_eq_true rfl) rfl (Nat.le_of_ble_eq_true rfl) rfl (s_X11_ballOn_32 σ (f_X11_home b)) rfl ?_
      refine bz_wpb bT_X11_whyNot 1 (b1 := (75, [some (.ref 32), some (.int wh), some (.int b)], [], σ)) (b2 := (71, [some (.ref 32), some (.int wh), some (.int b)], [], σ)) (C := (f_X11_ballOn_32 σ (f_X11_home b)) < 0) (G := True) rfl trivial (fun h5 => ?_) (fun h5 => ?_)
      · skip
        refine bz_wpn bT_X11_whyNot 1 (b := (76, [some (.ref 32), some (.int wh), some (.int b)], [.int 0], σ)) (G := True) rfl trivial ?_
        refine bz_wpr bT_X11_whyNot rfl rfl trivial ?_
        have e9 : f_X11_whyNot_32 σ wh b = 0 := by rw [f_X11_whyNot_32, if_neg (w1), if_pos (w3), if_pos (h4), if_pos (h5)]
        exact ⟨by rw [e9], rfl⟩
      · skip
        refine bz_wpn bT_X11_whyNot 2 (b := (76, [some (.ref 32), some (.int wh), some (.int b)], [.int 2], σ)) (G := True) rfl trivial ?_
        refine bz_wpr bT_X11_whyNot rfl rfl trivial ?_
        have e9 : f_X11_whyNot_32 σ wh b = 2 := by rw [f_X11_whyNot_32, if_neg (w1), if_pos (w3), if_pos (h4), if_neg (h5)]
        exact ⟨by rw [e9], rfl⟩
    · skip
      refine bz_wpn bT_X11_whyNot 2 (b := (76, [some (.ref 32), some (.int wh), some (.int b)], [.int 1], σ)) (G := True) rfl trivial ?_
      refine bz_wpr bT_X11_whyNot rfl rfl trivial ?_
      have e9 : f_X11_whyNot_32 σ wh b = 1 := by rw [f_X11_whyNot_32, if_neg (w1), if_pos (w3), if_neg (h4)]
      exact ⟨by rw [e9], rfl⟩
  by_cases w6 : wh = 2
  · rw [show bz_sw (wh).toInt (bz_mk 0 [32, 47, 92, 77]) 92 = 92 from by rw [w6]; decide]
    refine bz_wpn bT_X11_whyNot 1 (b := (93, [some (.ref 32), some (.int wh), some (.int b)], [.int 0], σ)) (G := True) rfl trivial ?_
    refine bz_wpr bT_X11_whyNot rfl rfl trivial ?_
    have e9 : f_X11_whyNot_32 σ wh b = 0 := by rw [f_X11_whyNot_32, if_neg (w1), if_neg (w3), if_pos (w6)]
    exact ⟨by rw [e9], rfl⟩
  by_cases w7 : wh = 3
  · rw [show bz_sw (wh).toInt (bz_mk 0 [32, 47, 92, 77]) 92 = 77 from by rw [w7]; decide]
    refine bz_wpb bT_X11_whyNot 4 (b1 := (90, [some (.ref 32), some (.int wh), some (.int b)], [], σ)) (b2 := (86, [some (.ref 32), some (.int wh), some (.int b)], [], σ)) (C := ¬ (σ.1 32 3) = 99) (G := True) rfl trivial (fun h8 => ?_) (fun h8 => ?_)
    · skip
      refine bz_wpn bT_X11_whyNot 1 (b := (91, [some (.ref 32), some (.int wh), some (.int b)], [.int 0], σ)) (G := True) rfl trivial ?_
      refine bz_wpr bT_X11_whyNot rfl rfl trivial ?_
      have e9 : f_X11_whyNot_32 σ wh b = 0 := by rw [f_X11_whyNot_32, if_neg (w1), if_neg (w3), if_neg (w6), if_pos (w7), if_neg (h8)]
      exact ⟨by rw [e9], rfl⟩
    · skip
      refine bz_wpn bT_X11_whyNot 2 (b := (91, [some (.ref 32), some (.int wh), some (.int b)], [.int 3], σ)) (G := True) rfl trivial ?_
      refine bz_wpr bT_X11_whyNot rfl rfl trivial ?_
      have e9 : f_X11_whyNot_32 σ wh b = 3 := by rw [f_X11_whyNot_32, if_neg (w1), if_neg (w3), if_neg (w6), if_pos (w7), if_pos ((Decidable.not_not.mp h8))]
      exact ⟨by rw [e9], rfl⟩
  · rw [show bz_sw (wh).toInt (bz_mk 0 [32, 47, 92, 77]) 92 = 92 from by simp only [bz_mk, bz_sw]; rw [if_neg (lv_neT w1 (by decide)), if_neg (lv_neT w3 (by decide)), if_neg (lv_neT w6 (by decide)), if_neg (lv_neT w7 (by decide))]]
    refine bz_wpn bT_X11_whyNot 1 (b := (93, [some (.ref 32), some (.int wh), some (.int b)], [.int 0], σ)) (G := True) rfl trivial ?_
    refine bz_wpr bT_X11_whyNot rfl rfl trivial ?_
    have e9 : f_X11_whyNot_32 σ wh b = 0 := by rw [f_X11_whyNot_32, if_neg (w1), if_neg (w3), if_neg (w6), if_neg (w7)]
    exact ⟨by rw [e9], rfl⟩

def f_X11_keepNow_32 (σ : bz_S)  : bz_S := ((bz_up (bz_up (bz_up (bz_up (bz_up (bz_up σ.1 42 0 (σ.1 33 0)) 42 1 (σ.1 33 1)) 42 2 (σ.1 33 2)) 42 3 (σ.1 32 1)) 42 4 (σ.1 32 2)) 42 5 (σ.1 32 3)), σ.2)
set_option maxRecDepth 100000 in
theorem s_X11_keepNow_32 {X : bz_X} (σ : bz_S) : bz_C bz_P X mX11_keepNow [.ref 32] σ (bz_pv (f_X11_keepNow_32 σ)) := by
  show bz_wp bz_P X mX11_keepNow (bz_pv (f_X11_keepNow_32 σ)) (0, [some (.ref 32), none], [], σ)
  refine bz_wpb bT_X11_keepNow 5 (b1 := (25, [some (.ref 32), some (.int 0)], [], σ)) (b2 := (7, [some (.ref 32), some (.int 0)], [], σ)) (C := 3 ≤ (0 : Int32)) (G := True) rfl trivial (fun z => absurd z (by decide)) (fun _ => ?_)
  refine bz_wpb bT_X11_keepNow 13 (b1 := (25, [some (.ref 32), some (.int 1)], [], ((bz_up σ.1 42 0 (σ.1 33 0)), σ.2))) (b2 := (7, [some (.ref 32), some (.int 1)], [], ((bz_up σ.1 42 0 (σ.1 33 0)), σ.2))) (C := 3 ≤ (1 : Int32)) (G := vp_in 0 3 ∧ vp_in 0 6 ∧ True) rfl ⟨(bz_lit (by decide)), (bz_lit (by decide)), trivial⟩ (fun z => absurd z (by decide)) (fun _ => ?_)
  refine bz_wpb bT_X11_keepNow 13 (b1 := (25, [some (.ref 32), some (.int 2)], [], ((bz_up (bz_up σ.1 42 0 (σ.1 33 0)) 42 1 (σ.1 33 1)), σ.2))) (b2 := (7, [some (.ref 32), some (.int 2)], [], ((bz_up (bz_up σ.1 42 0 (σ.1 33 0)) 42 1 (σ.1 33 1)), σ.2))) (C := 3 ≤ (2 : Int32)) (G := vp_in 1 3 ∧ vp_in 1 6 ∧ True) rfl ⟨(bz_lit (by decide)), (bz_lit (by decide)), trivial⟩ (fun z => absurd z (by decide)) (fun _ => ?_)
  refine bz_wpb bT_X11_keepNow 13 (b1 := (25, [some (.ref 32), some (.int 3)], [], ((bz_up (bz_up (bz_up σ.1 42 0 (σ.1 33 0)) 42 1 (σ.1 33 1)) 42 2 (σ.1 33 2)), σ.2))) (b2 := (7, [some (.ref 32), some (.int 3)], [], ((bz_up (bz_up (bz_up σ.1 42 0 (σ.1 33 0)) 42 1 (σ.1 33 1)) 42 2 (σ.1 33 2)), σ.2))) (C := 3 ≤ (3 : Int32)) (G := vp_in 2 3 ∧ vp_in 2 6 ∧ True) rfl ⟨(bz_lit (by decide)), (bz_lit (by decide)), trivial⟩ (fun _ => ?_) (fun z => absurd (by decide) z)
  refine bz_wpn bT_X11_keepNow 18 (b := (55, [some (.ref 32), some (.int 3)], [], ((bz_up (bz_up (bz_up (bz_up (bz_up (bz_up σ.1 42 0 (σ.1 33 0)) 42 1 (σ.1 33 1)) 42 2 (σ.1 33 2)) 42 3 (σ.1 32 1)) 42 4 (σ.1 32 2)) 42 5 (σ.1 32 3)), σ.2))) (G := vp_in 3 6 ∧ vp_in 4 6 ∧ vp_in 5 6 ∧ True) rfl ⟨(bz_lit (by decide)), (bz_lit (by decide)), (bz_lit (by decide)), trivial⟩ ?_
  refine bz_wpr bT_X11_keepNow rfl rfl trivial ?_
  have e9 : f_X11_keepNow_32 σ = ((bz_up (bz_up (bz_up (bz_up (bz_up (bz_up σ.1 42 0 (σ.1 33 0)) 42 1 (σ.1 33 1)) 42 2 (σ.1 33 2)) 42 3 (σ.1 32 1)) 42 4 (σ.1 32 2)) 42 5 (σ.1 32 3)), σ.2) := by rw [f_X11_keepNow_32]
  exact ⟨rfl, by rw [e9]⟩
theorem rf_X11_keepNow_32 (σ : bz_S)  : bz_fr [42] σ (f_X11_keepNow_32 σ) := by
  unfold f_X11_keepNow_32
  exact ⟨(bz_f1_up (bz_f1_up (bz_f1_up (bz_f1_up (bz_f1_up (bz_f1_up (bz_fr_rf).1 (by decide)) (by decide)) (by decide)) (by decide)) (by decide)) (by decide)), (bz_fr_rf).2⟩
theorem qf_X11_keepNow_32 (σ : bz_S)  : bz_fo ([] : List Nat) σ (f_X11_keepNow_32 σ) := by
  unfold f_X11_keepNow_32
  exact (bz_fo_no (f := _) (bz_fo_no (f := _) (bz_fo_no (f := _) (bz_fo_no (f := _) (bz_fo_no (f := _) (bz_fo_no (f := _) bz_fo_rf (by decide)) (by decide)) (by decide)) (by decide)) (by decide)) (by decide))

def f_X11_back_32 (σ : bz_S) (v : Int32) : Int32 × bz_S := (v, ((bz_up (bz_up (bz_up (bz_up (bz_up (bz_up σ.1 33 0 (σ.1 42 0)) 33 1 (σ.1 42 1)) 33 2 (σ.1 42 2)) 32 1 (σ.1 42 3)) 32 2 (σ.1 42 4)) 32 3 (σ.1 42 5)), σ.2))
set_option maxRecDepth 100000 in
theorem s_X11_back_32 {X : bz_X} (σ : bz_S) (v : Int32) : bz_C bz_P X mX11_back [.ref 32, .int v] σ (bz_pi (f_X11_back_32 σ v).1 (f_X11_back_32 σ v).2) := by
  show bz_wp bz_P X mX11_back (bz_pi (f_X11_back_32 σ v).1 (f_X11_back_32 σ v).2) (0, [some (.ref 32), some (.int v), none], [], σ)
  refine bz_wpb bT_X11_back 5 (b1 := (25, [some (.ref 32), some (.int v), some (.int 0)], [], σ)) (b2 := (7, [some (.ref 32), some (.int v), some (.int 0)], [], σ)) (C := 3 ≤ (0 : Int32)) (G := True) rfl trivial (fun z => absurd z (by decide)) (fun _ => ?_)
  refine bz_wpb bT_X11_back 13 (b1 := (25, [some (.ref 32), some (.int v), some (.int 1)], [], ((bz_up σ.1 33 0 (σ.1 42 0)), σ.2))) (b2 := (7, [some (.ref 32), some (.int v), some (.int 1)], [], ((bz_up σ.1 33 0 (σ.1 42 0)), σ.2))) (C := 3 ≤ (1 : Int32)) (G := vp_in 0 6 ∧ vp_in 0 3 ∧ True) rfl ⟨(bz_lit (by decide)), (bz_lit (by decide)), trivial⟩ (fun z => absurd z (by decide)) (fun _ => ?_)
  refine bz_wpb bT_X11_back 13 (b1 := (25, [some (.ref 32), some (.int v), some (.int 2)], [], ((bz_up (bz_up σ.1 33 0 (σ.1 42 0)) 33 1 (σ.1 42 1)), σ.2))) (b2 := (7, [some (.ref 32), some (.int v), some (.int 2)], [], ((bz_up (bz_up σ.1 33 0 (σ.1 42 0)) 33 1 (σ.1 42 1)), σ.2))) (C := 3 ≤ (2 : Int32)) (G := vp_in 1 6 ∧ vp_in 1 3 ∧ True) rfl ⟨(bz_lit (by decide)), (bz_lit (by decide)), trivial⟩ (fun z => absurd z (by decide)) (fun _ => ?_)
  refine bz_wpb bT_X11_back 13 (b1 := (25, [some (.ref 32), some (.int v), some (.int 3)], [], ((bz_up (bz_up (bz_up σ.1 33 0 (σ.1 42 0)) 33 1 (σ.1 42 1)) 33 2 (σ.1 42 2)), σ.2))) (b2 := (7, [some (.ref 32), some (.int v), some (.int 3)], [], ((bz_up (bz_up (bz_up σ.1 33 0 (σ.1 42 0)) 33 1 (σ.1 42 1)) 33 2 (σ.1 42 2)), σ.2))) (C := 3 ≤ (3 : Int32)) (G := vp_in 2 6 ∧ vp_in 2 3 ∧ True) rfl ⟨(bz_lit (by decide)), (bz_lit (by decide)), trivial⟩ (fun _ => ?_) (fun z => absurd (by decide) z)
  refine bz_wpn bT_X11_back 19 (b := (56, [some (.ref 32), some (.int v), some (.int 3)], [.int v], ((bz_up (bz_up (bz_up (bz_up (bz_up (bz_up σ.1 33 0 (σ.1 42 0)) 33 1 (σ.1 42 1)) 33 2 (σ.1 42 2)) 32 1 (σ.1 42 3)) 32 2 (σ.1 42 4)) 32 3 (σ.1 42 5)), σ.2))) (G := vp_in 3 6 ∧ vp_in 4 6 ∧ vp_in 5 6 ∧ True) rfl ⟨(bz_lit (by decide)), (bz_lit (by decide)), (bz_lit (by decide)), trivial⟩ ?_
  refine bz_wpr bT_X11_back rfl rfl trivial ?_
  have e9 : f_X11_back_32 σ v = (v, ((bz_up (bz_up (bz_up (bz_up (bz_up (bz_up σ.1 33 0 (σ.1 42 0)) 33 1 (σ.1 42 1)) 33 2 (σ.1 42 2)) 32 1 (σ.1 42 3)) 32 2 (σ.1 42 4)) 32 3 (σ.1 42 5)), σ.2)) := by rw [f_X11_back_32]
  exact ⟨by rw [e9], by rw [e9]⟩
theorem rf_X11_back_32 (σ : bz_S) (v : Int32) : bz_fr [32, 33] σ (f_X11_back_32 σ v).2 := by
  unfold f_X11_back_32
  exact ⟨(bz_f1_up (bz_f1_up (bz_f1_up (bz_f1_up (bz_f1_up (bz_f1_up (bz_fr_rf).1 (by decide)) (by decide)) (by decide)) (by decide)) (by decide)) (by decide)), (bz_fr_rf).2⟩
theorem qf_X11_back_32 (σ : bz_S) (v : Int32) : bz_fo [1, 2, 3] σ (f_X11_back_32 σ v).2 := by
  unfold f_X11_back_32
  exact (bz_fo_up (f := _) (bz_fo_up (f := _) (bz_fo_up (f := _) (bz_fo_no (f := _) (bz_fo_no (f := _) (bz_fo_no (f := _) bz_fo_rf (by decide)) (by decide)) (by decide)) (by decide)) (by decide)) (by decide))

def f_X11_downMany_32 (σ : bz_S)  : Int32 := if 0 ≤ (σ.1 33 0) then if 0 ≤ (σ.1 33 1) then if 0 ≤ (σ.1 33 2) then 0 else 1 else (if 0 ≤ (σ.1 33 2) then 1 else 2) else (if 0 ≤ (σ.1 33 1) then if 0 ≤ (σ.1 33 2) then 1 else 2 else (if 0 ≤ (σ.1 33 2) then 2 else 3))
set_option maxRecDepth 100000 in
theorem s_X11_downMany_32 {X : bz_X} (σ : bz_S) : bz_C bz_P X mX11_downMany [.ref 32] σ (bz_pi (f_X11_downMany_32 σ) σ) := by
  show bz_wp bz_P X mX11_downMany (bz_pi (f_X11_downMany_32 σ) σ) (0, [some (.ref 32), none, none], [], σ)
  refine bz_wpb bT_X11_downMany 7 (b1 := (32, [some (.ref 32), some (.int 0), some (.int 0)], [], σ)) (b2 := (9, [some (.ref 32), some (.int 0), some (.int 0)], [], σ)) (C := 3 ≤ (0 : Int32)) (G := True) rfl trivial (fun z => absurd z (by decide)) (fun _ => ?_)
  refine bz_wpb bT_X11_downMany 6 (b1 := (23, [some (.ref 32), some (.int 0), some (.int 0)], [.int 0], σ)) (b2 := (19, [some (.ref 32), some (.int 0), some (.int 0)], [.int 0], σ)) (C := 0 ≤ (σ.1 33 0)) (G := vp_in 0 3 ∧ True) rfl ⟨(bz_lit (by decide)), trivial⟩ (fun h1 => ?_) (fun h1 => ?_)
  · skip
    refine bz_wpb bT_X11_downMany 8 (b1 := (32, [some (.ref 32), some (.int 0), some (.int 1)], [], σ)) (b2 := (9, [some (.ref 32), some (.int 0), some (.int 1)], [], σ)) (C := 3 ≤ (1 : Int32)) (G := True) rfl trivial (fun z => absurd z (by decide)) (fun _ => ?_)
    refine bz_wpb bT_X11_downMany 6 (b1 := (23, [some (.ref 32), some (.int 0), some (.int 1)], [.int 0], σ)) (b2 := (19, [some (.ref 32), some (.int 0), some (.int 1)], [.int 0], σ)) (C := 0 ≤ (σ.1 33 1)) (G := vp_in 1 3 ∧ True) rfl ⟨(bz_lit (by decide)), trivial⟩ (fun h2 => ?_) (fun h2 => ?_)
    · skip
      refine bz_wpb bT_X11_downMany 8 (b1 := (32, [some (.ref 32), some (.int 0), some (.int 2)], [], σ)) (b2 := (9, [some (.ref 32), some (.int 0), some (.int 2)], [], σ)) (C := 3 ≤ (2 : Int32)) (G := True) rfl trivial (fun z => absurd z (by decide)) (fun _ => ?_)
      refine bz_wpb bT_X11_downMany 6 (b1 := (23, [some (.ref 32), some (.int 0), some (.int 2)], [.int 0], σ)) (b2 := (19, [some (.ref 32), some (.int 0), some (.int 2)], [.int 0], σ)) (C := 0 ≤ (σ.1 33 2)) (G := vp_in 2 3 ∧ True) rfl ⟨(bz_lit (by decide)), trivial⟩ (fun h3 => ?_) (fun h3 => ?_)
      · skip
        refine bz_wpb bT_X11_downMany 8 (b1 := (32, [some (.ref 32), some (.int 0), some (.int 3)], [], σ)) (b2 := (9, [some (.ref 32), some (.int 0), some (.int 3)], [], σ)) (C := 3 ≤ (3 : Int32)) (G := True) rfl trivial (fun _ => ?_) (fun z => absurd (by decide) z)
        refine bz_wpn bT_X11_downMany 1 (b := (33, [some (.ref 32), some (.int 0), some (.int 3)], [.int 0], σ)) (G := True) rfl trivial ?_
        refine bz_wpr bT_X11_downMany rfl rfl trivial ?_
        have e9 : f_X11_downMany_32 σ = 0 := by rw [f_X11_downMany_32, if_pos (h1), if_pos (h2), if_pos (h3)]
        exact ⟨by rw [e9], rfl⟩
      · skip
        refine bz_wpb bT_X11_downMany 9 (b1 := (32, [some (.ref 32), some (.int 1), some (.int 3)], [], σ)) (b2 := (9, [some (.ref 32), some (.int 1), some (.int 3)], [], σ)) (C := 3 ≤ (3 : Int32)) (G := True) rfl trivial (fun _ => ?_) (fun z => absurd (by decide) z)
        refine bz_wpn bT_X11_downMany 1 (b := (33, [some (.ref 32), some (.int 1), some (.int 3)], [.int 1], σ)) (G := True) rfl trivial ?_
        refine bz_wpr bT_X11_downMany rfl rfl trivial ?_
        have e9 : f_X11_downMany_32 σ = 1 := by rw [f_X11_downMany_32, if_pos (h1), if_pos (h2), if_neg (h3)]
        exact ⟨by rw [e9], rfl⟩
    · skip
      refine bz_wpb bT_X11_downMany 9 (b1 := (32, [some (.ref 32), some (.int 1), some (.int 2)], [], σ)) (b2 := (9, [some (.ref 32), some (.int 1), some (.int 2)], [], σ)) (C := 3 ≤ (2 : Int32)) (G := True) rfl trivial (fun z => absurd z (by decide)) (fun _ => ?_)
      refine bz_wpb bT_X11_downMany 6 (b1 := (23, [some (.ref 32), some (.int 1), some (.int 2)], [.int 1], σ)) (b2 := (19, [some (.ref 32), some (.int 1), some (.int 2)], [.int 1], σ)) (C := 0 ≤ (σ.1 33 2)) (G := vp_in 2 3 ∧ True) rfl ⟨(bz_lit (by decide)), trivial⟩ (fun h4 => ?_) (fun h4 => ?_)
      · skip
        refine bz_wpb bT_X11_downMany 8 (b1 := (32, [some (.ref 32), some (.int 1), some (.int 3)], [], σ)) (b2 := (9, [some (.ref 32), some (.int 1), some (.int 3)], [], σ)) (C := 3 ≤ (3 : Int32)) (G := True) rfl trivial (fun _ => ?_) (fun z => absurd (by decide) z)
        refine bz_wpn bT_X11_downMany 1 (b := (33, [some (.ref 32), some (.int 1), some (.int 3)], [.int 1], σ)) (G := True) rfl trivial ?_
        refine bz_wpr bT_X11_downMany rfl rfl trivial ?_
        have e9 : f_X11_downMany_32 σ = 1 := by rw [f_X11_downMany_32, if_pos (h1), if_neg (h2), if_pos (h4)]
        exact ⟨by rw [e9], rfl⟩
      · skip
        refine bz_wpb bT_X11_downMany 9 (b1 := (32, [some (.ref 32), some (.int 2), some (.int 3)], [], σ)) (b2 := (9, [some (.ref 32), some (.int 2), some (.int 3)], [], σ)) (C := 3 ≤ (3 : Int32)) (G := True) rfl trivial (fun _ => ?_) (fun z => absurd (by decide) z)
        refine bz_wpn bT_X11_downMany 1 (b := (33, [some (.ref 32), some (.int 2), some (.int 3)], [.int 2], σ)) (G := True) rfl trivial ?_
        refine bz_wpr bT_X11_downMany rfl rfl trivial ?_
        have e9 : f_X11_downMany_32 σ = 2 := by rw [f_X11_downMany_32, if_pos (h1), if_neg (h2), if_neg (h4)]
        exact ⟨by rw [e9], rfl⟩
  · skip
    refine bz_wpb bT_X11_downMany 9 (b1 := (32, [some (.ref 32), some (.int 1), some (.int 1)], [], σ)) (b2 := (9, [some (.ref 32), some (.int 1), some (.int 1)], [], σ)) (C := 3 ≤ (1 : Int32)) (G := True) rfl trivial (fun z => absurd z (by decide)) (fun _ => ?_)
    refine bz_wpb bT_X11_downMany 6 (b1 := (23, [some (.ref 32), some (.int 1), some (.int 1)], [.int 1], σ)) (b2 := (19, [some (.ref 32), some (.int 1), some (.int 1)], [.int 1], σ)) (C := 0 ≤ (σ.1 33 1)) (G := vp_in 1 3 ∧ True) rfl ⟨(bz_lit (by decide)), trivial⟩ (fun h5 => ?_) (fun h5 => ?_)
    · skip
      refine bz_wpb bT_X11_downMany 8 (b1 := (32, [some (.ref 32), some (.int 1), some (.int 2)], [], σ)) (b2 := (9, [some (.ref 32), some (.int 1), some (.int 2)], [], σ)) (C := 3 ≤ (2 : Int32)) (G := True) rfl trivial (fun z => absurd z (by decide)) (fun _ => ?_)
      refine bz_wpb bT_X11_downMany 6 (b1 := (23, [some (.ref 32), some (.int 1), some (.int 2)], [.int 1], σ)) (b2 := (19, [some (.ref 32), some (.int 1), some (.int 2)], [.int 1], σ)) (C := 0 ≤ (σ.1 33 2)) (G := vp_in 2 3 ∧ True) rfl ⟨(bz_lit (by decide)), trivial⟩ (fun h6 => ?_) (fun h6 => ?_)
      · skip
        refine bz_wpb bT_X11_downMany 8 (b1 := (32, [some (.ref 32), some (.int 1), some (.int 3)], [], σ)) (b2 := (9, [some (.ref 32), some (.int 1), some (.int 3)], [], σ)) (C := 3 ≤ (3 : Int32)) (G := True) rfl trivial (fun _ => ?_) (fun z => absurd (by decide) z)
        refine bz_wpn bT_X11_downMany 1 (b := (33, [some (.ref 32), some (.int 1), some (.int 3)], [.int 1], σ)) (G := True) rfl trivial ?_
        refine bz_wpr bT_X11_downMany rfl rfl trivial ?_
        have e9 : f_X11_downMany_32 σ = 1 := by rw [f_X11_downMany_32, if_neg (h1), if_pos (h5), if_pos (h6)]
        exact ⟨by rw [e9], rfl⟩
      · skip
        refine bz_wpb bT_X11_downMany 9 (b1 := (32, [some (.ref 32), some (.int 2), some (.int 3)], [], σ)) (b2 := (9, [some (.ref 32), some (.int 2), some (.int 3)], [], σ)) (C := 3 ≤ (3 : Int32)) (G := True) rfl trivial (fun _ => ?_) (fun z => absurd (by decide) z)
        refine bz_wpn bT_X11_downMany 1 (b := (33, [some (.ref 32), some (.int 2), some (.int 3)], [.int 2], σ)) (G := True) rfl trivial ?_
        refine bz_wpr bT_X11_downMany rfl rfl trivial ?_
        have e9 : f_X11_downMany_32 σ = 2 := by rw [f_X11_downMany_32, if_neg (h1), if_pos (h5), if_neg (h6)]
        exact ⟨by rw [e9], rfl⟩
    · skip
      refine bz_wpb bT_X11_downMany 9 (b1 := (32, [some (.ref 32), some (.int 2), some (.int 2)], [], σ)) (b2 := (9, [some (.ref 32), some (.int 2), some (.int 2)], [], σ)) (C := 3 ≤ (2 : Int32)) (G := True) rfl trivial (fun z => absurd z (by decide)) (fun _ => ?_)
      refine bz_wpb bT_X11_downMany 6 (b1 := (23, [some (.ref 32), some (.int 2), some (.int 2)], [.int 2], σ)) (b2 := (19, [some (.ref 32), some (.int 2), some (.int 2)], [.int 2], σ)) (C := 0 ≤ (σ.1 33 2)) (G := vp_in 2 3 ∧ True) rfl ⟨(bz_lit (by decide)), trivial⟩ (fun h7 => ?_) (fun h7 => ?_)
      · skip
        refine bz_wpb bT_X11_downMany 8 (b1 := (32, [some (.ref 32), some (.int 2), some (.int 3)], [], σ)) (b2 := (9, [some (.ref 32), some (.int 2), some (.int 3)], [], σ)) (C := 3 ≤ (3 : Int32)) (G := True) rfl trivial (fun _ => ?_) (fun z => absurd (by decide) z)
        refine bz_wpn bT_X11_downMany 1 (b := (33, [some (.ref 32), some (.int 2), some (.int 3)], [.int 2], σ)) (G := True) rfl trivial ?_
        refine bz_wpr bT_X11_downMany rfl rfl trivial ?_
        have e9 : f_X11_downMany_32 σ = 2 := by rw [f_X11_downMany_32, if_neg (h1), if_neg (h5), if_pos (h7)]
        exact ⟨by rw [e9], rfl⟩
      · skip
        refine bz_wpb bT_X11_downMany 9 (b1 := (32, [some (.ref 32), some (.int 3), some (.int 3)], [], σ)) (b2 := (9, [some (.ref 32), some (.int 3), some (.int 3)], [], σ)) (C := 3 ≤ (3 : Int32)) (G := True) rfl trivial (fun _ => ?_) (fun z => absurd (by decide) z)
        refine bz_wpn bT_X11_downMany 1 (b := (33, [some (.ref 32), some (.int 3), some (.int 3)], [.int 3], σ)) (G := True) rfl trivial ?_
        refine bz_wpr bT_X11_downMany rfl rfl trivial ?_
        have e9 : f_X11_downMany_32 σ = 3 := by rw [f_X11_downMany_32, if_neg (h1), if_neg (h5), if_neg (h7)]
        exact ⟨by rw [e9], rfl⟩

def f_X11_seen_32 (σ : bz_S) (st : Int32) (c : Int32) : Int32 × bz_S := if f_X11_isCell c = true then if f_X11_in (Int32.toInt64 st) 0 60 = true then if (σ.1 32 6) = 8 then ((-4), σ) else (((σ.1 32 6) + 1), ((bz_up (bz_up (bz_up σ.1 34 ((σ.1 32 6).toNatClampNeg) st) 35 ((σ.1 32 6).toNatClampNeg) c) 32 6 ((σ.1 32 6) + 1)), σ.2)) else ((-2), σ) else ((-1), σ)
set_option maxRecDepth 100000 in
theorem s_X11_seen_32 {X : bz_X} (σ : bz_S) (st : Int32) (c : Int32) (hs : bz_sgM σ) : bz_C bz_P X mX11_seen [.ref 32, .int st, .int c] σ (bz_pi (f_X11_seen_32 σ st c).1 (f_X11_seen_32 σ st c).2) := by
  show bz_wp bz_P X mX11_seen (bz_pi (f_X11_seen_32 σ st c).1 (f_X11_seen_32 σ st c).2) (0, [some (.ref 32), some (.int st), some (.int c)], [], σ)
  refine bz_wpn bT_X11_seen 1 (b := (1, [some (.ref 32), some (.int st), some (.int c)], [.int c], σ)) (G := True) rfl trivial ?_
  refine bz_wci bT_X11_seen [.int c] (pc' := 4) (rest := []) rfl rfl (Nat.le_of_ble_eq_true rfl) rfl (Nat.le_of_ble_eq_true rfl) rfl (s_X11_isCell σ c) rfl ?_
  refine bz_wpb bT_X11_seen 1 (b1 := (9, [some (.ref 32), some (.int st), some (.int c)], [], σ)) (b2 := (7, [some (.ref 32), some (.int st), some (.int c)], [], σ)) (C := ¬ bz_b (f_X11_isCell c) = 0) (G := True) rfl trivial (fun h1 => ?_) (fun h1 => ?_)
  · skip
    have h1 := bz_b1 h1
    refine bz_wpn bT_X11_seen 4 (b := (15, [some (.ref 32), some (.int st), some (.int c)], [.long 60, .long 0, .long (Int32.toInt64 st)], σ)) (G := True) rfl trivial ?_
    refine bz_wci bT_X11_seen [.long (Int32.toInt64 st), .long 0, .long 60] (pc' := 18) (rest := []) rfl rfl (Nat.le_of_ble_eq_true rfl) rfl (Nat.le_of_ble_eq_true rfl) rfl (s_X11_in σ (Int32.toInt64 st) 0 60) rfl ?_
    refine bz_wpb bT_X11_seen 1 (b1 := (24, [some (.ref 32), some (.int st), some (.int c)], [], σ)) (b2 := (21, [some (.ref 32), some (.int st), some (.int c)], [], σ)) (C := ¬ bz_b (f_X11_in (Int32.toInt64 st) 0 60) = 0) (G := True) rfl trivial (fun h2 => ?_) (fun h2 => ?_)
    · skip
      have h2 := bz_b1 h2
      refine bz_wpb bT_X11_seen 4 (b1 := (36, [some (.ref 32), some (.int st), some (.int c)], [], σ)) (b2 := (33, [some (.ref 32), some (.int st), some (.int c)], [], σ)) (C := ¬ (σ.1 32 6) = 8) (G := True) rfl trivial (fun h3 => ?_) (fun h3 => ?_)
      · skip
        refine bz_wpn bT_X11_seen 11 (b := (55, [some (.ref 32), some (.int st), some (.int c)], [.int c, .int (σ.1 32 6), .ref 35], ((bz_up σ.1 34 ((σ.1 32 6).toNatClampNeg) st), σ.2))) (G := vp_in (σ.1 32 6) 8 ∧ True) rfl ⟨(bz_sgM_i hs h3), trivial⟩ ?_
        refine bz_wpn bT_X11_seen 9 (b := (70, [some (.ref 32), some (.int st), some (.int c)], [.int ((σ.1 32 6) + 1)], ((bz_up (bz_up (bz_up σ.1 34 ((σ.1 32 6).toNatClampNeg) st) 35 ((σ.1 32 6).toNatClampNeg) c) 32 6 ((σ.1 32 6) + 1)), σ.2))) (G := vp_in (σ.1 32 6) 8 ∧ True) rfl ⟨(bz_sgM_i hs h3), trivial⟩ ?_
        refine bz_wpr bT_X11_seen rfl rfl trivial ?_
        have e9 : f_X11_seen_32 σ st c = (((σ.1 32 6) + 1), ((bz_up (bz_up (bz_up σ.1 34 ((σ.1 32 6).toNatClampNeg) st) 35 ((σ.1 32 6).toNatClampNeg) c) 32 6 ((σ.1 32 6) + 1)), σ.2)) := by rw [f_X11_seen_32, if_pos (h1), if_pos (h2), if_neg (h3)]
        exact ⟨by rw [e9], by rw [e9]⟩
      · skip
        refine bz_wpn bT_X11_seen 1 (b := (35, [some (.ref 32), some (.int st), some (.int c)], [.int (-4)], σ)) (G := True) rfl trivial ?_
        refine bz_wpr bT_X11_seen rfl rfl trivial ?_
        have e9 : f_X11_seen_32 σ st c = ((-4), σ) := by rw [f_X11_seen_32, if_pos (h1), if_pos (h2), if_pos ((Decidable.not_not.mp h3))]
        exact ⟨by rw [e9], by rw [e9]⟩
    · skip
      have h2 := bz_b0 (Decidable.not_not.mp h2)
      refine bz_wpn bT_X11_seen 1 (b := (23, [some (.ref 32), some (.int st), some (.int c)], [.int (-2)], σ)) (G := True) rfl trivial ?_
      refine bz_wpr bT_X11_seen rfl rfl trivial ?_
      have e9 : f_X11_seen_32 σ st c = ((-2), σ) := by rw [f_X11_seen_32, if_pos (h1), if_neg (bz_ff h2)]
      exact ⟨by rw [e9], by rw [e9]⟩
  · skip
    have h1 := bz_b0 (Decidable.not_not.mp h1)
    refine bz_wpn bT_X11_seen 1 (b := (8, [some (.ref 32), some (.int st), some (.int c)], [.int (-1)], σ)) (G := True) rfl trivial ?_
    refine bz_wpr bT_X11_seen rfl rfl trivial ?_
    have e9 : f_X11_seen_32 σ st c = ((-1), σ) := by rw [f_X11_seen_32, if_neg (bz_ff h1)]
    exact ⟨by rw [e9], by rw [e9]⟩
theorem rf_X11_seen_32 (σ : bz_S) (st : Int32) (c : Int32) : bz_fr [32, 34, 35] σ (f_X11_seen_32 σ st c).2 := by
  unfold f_X11_seen_32
  exact (bz_ite2 (bz_ite2 (bz_ite2 bz_fr_rf ⟨(bz_f1_up (bz_f1_up (bz_f1_up (bz_fr_rf).1 (by decide)) (by decide)) (by decide)), (bz_fr_rf).2⟩) bz_fr_rf) bz_fr_rf)
theorem qf_X11_seen_32 (σ : bz_S) (st : Int32) (c : Int32) : bz_fo [6] σ (f_X11_seen_32 σ st c).2 := by
  unfold f_X11_seen_32
  exact (bz_ite2 (bz_ite2 (bz_ite2 bz_fo_rf (bz_fo_up (f := _) (bz_fo_no (f := _) (bz_fo_no (f := _) bz_fo_rf (by decide)) (by decide)) (by decide))) bz_fo_rf) bz_fo_rf)

def f_X11_forget_32 (σ : bz_S)  : Int32 × bz_S := ((σ.1 32 6), ((bz_up σ.1 32 6 0), σ.2))
set_option maxRecDepth 100000 in
theorem s_X11_forget_32 {X : bz_X} (σ : bz_S) : bz_C bz_P X mX11_forget [.ref 32] σ (bz_pi (f_X11_forget_32 σ).1 (f_X11_forget_32 σ).2) := by
  show bz_wp bz_P X mX11_forget (bz_pi (f_X11_forget_32 σ).1 (f_X11_forget_32 σ).2) (0, [some (.ref 32), none], [], σ)
  refine bz_wpn bT_X11_forget 7 (b := (11, [some (.ref 32), some (.int (σ.1 32 6))], [.int (σ.1 32 6)], ((bz_up σ.1 32 6 0), σ.2))) (G := True) rfl trivial ?_
  refine bz_wpr bT_X11_forget rfl rfl trivial ?_
  have e9 : f_X11_forget_32 σ = ((σ.1 32 6), ((bz_up σ.1 32 6 0), σ.2)) := by rw [f_X11_forget_32]
  exact ⟨by rw [e9], by rw [e9]⟩
theorem rf_X11_forget_32 (σ : bz_S)  : bz_fr [32] σ (f_X11_forget_32 σ).2 := by
  unfold f_X11_forget_32
  exact ⟨(bz_f1_up (bz_fr_rf).1 (by decide)), (bz_fr_rf).2⟩
theorem qf_X11_forget_32 (σ : bz_S)  : bz_fo [6] σ (f_X11_forget_32 σ).2 := by
  unfold f_X11_forget_32
  exact (bz_fo_up (f := _) bz_fo_rf (by decide))

def f_X11_digit (row : Int32) (he : Int32) : Int32 := if he = 0 then (row / 100) else (if he = 1 then ((row / 10) % 10) else (row % 10))
set_option maxRecDepth 100000 in
theorem s_X11_digit {X : bz_X} (σ : bz_S) (row : Int32) (he : Int32) : bz_C bz_P X mX11_digit [.int row, .int he] σ (bz_pi (f_X11_digit row he) σ) := by
  show bz_wp bz_P X mX11_digit (bz_pi (f_X11_digit row he) σ) (0, [some (.int row), some (.int he)], [], σ)
  refine bz_wpb bT_X11_digit 2 (b1 := (11, [some (.int row), some (.int he)], [], σ)) (b2 := (4, [some (.int row), some (.int he)], [], σ)) (C := ¬ he = 0) (G := True) rfl trivial (fun h1 => ?_) (fun h1 => ?_)
  · skip
    refine bz_wpb bT_X11_digit 3 (b1 := (26, [some (.int row), some (.int he)], [], σ)) (b2 := (16, [some (.int row), some (.int he)], [], σ)) (C := ¬ he = 1) (G := True) rfl trivial (fun h2 => ?_) (fun h2 => ?_)
    · skip
      refine bz_wpn bT_X11_digit 3 (b := (30, [some (.int row), some (.int he)], [.int (row % 10)], σ)) (G := ¬ (10 : Int32) = 0 ∧ True) rfl ⟨(by decide), trivial⟩ ?_
      refine bz_wpr bT_X11_digit rfl rfl trivial ?_
      have e9 : f_X11_digit row he = (row % 10) := by rw [f_X11_digit, if_neg (h1), if_neg (h2)]
      exact ⟨by rw [e9], rfl⟩
    · skip
      refine bz_wpn bT_X11_digit 6 (b := (30, [some (.int row), some (.int he)], [.int ((row / 10) % 10)], σ)) (G := ¬ (10 : Int32) = 0 ∧ ¬ (10 : Int32) = 0 ∧ True) rfl ⟨(by decide), (by decide), trivial⟩ ?_
      refine bz_wpr bT_X11_digit rfl rfl trivial ?_
      have e9 : f_X11_digit row he = ((row / 10) % 10) := by rw [f_X11_digit, if_neg (h1), if_pos ((Decidable.not_not.mp h2))]
      exact ⟨by rw [e9], rfl⟩
  · skip
    refine bz_wpn bT_X11_digit 4 (b := (30, [some (.int row), some (.int he)], [.int (row / 100)], σ)) (G := ¬ (100 : Int32) = 0 ∧ True) rfl ⟨(by decide), trivial⟩ ?_
    refine bz_wpr bT_X11_digit rfl rfl trivial ?_
    have e9 : f_X11_digit row he = (row / 100) := by rw [f_X11_digit, if_pos ((Decidable.not_not.mp h1))]
    exact ⟨by rw [e9], rfl⟩

def f_X11_tenTo (he : Int32) : Int32 := if he = 0 then 100 else (if he = 1 then 10 else 1)
set_option maxRecDepth 100000 in
theorem s_X11_tenTo {X : bz_X} (σ : bz_S) (he : Int32) : bz_C bz_P X mX11_tenTo [.int he] σ (bz_pi (f_X11_tenTo he) σ) := by
  show bz_wp bz_P X mX11_tenTo (bz_pi (f_X11_tenTo he) σ) (0, [some (.int he)], [], σ)
  refine bz_wpb bT_X11_tenTo 2 (b1 := (9, [some (.int he)], [], σ)) (b2 := (4, [some (.int he)], [], σ)) (C := ¬ he = 0) (G := True) rfl trivial (fun h1 => ?_) (fun h1 => ?_)
  · skip
    refine bz_wpb bT_X11_tenTo 3 (b1 := (19, [some (.int he)], [], σ)) (b2 := (14, [some (.int he)], [], σ)) (C := ¬ he = 1) (G := True) rfl trivial (fun h2 => ?_) (fun h2 => ?_)
    · skip
      refine bz_wpn bT_X11_tenTo 1 (b := (20, [some (.int he)], [.int 1], σ)) (G := True) rfl trivial ?_
      refine bz_wpr bT_X11_tenTo rfl rfl trivial ?_
      have e9 : f_X11_tenTo he = 1 := by rw [f_X11_tenTo, if_neg (h1), if_neg (h2)]
      exact ⟨by rw [e9], rfl⟩
    · skip
      refine bz_wpn bT_X11_tenTo 2 (b := (20, [some (.int he)], [.int 10], σ)) (G := True) rfl trivial ?_
      refine bz_wpr bT_X11_tenTo rfl rfl trivial ?_
      have e9 : f_X11_tenTo he = 10 := by rw [f_X11_tenTo, if_neg (h1), if_pos ((Decidable.not_not.mp h2))]
      exact ⟨by rw [e9], rfl⟩
  · skip
    refine bz_wpn bT_X11_tenTo 2 (b := (20, [some (.int he)], [.int 100], σ)) (G := True) rfl trivial ?_
    refine bz_wpr bT_X11_tenTo rfl rfl trivial ?_
    have e9 : f_X11_tenTo he = 100 := by rw [f_X11_tenTo, if_pos ((Decidable.not_not.mp h1))]
    exact ⟨by rw [e9], rfl⟩

def f_X11_actBy (by_ : Int32) : Int32 := if 5 ≤ by_ then if by_ = 5 then 1 else (if by_ = 6 then 2 else 3) else 0
set_option maxRecDepth 100000 in
theorem s_X11_actBy {X : bz_X} (σ : bz_S) (by_ : Int32) : bz_C bz_P X mX11_actBy [.int by_] σ (bz_pi (f_X11_actBy by_) σ) := by
  show bz_wp bz_P X mX11_actBy (bz_pi (f_X11_actBy by_) σ) (0, [some (.int by_)], [], σ)
  refine bz_wpb bT_X11_actBy 3 (b1 := (9, [some (.int by_)], [], σ)) (b2 := (5, [some (.int by_)], [], σ)) (C := 5 ≤ by_) (G := True) rfl trivial (fun h1 => ?_) (fun h1 => ?_)
  · skip
    refine bz_wpb bT_X11_actBy 3 (b1 := (18, [some (.int by_)], [], σ)) (b2 := (14, [some (.int by_)], [], σ)) (C := ¬ by_ = 5) (G := True) rfl trivial (fun h2 => ?_) (fun h2 => ?_)
    · skip
      refine bz_wpb bT_X11_actBy 3 (b1 := (28, [some (.int by_)], [], σ)) (b2 := (24, [some (.int by_)], [], σ)) (C := ¬ by_ = 6) (G := True) rfl trivial (fun h3 => ?_) (fun h3 => ?_)
      · skip
        refine bz_wpn bT_X11_actBy 1 (b := (29, [some (.int by_)], [.int 3], σ)) (G := True) rfl trivial ?_
        refine bz_wpr bT_X11_actBy rfl rfl trivial ?_
        have e9 : f_X11_actBy by_ = 3 := by rw [f_X11_actBy, if_pos (h1), if_neg (h2), if_neg (h3)]
        exact ⟨by rw [e9], rfl⟩
      · skip
        refine bz_wpn bT_X11_actBy 2 (b := (29, [some (.int by_)], [.int 2], σ)) (G := True) rfl trivial ?_
        refine bz_wpr bT_X11_actBy rfl rfl trivial ?_
        have e9 : f_X11_actBy by_ = 2 := by rw [f_X11_actBy, if_pos (h1), if_neg (h2), if_pos ((Decidable.not_not.mp h3))]
        exact ⟨by rw [e9], rfl⟩
    · skip
      refine bz_wpn bT_X11_actBy 2 (b := (29, [some (.int by_)], [.int 1], σ)) (G := True) rfl trivial ?_
      refine bz_wpr bT_X11_actBy rfl rfl trivial ?_
      have e9 : f_X11_actBy by_ = 1 := by rw [f_X11_actBy, if_pos (h1), if_pos ((Decidable.not_not.mp h2))]
      exact ⟨by rw [e9], rfl⟩
  · skip
    refine bz_wpn bT_X11_actBy 2 (b := (29, [some (.int by_)], [.int 0], σ)) (G := True) rfl trivial ?_
    refine bz_wpr bT_X11_actBy rfl rfl trivial ?_
    have e9 : f_X11_actBy by_ = 0 := by rw [f_X11_actBy, if_neg (h1)]
    exact ⟨by rw [e9], rfl⟩

theorem bz_w1012 {k : Int32} (h : f_X10_isWithin k 10 12 = true) : vp_in (k - 10) 3 := by
  obtain ⟨h1, h2⟩ := bz_int (m := 10) (n := 12) (by decide) (by decide) h
  have h3 : k.toInt = 10 ∨ k.toInt = 11 ∨ k.toInt = 12 := by omega
  rcases h3 with h3 | h3 | h3
  · rw [show k = 10 from Int32.toInt_inj.mp (by rw [h3]; decide)]; exact bz_lit (by decide)
  · rw [show k = 11 from Int32.toInt_inj.mp (by rw [h3]; decide)]; exact bz_lit (by decide)
  · rw [show k = 12 from Int32.toInt_inj.mp (by rw [h3]; decide)]; exact bz_lit (by decide)

def f_X11_told_32 (σ : bz_S) (what : Int32) : Int32 := if f_X11_in (Int32.toInt64 what) 10 12 = true then (σ.1 33 ((what - 10).toNatClampNeg)) else (if what = 0 then (σ.1 32 8) else (if what = 1 then (σ.1 32 1) else (if what = 2 then (σ.1 32 2) else (if what = 3 then (σ.1 32 3) else (if what = 4 then (σ.1 32 6) else (-2))))))
set_option maxRecDepth 100000 in
theorem s_X11_told_32 {X : bz_X} (σ : bz_S) (what : Int32) : bz_C bz_P X mX11_told [.ref 32, .int what] σ (bz_pi (f_X11_told_32 σ what) σ) := by
  show bz_wp bz_P X mX11_told (bz_pi (f_X11_told_32 σ what) σ) (0, [some (.ref 32), some (.int what)], [], σ)
  refine bz_wpn bT_X11_told 4 (b := (8, [some (.ref 32), some (.int what)], [.long 12, .long 10, .long (Int32.toInt64 what)], σ)) (G := True) rfl trivial ?_
  refine bz_wci bT_X11_told [.long (Int32.toInt64 what), .long 10, .long 12] (pc' := 11) (rest := []) rfl rfl (Nat.le_of_ble_eq_true rfl) rfl (Nat.le_of_ble_eq_true rfl) rfl (s_X11_in σ (Int32.toInt64 what) 10 12) rfl ?_
  refine bz_wpb bT_X11_told 1 (b1 := (24, [some (.ref 32), some (.int what)], [], σ)) (b2 := (14, [some (.ref 32), some (.int what)], [], σ)) (C := bz_b (f_X11_in (Int32.toInt64 what) 10 12) = 0) (G := True) rfl trivial (fun h1 => ?_) (fun h1 => ?_)
  · skip
    have h1 := bz_b0 h1
    refine bz_wpn bT_X11_told 2 (b := (bz_sw (what).toInt (bz_mk 0 [60, 65, 70, 75, 80]) 85, [some (.ref 32), some (.int what)], [], σ)) (G := True) rfl trivial ?_
    by_cases w2 : what = 0
    · rw [show bz_sw (what).toInt (bz_mk 0 [60, 65, 70, 75, 80]) 85 = 60 from by rw [w2]; decide]
      refine bz_wpn bT_X11_told 2 (b := (64, [some (.ref 32), some (.int what)], [.int (σ.1 32 8)], σ)) (G := True) rfl trivial ?_
      refine bz_wpr bT_X11_told rfl rfl trivial ?_
      have e9 : f_X11_told_32 σ what = (σ.1 32 8) := by rw [f_X11_told_32, if_neg (bz_ff h1), if_pos (w2)]
      exact ⟨by rw [e9], rfl⟩
    by_cases w3 : what = 1
    · rw [show bz_sw (what).toInt (bz_mk 0 [60, 65, 70, 75, 80]) 85 = 65 from by rw [w3]; decide]
      refine bz_wpn bT_X11_told 2 (b := (69, [some (.ref 32), some (.int what)], [.int (σ.1 32 1)], σ)) (G := True) rfl trivial ?_
      refine bz_wpr bT_X11_told rfl rfl trivial ?_
      have e9 : f_X11_told_32 σ what = (σ.1 32 1) := by rw [f_X11_told_32, if_neg (bz_ff h1), if_neg (w2), if_pos (w3)]
      exact ⟨by rw [e9], rfl⟩
    by_cases w4 : what = 2
    · rw [show bz_sw (what).toInt (bz_mk 0 [60, 65, 70, 75, 80]) 85 = 70 from by rw [w4]; decide]
      refine bz_wpn bT_X11_told 2 (b := (74, [some (.ref 32), some (.int what)], [.int (σ.1 32 2)], σ)) (G := True) rfl trivial ?_
      refine bz_wpr bT_X11_told rfl rfl trivial ?_
      have e9 : f_X11_told_32 σ what = (σ.1 32 2) := by rw [f_X11_told_32, if_neg (bz_ff h1), if_neg (w2), if_neg (w3), if_pos (w4)]
      exact ⟨by rw [e9], rfl⟩
    by_cases w5 : what = 3
    · rw [show bz_sw (what).toInt (bz_mk 0 [60, 65, 70, 75, 80]) 85 = 75 from by rw [w5]; decide]
      refine bz_wpn bT_X11_told 2 (b := (79, [some (.ref 32), some (.int what)], [.int (σ.1 32 3)], σ)) (G := True) rfl trivial ?_
      refine bz_wpr bT_X11_told rfl rfl trivial ?_
      have e9 : f_X11_told_32 σ what = (σ.1 32 3) := by rw [f_X11_told_32, if_neg (bz_ff h1), if_neg (w2), if_neg (w3), if_neg (w4), if_pos (w5)]
      exact ⟨by rw [e9], rfl⟩
    by_cases w6 : what = 4
    · rw [show bz_sw (what).toInt (bz_mk 0 [60, 65, 70, 75, 80]) 85 = 80 from by rw [w6]; decide]
      refine bz_wpn bT_X11_told 2 (b := (84, [some (.ref 32), some (.int what)], [.int (σ.1 32 6)], σ)) (G := True) rfl trivial ?_
      refine bz_wpr bT_X11_told rfl rfl trivial ?_
      have e9 : f_X11_told_32 σ what = (σ.1 32 6) := by rw [f_X11_told_32, if_neg (bz_ff h1), if_neg (w2), if_neg (w3), if_neg (w4), if_neg (w5), if_pos (w6)]
      exact ⟨by rw [e9], rfl⟩
    · rw [show bz_sw (what).toInt (bz_mk 0 [60, 65, 70, 75, 80]) 85 = 85 from by simp only [bz_mk, bz_sw]; rw [if_neg (lv_neT w2 (by decide)), if_neg (lv_neT w3 (by decide)), if_neg (lv_neT w4 (by decide)), if_neg (lv_neT w5 (by decide)), if_neg (lv_neT w6 (by decide))]]
      refine bz_wpn bT_X11_told 1 (b := (87, [some (.ref 32), some (.int what)], [.int (-2)], σ)) (G := True) rfl trivial ?_
      refine bz_wpr bT_X11_told rfl rfl trivial ?_
      have e9 : f_X11_told_32 σ what = (-2) := by rw [f_X11_told_32, if_neg (bz_ff h1), if_neg (w2), if_neg (w3), if_neg (w4), if_neg (w5), if_neg (w6)]
      exact ⟨by rw [e9], rfl⟩
  · skip
    have h1 := bz_b1 h1
    refine bz_wpn bT_X11_told 6 (b := (23, [some (.ref 32), some (.int what)], [.int (σ.1 33 ((what - 10).toNatClampNeg))], σ)) (G := vp_in (what - 10) 3 ∧ True) rfl ⟨(bz_w1012 ((bz_inW (b := what) (lo := 10) (hi := 12) (l := 10) (h := 12) (by decide) (by decide)).symm.trans h1)), trivial⟩ ?_
    refine bz_wpr bT_X11_told rfl rfl trivial ?_
    have e9 : f_X11_told_32 σ what = (σ.1 33 ((what - 10).toNatClampNeg)) := by rw [f_X11_told_32, if_pos (h1)]
    exact ⟨by rw [e9], rfl⟩
