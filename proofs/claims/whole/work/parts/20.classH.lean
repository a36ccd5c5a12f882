theorem bz_mulN (a b : Nat) : nI a * nI b = nI (a * b) := (Int32.ofNat_mul a b).symm
theorem bz_10 {x y : Int32} {a b : Nat} (hx : x = nI a) (hy : y = nI b) : (10 * x) + y = nI (10 * a + b) := by
  rw [hx, hy]
  show nI 10 * nI a + nI b = _
  rw [bz_mulN, nI_add]
def bz_lt (m : Nat) (x : Int32) : Prop := ∃ j, j < m ∧ x = nI j
theorem bz_lt_n {m : Nat} {x : Int32} (h : bz_lt m x) (hm : m < 2 ^ 31) : ¬ x < 0 := by
  obtain ⟨j, hj, rfl⟩ := h
  exact nI_pos (by omega)
theorem bz_lt10 {x y : Int32} (hx : bz_lt 100 x) (hy : bz_lt 10 y) : ¬ (10 * x) + y < 0 := by
  obtain ⟨a, ha, ha2⟩ := hx
  obtain ⟨b, hb, hb2⟩ := hy
  rw [bz_10 ha2 hb2]
  exact nI_pos (by omega)
theorem bz_ltd {x : Int32} (hx : bz_lt 100 x) : bz_lt 10 (x / 10) := by
  obtain ⟨a, ha, rfl⟩ := hx
  exact ⟨a / 10, by omega, bz_divN (d := 10) (by omega) (by decide) (by decide)⟩
theorem bz_ltm {x : Int32} (hx : bz_lt 100 x) : bz_lt 10 (x % 10) := by
  obtain ⟨a, ha, rfl⟩ := hx
  exact ⟨a % 10, by omega, bz_modN (d := 10) (by omega) (by decide) (by decide)⟩
theorem bz_dn {t : Int32} {n : Nat} (h : t + 1 = nI (n + 1)) : t = nI n := by
  rw [nI_succ] at h
  exact (Int32.add_left_inj 1).mp h
theorem bz_dn' {t : Int32} {n : Nat} (h : t + 1 = nI (n + 1)) : t + -1 + 1 = nI n := by
  rw [bz_dn h, Int32.add_assoc]
  show nI n + 0 = nI n
  exact Int32.add_zero _

def lp_w2 (th : Int32) (fi : Int32) (se : Int32) : Nat → bz_S → Int32 → Bool
  | 0, σ, le => false
  | n + 1, σ, le => if (σ.1 18 (((10 * fi) + le).toNatClampNeg)) = th then true else (lp_w2 th fi se n σ (le + 1))
set_option maxRecDepth 100000 in
theorem s_lp_w2 {X : bz_X} (th : Int32) (fi : Int32) (se : Int32) (FN : Nat) (hF : fi = nI FN) (hF2 : FN < 10) (SN : Nat) (hS : se = nI SN) (hS2 : SN < 10) (ot row : Int32) : ∀ (n : Nat) (σ : bz_S) (le : Int32) (j9 : Nat) (hi : le = nI j9) (hj : j9 + n = SN), bz_wp bz_P X mX0_winsAtOnce (bz_pi (bz_b (lp_w2 th fi se n σ le)) σ) (72, [some (.ref 17), some (.int ot), some (.int th), some (.int row), some (.int fi), some (.int se), some (.int le)], [], σ) := by
  intro n
  induction n with
  | zero =>
    intro σ le j9 hi hj
    refine bz_wpb bT_X0_winsAtOnce 3 (b1 := (104, [some (.ref 17), some (.int ot), some (.int th), some (.int row), some (.int fi), some (.int se), some (.int le)], [], σ)) (b2 := (79, [some (.ref 17), some (.int ot), some (.int th), some (.int row), some (.int fi), some (.int se), some (.int le)], [], σ)) (C := se ≤ le) (G := True) rfl trivial (fun _ => ?_) (fun z => absurd (show se ≤ le from by rw [hi, hS]; exact nI_le (by omega) (by omega)) z)
    refine bz_wpn bT_X0_winsAtOnce 1 (b := (105, [some (.ref 17), some (.int ot), some (.int th), some (.int row), some (.int fi), some (.int se), some (.int le)], [.int 0], σ)) (G := True) rfl trivial ?_
    refine bz_wpr bT_X0_winsAtOnce rfl rfl (show (0 : Int32) = 0 ∨ (0 : Int32) = 1 by decide) ?_
    have e9 : lp_w2 th fi se 0 σ le = false := by rw [lp_w2]
    exact ⟨by rw [e9]; rfl, rfl⟩
  | succ n ih =>
    intro σ le j9 hi hj
    refine bz_wpb bT_X0_winsAtOnce 3 (b1 := (104, [some (.ref 17), some (.int ot), some (.int th), some (.int row), some (.int fi), some (.int se), some (.int le)], [], σ)) (b2 := (79, [some (.ref 17), some (.int ot), some (.int th), some (.int row), some (.int fi), some (.int se), some (.int le)], [], σ)) (C := se ≤ le) (G := True) rfl trivial (fun z => absurd z (show ¬ se ≤ le from by rw [hi, hS]; exact nI_ge (by omega) (by omega))) (fun _ => ?_)
    refine bz_wpb bT_X0_winsAtOnce 10 (b1 := (98, [some (.ref 17), some (.int ot), some (.int th), some (.int row), some (.int fi), some (.int se), some (.int le)], [], σ)) (b2 := (96, [some (.ref 17), some (.int ot), some (.int th), some (.int row), some (.int fi), some (.int se), some (.int le)], [], σ)) (C := ¬ (σ.1 18 (((10 * fi) + le).toNatClampNeg)) = th) (G := vp_in ((10 * fi) + le) 100 ∧ True) rfl ⟨(by rw [bz_10 hF hi]; exact vp_in_nI (by omega) (by decide)), trivial⟩ (fun h1 => ?_) (fun h1 => ?_)
    · skip
      refine bz_wpn bT_X0_winsAtOnce 2 (b := (72, [some (.ref 17), some (.int ot), some (.int th), some (.int row), some (.int fi), some (.int se), some (.int (le + 1))], [], σ)) (G := True) rfl trivial ?_
      have e9 : lp_w2 th fi se (n + 1) σ le = (lp_w2 th fi se n σ (le + 1)) := by rw [lp_w2, if_neg (h1)]
      rw [e9]
      exact ih σ (le + 1) (j9 + 1) (by rw [hi]; exact nI_1 j9) (by omega)
    · skip
      refine bz_wpn bT_X0_winsAtOnce 1 (b := (97, [some (.ref 17), some (.int ot), some (.int th), some (.int row), some (.int fi), some (.int se), some (.int le)], [.int 1], σ)) (G := True) rfl trivial ?_
      refine bz_wpr bT_X0_winsAtOnce rfl rfl (show (1 : Int32) = 0 ∨ (1 : Int32) = 1 by decide) ?_
      have e9 : lp_w2 th fi se (n + 1) σ le = true := by rw [lp_w2, if_pos ((Decidable.not_not.mp h1))]
      exact ⟨by rw [e9]; rfl, rfl⟩

def lp_w1 (th : Int32) (fi : Int32) (se : Int32) : Nat → bz_S → Int32 → Bool
  | 0, σ, le => lp_w2 th fi se se.toNatClampNeg σ 0
  | n + 1, σ, le => if (σ.1 18 (((10 * le) + se).toNatClampNeg)) = th then true else (lp_w1 th fi se n σ (le + 1))
set_option maxRecDepth 100000 in
theorem s_lp_w1 {X : bz_X} (th : Int32) (fi : Int32) (se : Int32) (FN : Nat) (hF : fi = nI FN) (hF2 : FN < 10) (SN : Nat) (hS : se = nI SN) (hS2 : SN < 10) (ot row : Int32) : ∀ (n : Nat) (σ : bz_S) (le : Int32) (j9 : Nat) (hi : le = nI j9) (hj : j9 + n = FN), bz_wp bz_P X mX0_winsAtOnce (bz_pi (bz_b (lp_w1 th fi se n σ le)) σ) (37, [some (.ref 17), some (.int ot), some (.int th), some (.int row), some (.int fi), some (.int se), some (.int le)], [], σ) := by
  intro n
  induction n with
  | zero =>
    intro σ le j9 hi hj
    refine bz_wpb bT_X0_winsAtOnce 3 (b1 := (69, [some (.ref 17), some (.int ot), some (.int th), some (.int row), some (.int fi), some (.int se), some (.int le)], [], σ)) (b2 := (44, [some (.ref 17), some (.int ot), some (.int th), some (.int row), some (.int fi), some (.int se), some (.int le)], [], σ)) (C := fi ≤ le) (G := True) rfl trivial (fun _ => ?_) (fun z => absurd (show fi ≤ le from by rw [hi, hF]; exact nI_le (by omega) (by omega)) z)
    refine bz_wpn bT_X0_winsAtOnce 2 (b := (72, [some (.ref 17), some (.int ot), some (.int th), some (.int row), some (.int fi), some (.int se), some (.int 0)], [], σ)) (G := True) rfl trivial ?_
    have e9 : lp_w1 th fi se 0 σ le = lp_w2 th fi se se.toNatClampNeg σ 0 := by rw [lp_w1]
    rw [e9]
    exact s_lp_w2 th fi se FN hF hF2 SN hS hS2 ot row _ σ 0 0 rfl (by rw [hS, nI_clamp (by omega)]; omega)
  | succ n ih =>
    intro σ le j9 hi hj
    refine bz_wpb bT_X0_winsAtOnce 3 (b1 := (69, [some (.ref 17), some (.int ot), some (.int th), some (.int row), some (.int fi), some (.int se), some (.int le)], [], σ)) (b2 := (44, [some (.ref 17), some (.int ot), some (.int th), some (.int row), some (.int fi), some (.int se), some (.int le)], [], σ)) (C := fi ≤ le) (G := True) rfl trivial (fun z => absurd z (show ¬ fi ≤ le from by rw [hi, hF]; exact nI_ge (by omega) (by omega))) (fun _ => ?_)
    refine bz_wpb bT_X0_winsAtOnce 10 (b1 := (63, [some (.ref 17), some (.int ot), some (.int th), some (.int row), some (.int fi), some (.int se), some (.int le)], [], σ)) (b2 := (61, [some (.ref 17), some (.int ot), some (.int th), some (.int row), some (.int fi), some (.int se), some (.int le)], [], σ)) (C := ¬ (σ.1 18 (((10 * le) + se).toNatClampNeg)) = th) (G := vp_in ((10 * le) + se) 100 ∧ True) rfl ⟨(by rw [bz_10 hi hS]; exact vp_in_nI (by omega) (by decide)), trivial⟩ (fun h1 => ?_) (fun h1 => ?_)
    · skip
      refine bz_wpn bT_X0_winsAtOnce 2 (b := (37, [some (.ref 17), some (.int ot), some (.int th), some (.int row), some (.int fi), some (.int se), some (.int (le + 1))], [], σ)) (G := True) rfl trivial ?_
      have e9 : lp_w1 th fi se (n + 1) σ le = (lp_w1 th fi se n σ (le + 1)) := by rw [lp_w1, if_neg (h1)]
      rw [e9]
      exact ih σ (le + 1) (j9 + 1) (by rw [hi]; exact nI_1 j9) (by omega)
    · skip
      refine bz_wpn bT_X0_winsAtOnce 1 (b := (62, [some (.ref 17), some (.int ot), some (.int th), some (.int row), some (.int fi), some (.int se), some (.int le)], [.int 1], σ)) (G := True) rfl trivial ?_
      refine bz_wpr bT_X0_winsAtOnce rfl rfl (show (1 : Int32) = 0 ∨ (1 : Int32) = 1 by decide) ?_
      have e9 : lp_w1 th fi se (n + 1) σ le = true := by rw [lp_w1, if_pos ((Decidable.not_not.mp h1))]
      exact ⟨by rw [e9]; rfl, rfl⟩

def f_X0_winsAtOnce_17 (σ : bz_S) (ot : Int32) (th : Int32) : Bool := if ((10 * ot) + th) = 0 then lp_w1 th (ot / 10) (ot % 10) (ot / 10).toNatClampNeg σ 0 else (if f_X0_isLost_17 σ ((10 * ot) + th) 0 = true then true else lp_w1 th (ot / 10) (ot % 10) (ot / 10).toNatClampNeg σ 0)
set_option maxRecDepth 100000 in
theorem s_X0_winsAtOnce_17 {X : bz_X} (σ : bz_S) (ot : Int32) (th : Int32) (ho : bz_lt 100 ot) (ht : bz_lt 10 th) : bz_C bz_P X mX0_winsAtOnce [.ref 17, .int ot, .int th] σ (bz_pi (bz_b (f_X0_winsAtOnce_17 σ ot th)) σ) := by
  show bz_wp bz_P X mX0_winsAtOnce (bz_pi (bz_b (f_X0_winsAtOnce_17 σ ot th)) σ) (0, [some (.ref 17), some (.int ot), some (.int th), none, none, none, none], [], σ)
  refine bz_wpb bT_X0_winsAtOnce 8 (b1 := (22, [some (.ref 17), some (.int ot), some (.int th), some (.int ((10 * ot) + th)), none, none, none], [], σ)) (b2 := (11, [some (.ref 17), some (.int ot), some (.int th), some (.int ((10 * ot) + th)), none, none, none], [], σ)) (C := ((10 * ot) + th) = 0) (G := True) rfl trivial (fun h1 => ?_) (fun h1 => ?_)
  · skip
    refine bz_wpn bT_X0_winsAtOnce 10 (b := (37, [some (.ref 17), some (.int ot), some (.int th), some (.int ((10 * ot) + th)), some (.int (ot / 10)), some (.int (ot % 10)), some (.int 0)], [], σ)) (G := ¬ (10 : Int32) = 0 ∧ ¬ (10 : Int32) = 0 ∧ True) rfl ⟨(by decide), (by decide), trivial⟩ ?_
    have e9 : f_X0_winsAtOnce_17 σ ot th = lp_w1 th (ot / 10) (ot % 10) (ot / 10).toNatClampNeg σ 0 := by rw [f_X0_winsAtOnce_17, if_pos (h1)]
    rw [e9]
    obtain ⟨FN, hF2, hF⟩ := bz_ltd ho
    obtain ⟨SN, hS2, hS⟩ := bz_ltm ho
    exact s_lp_w1 th _ _ FN hF hF2 SN hS hS2 ot _ _ σ 0 0 rfl (by rw [hF, nI_clamp (by omega)]; omega)
  · skip
    refine bz_wpn bT_X0_winsAtOnce 3 (b := (14, [some (.ref 17), some (.int ot), some (.int th), some (.int ((10 * ot) + th)), none, none, none], [.int 0, .int ((10 * ot) + th), .ref 17], σ)) (G := True) rfl trivial ?_
    refine bz_wci bT_X0_winsAtOnce [.ref 17, .int ((10 * ot) + th), .int 0] (pc' := 17) (rest := []) rfl rfl (Nat.le_of_ble_eq_true rfl) rfl (Nat.le_of_ble_eq_true rfl) rfl (s_X0_isLost_17 σ ((10 * ot) + th) 0 (bz_lt10 ho ht)) rfl ?_
    refine bz_wpb bT_X0_winsAtOnce 1 (b1 := (22, [some (.ref 17), some (.int ot), some (.int th), some (.int ((10 * ot) + th)), none, none, none], [], σ)) (b2 := (20, [some (.ref 17), some (.int ot), some (.int th), some (.int ((10 * ot) + th)), none, none, none], [], σ)) (C := bz_b (f_X0_isLost_17 σ ((10 * ot) + th) 0) = 0) (G := True) rfl trivial (fun h2 => ?_) (fun h2 => ?_)
    · skip
      have h2 := bz_b0 h2
      refine bz_wpn bT_X0_winsAtOnce 10 (b := (37, [some (.ref 17), some (.int ot), some (.int th), some (.int ((10 * ot) + th)), some (.int (ot / 10)), some (.int (ot % 10)), some (.int 0)], [], σ)) (G := ¬ (10 : Int32) = 0 ∧ ¬ (10 : Int32) = 0 ∧ True) rfl ⟨(by decide), (by decide), trivial⟩ ?_
      have e9 : f_X0_winsAtOnce_17 σ ot th = lp_w1 th (ot / 10) (ot % 10) (ot / 10).toNatClampNeg σ 0 := by rw [f_X0_winsAtOnce_17, if_neg (h1), if_neg (bz_ff h2)]
      rw [e9]
      obtain ⟨FN, hF2, hF⟩ := bz_ltd ho
      obtain ⟨SN, hS2, hS⟩ := bz_ltm ho
      exact s_lp_w1 th _ _ FN hF hF2 SN hS hS2 ot _ _ σ 0 0 rfl (by rw [hF, nI_clamp (by omega)]; omega)
    · skip
      have h2 := bz_b1 h2
      refine bz_wpn bT_X0_winsAtOnce 1 (b := (21, [some (.ref 17), some (.int ot), some (.int th), some (.int ((10 * ot) + th)), none, none, none], [.int 1], σ)) (G := True) rfl trivial ?_
      refine bz_wpr bT_X0_winsAtOnce rfl rfl (show (1 : Int32) = 0 ∨ (1 : Int32) = 1 by decide) ?_
      have e9 : f_X0_winsAtOnce_17 σ ot th = true := by rw [f_X0_winsAtOnce_17, if_neg (h1), if_pos (h2)]
      exact ⟨by rw [e9]; rfl, rfl⟩

def lp_learn1 (ot : Int32) : Nat → bz_S → Int32 → bz_S
  | 0, σ, th => σ
  | n + 1, σ, th => if f_X0_winsAtOnce_17 σ ot th = true then (lp_learn1 ot n σ (th + (-1))) else (lp_learn1 ot n ((bz_up σ.1 18 ot.toNatClampNeg th), σ.2) (th + (-1)))
set_option maxRecDepth 100000 in
theorem s_lp_learn1 {X : bz_X} (ot : Int32) {Q : bz_Q} (ho : bz_lt 100 ot) : ∀ (n : Nat) (σ : bz_S) (th : Int32) (hi : th + 1 = nI n) (hn : n ≤ 10) (kk : bz_wp bz_P X mX0_learn Q (52, [some (.ref 17), some (.int ot), none], [], (lp_learn1 ot n σ th))), bz_wp bz_P X mX0_learn (Q) (26, [some (.ref 17), some (.int ot), some (.int th)], [], σ) := by
  intro n
  induction n with
  | zero =>
    intro σ th hi hn kk
    refine bz_wpb bT_X0_learn 2 (b1 := (52, [some (.ref 17), some (.int ot), some (.int th)], [], σ)) (b2 := (30, [some (.ref 17), some (.int ot), some (.int th)], [], σ)) (C := th < 0) (G := True) rfl trivial (fun _ => ?_) (fun z => absurd (show th < 0 from by rw [show th = -1 from by have := hi; rw [show nI 0 = (-1 : Int32) + 1 from by decide] at this; exact (Int32.add_left_inj 1).mp this]; decide) z)
    have e9 : lp_learn1 ot 0 σ th = σ := by rw [lp_learn1]
    rw [e9] at kk
    refine bz_wpw (by exact ⟨rfl, rfl, trivial⟩) kk
  | succ n ih =>
    intro σ th hi hn kk
    refine bz_wpb bT_X0_learn 2 (b1 := (52, [some (.ref 17), some (.int ot), some (.int th)], [], σ)) (b2 := (30, [some (.ref 17), some (.int ot), some (.int th)], [], σ)) (C := th < 0) (G := True) rfl trivial (fun z => absurd z (show ¬ th < 0 from by rw [bz_dn hi]; exact nI_pos (by omega))) (fun _ => ?_)
    refine bz_wpn bT_X0_learn 3 (b := (33, [some (.ref 17), some (.int ot), some (.int th)], [.int th, .int ot, .ref 17], σ)) (G := True) rfl trivial ?_
    refine bz_wci bT_X0_learn [.ref 17, .int ot, .int th] (pc' := 36) (rest := []) rfl rfl (Nat.le_of_ble_eq_true rfl) rfl (Nat.le_of_ble_eq_true rfl) rfl (s_X0_winsAtOnce_17 σ ot th ho ⟨n, by omega, bz_dn hi⟩) rfl ?_
    refine bz_wpb bT_X0_learn 1 (b1 := (46, [some (.ref 17), some (.int ot), some (.int th)], [], σ)) (b2 := (39, [some (.ref 17), some (.int ot), some (.int th)], [], σ)) (C := ¬ bz_b (f_X0_winsAtOnce_17 σ ot th) = 0) (G := True) rfl trivial (fun h1 => ?_) (fun h1 => ?_)
    · skip
      have h1 := bz_b1 h1
      refine bz_wpn bT_X0_learn 2 (b := (26, [some (.ref 17), some (.int ot), some (.int (th + (-1)))], [], σ)) (G := True) rfl trivial ?_
      have e9 : lp_learn1 ot (n + 1) σ th = (lp_learn1 ot n σ (th + (-1))) := by rw [lp_learn1, if_pos (h1)]
      rw [e9] at kk
      exact ih σ (th + (-1)) (bz_dn' hi) (by omega) kk
    · skip
      have h1 := bz_b0 (Decidable.not_not.mp h1)
      refine bz_wpn bT_X0_learn 7 (b := (26, [some (.ref 17), some (.int ot), some (.int (th + (-1)))], [], ((bz_up σ.1 18 ot.toNatClampNeg th), σ.2))) (G := vp_in ot 100 ∧ True) rfl ⟨(by obtain ⟨q, hq, he⟩ := ho; rw [he]; exact vp_in_nI hq (by decide)), trivial⟩ ?_
      have e9 : lp_learn1 ot (n + 1) σ th = (lp_learn1 ot n ((bz_up σ.1 18 ot.toNatClampNeg th), σ.2) (th + (-1))) := by rw [lp_learn1, if_neg (bz_ff h1)]
      rw [e9] at kk
      exact ih ((bz_up σ.1 18 ot.toNatClampNeg th), σ.2) (th + (-1)) (bz_dn' hi) (by omega) kk
theorem rlp_learn1 (ot : Int32) : ∀ (n : Nat) (σ : bz_S) (th : Int32), bz_fr [18] σ (lp_learn1 ot n σ th) := by
  intro n
  induction n with
  | zero =>
    intro σ th
    rw [lp_learn1]
    exact bz_fr_rf
  | succ n ihc =>
    intro σ th
    rw [lp_learn1]
    exact (bz_ite (bz_fr_tr (τ := σ) bz_fr_rf (ihc σ (th + (-1)))) (bz_fr_tr (τ := ((bz_up σ.1 18 ot.toNatClampNeg th), σ.2)) ⟨(bz_f1_up (bz_fr_rf).1 (by decide)), (bz_fr_rf).2⟩ (ihc ((bz_up σ.1 18 ot.toNatClampNeg th), σ.2) (th + (-1)))))

def lp_learn_a (rc : bz_S → Int32 → bz_S) (σ : bz_S) (ot : Int32) (τ1 : bz_S) : bz_S := (rc τ1 (ot + 1))
def lp_learn : Nat → bz_S → Int32 → bz_S
  | 0, σ, ot => ((bz_up σ.1 17 1 1), σ.2)
  | n + 1, σ, ot => if (σ.1 17 1) = 0 then (lp_learn_a (lp_learn n) σ ot ((lp_learn1 ot (bz_k 10) ((bz_up σ.1 18 ot.toNatClampNeg (-6)), σ.2) 9))) else ((bz_up σ.1 17 1 1), σ.2)
set_option maxRecDepth 100000 in
theorem s_lp_learn {X : bz_X} : ∀ (n : Nat) (σ : bz_S) (ot : Int32) (j9 : Nat) (hi : ot = nI j9) (hj : j9 + n = 100), bz_wp bz_P X mX0_learn (bz_pv (lp_learn n σ ot)) (2, [some (.ref 17), some (.int ot), none], [], σ) := by
  intro n
  induction n with
  | zero =>
    intro σ ot j9 hi hj
    refine bz_wpb bT_X0_learn 3 (b1 := (58, [some (.ref 17), some (.int ot), none], [], σ)) (b2 := (8, [some (.ref 17), some (.int ot), none], [], σ)) (C := 100 ≤ ot) (G := True) rfl trivial (fun _ => ?_) (fun z => absurd (show (100 : Int32) ≤ ot from by rw [hi, show j9 = 100 from by omega]; decide) z)
    refine bz_wpn bT_X0_learn 3 (b := (63, [some (.ref 17), some (.int ot), none], [], ((bz_up σ.1 17 1 1), σ.2))) (G := ((1 : Int32) = 0 ∨ (1 : Int32) = 1) ∧ True) rfl ⟨(by decide), trivial⟩ ?_
    refine bz_wpr bT_X0_learn rfl rfl trivial ?_
    have e9 : lp_learn 0 σ ot = ((bz_up σ.1 17 1 1), σ.2) := by rw [lp_learn]
    exact ⟨rfl, by rw [e9]⟩
  | succ n ih =>
    intro σ ot j9 hi hj
    refine bz_wpb bT_X0_learn 3 (b1 := (58, [some (.ref 17), some (.int ot), none], [], σ)) (b2 := (8, [some (.ref 17), some (.int ot), none], [], σ)) (C := 100 ≤ ot) (G := True) rfl trivial (fun z => absurd z (show ¬ (100 : Int32) ≤ ot from by rw [hi]; exact nI_ge (b := 100) (by omega) (by decide))) (fun _ => ?_)
    refine bz_wpb bT_X0_learn 3 (b1 := (58, [some (.ref 17), some (.int ot), none], [], σ)) (b2 := (15, [some (.ref 17), some (.int ot), none], [], σ)) (C := ¬ (σ.1 17 1) = 0) (G := True) rfl trivial (fun h1 => ?_) (fun h1 => ?_)
    · skip
      refine bz_wpn bT_X0_learn 3 (b := (63, [some (.ref 17), some (.int ot), none], [], ((bz_up σ.1 17 1 1), σ.2))) (G := ((1 : Int32) = 0 ∨ (1 : Int32) = 1) ∧ True) rfl ⟨(by decide), trivial⟩ ?_
      refine bz_wpr bT_X0_learn rfl rfl trivial ?_
      have e9 : lp_learn (n + 1) σ ot = ((bz_up σ.1 17 1 1), σ.2) := by rw [lp_learn, if_neg (h1)]
      exact ⟨rfl, by rw [e9]⟩
    · skip
      refine bz_wpn bT_X0_learn 7 (b := (26, [some (.ref 17), some (.int ot), some (.int 9)], [], ((bz_up σ.1 18 ot.toNatClampNeg (-6)), σ.2))) (G := vp_in ot 100 ∧ True) rfl ⟨(by rw [hi]; exact vp_in_nI (by omega) (by decide)), trivial⟩ ?_
      refine s_lp_learn1 ot ⟨j9, by omega, hi⟩ (bz_k 10) ((bz_up σ.1 18 ot.toNatClampNeg (-6)), σ.2) 9 (by rw [bz_k_eq]; decide) (by rw [bz_k_eq]; omega) ?_
      generalize hτ1 : (lp_learn1 ot (bz_k 10) ((bz_up σ.1 18 ot.toNatClampNeg (-6)), σ.2) 9) = τ1
      refine bz_wpn bT_X0_learn 2 (b := (2, [some (.ref 17), some (.int (ot + 1)), none], [], τ1)) (G := True) rfl trivial ?_
      have e9 : lp_learn (n + 1) σ ot = (lp_learn n τ1 (ot + 1)) := by rw [lp_learn, if_pos ((Decidable.not_not.mp h1)), hτ1, lp_learn_a]
      rw [e9]
      exact ih τ1 (ot + 1) (j9 + 1) (by rw [hi]; exact nI_1 j9) (by omega)
theorem rlp_learn_a (rc : bz_S → Int32 → bz_S) (σ : bz_S) (ot : Int32) (τ1 : bz_S) (ihc : ∀ (σ : bz_S) (ot : Int32), bz_fr [17, 18] σ (rc σ ot)) (fτ1 : bz_fr [17, 18] σ τ1) : bz_fr [17, 18] σ (lp_learn_a rc σ ot τ1) := by
  unfold lp_learn_a
  exact (bz_fr_tr (τ := τ1) fτ1 (ihc τ1 (ot + 1)))
theorem rlp_learn : ∀ (n : Nat) (σ : bz_S) (ot : Int32), bz_fr [17, 18] σ (lp_learn n σ ot) := by
  intro n
  induction n with
  | zero =>
    intro σ ot
    rw [lp_learn]
    exact ⟨(bz_f1_up (bz_fr_rf).1 (by decide)), (bz_fr_rf).2⟩
  | succ n ihc =>
    intro σ ot
    rw [lp_learn]
    exact (bz_ite (rlp_learn_a (lp_learn n) σ ot ((lp_learn1 ot (bz_k 10) ((bz_up σ.1 18 ot.toNatClampNeg (-6)), σ.2) 9)) ihc (bz_fr_tr (τ := ((bz_up σ.1 18 ot.toNatClampNeg (-6)), σ.2)) ⟨(bz_f1_up (bz_fr_rf).1 (by decide)), (bz_fr_rf).2⟩ (bz_fr_mo (rlp_learn1 ot (bz_k 10) ((bz_up σ.1 18 ot.toNatClampNeg (-6)), σ.2) 9) (by decide)))) ⟨(bz_f1_up (bz_fr_rf).1 (by decide)), (bz_fr_rf).2⟩)

def f_X0_learn_17 (σ : bz_S)  : bz_S := lp_learn (bz_k 100) σ 0
set_option maxRecDepth 100000 in
theorem s_X0_learn_17 {X : bz_X} (σ : bz_S) : bz_C bz_P X mX0_learn [.ref 17] σ (bz_pv (f_X0_learn_17 σ)) := by
  show bz_wp bz_P X mX0_learn (bz_pv (f_X0_learn_17 σ)) (0, [some (.ref 17), none, none], [], σ)
  refine bz_wpn bT_X0_learn 2 (b := (2, [some (.ref 17), some (.int 0), none], [], σ)) (G := True) rfl trivial ?_
  have e9 : f_X0_learn_17 σ = lp_learn (bz_k 100) σ 0 := by rw [f_X0_learn_17]
  rw [e9]
  exact bz_wpw (by exact ⟨rfl, rfl, trivial⟩) (s_lp_learn (bz_k 100) σ 0 0 rfl (by rw [bz_k_eq]))
theorem rf_X0_learn_17 (σ : bz_S)  : bz_fr [17, 18] σ (f_X0_learn_17 σ) := by
  unfold f_X0_learn_17
  exact (bz_fr_tr (τ := σ) bz_fr_rf (bz_fr_mo (rlp_learn (bz_k 100) σ 0) (by decide)))
