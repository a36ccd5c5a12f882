def bz_pad (σ : bz_S) : Prop := ∃ N, N ≤ 60 ∧ σ.1 6 1 = nI N

def lp_fault : Nat → bz_S → Int32 → Int32 → Int32
  | 0, σ, ah, pl => if ah = 0 then (-6) else (σ.1 6 1)
  | n + 1, σ, ah, pl => if f_X3_canStand (σ.1 7 pl.toNatClampNeg) ah = true then if f_X3_isActAt (σ.1 7 pl.toNatClampNeg) ah = true then (lp_fault n σ 0 (pl + 1)) else (lp_fault n σ (ah + 1) (pl + 1)) else pl
set_option maxRecDepth 100000 in
theorem s_lp_fault {X : bz_X} (N : Nat) (h60 : N ≤ 60) : ∀ (n : Nat) (σ : bz_S) (ah : Int32) (pl : Int32) (j9 : Nat) (hi : pl = nI j9) (hj : j9 + n = N) (hN : σ.1 6 1 = nI N), bz_wp bz_P X mX3_firstFault (bz_pi (lp_fault n σ ah pl) σ) (4, [some (.ref 6), some (.int ah), some (.int pl), none], [], σ) := by
  intro n
  induction n with
  | zero =>
    intro σ ah pl j9 hi hj hN
    refine bz_wpb bT_X3_firstFault 4 (b1 := (51, [some (.ref 6), some (.int ah), some (.int pl), none], [], σ)) (b2 := (12, [some (.ref 6), some (.int ah), some (.int pl), none], [], σ)) (C := (σ.1 6 1) ≤ pl) (G := True) rfl trivial (fun _ => ?_) (fun z => absurd (show (σ.1 6 1) ≤ pl from by rw [hi, hN]; exact nI_le (by omega) (by omega)) z)
    refine bz_wpb bT_X3_firstFault 2 (b1 := (60, [some (.ref 6), some (.int ah), some (.int pl), none], [], σ)) (b2 := (55, [some (.ref 6), some (.int ah), some (.int pl), none], [], σ)) (C := ¬ ah = 0) (G := True) rfl trivial (fun h1 => ?_) (fun h1 => ?_)
    · skip
      refine bz_wpn bT_X3_firstFault 2 (b := (64, [some (.ref 6), some (.int ah), some (.int pl), none], [.int (σ.1 6 1)], σ)) (G := True) rfl trivial ?_
      refine bz_wpr bT_X3_firstFault rfl rfl trivial ?_
      have e9 : lp_fault 0 σ ah pl = (σ.1 6 1) := by rw [lp_fault, if_neg (h1)]
      exact ⟨by rw [e9], rfl⟩
    · skip
      refine bz_wpn bT_X3_firstFault 2 (b := (64, [some (.ref 6), some (.int ah), some (.int pl), none], [.int (-6)], σ)) (G := True) rfl trivial ?_
      refine bz_wpr bT_X3_firstFault rfl rfl trivial ?_
      have e9 : lp_fault 0 σ ah pl = (-6) := by rw [lp_fault, if_pos ((Decidable.not_not.mp h1))]
      exact ⟨by rw [e9], rfl⟩
  | succ n ih =>
    intro σ ah pl j9 hi hj hN
    refine bz_wpb bT_X3_firstFault 4 (b1 := (51, [some (.ref 6), some (.int ah), some (.int pl), none], [], σ)) (b2 := (12, [some (.ref 6), some (.int ah), some (.int pl), none], [], σ)) (C := (σ.1 6 1) ≤ pl) (G := True) rfl trivial (fun z => absurd z (show ¬ (σ.1 6 1) ≤ pl from by rw [hi, hN]; exact nI_ge (by omega) (by omega))) (fun _ => ?_)
    refine bz_wpn bT_X3_firstFault 7 (b := (21, [some (.ref 6), some (.int ah), some (.int pl), some (.int (σ.1 7 pl.toNatClampNeg))], [.int ah, .int (σ.1 7 pl.toNatClampNeg)], σ)) (G := vp_in pl 60 ∧ True) rfl ⟨(by rw [hi]; exact vp_in_nI (by omega) (by decide)), trivial⟩ ?_
    refine bz_wci bT_X3_firstFault [.int (σ.1 7 pl.toNatClampNeg), .int ah] (pc' := 24) (rest := []) rfl rfl (Nat.le_of_ble_eq_true rfl) rfl (Nat.le_of_ble_eq_true rfl) rfl (s_X3_canStand σ (σ.1 7 pl.toNatClampNeg) ah) rfl ?_
    refine bz_wpb bT_X3_firstFault 1 (b1 := (29, [some (.ref 6), some (.int ah), some (.int pl), some (.int (σ.1 7 pl.toNatClampNeg))], [], σ)) (b2 := (27, [some (.ref 6), some (.int ah), some (.int pl), some (.int (σ.1 7 pl.toNatClampNeg))], [], σ)) (C := ¬ bz_b (f_X3_canStand (σ.1 7 pl.toNatClampNeg) ah) = 0) (G := True) rfl trivial (fun h1 => ?_) (fun h1 => ?_)
    · skip
      have h1 := bz_b1 h1
      refine bz_wpn bT_X3_firstFault 2 (b := (31, [some (.ref 6), some (.int ah), some (.int pl), some (.int (σ.1 7 pl.toNatClampNeg))], [.int ah, .int (σ.1 7 pl.toNatClampNeg)], σ)) (G := True) rfl trivial ?_
      refine bz_wci bT_X3_firstFault [.int (σ.1 7 pl.toNatClampNeg), .int ah] (pc' := 34) (rest := []) rfl rfl (Nat.le_of_ble_eq_true rfl) rfl (Nat.le_of_ble_eq_true rfl) rfl (s_X3_isActAt σ (σ.1 7 pl.toNatClampNeg) ah) rfl ?_
      refine bz_wpb bT_X3_firstFault 1 (b1 := (41, [some (.ref 6), some (.int ah), some (.int pl), some (.int (σ.1 7 pl.toNatClampNeg))], [], σ)) (b2 := (37, [some (.ref 6), some (.int ah), some (.int pl), some (.int (σ.1 7 pl.toNatClampNeg))], [], σ)) (C := bz_b (f_X3_isActAt (σ.1 7 pl.toNatClampNeg) ah) = 0) (G := True) rfl trivial (fun h2 => ?_) (fun h2 => ?_)
      · skip
        have h2 := bz_b0 h2
        refine bz_wpn bT_X3_firstFault 6 (b := (4, [some (.ref 6), some (.int (ah + 1)), some (.int (pl + 1)), some (.int (σ.1 7 pl.toNatClampNeg))], [], σ)) (G := True) rfl trivial ?_
        have e9 : lp_fault (n + 1) σ ah pl = (lp_fault n σ (ah + 1) (pl + 1)) := by rw [lp_fault, if_pos (h1), if_neg (bz_ff h2)]
        rw [e9]
        refine bz_wpw (L' := [some (.ref 6), some (.int (ah + 1)), some (.int (pl + 1)), none]) (by exact ⟨rfl, rfl, rfl, trivial⟩) ?_
        exact ih σ (ah + 1) (pl + 1) (j9 + 1) (by rw [hi]; exact nI_1 j9) (by omega) hN
      · skip
        have h2 := bz_b1 h2
        refine bz_wpn bT_X3_firstFault 5 (b := (4, [some (.ref 6), some (.int 0), some (.int (pl + 1)), some (.int (σ.1 7 pl.toNatClampNeg))], [], σ)) (G := True) rfl trivial ?_
        have e9 : lp_fault (n + 1) σ ah pl = (lp_fault n σ 0 (pl + 1)) := by rw [lp_fault, if_pos (h1), if_pos (h2)]
        rw [e9]
        refine bz_wpw (L' := [some (.ref 6), some (.int 0), some (.int (pl + 1)), none]) (by exact ⟨rfl, rfl, rfl, trivial⟩) ?_
        exact ih σ 0 (pl + 1) (j9 + 1) (by rw [hi]; exact nI_1 j9) (by omega) hN
    · skip
      have h1 := bz_b0 (Decidable.not_not.mp h1)
      refine bz_wpn bT_X3_firstFault 1 (b := (28, [some (.ref 6), some (.int ah), some (.int pl), some (.int (σ.1 7 pl.toNatClampNeg))], [.int pl], σ)) (G := True) rfl trivial ?_
      refine bz_wpr bT_X3_firstFault rfl rfl trivial ?_
      have e9 : lp_fault (n + 1) σ ah pl = pl := by rw [lp_fault, if_neg (bz_ff h1)]
      exact ⟨by rw [e9], rfl⟩

def f_X3_firstFault_6 (σ : bz_S)  : Int32 := lp_fault (σ.1 6 1).toNatClampNeg σ 0 0
set_option maxRecDepth 100000 in
theorem s_X3_firstFault_6 {X : bz_X} (σ : bz_S) (hp : bz_pad σ) : bz_C bz_P X mX3_firstFault [.ref 6] σ (bz_pi (f_X3_firstFault_6 σ) σ) := by
  show bz_wp bz_P X mX3_firstFault (bz_pi (f_X3_firstFault_6 σ) σ) (0, [some (.ref 6), none, none, none], [], σ)
  refine bz_wpn bT_X3_firstFault 4 (b := (4, [some (.ref 6), some (.int 0), some (.int 0), none], [], σ)) (G := True) rfl trivial ?_
  have e9 : f_X3_firstFault_6 σ = lp_fault (σ.1 6 1).toNatClampNeg σ 0 0 := by rw [f_X3_firstFault_6]
  rw [e9]
  obtain ⟨N, h60, hN⟩ := hp
  exact s_lp_fault N h60 _ σ 0 0 0 rfl (by rw [hN, nI_clamp (by omega)]; omega) hN

theorem bz_sg {σ τ : bz_S} (h6 : σ.1 6 = τ.1 6) (h7 : σ.1 7 = τ.1 7) (p : Int32) : f_X3_signAt_6 σ p = f_X3_signAt_6 τ p := by
  simp only [f_X3_signAt_6, h6, h7]
theorem bz_ak {σ τ : bz_S} (h6 : σ.1 6 = τ.1 6) (h7 : σ.1 7 = τ.1 7) (p : Int32) : f_X3_actKind_6 σ p = f_X3_actKind_6 τ p := by
  simp only [f_X3_actKind_6, bz_sg h6 h7]
theorem bz_al {σ τ : bz_S} (h6 : σ.1 6 = τ.1 6) (h7 : σ.1 7 = τ.1 7) (p : Int32) : f_X3_actLength_6 σ p = f_X3_actLength_6 τ p := by
  simp only [f_X3_actLength_6, bz_ak h6 h7]
/-- an act that can be read at a place -/
def bz_okA (σ : bz_S) (p : Int32) : Prop := (f_X3_actKind_6 σ p = 0 ∨ f_X3_actKind_6 σ p = 1 → vp_in (f_X3_signAt_6 σ p - 65) 3) ∧ (f_X3_actKind_6 σ p = 0 → ¬ f_X3_signAt_6 σ (p + 2) - 48 < 0 ∧ f_X3_signAt_6 σ (p + 2) - 48 < 100)
def bz_okT (σ : bz_S) : Nat → Int32 → Prop
  | 0, p => σ.1 6 1 ≤ p
  | n + 1, p => σ.1 6 1 ≤ p ∨ (bz_okA σ p ∧ bz_okT σ n (p + f_X3_actLength_6 σ p))
theorem bz_okA_c {σ τ : bz_S} (h6 : σ.1 6 = τ.1 6) (h7 : σ.1 7 = τ.1 7) {p : Int32} (h : bz_okA τ p) : bz_okA σ p := by
  unfold bz_okA at h ⊢
  rw [bz_ak h6 h7, bz_sg h6 h7, bz_sg h6 h7]
  exact h
theorem bz_fr_at {S : List Nat} {σ τ : bz_S} (h : bz_fr S σ τ) (o : Nat) (ho : o ∉ S) : τ.1 o = σ.1 o := h.1 o ho

theorem bz_x6 {σ σ0 τ : bz_S} (h : bz_fr [8, 9, 10, 11] σ τ) (g6 : σ.1 6 = σ0.1 6) : τ.1 6 = σ0.1 6 := (bz_fr_at h 6 (by decide)).trans g6
theorem bz_x7 {σ σ0 τ : bz_S} (h : bz_fr [8, 9, 10, 11] σ τ) (g7 : σ.1 7 = σ0.1 7) : τ.1 7 = σ0.1 7 := (bz_fr_at h 7 (by decide)).trans g7

def lp_text_a (rc : bz_S → Int32 → bz_S) (σ : bz_S) (pl : Int32) (τ1 : Int32 × bz_S) : bz_S := if τ1.1 = 0 then if (τ1.2.1 8 7) = (-6) then if (τ1.2.1 9 2) ≤ (σ.1 9 2) then (rc ((bz_up τ1.2.1 8 2 ((τ1.2.1 8 2) + 1)), τ1.2.2) (pl + (f_X3_actLength_6 ((bz_up τ1.2.1 8 2 ((τ1.2.1 8 2) + 1)), τ1.2.2) pl))) else (rc ((bz_up (bz_up τ1.2.1 8 7 (τ1.2.1 8 2)) 8 2 ((τ1.2.1 8 2) + 1)), τ1.2.2) (pl + (f_X3_actLength_6 ((bz_up (bz_up τ1.2.1 8 7 (τ1.2.1 8 2)) 8 2 ((τ1.2.1 8 2) + 1)), τ1.2.2) pl))) else (rc ((bz_up τ1.2.1 8 2 ((τ1.2.1 8 2) + 1)), τ1.2.2) (pl + (f_X3_actLength_6 ((bz_up τ1.2.1 8 2 ((τ1.2.1 8 2) + 1)), τ1.2.2) pl))) else (if (τ1.2.1 8 7) = (-6) then if (τ1.2.1 9 2) ≤ (σ.1 9 2) then (rc ((bz_up (bz_up (bz_up τ1.2.1 8 3 (τ1.2.1 8 2)) 8 4 τ1.1) 8 2 ((τ1.2.1 8 2) + 1)), τ1.2.2) (pl + (f_X3_actLength_6 ((bz_up (bz_up (bz_up τ1.2.1 8 3 (τ1.2.1 8 2)) 8 4 τ1.1) 8 2 ((τ1.2.1 8 2) + 1)), τ1.2.2) pl))) else (rc ((bz_up (bz_up (bz_up (bz_up τ1.2.1 8 3 (τ1.2.1 8 2)) 8 4 τ1.1) 8 7 (τ1.2.1 8 2)) 8 2 ((τ1.2.1 8 2) + 1)), τ1.2.2) (pl + (f_X3_actLength_6 ((bz_up (bz_up (bz_up (bz_up τ1.2.1 8 3 (τ1.2.1 8 2)) 8 4 τ1.1) 8 7 (τ1.2.1 8 2)) 8 2 ((τ1.2.1 8 2) + 1)), τ1.2.2) pl))) else (rc ((bz_up (bz_up (bz_up τ1.2.1 8 3 (τ1.2.1 8 2)) 8 4 τ1.1) 8 2 ((τ1.2.1 8 2) + 1)), τ1.2.2) (pl + (f_X3_actLength_6 ((bz_up (bz_up (bz_up τ1.2.1 8 3 (τ1.2.1 8 2)) 8 4 τ1.1) 8 2 ((τ1.2.1 8 2) + 1)), τ1.2.2) pl))))
def lp_text : Nat → bz_S → Int32 → bz_S
  | 0, σ, pl => σ
  | n + 1, σ, pl => if (σ.1 6 1) ≤ pl then σ else (if (σ.1 8 3) = (-6) then (lp_text_a (lp_text n) σ pl (f_X8_tryAct_8 σ (f_X3_actKind_6 σ pl) ((f_X3_signAt_6 σ pl) - 65) ((f_X3_signAt_6 σ (pl + 1)) - 48) ((f_X3_signAt_6 σ (pl + 2)) - 48))) else σ)
set_option maxRecDepth 100000 in
theorem s_lp_text {X : bz_X} (σ0 : bz_S) (hc : (σ0.1 6 1) - 1 < 60) : ∀ (n : Nat) (σ : bz_S) (pl : Int32) (g6 : σ.1 6 = σ0.1 6) (g7 : σ.1 7 = σ0.1 7) (hv : bz_okT σ0 n pl), bz_wp bz_P X mX8_runText (bz_pv (lp_text n σ pl)) (7, [some (.ref 8), some (.ref 6), some (.ref 1), some (.int pl), none, none], [], σ) := by
  intro n
  induction n with
  | zero =>
    intro σ pl g6 g7 hv
    refine bz_wpb bT_X8_runText 4 (b1 := (141, [some (.ref 8), some (.ref 6), some (.ref 1), some (.int pl), none, none], [], σ)) (b2 := (15, [some (.ref 8), some (.ref 6), some (.ref 1), some (.int pl), none, none], [], σ)) (C := (σ.1 6 1) ≤ pl) (G := True) rfl trivial (fun _ => ?_) (fun z => absurd (show (σ.1 6 1) ≤ pl from by rw [g6]; exact hv) z)
    refine bz_wpr bT_X8_runText rfl rfl trivial ?_
    have e9 : lp_text 0 σ pl = σ := by rw [lp_text]
    exact ⟨rfl, by rw [e9]⟩
  | succ n ih =>
    intro σ pl g6 g7 hv
    refine bz_wpb bT_X8_runText 4 (b1 := (141, [some (.ref 8), some (.ref 6), some (.ref 1), some (.int pl), none, none], [], σ)) (b2 := (15, [some (.ref 8), some (.ref 6), some (.ref 1), some (.int pl), none, none], [], σ)) (C := (σ.1 6 1) ≤ pl) (G := True) rfl trivial (fun h1 => ?_) (fun h1 => ?_)
    · skip
      refine bz_wpr bT_X8_runText rfl rfl trivial ?_
      have e9 : lp_text (n + 1) σ pl = σ := by rw [lp_text, if_pos (h1)]
      exact ⟨rfl, by rw [e9]⟩
    · skip
      refine bz_wpb bT_X8_runText 4 (b1 := (141, [some (.ref 8), some (.ref 6), some (.ref 1), some (.int pl), none, none], [], σ)) (b2 := (24, [some (.ref 8), some (.ref 6), some (.ref 1), some (.int pl), none, none], [], σ)) (C := ¬ (σ.1 8 3) = (-6)) (G := True) rfl trivial (fun h2 => ?_) (fun h2 => ?_)
      · skip
        refine bz_wpr bT_X8_runText rfl rfl trivial ?_
        have e9 : lp_text (n + 1) σ pl = σ := by rw [lp_text, if_neg (h1), if_neg (h2)]
        exact ⟨rfl, by rw [e9]⟩
      · skip
        refine bz_wpn bT_X8_runText 7 (b := (36, [some (.ref 8), some (.ref 6), some (.ref 1), some (.int pl), some (.int (σ.1 9 2)), none], [.int pl, .ref 6, .ref 8], σ)) (G := True) rfl trivial ?_
        refine bz_wci bT_X8_runText [.ref 6, .int pl] (pc' := 39) (rest := [.ref 8]) rfl rfl (Nat.le_of_ble_eq_true rfl) rfl (Nat.le_of_ble_eq_true rfl) rfl (s_X3_actKind_6 σ pl (show (σ.1 6 1) - 1 < 60 from by rw [g6]; exact hc)) rfl ?_
        refine bz_wpn bT_X8_runText 2 (b := (41, [some (.ref 8), some (.ref 6), some (.ref 1), some (.int pl), some (.int (σ.1 9 2)), none], [.int pl, .ref 6, .int (f_X3_actKind_6 σ pl), .ref 8], σ)) (G := True) rfl trivial ?_
        refine bz_wci bT_X8_runText [.ref 6, .int pl] (pc' := 44) (rest := [.int (f_X3_actKind_6 σ pl), .ref 8]) rfl rfl (Nat.le_of_ble_eq_true rfl) rfl (Nat.le_of_ble_eq_true rfl) rfl (s_X3_signAt_6 σ pl (show (σ.1 6 1) - 1 < 60 from by rw [g6]; exact hc)) rfl ?_
        refine bz_wpn bT_X8_runText 6 (b := (51, [some (.ref 8), some (.ref 6), some (.ref 1), some (.int pl), some (.int (σ.1 9 2)), none], [.int (pl + 1), .ref 6, .int ((f_X3_signAt_6 σ pl) - 65), .int (f_X3_actKind_6 σ pl), .ref 8], σ)) (G := True) rfl trivial ?_
        refine bz_wci bT_X8_runText [.ref 6, .int (pl + 1)] (pc' := 54) (rest := [.int ((f_X3_signAt_6 σ pl) - 65), .int (f_X3_actKind_6 σ pl), .ref 8]) rfl rfl (Nat.le_of_ble_eq_true rfl) rfl (Nat.le_of_ble_eq_true rfl) rfl (s_X3_signAt_6 σ (pl + 1) (show (σ.1 6 1) - 1 < 60 from by rw [g6]; exact hc)) rfl ?_
        refine bz_wpn bT_X8_runText 6 (b := (61, [some (.ref 8), some (.ref 6), some (.ref 1), some (.int pl), some (.int (σ.1 9 2)), none], [.int (pl + 2), .ref 6, .int ((f_X3_signAt_6 σ (pl + 1)) - 48), .int ((f_X3_signAt_6 σ pl) - 65), .int (f_X3_actKind_6 σ pl), .ref 8], σ)) (G := True) rfl trivial ?_
        refine bz_wci bT_X8_runText [.ref 6, .int (pl + 2)] (pc' := 64) (rest := [.int ((f_X3_signAt_6 σ (pl + 1)) - 48), .int ((f_X3_signAt_6 σ pl) - 65), .int (f_X3_actKind_6 σ pl), .ref 8]) rfl rfl (Nat.le_of_ble_eq_true rfl) rfl (Nat.le_of_ble_eq_true rfl) rfl (s_X3_signAt_6 σ (pl + 2) (show (σ.1 6 1) - 1 < 60 from by rw [g6]; exact hc)) rfl ?_
        refine bz_wpn bT_X8_runText 2 (b := (67, [some (.ref 8), some (.ref 6), some (.ref 1), some (.int pl), some (.int (σ.1 9 2)), none], [.int ((f_X3_signAt_6 σ (pl + 2)) - 48), .int ((f_X3_signAt_6 σ (pl + 1)) - 48), .int ((f_X3_signAt_6 σ pl) - 65), .int (f_X3_actKind_6 σ pl), .ref 8], σ)) (G := True) rfl trivial ?_
        refine bz_wci bT_X8_runText [.ref 8, .int (f_X3_actKind_6 σ pl), .int ((f_X3_signAt_6 σ pl) - 65), .int ((f_X3_signAt_6 σ (pl + 1)) - 48), .int ((f_X3_signAt_6 σ (pl + 2)) - 48)] (pc' := 70) (rest := []) rfl rfl (Nat.le_of_ble_eq_true rfl) rfl (Nat.le_of_ble_eq_true rfl) rfl (s_X8_tryAct_8 σ (f_X3_actKind_6 σ pl) ((f_X3_signAt_6 σ pl) - 65) ((f_X3_signAt_6 σ (pl + 1)) - 48) ((f_X3_signAt_6 σ (pl + 2)) - 48) (bz_okA_c g6 g7 (hv.resolve_left (by rw [← g6]; exact h1)).1).1 (bz_okA_c g6 g7 (hv.resolve_left (by rw [← g6]; exact h1)).1).2) rfl ?_
        generalize hτ1 : f_X8_tryAct_8 σ (f_X3_actKind_6 σ pl) ((f_X3_signAt_6 σ pl) - 65) ((f_X3_signAt_6 σ (pl + 1)) - 48) ((f_X3_signAt_6 σ (pl + 2)) - 48) = τ1
        refine bz_wpb bT_X8_runText 3 (b1 := (91, [some (.ref 8), some (.ref 6), some (.ref 1), some (.int pl), some (.int (σ.1 9 2)), some (.int τ1.1)], [], τ1.2)) (b2 := (77, [some (.ref 8), some (.ref 6), some (.ref 1), some (.int pl), some (.int (σ.1 9 2)), some (.int τ1.1)], [], τ1.2)) (C := τ1.1 = 0) (G := True) rfl trivial (fun h3 => ?_) (fun h3 => ?_)
        · skip
          refine bz_wpb bT_X8_runText 4 (b1 := (120, [some (.ref 8), some (.ref 6), some (.ref 1), some (.int pl), some (.int (σ.1 9 2)), some (.int τ1.1)], [], τ1.2)) (b2 := (100, [some (.ref 8), some (.ref 6), some (.ref 1), some (.int pl), some (.int (σ.1 9 2)), some (.int τ1.1)], [], τ1.2)) (C := ¬ (τ1.2.1 8 7) = (-6)) (G := True) rfl trivial (fun h4 => ?_) (fun h4 => ?_)
          · skip
            refine bz_wpn bT_X8_runText 9 (b := (133, [some (.ref 8), some (.ref 6), some (.ref 1), some (.int pl), some (.int (σ.1 9 2)), some (.int τ1.1)], [.int pl, .ref 6, .int pl], ((bz_up τ1.2.1 8 2 ((τ1.2.1 8 2) + 1)), τ1.2.2))) (G := True) rfl trivial ?_
            refine bz_wci bT_X8_runText [.ref 6, .int pl] (pc' := 136) (rest := [.int pl]) rfl rfl (Nat.le_of_ble_eq_true rfl) rfl (Nat.le_of_ble_eq_true rfl) rfl (s_X3_actLength_6 ((bz_up τ1.2.1 8 2 ((τ1.2.1 8 2) + 1)), τ1.2.2) pl (show ((bz_up τ1.2.1 8 2 ((τ1.2.1 8 2) + 1)), τ1.2.2).1 6 1 - 1 < 60 from by rw [((show ((bz_up τ1.2.1 8 2 ((τ1.2.1 8 2) + 1)), τ1.2.2).1 6 = τ1.2.1 6 from by first | rfl | (funext q; simp [bz_up])).trans (bz_x6 (by rw [← hτ1]; exact rf_X8_tryAct_8 σ _ _ _ _ : bz_fr [8, 9, 10, 11] σ τ1.2) g6))]; exact hc)) rfl ?_
            refine bz_wpn bT_X8_runText 3 (b := (7, [some (.ref 8), some (.ref 6), some (.ref 1), some (.int (pl + (f_X3_actLength_6 ((bz_up τ1.2.1 8 2 ((τ1.2.1 8 2) + 1)), τ1.2.2) pl))), some (.int (σ.1 9 2)), some (.int τ1.1)], [], ((bz_up τ1.2.1 8 2 ((τ1.2.1 8 2) + 1)), τ1.2.2))) (G := True) rfl trivial ?_
            have e9 : lp_text (n + 1) σ pl = (lp_text n ((bz_up τ1.2.1 8 2 ((τ1.2.1 8 2) + 1)), τ1.2.2) (pl + (f_X3_actLength_6 ((bz_up τ1.2.1 8 2 ((τ1.2.1 8 2) + 1)), τ1.2.2) pl))) := by rw [lp_text, if_neg (h1), if_pos ((Decidable.not_not.mp h2)), hτ1, lp_text_a, if_pos (h3), if_neg (h4)]
            rw [e9]
            refine bz_wpw (L' := [some (.ref 8), some (.ref 6), some (.ref 1), some (.int (pl + (f_X3_actLength_6 ((bz_up τ1.2.1 8 2 ((τ1.2.1 8 2) + 1)), τ1.2.2) pl))), none, none]) (by exact ⟨rfl, rfl, rfl, rfl, trivial⟩) ?_
            exact ih ((bz_up τ1.2.1 8 2 ((τ1.2.1 8 2) + 1)), τ1.2.2) (pl + (f_X3_actLength_6 ((bz_up τ1.2.1 8 2 ((τ1.2.1 8 2) + 1)), τ1.2.2) pl)) ((show ((bz_up τ1.2.1 8 2 ((τ1.2.1 8 2) + 1)), τ1.2.2).1 6 = τ1.2.1 6 from by first | rfl | (funext q; simp [bz_up])).trans (bz_x6 (by rw [← hτ1]; exact rf_X8_tryAct_8 σ _ _ _ _ : bz_fr [8, 9, 10, 11] σ τ1.2) g6)) ((show ((bz_up τ1.2.1 8 2 ((τ1.2.1 8 2) + 1)), τ1.2.2).1 7 = τ1.2.1 7 from by first | rfl | (funext q; simp [bz_up])).trans (bz_x7 (by rw [← hτ1]; exact rf_X8_tryAct_8 σ _ _ _ _ : bz_fr [8, 9, 10, 11] σ τ1.2) g7)) (by rw [bz_al ((show ((bz_up τ1.2.1 8 2 ((τ1.2.1 8 2) + 1)), τ1.2.2).1 6 = τ1.2.1 6 from by first | rfl | (funext q; simp [bz_up])).trans (bz_x6 (by rw [← hτ1]; exact rf_X8_tryAct_8 σ _ _ _ _ : bz_fr [8, 9, 10, 11] σ τ1.2) g6)) ((show ((bz_up τ1.2.1 8 2 ((τ1.2.1 8 2) + 1)), τ1.2.2).1 7 = τ1.2.1 7 from by first | rfl | (funext q; simp [bz_up])).trans (bz_x7 (by rw [← hτ1]; exact rf_X8_tryAct_8 σ _ _ _ _ : bz_fr [8, 9, 10, 11] σ τ1.2) g7))]; exact ((hv.resolve_left (by rw [← g6]; exact h1)).2))
          · skip
            refine bz_wpb bT_X8_runText 5 (b1 := (120, [some (.ref 8), some (.ref 6), some (.ref 1), some (.int pl), some (.int (σ.1 9 2)), some (.int τ1.1)], [], τ1.2)) (b2 := (112, [some (.ref 8), some (.ref 6), some (.ref 1), some (.int pl), some (.int (σ.1 9 2)), some (.int τ1.1)], [], τ1.2)) (C := (τ1.2.1 9 2) ≤ (σ.1 9 2)) (G := True) rfl trivial (fun h5 => ?_) (fun h5 => ?_)
            · skip
              refine bz_wpn bT_X8_runText 9 (b := (133, [some (.ref 8), some (.ref 6), some (.ref 1), some (.int pl), some (.int (σ.1 9 2)), some (.int τ1.1)], [.int pl, .ref 6, .int pl], ((bz_up τ1.2.1 8 2 ((τ1.2.1 8 2) + 1)), τ1.2.2))) (G := True) rfl trivial ?_
              refine bz_wci bT_X8_runText [.ref 6, .int pl] (pc' := 136) (rest := [.int pl]) rfl rfl (Nat.le_of_ble_eq_true rfl) rfl (Nat.le_of_ble_eq_true rfl) rfl (s_X3_actLength_6 ((bz_up τ1.2.1 8 2 ((τ1.2.1 8 2) + 1)), τ1.2.2) pl (show ((bz_up τ1.2.1 8 2 ((τ1.2.1 8 2) + 1)), τ1.2.2).1 6 1 - 1 < 60 from by rw [((show ((bz_up τ1.2.1 8 2 ((τ1.2.1 8 2) + 1)), τ1.2.2).1 6 = τ1.2.1 6 from by first | rfl | (funext q; simp [bz_up])).trans (bz_x6 (by rw [← hτ1]; exact rf_X8_tryAct_8 σ _ _ _ _ : bz_fr [8, 9, 10, 11] σ τ1.2) g6))]; exact hc)) rfl ?_
              refine bz_wpn bT_X8_runText 3 (b := (7, [some (.ref 8), some (.ref 6), some (.ref 1), some (.int (pl + (f_X3_actLength_6 ((bz_up τ1.2.1 8 2 ((τ1.2.1 8 2) + 1)), τ1.2.2) pl))), some (.int (σ.1 9 2)), some (.int τ1.1)], [], ((bz_up τ1.2.1 8 2 ((τ1.2.1 8 2) + 1)), τ1.2.2))) (G := True) rfl trivial ?_
              have e9 : lp_text (n + 1) σ pl = (lp_text n ((bz_up τ1.2.1 8 2 ((τ1.2.1 8 2) + 1)), τ1.2.2) (pl + (f_X3_actLength_6 ((bz_up τ1.2.1 8 2 ((τ1.2.1 8 2) + 1)), τ1.2.2) pl))) := by rw [lp_text, if_neg (h1), if_pos ((Decidable.not_not.mp h2)), hτ1, lp_text_a, if_pos (h3), if_pos ((Decidable.not_not.mp h4)), if_pos (h5)]
              rw [e9]
              refine bz_wpw (L' := [some (.ref 8), some (.ref 6), some (.ref 1), some (.int (pl + (f_X3_actLength_6 ((bz_up τ1.2.1 8 2 ((τ1.2.1 8 2) + 1)), τ1.2.2) pl))), none, none]) (by exact ⟨rfl, rfl, rfl, rfl, trivial⟩) ?_
              exact ih ((bz_up τ1.2.1 8 2 ((τ1.2.1 8 2) + 1)), τ1.2.2) (pl + (f_X3_actLength_6 ((bz_up τ1.2.1 8 2 ((τ1.2.1 8 2) + 1)), τ1.2.2) pl)) ((show ((bz_up τ1.2.1 8 2 ((τ1.2.1 8 2) + 1)), τ1.2.2).1 6 = τ1.2.1 6 from by first | rfl | (funext q; simp [bz_up])).trans (bz_x6 (by rw [← hτ1]; exact rf_X8_tryAct_8 σ _ _ _ _ : bz_fr [8, 9, 10, 11] σ τ1.2) g6)) ((show ((bz_up τ1.2.1 8 2 ((τ1.2.1 8 2) + 1)), τ1.2.2).1 7 = τ1.2.1 7 from by first | rfl | (funext q; simp [bz_up])).trans (bz_x7 (by rw [← hτ1]; exact rf_X8_tryAct_8 σ _ _ _ _ : bz_fr [8, 9, 10, 11] σ τ1.2) g7)) (by rw [bz_al ((show ((bz_up τ1.2.1 8 2 ((τ1.2.1 8 2) + 1)), τ1.2.2).1 6 = τ1.2.1 6 from by first | rfl | (funext q; simp [bz_up])).trans (bz_x6 (by rw [← hτ1]; exact rf_X8_tryAct_8 σ _ _ _ _ : bz_fr [8, 9, 10, 11] σ τ1.2) g6)) ((show ((bz_up τ1.2.1 8 2 ((τ1.2.1 8 2) + 1)), τ1.2.2).1 7 = τ1.2.1 7 from by first | rfl | (funext q; simp [bz_up])).trans (bz_x7 (by rw [← hτ1]; exact rf_X8_tryAct_8 σ _ _ _ _ : bz_fr [8, 9, 10, 11] σ τ1.2) g7))]; exact ((hv.resolve_left (by rw [← g6]; exact h1)).2))
            · skip
              refine bz_wpn bT_X8_runText 13 (b := (133, [some (.ref 8), some (.ref 6), some (.ref 1), some (.int pl), some (.int (σ.1 9 2)), some (.int τ1.1)], [.int pl, .ref 6, .int pl], ((bz_up (bz_up τ1.2.1 8 7 (τ1.2.1 8 2)) 8 2 ((τ1.2.1 8 2) + 1)), τ1.2.2))) (G := True) rfl trivial ?_
              refine bz_wci bT_X8_runText [.ref 6, .int pl] (pc' := 136) (rest := [.int pl]) rfl rfl (Nat.le_of_ble_eq_true rfl) rfl (Nat.le_of_ble_eq_true rfl) rfl (s_X3_actLength_6 ((bz_up (bz_up τ1.2.1 8 7 (τ1.2.1 8 2)) 8 2 ((τ1.2.1 8 2) + 1)), τ1.2.2) pl (show ((bz_up (bz_up τ1.2.1 8 7 (τ1.2.1 8 2)) 8 2 ((τ1.2.1 8 2) + 1)), τ1.2.2).1 6 1 - 1 < 60 from by rw [((show ((bz_up (bz_up τ1.2.1 8 7 (τ1.2.1 8 2)) 8 2 ((τ1.2.1 8 2) + 1)), τ1.2.2).1 6 = τ1.2.1 6 from by first | rfl | (funext q; simp [bz_up])).trans (bz_x6 (by rw [← hτ1]; exact rf_X8_tryAct_8 σ _ _ _ _ : bz_fr [8, 9, 10, 11] σ τ1.2) g6))]; exact hc)) rfl ?_
              refine bz_wpn bT_X8_runText 3 (b := (7, [some (.ref 8), some (.ref 6), some (.ref 1), some (.int (pl + (f_X3_actLength_6 ((bz_up (bz_up τ1.2.1 8 7 (τ1.2.1 8 2)) 8 2 ((τ1.2.1 8 2) + 1)), τ1.2.2) pl))), some (.int (σ.1 9 2)), some (.int τ1.1)], [], ((bz_up (bz_up τ1.2.1 8 7 (τ1.2.1 8 2)) 8 2 ((τ1.2.1 8 2) + 1)), τ1.2.2))) (G := True) rfl trivial ?_
              have e9 : lp_text (n + 1) σ pl = (lp_text n ((bz_up (bz_up τ1.2.1 8 7 (τ1.2.1 8 2)) 8 2 ((τ1.2.1 8 2) + 1)), τ1.2.2) (pl + (f_X3_actLength_6 ((bz_up (bz_up τ1.2.1 8 7 (τ1.2.1 8 2)) 8 2 ((τ1.2.1 8 2) + 1)), τ1.2.2) pl))) := by rw [lp_text, if_neg (h1), if_pos ((Decidable.not_not.mp h2)), hτ1, lp_text_a, if_pos (h3), if_pos ((Decidable.not_not.mp h4)), if_neg (h5)]
              rw [e9]
              refine bz_wpw (L' := [some (.ref 8), some (.ref 6), some (.ref 1), some (.int (pl + (f_X3_actLength_6 ((bz_up (bz_up τ1.2.1 8 7 (τ1.2.1 8 2)) 8 2 ((τ1.2.1 8 2) + 1)), τ1.2.2) pl))), none, none]) (by exact ⟨rfl, rfl, rfl, rfl, trivial⟩) ?_
              exact ih ((bz_up (bz_up τ1.2.1 8 7 (τ1.2.1 8 2)) 8 2 ((τ1.2.1 8 2) + 1)), τ1.2.2) (pl + (f_X3_actLength_6 ((bz_up (bz_up τ1.2.1 8 7 (τ1.2.1 8 2)) 8 2 ((τ1.2.1 8 2) + 1)), τ1.2.2) pl)) ((show ((bz_up (bz_up τ1.2.1 8 7 (τ1.2.1 8 2)) 8 2 ((τ1.2.1 8 2) + 1)), τ1.2.2).1 6 = τ1.2.1 6 from by first | rfl | (funext q; simp [bz_up])).trans (bz_x6 (by rw [← hτ1]; exact rf_X8_tryAct_8 σ _ _ _ _ : bz_fr [8, 9, 10, 11] σ τ1.2) g6)) ((show ((bz_up (bz_up τ1.2.1 8 7 (τ1.2.1 8 2)) 8 2 ((τ1.2.1 8 2) + 1)), τ1.2.2).1 7 = τ1.2.1 7 from by first | rfl | (funext q; simp [bz_up])).trans (bz_x7 (by rw [← hτ1]; exact rf_X8_tryAct_8 σ _ _ _ _ : bz_fr [8, 9, 10, 11] σ τ1.2) g7)) (by rw [bz_al ((show ((bz_up (bz_up τ1.2.1 8 7 (τ1.2.1 8 2)) 8 2 ((τ1.2.1 8 2) + 1)), τ1.2.2).1 6 = τ1.2.1 6 from by first | rfl | (funext q; simp [bz_up])).trans (bz_x6 (by rw [← hτ1]; exact rf_X8_tryAct_8 σ _ _ _ _ : bz_fr [8, 9, 10, 11] σ τ1.2) g6)) ((show ((bz_up (bz_up τ1.2.1 8 7 (τ1.2.1 8 2)) 8 2 ((τ1.2.1 8 2) + 1)), τ1.2.2).1 7 = τ1.2.1 7 from by first | rfl | (funext q; simp [bz_up])).trans (bz_x7 (by rw [← hτ1]; exact rf_X8_tryAct_8 σ _ _ _ _ : bz_fr [8, 9, 10, 11] σ τ1.2) g7))]; exact ((hv.resolve_left (by rw [← g6]; exact h1)).2))
        · skip
          refine bz_wpb bT_X8_runText 11 (b1 := (120, [some (.ref 8), some (.ref 6), some (.ref 1), some (.int pl), some (.int (σ.1 9 2)), some (.int τ1.1)], [], ((bz_up (bz_up τ1.2.1 8 3 (τ1.2.1 8 2)) 8 4 τ1.1), τ1.2.2))) (b2 := (100, [some (.ref 8), some (.ref 6), some (.ref 1), some (.int pl), some (.int (σ.1 9 2)), some (.int τ1.1)], [], ((bz_up (bz_up τ1.2.1 8 3 (τ1.2.1 8 2)) 8 4 τ1.1), τ1.2.2))) (C := ¬ (τ1.2.1 8 7) = (-6)) (G := True) rfl trivial (fun h6 => ?_) (fun h6 => ?_)
          · skip
            refine bz_wpn bT_X8_runText 9 (b := (133, [some (.ref 8), some (.ref 6), some (.ref 1), some (.int pl), some (.int (σ.1 9 2)), some (.int τ1.1)], [.int pl, .ref 6, .int pl], ((bz_up (bz_up (bz_up τ1.2.1 8 3 (τ1.2.1 8 2)) 8 4 τ1.1) 8 2 ((τ1.2.1 8 2) + 1)), τ1.2.2))) (G := True) rfl trivial ?_
            refine bz_wci bT_X8_runText [.ref 6, .int pl] (pc' := 136) (rest := [.int pl]) rfl rfl (Nat.le_of_ble_eq_true rfl) rfl (Nat.le_of_ble_eq_true rfl) rfl (s_X3_actLength_6 ((bz_up (bz_up (bz_up τ1.2.1 8 3 (τ1.2.1 8 2)) 8 4 τ1.1) 8 2 ((τ1.2.1 8 2) + 1)), τ1.2.2) pl (show ((bz_up (bz_up (bz_up τ1.2.1 8 3 (τ1.2.1 8 2)) 8 4 τ1.1) 8 2 ((τ1.2.1 8 2) + 1)), τ1.2.2).1 6 1 - 1 < 60 from by rw [((show ((bz_up (bz_up (bz_up τ1.2.1 8 3 (τ1.2.1 8 2)) 8 4 τ1.1) 8 2 ((τ1.2.1 8 2) + 1)), τ1.2.2).1 6 = τ1.2.1 6 from by first | rfl | (funext q; simp [bz_up])).trans (bz_x6 (by rw [← hτ1]; exact rf_X8_tryAct_8 σ _ _ _ _ : bz_fr [8, 9, 10, 11] σ τ1.2) g6))]; exact hc)) rfl ?_
            refine bz_wpn bT_X8_runText 3 (b := (7, [some (.ref 8), some (.ref 6), some (.ref 1), some (.int (pl + (f_X3_actLength_6 ((bz_up (bz_up (bz_up τ1.2.1 8 3 (τ1.2.1 8 2)) 8 4 τ1.1) 8 2 ((τ1.2.1 8 2) + 1)), τ1.2.2) pl))), some (.int (σ.1 9 2)), some (.int τ1.1)], [], ((bz_up (bz_up (bz_up τ1.2.1 8 3 (τ1.2.1 8 2)) 8 4 τ1.1) 8 2 ((τ1.2.1 8 2) + 1)), τ1.2.2))) (G := True) rfl trivial ?_
            have e9 : lp_text (n + 1) σ pl = (lp_text n ((bz_up (bz_up (bz_up τ1.2.1 8 3 (τ1.2.1 8 2)) 8 4 τ1.1) 8 2 ((τ1.2.1 8 2) + 1)), τ1.2.2) (pl + (f_X3_actLength_6 ((bz_up (bz_up (bz_up τ1.2.1 8 3 (τ1.2.1 8 2)) 8 4 τ1.1) 8 2 ((τ1.2.1 8 2) + 1)), τ1.2.2) pl))) := by rw [lp_text, if_neg (h1), if_pos ((Decidable.not_not.mp h2)), hτ1, lp_text_a, if_neg (h3), if_neg (h6)]
            rw [e9]
            refine bz_wpw (L' := [some (.ref 8), some (.ref 6), some (.ref 1), some (.int (pl + (f_X3_actLength_6 ((bz_up (bz_up (bz_up τ1.2.1 8 3 (τ1.2.1 8 2)) 8 4 τ1.1) 8 2 ((τ1.2.1 8 2) + 1)), τ1.2.2) pl))), none, none]) (by exact ⟨rfl, rfl, rfl, rfl, trivial⟩) ?_
            exact ih ((bz_up (bz_up (bz_up τ1.2.1 8 3 (τ1.2.1 8 2)) 8 4 τ1.1) 8 2 ((τ1.2.1 8 2) + 1)), τ1.2.2) (pl + (f_X3_actLength_6 ((bz_up (bz_up (bz_up τ1.2.1 8 3 (τ1.2.1 8 2)) 8 4 τ1.1) 8 2 ((τ1.2.1 8 2) + 1)), τ1.2.2) pl)) ((show ((bz_up (bz_up (bz_up τ1.2.1 8 3 (τ1.2.1 8 2)) 8 4 τ1.1) 8 2 ((τ1.2.1 8 2) + 1)), τ1.2.2).1 6 = τ1.2.1 6 from by first | rfl | (funext q; simp [bz_up])).trans (bz_x6 (by rw [← hτ1]; exact rf_X8_tryAct_8 σ _ _ _ _ : bz_fr [8, 9, 10, 11] σ τ1.2) g6)) ((show ((bz_up (bz_up (bz_up τ1.2.1 8 3 (τ1.2.1 8 2)) 8 4 τ1.1) 8 2 ((τ1.2.1 8 2) + 1)), τ1.2.2).1 7 = τ1.2.1 7 from by first | rfl | (funext q; simp [bz_up])).trans (bz_x7 (by rw [← hτ1]; exact rf_X8_tryAct_8 σ _ _ _ _ : bz_fr [8, 9, 10, 11] σ τ1.2) g7)) (by rw [bz_al ((show ((bz_up (bz_up (bz_up τ1.2.1 8 3 (τ1.2.1 8 2)) 8 4 τ1.1) 8 2 ((τ1.2.1 8 2) + 1)), τ1.2.2).1 6 = τ1.2.1 6 from by first | rfl | (funext q; simp [bz_up])).trans (bz_x6 (by rw [← hτ1]; exact rf_X8_tryAct_8 σ _ _ _ _ : bz_fr [8, 9, 10, 11] σ τ1.2) g6)) ((show ((bz_up (bz_up (bz_up τ1.2.1 8 3 (τ1.2.1 8 2)) 8 4 τ1.1) 8 2 ((τ1.2.1 8 2) + 1)), τ1.2.2).1 7 = τ1.2.1 7 from by first | rfl | (funext q; simp [bz_up])).trans (bz_x7 (by rw [← hτ1]; exact rf_X8_tryAct_8 σ _ _ _ _ : bz_fr [8, 9, 10, 11] σ τ1.2) g7))]; exact ((hv.resolve_left (by rw [← g6]; exact h1)).2))
          · skip
            refine bz_wpb bT_X8_runText 5 (b1 := (120, [some (.ref 8), some (.ref 6), some (.ref 1), some (.int pl), some (.int (σ.1 9 2)), some (.int τ1.1)], [], ((bz_up (bz_up τ1.2.1 8 3 (τ1.2.1 8 2)) 8 4 τ1.1), τ1.2.2))) (b2 := (112, [some (.ref 8), some (.ref 6), some (.ref 1), some (.int pl), some (.int (σ.1 9 2)), some (.int τ1.1)], [], ((bz_up (bz_up τ1.2.1 8 3 (τ1.2.1 8 2)) 8 4 τ1.1), τ1.2.2))) (C := (τ1.2.1 9 2) ≤ (σ.1 9 2)) (G := True) rfl trivial (fun h7 => ?_) (fun h7 => ?_)
            · skip
              refine bz_wpn bT_X8_runText 9 (b := (133, [some (.ref 8), some (.ref 6), some (.ref 1), some (.int pl), some (.int (σ.1 9 2)), some (.int τ1.1)], [.int pl, .ref 6, .int pl], ((bz_up (bz_up (bz_up τ1.2.1 8 3 (τ1.2.1 8 2)) 8 4 τ1.1) 8 2 ((τ1.2.1 8 2) + 1)), τ1.2.2))) (G := True) rfl trivial ?_
              refine bz_wci bT_X8_runText [.ref 6, .int pl] (pc' := 136) (rest := [.int pl]) rfl rfl (Nat.le_of_ble_eq_true rfl) rfl (Nat.le_of_ble_eq_true rfl) rfl (s_X3_actLength_6 ((bz_up (bz_up (bz_up τ1.2.1 8 3 (τ1.2.1 8 2)) 8 4 τ1.1) 8 2 ((τ1.2.1 8 2) + 1)), τ1.2.2) pl (show ((bz_up (bz_up (bz_up τ1.2.1 8 3 (τ1.2.1 8 2)) 8 4 τ1.1) 8 2 ((τ1.2.1 8 2) + 1)), τ1.2.2).1 6 1 - 1 < 60 from by rw [((show ((bz_up (bz_up (bz_up τ1.2.1 8 3 (τ1.2.1 8 2)) 8 4 τ1.1) 8 2 ((τ1.2.1 8 2) + 1)), τ1.2.2).1 6 = τ1.2.1 6 from by first | rfl | (funext q; simp [bz_up])).trans (bz_x6 (by rw [← hτ1]; exact rf_X8_tryAct_8 σ _ _ _ _ : bz_fr [8, 9, 10, 11] σ τ1.2) g6))]; exact hc)) rfl ?_
              refine bz_wpn bT_X8_runText 3 (b := (7, [some (.ref 8), some (.ref 6), some (.ref 1), some (.int (pl + (f_X3_actLength_6 ((bz_up (bz_up (bz_up τ1.2.1 8 3 (τ1.2.1 8 2)) 8 4 τ1.1) 8 2 ((τ1.2.1 8 2) + 1)), τ1.2.2) pl))), some (.int (σ.1 9 2)), some (.int τ1.1)], [], ((bz_up (bz_up (bz_up τ1.2.1 8 3 (τ1.2.1 8 2)) 8 4 τ1.1) 8 2 ((τ1.2.1 8 2) + 1)), τ1.2.2))) (G := True) rfl trivial ?_
              have e9 : lp_text (n + 1) σ pl = (lp_text n ((bz_up (bz_up (bz_up τ1.2.1 8 3 (τ1.2.1 8 2)) 8 4 τ1.1) 8 2 ((τ1.2.1 8 2) + 1)), τ1.2.2) (pl + (f_X3_actLength_6 ((bz_up (bz_up (bz_up τ1.2.1 8 3 (τ1.2.1 8 2)) 8 4 τ1.1) 8 2 ((τ1.2.1 8 2) + 1)), τ1.2.2) pl))) := by rw [lp_text, if_neg (h1), if_pos ((Decidable.not_not.mp h2)), hτ1, lp_text_a, if_neg (h3), if_pos ((Decidable.not_not.mp h6)), if_pos (h7)]
              rw [e9]
              refine bz_wpw (L' := [some (.ref 8), some (.ref 6), some (.ref 1), some (.int (pl + (f_X3_actLength_6 ((bz_up (bz_up (bz_up τ1.2.1 8 3 (τ1.2.1 8 2)) 8 4 τ1.1) 8 2 ((τ1.2.1 8 2) + 1)), τ1.2.2) pl))), none, none]) (by exact ⟨rfl, rfl, rfl, rfl, trivial⟩) ?_
              exact ih ((bz_up (bz_up (bz_up τ1.2.1 8 3 (τ1.2.1 8 2)) 8 4 τ1.1) 8 2 ((τ1.2.1 8 2) + 1)), τ1.2.2) (pl + (f_X3_actLength_6 ((bz_up (bz_up (bz_up τ1.2.1 8 3 (τ1.2.1 8 2)) 8 4 τ1.1) 8 2 ((τ1.2.1 8 2) + 1)), τ1.2.2) pl)) ((show ((bz_up (bz_up (bz_up τ1.2.1 8 3 (τ1.2.1 8 2)) 8 4 τ1.1) 8 2 ((τ1.2.1 8 2) + 1)), τ1.2.2).1 6 = τ1.2.1 6 from by first | rfl | (funext q; simp [bz_up])).trans (bz_x6 (by rw [← hτ1]; exact rf_X8_tryAct_8 σ _ _ _ _ : bz_fr [8, 9, 10, 11] σ τ1.2) g6)) ((show ((bz_up (bz_up (bz_up τ1.2.1 8 3 (τ1.2.1 8 2)) 8 4 τ1.1) 8 2 ((τ1.2.1 8 2) + 1)), τ1.2.2).1 7 = τ1.2.1 7 from by first | rfl | (funext q; simp [bz_up])).trans (bz_x7 (by rw [← hτ1]; exact rf_X8_tryAct_8 σ _ _ _ _ : bz_fr [8, 9, 10, 11] σ τ1.2) g7)) (by rw [bz_al ((show ((bz_up (bz_up (bz_up τ1.2.1 8 3 (τ1.2.1 8 2)) 8 4 τ1.1) 8 2 ((τ1.2.1 8 2) + 1)), τ1.2.2).1 6 = τ1.2.1 6 from by first | rfl | (funext q; simp [bz_up])).trans (bz_x6 (by rw [← hτ1]; exact rf_X8_tryAct_8 σ _ _ _ _ : bz_fr [8, 9, 10, 11] σ τ1.2) g6)) ((show ((bz_up (bz_up (bz_up τ1.2.1 8 3 (τ1.2.1 8 2)) 8 4 τ1.1) 8 2 ((τ1.2.1 8 2) + 1)), τ1.2.2).1 7 = τ1.2.1 7 from by first | rfl | (funext q; simp [bz_up])).trans (bz_x7 (by rw [← hτ1]; exact rf_X8_tryAct_8 σ _ _ _ _ : bz_fr [8, 9, 10, 11] σ τ1.2) g7))]; exact ((hv.resolve_left (by rw [← g6]; exact h1)).2))
            · skip
              refine bz_wpn bT_X8_runText 13 (b := (133, [some (.ref 8), some (.ref 6), some (.ref 1), some (.int pl), some (.int (σ.1 9 2)), some (.int τ1.1)], [.int pl, .ref 6, .int pl], ((bz_up (bz_up (bz_up (bz_up τ1.2.1 8 3 (τ1.2.1 8 2)) 8 4 τ1.1) 8 7 (τ1.2.1 8 2)) 8 2 ((τ1.2.1 8 2) + 1)), τ1.2.2))) (G := True) rfl trivial ?_
              refine bz_wci bT_X8_runText [.ref 6, .int pl] (pc' := 136) (rest := [.int pl]) rfl rfl (Nat.le_of_ble_eq_true rfl) rfl (Nat.le_of_ble_eq_true rfl) rfl (s_X3_actLength_6 ((bz_up (bz_up (bz_up (bz_up τ1.2.1 8 3 (τ1.2.1 8 2)) 8 4 τ1.1) 8 7 (τ1.2.1 8 2)) 8 2 ((τ1.2.1 8 2) + 1)), τ1.2.2) pl (show ((bz_up (bz_up (bz_up (bz_up τ1.2.1 8 3 (τ1.2.1 8 2)) 8 4 τ1.1) 8 7 (τ1.2.1 8 2)) 8 2 ((τ1.2.1 8 2) + 1)), τ1.2.2).1 6 1 - 1 < 60 from by rw [((show ((bz_up (bz_up (bz_up (bz_up τ1.2.1 8 3 (τ1.2.1 8 2)) 8 4 τ1.1) 8 7 (τ1.2.1 8 2)) 8 2 ((τ1.2.1 8 2) + 1)), τ1.2.2).1 6 = τ1.2.1 6 from by first | rfl | (funext q; simp [bz_up])).trans (bz_x6 (by rw [← hτ1]; exact rf_X8_tryAct_8 σ _ _ _ _ : bz_fr [8, 9, 10, 11] σ τ1.2) g6))]; exact hc)) rfl ?_
              refine bz_wpn bT_X8_runText 3 (b := (7, [some (.ref 8), some (.ref 6), some (.ref 1), some (.int (pl + (f_X3_actLength_6 ((bz_up (bz_up (bz_up (bz_up τ1.2.1 8 3 (τ1.2.1 8 2)) 8 4 τ1.1) 8 7 (τ1.2.1 8 2)) 8 2 ((τ1.2.1 8 2) + 1)), τ1.2.2) pl))), some (.int (σ.1 9 2)), some (.int τ1.1)], [], ((bz_up (bz_up (bz_up (bz_up τ1.2.1 8 3 (τ1.2.1 8 2)) 8 4 τ1.1) 8 7 (τ1.2.1 8 2)) 8 2 ((τ1.2.1 8 2) + 1)), τ1.2.2))) (G := True) rfl trivial ?_
              have e9 : lp_text (n + 1) σ pl = (lp_text n ((bz_up (bz_up (bz_up (bz_up τ1.2.1 8 3 (τ1.2.1 8 2)) 8 4 τ1.1) 8 7 (τ1.2.1 8 2)) 8 2 ((τ1.2.1 8 2) + 1)), τ1.2.2) (pl + (f_X3_actLength_6 ((bz_up (bz_up (bz_up (bz_up τ1.2.1 8 3 (τ1.2.1 8 2)) 8 4 τ1.1) 8 7 (τ1.2.1 8 2)) 8 2 ((τ1.2.1 8 2) + 1)), τ1.2.2) pl))) := by rw [lp_text, if_neg (h1), if_pos ((Decidable.not_not.mp h2)), hτ1, lp_text_a, if_neg (h3), if_pos ((Decidable.not_not.mp h6)), if_neg (h7)]
              rw [e9]
              refine bz_wpw (L' := [some (.ref 8), some (.ref 6), some (.ref 1), some (.int (pl + (f_X3_actLength_6 ((bz_up (bz_up (bz_up (bz_up τ1.2.1 8 3 (τ1.2.1 8 2)) 8 4 τ1.1) 8 7 (τ1.2.1 8 2)) 8 2 ((τ1.2.1 8 2) + 1)), τ1.2.2) pl))), none, none]) (by exact ⟨rfl, rfl, rfl, rfl, trivial⟩) ?_
              exact ih ((bz_up (bz_up (bz_up (bz_up τ1.2.1 8 3 (τ1.2.1 8 2)) 8 4 τ1.1) 8 7 (τ1.2.1 8 2)) 8 2 ((τ1.2.1 8 2) + 1)), τ1.2.2) (pl + (f_X3_actLength_6 ((bz_up (bz_up (bz_up (bz_up τ1.2.1 8 3 (τ1.2.1 8 2)) 8 4 τ1.1) 8 7 (τ1.2.1 8 2)) 8 2 ((τ1.2.1 8 2) + 1)), τ1.2.2) pl)) ((show ((bz_up (bz_up (bz_up (bz_up τ1.2.1 8 3 (τ1.2.1 8 2)) 8 4 τ1.1) 8 7 (τ1.2.1 8 2)) 8 2 ((τ1.2.1 8 2) + 1)), τ1.2.2).1 6 = τ1.2.1 6 from by first | rfl | (funext q; simp [bz_up])).trans (bz_x6 (by rw [← hτ1]; exact rf_X8_tryAct_8 σ _ _ _ _ : bz_fr [8, 9, 10, 11] σ τ1.2) g6)) ((show ((bz_up (bz_up (bz_up (bz_up τ1.2.1 8 3 (τ1.2.1 8 2)) 8 4 τ1.1) 8 7 (τ1.2.1 8 2)) 8 2 ((τ1.2.1 8 2) + 1)), τ1.2.2).1 7 = τ1.2.1 7 from by first | rfl | (funext q; simp [bz_up])).trans (bz_x7 (by rw [← hτ1]; exact rf_X8_tryAct_8 σ _ _ _ _ : bz_fr [8, 9, 10, 11] σ τ1.2) g7)) (by rw [bz_al ((show ((bz_up (bz_up (bz_up (bz_up τ1.2.1 8 3 (τ1.2.1 8 2)) 8 4 τ1.1) 8 7 (τ1.2.1 8 2)) 8 2 ((τ1.2.1 8 2) + 1)), τ1.2.2).1 6 = τ1.2.1 6 from by first | rfl | (funext q; simp [bz_up])).trans (bz_x6 (by rw [← hτ1]; exact rf_X8_tryAct_8 σ _ _ _ _ : bz_fr [8, 9, 10, 11] σ τ1.2) g6)) ((show ((bz_up (bz_up (bz_up (bz_up τ1.2.1 8 3 (τ1.2.1 8 2)) 8 4 τ1.1) 8 7 (τ1.2.1 8 2)) 8 2 ((τ1.2.1 8 2) + 1)), τ1.2.2).1 7 = τ1.2.1 7 from by first | rfl | (funext q; simp [bz_up])).trans (bz_x7 (by rw [← hτ1]; exact rf_X8_tryAct_8 σ _ _ _ _ : bz_fr [8, 9, 10, 11] σ τ1.2) g7))]; exact ((hv.resolve_left (by rw [← g6]; exact h1)).2))
theorem rlp_text_a (rc : bz_S → Int32 → bz_S) (σ : bz_S) (pl : Int32) (τ1 : Int32 × bz_S) (ihc : ∀ (σ : bz_S) (pl : Int32), bz_fr [8, 9, 10, 11] σ (rc σ pl)) (fτ1 : bz_fr [8, 9, 10, 11] σ τ1.2) : bz_fr [8, 9, 10, 11] σ (lp_text_a rc σ pl τ1) := by
  unfold lp_text_a
  exact (bz_ite (bz_ite (bz_ite (bz_fr_tr (τ := ((bz_up τ1.2.1 8 2 ((τ1.2.1 8 2) + 1)), τ1.2.2)) ⟨(bz_f1_up (fτ1).1 (by decide)), (fτ1).2⟩ (ihc ((bz_up τ1.2.1 8 2 ((τ1.2.1 8 2) + 1)), τ1.2.2) (pl + (f_X3_actLength_6 ((bz_up τ1.2.1 8 2 ((τ1.2.1 8 2) + 1)), τ1.2.2) pl)))) (bz_fr_tr (τ := ((bz_up (bz_up τ1.2.1 8 7 (τ1.2.1 8 2)) 8 2 ((τ1.2.1 8 2) + 1)), τ1.2.2)) ⟨(bz_f1_up (bz_f1_up (fτ1).1 (by decide)) (by decide)), (fτ1).2⟩ (ihc ((bz_up (bz_up τ1.2.1 8 7 (τ1.2.1 8 2)) 8 2 ((τ1.2.1 8 2) + 1)), τ1.2.2) (pl + (f_X3_actLength_6 ((bz_up (bz_up τ1.2.1 8 7 (τ1.2.1 8 2)) 8 2 ((τ1.2.1 8 2) + 1)), τ1.2.2) pl))))) (bz_fr_tr (τ := ((bz_up τ1.2.1 8 2 ((τ1.2.1 8 2) + 1)), τ1.2.2)) ⟨(bz_f1_up (fτ1).1 (by decide)), (fτ1).2⟩ (ihc ((bz_up τ1.2.1 8 2 ((τ1.2.1 8 2) + 1)), τ1.2.2) (pl + (f_X3_actLength_6 ((bz_up τ1.2.1 8 2 ((τ1.2.1 8 2) + 1)), τ1.2.2) pl))))) (bz_ite (bz_ite (bz_fr_tr (τ := ((bz_up (bz_up (bz_up τ1.2.1 8 3 (τ1.2.1 8 2)) 8 4 τ1.1) 8 2 ((τ1.2.1 8 2) + 1)), τ1.2.2)) ⟨(bz_f1_up (bz_f1_up (bz_f1_up (fτ1).1 (by decide)) (by decide)) (by decide)), (fτ1).2⟩ (ihc ((bz_up (bz_up (bz_up τ1.2.1 8 3 (τ1.2.1 8 2)) 8 4 τ1.1) 8 2 ((τ1.2.1 8 2) + 1)), τ1.2.2) (pl + (f_X3_actLength_6 ((bz_up (bz_up (bz_up τ1.2.1 8 3 (τ1.2.1 8 2)) 8 4 τ1.1) 8 2 ((τ1.2.1 8 2) + 1)), τ1.2.2) pl)))) (bz_fr_tr (τ := ((bz_up (bz_up (bz_up (bz_up τ1.2.1 8 3 (τ1.2.1 8 2)) 8 4 τ1.1) 8 7 (τ1.2.1 8 2)) 8 2 ((τ1.2.1 8 2) + 1)), τ1.2.2)) ⟨(bz_f1_up (bz_f1_up (bz_f1_up (bz_f1_up (fτ1).1 (by decide)) (by decide)) (by decide)) (by decide)), (fτ1).2⟩ (ihc ((bz_up (bz_up (bz_up (bz_up τ1.2.1 8 3 (τ1.2.1 8 2)) 8 4 τ1.1) 8 7 (τ1.2.1 8 2)) 8 2 ((τ1.2.1 8 2) + 1)), τ1.2.2) (pl + (f_X3_actLength_6 ((bz_up (bz_up (bz_up (bz_up τ1.2.1 8 3 (τ1.2.1 8 2)) 8 4 τ1.1) 8 7 (τ1.2.1 8 2)) 8 2 ((τ1.2.1 8 2) + 1)), τ1.2.2) pl))))) (bz_fr_tr (τ := ((bz_up (bz_up (bz_up τ1.2.1 8 3 (τ1.2.1 8 2)) 8 4 τ1.1) 8 2 ((τ1.2.1 8 2) + 1)), τ1.2.2)) ⟨(bz_f1_up (bz_f1_up (bz_f1_up (fτ1).1 (by decide)) (by decide)) (by decide)), (fτ1).2⟩ (ihc ((bz_up (bz_up (bz_up τ1.2.1 8 3 (τ1.2.1 8 2)) 8 4 τ1.1) 8 2 ((τ1.2.1 8 2) + 1)), τ1.2.2) (pl + (f_X3_actLength_6 ((bz_up (bz_up (bz_up τ1.2.1 8 3 (τ1.2.1 8 2)) 8 4 τ1.1) 8 2 ((τ1.2.1 8 2) + 1)), τ1.2.2) pl))))))
theorem rlp_text : ∀ (n : Nat) (σ : bz_S) (pl : Int32), bz_fr [8, 9, 10, 11] σ (lp_text n σ pl) := by
  intro n
  induction n with
  | zero =>
    intro σ pl
    rw [lp_text]
    exact bz_fr_rf
  | succ n ihc =>
    intro σ pl
    rw [lp_text]
    exact (bz_ite bz_fr_rf (bz_ite (rlp_text_a (lp_text n) σ pl (f_X8_tryAct_8 σ (f_X3_actKind_6 σ pl) ((f_X3_signAt_6 σ pl) - 65) ((f_X3_signAt_6 σ (pl + 1)) - 48) ((f_X3_signAt_6 σ (pl + 2)) - 48)) ihc (bz_fr_mo (rf_X8_tryAct_8 σ (f_X3_actKind_6 σ pl) ((f_X3_signAt_6 σ pl) - 65) ((f_X3_signAt_6 σ (pl + 1)) - 48) ((f_X3_signAt_6 σ (pl + 2)) - 48)) (by decide))) bz_fr_rf))

theorem bz_sgN {σ : bz_S} {N j : Nat} (hN : σ.1 6 1 = nI N) (h60 : N ≤ 60) (hj : j < N) : f_X3_signAt_6 σ (nI j) = σ.1 7 j := by
  have e : nI N - 1 = nI (N - 1) := by
    obtain ⟨M, rfl⟩ : ∃ M, N = M + 1 := ⟨N - 1, by omega⟩
    exact nI_pred M
  have hw : f_X10_isWithin (nI j) 0 ((σ.1 6 1) - 1) = true := by
    unfold f_X10_isWithin
    rw [hN, e, if_neg (nI_pos (by omega)), if_neg (nI_nlt (by omega) (by omega))]
  unfold f_X3_signAt_6
  rw [if_pos hw, nI_clamp (by omega)]
theorem bz_int {c : Int32} {a b : Int32} {m n : Int} (ha : a.toInt = m) (hb : b.toInt = n) (h : f_X10_isWithin c a b = true) : m ≤ c.toInt ∧ c.toInt ≤ n := by
  obtain ⟨h1, h2⟩ := bz_within h
  have h3 := Int32.le_iff_toInt_le.mp h1
  have h4 := Int32.le_iff_toInt_le.mp h2
  omega
theorem bz_letter {c : Int32} (h : f_X3_isLetter c = true) : vp_in (c - 65) 3 := by
  obtain ⟨h1, h2⟩ := bz_int (m := 65) (n := 67) (by decide) (by decide) h
  have h3 : c.toInt = 65 ∨ c.toInt = 66 ∨ c.toInt = 67 := by omega
  rcases h3 with h3 | h3 | h3
  · rw [show c = 65 from Int32.toInt_inj.mp (by rw [h3]; decide)]; exact bz_lit (by decide)
  · rw [show c = 66 from Int32.toInt_inj.mp (by rw [h3]; decide)]; exact bz_lit (by decide)
  · rw [show c = 67 from Int32.toInt_inj.mp (by rw [h3]; decide)]; exact bz_lit (by decide)
theorem bz_digit {c : Int32} (h : f_X10_isWithin c 49 57 = true) : ¬ c - 48 < 0 ∧ c - 48 < 100 := by
  obtain ⟨h1, h2⟩ := bz_int (m := 49) (n := 57) (by decide) (by decide) h
  have e48 : (48 : Int32).toInt = 48 := by decide
  have h3 : (c - 48).toInt = c.toInt - 48 := by
    rw [Int32.toInt_sub, e48]
    exact Int.bmod_eq_of_le_mul_two (by omega) (by omega)
  refine ⟨fun z => ?_, Int32.lt_iff_toInt_lt.mpr ?_⟩
  · have := Int32.lt_iff_toInt_lt.mp z
    have e0 : (0 : Int32).toInt = 0 := by decide
    omega
  · have e1 : (100 : Int32).toInt = 100 := by decide
    omega
theorem bz_nI6 {j : Nat} (hj : j < 2 ^ 31) : ¬ nI j = -6 := by
  intro z
  have h1 := nI_toInt hj
  rw [z] at h1
  have e : (-6 : Int32).toInt = -6 := by decide
  omega
/-- a text without a fault is one of acts -/
theorem bz_okT_of {σ : bz_S} {N : Nat} (hN : σ.1 6 1 = nI N) (h60 : N ≤ 60) : ∀ (m n j : Nat), n ≤ m → j + n = N → lp_fault n σ 0 (nI j) = -6 → bz_okT σ m (nI j) := by
  intro m
  induction m with
  | zero =>
    intro n j hm hj h
    show σ.1 6 1 ≤ nI j
    rw [hN]
    exact nI_le (by omega) (by omega)
  | succ m ih =>
    intro n j hm hj h
    cases n with
    | zero =>
      refine Or.inl ?_
      rw [hN]
      exact nI_le (by omega) (by omega)
    | succ n =>
      refine Or.inr ?_
      have s0 := bz_sgN hN h60 (show j < N by omega)
      have c0 : (nI j).toNatClampNeg = j := nI_clamp (by omega)
      rw [lp_fault, c0] at h
      split at h
      · rename_i k0
        unfold f_X3_canStand at k0
        rw [if_pos rfl] at k0
        by_cases hl : f_X3_isLetter (σ.1 7 j) = true
        · have a0 : ¬ f_X3_isActAt (σ.1 7 j) 0 = true := by unfold f_X3_isActAt; rw [if_pos rfl, if_pos hl]; decide
          rw [if_neg a0, nI_1, show (0 : Int32) + 1 = 1 by decide] at h
          cases n with
          | zero =>
            rw [lp_fault, if_neg (by decide), hN] at h
            exact absurd h (bz_nI6 (by omega))
          | succ n =>
            have s1 := bz_sgN hN h60 (show j + 1 < N by omega)
            have c1 : (nI (j + 1)).toNatClampNeg = j + 1 := nI_clamp (by omega)
            rw [lp_fault, c1] at h
            split at h
            · rename_i k1
              by_cases hh : σ.1 7 (j + 1) = 94
              · have a1 : f_X3_isActAt (σ.1 7 (j + 1)) 1 = true := by unfold f_X3_isActAt; rw [if_neg (by decide), if_pos rfl, if_pos hh]
                rw [if_pos a1, nI_1] at h
                have kd : f_X3_actKind_6 σ (nI j) = 1 := by
                  unfold f_X3_actKind_6
                  rw [nI_1, s0, s1, if_pos hl, if_pos hh]
                have ln : f_X3_actLength_6 σ (nI j) = 2 := by
                  unfold f_X3_actLength_6
                  rw [kd, if_neg (by decide), if_pos rfl]
                refine ⟨⟨fun _ => by rw [s0]; exact bz_letter hl, fun z => by rw [kd] at z; exact absurd z (by decide)⟩, ?_⟩
                rw [ln, show nI j + 2 = nI (j + 1 + 1) from nI_add j 2]
                exact ih n (j + 1 + 1) (by omega) (by omega) h
              · have a1 : ¬ f_X3_isActAt (σ.1 7 (j + 1)) 1 = true := by unfold f_X3_isActAt; rw [if_neg (by decide), if_pos rfl, if_neg hh]; decide
                rw [if_neg a1, nI_1, show (1 : Int32) + 1 = 2 by decide] at h
                cases n with
                | zero =>
                  rw [lp_fault, if_neg (by decide), hN] at h
                  exact absurd h (bz_nI6 (by omega))
                | succ n =>
                  have s2 := bz_sgN hN h60 (show j + 2 < N by omega)
                  have c2 : (nI (j + 1 + 1)).toNatClampNeg = j + 2 := nI_clamp (by omega)
                  rw [lp_fault, c2] at h
                  split at h
                  · rename_i k2
                    have a2 : f_X3_isActAt (σ.1 7 (j + 2)) 2 = true := by unfold f_X3_isActAt; rw [if_neg (by decide), if_neg (by decide)]
                    rw [if_pos a2, nI_1] at h
                    unfold f_X3_canStand at k2
                    rw [if_neg (by decide), if_neg (by decide)] at k2
                    have kd : f_X3_actKind_6 σ (nI j) = 0 := by
                      unfold f_X3_actKind_6
                      rw [nI_1, s0, s1, if_pos hl, if_neg hh]
                    have ln : f_X3_actLength_6 σ (nI j) = 3 := by
                      unfold f_X3_actLength_6
                      rw [kd, if_pos rfl]
                    refine ⟨⟨fun _ => by rw [s0]; exact bz_letter hl, fun _ => ?_⟩, ?_⟩
                    · rw [show nI j + 2 = nI (j + 2) from nI_add j 2, s2]
                      exact bz_digit k2
                    · rw [ln, show nI j + 3 = nI (j + 1 + 1 + 1) from nI_add j 3]
                      exact ih n (j + 1 + 1 + 1) (by omega) (by omega) h
                  · exact absurd h (bz_nI6 (by omega))
            · exact absurd h (bz_nI6 (by omega))
        · have a0 : f_X3_isActAt (σ.1 7 j) 0 = true := by unfold f_X3_isActAt; rw [if_pos rfl, if_neg hl]
          rw [if_pos a0, nI_1] at h
          have kd : f_X3_actKind_6 σ (nI j) = 2 ∨ f_X3_actKind_6 σ (nI j) = 3 := by
            unfold f_X3_actKind_6
            rw [s0, if_neg hl]
            split
            · exact Or.inl rfl
            · exact Or.inr rfl
          have ln : f_X3_actLength_6 σ (nI j) = 1 := by
            unfold f_X3_actLength_6
            rcases kd with q | q <;> rw [q] <;> rfl
          refine ⟨⟨fun z => ?_, fun z => ?_⟩, ?_⟩
          · rcases kd with q | q <;> rw [q] at z <;> exact absurd z (by decide)
          · rcases kd with q | q <;> rw [q] at z <;> exact absurd z (by decide)
          · rw [ln, nI_1]
            exact ih n (j + 1) (by omega) (by omega) h
      · exact absurd h (bz_nI6 (by omega))
theorem bz_okT_fault {σ : bz_S} (hp : bz_pad σ) (h : f_X3_firstFault_6 σ = -6) : bz_okT σ (bz_k 60) 0 := by
  obtain ⟨N, h60, hN⟩ := hp
  unfold f_X3_firstFault_6 at h
  rw [hN, nI_clamp (by omega)] at h
  rw [bz_k_eq]
  exact bz_okT_of hN h60 60 N 0 h60 (by omega) h
theorem bz_pad_c {σ : bz_S} (hp : bz_pad σ) : (σ.1 6 1) - 1 < 60 := by
  obtain ⟨N, h60, hN⟩ := hp
  rw [hN]
  cases N with
  | zero => decide
  | succ N =>
    rw [nI_pred]
    exact nI_lt (b := 60) (by omega) (by decide)

def f_X8_runText_8_6_1_a (σ : bz_S) (τ1 : bz_S) : bz_S := lp_text (bz_k 60) τ1 0
def f_X8_runText_8_6_1 (σ : bz_S)  : bz_S := (f_X8_runText_8_6_1_a σ (f_X8_begin_8_1 σ))
set_option maxRecDepth 100000 in
theorem s_X8_runText_8_6_1 {X : bz_X} (σ : bz_S) (hp : bz_pad σ) (hz : f_X3_firstFault_6 σ = -6) : bz_C bz_P X mX8_runText [.ref 8, .ref 6, .ref 1] σ (bz_pv (f_X8_runText_8_6_1 σ)) := by
  show bz_wp bz_P X mX8_runText (bz_pv (f_X8_runText_8_6_1 σ)) (0, [some (.ref 8), some (.ref 6), some (.ref 1), none, none, none], [], σ)
  refine bz_wpn bT_X8_runText 2 (b := (2, [some (.ref 8), some (.ref 6), some (.ref 1), none, none, none], [.ref 1, .ref 8], σ)) (G := True) rfl trivial ?_
  refine bz_wcv bT_X8_runText [.ref 8, .ref 1] (pc' := 5) (rest := []) rfl rfl (Nat.le_of_ble_eq_true rfl) rfl (Nat.le_of_ble_eq_true rfl) rfl (s_X8_begin_8_1 σ) rfl ?_
  generalize hτ1 : f_X8_begin_8_1 σ = τ1
  refine bz_wpn bT_X8_runText 2 (b := (7, [some (.ref 8), some (.ref 6), some (.ref 1), some (.int 0), none, none], [], τ1)) (G := True) rfl trivial ?_
  have e9 : f_X8_runText_8_6_1 σ = lp_text (bz_k 60) τ1 0 := by rw [f_X8_runText_8_6_1, hτ1, f_X8_runText_8_6_1_a]
  rw [e9]
  exact s_lp_text σ (bz_pad_c hp) (bz_k 60) τ1 0 (bz_fr_at (by rw [← hτ1]; exact rf_X8_begin_8_1 σ : bz_fr [8, 9, 10] σ τ1) 6 (by decide)) (bz_fr_at (by rw [← hτ1]; exact rf_X8_begin_8_1 σ : bz_fr [8, 9, 10] σ τ1) 7 (by decide)) (bz_okT_fault hp hz)
theorem rf_X8_runText_8_6_1_a (σ : bz_S) (τ1 : bz_S) (fτ1 : bz_fr [8, 9, 10, 11] σ τ1) : bz_fr [8, 9, 10, 11] σ (f_X8_runText_8_6_1_a σ τ1) := by
  unfold f_X8_runText_8_6_1_a
  exact (bz_fr_tr (τ := τ1) fτ1 (bz_fr_mo (rlp_text (bz_k 60) τ1 0) (by decide)))
theorem rf_X8_runText_8_6_1 (σ : bz_S)  : bz_fr [8, 9, 10, 11] σ (f_X8_runText_8_6_1 σ) := by
  unfold f_X8_runText_8_6_1
  exact (rf_X8_runText_8_6_1_a σ (f_X8_begin_8_1 σ) (bz_fr_mo (rf_X8_begin_8_1 σ) (by decide)))
