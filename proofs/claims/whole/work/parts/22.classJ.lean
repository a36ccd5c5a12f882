/-- the next way and cell, as numbers -/
def nT (a b : Nat) : Nat := (f_X10_turned (nI a) (nI b)).toNatClampNeg
def nN (a b : Nat) : Nat := (f_X10_next (nI a) (nI b)).toNatClampNeg
theorem nT_all : ∀ a : Fin 45, ∀ b : Fin 8, f_X10_turned (nI a) (nI b) = nI (nT a b) ∧ nT a b < 8 ∧ f_X10_next (nI a) (nI (nT a b)) = nI (nN a (nT a b)) ∧ nN a (nT a b) < 45 := by decide +kernel
theorem nT_ok {a b : Nat} (ha : a < 45) (hb : b < 8) : f_X10_turned (nI a) (nI b) = nI (nT a b) ∧ nT a b < 8 ∧ f_X10_next (nI a) (nI (nT a b)) = nI (nN a (nT a b)) ∧ nN a (nT a b) < 45 := nT_all ⟨a, ha⟩ ⟨b, hb⟩
def bz_trk (σ : bz_S) (m : Nat) : Prop := ∀ q, q < m → ∃ c, c < 45 ∧ σ.1 13 q = nI c
theorem bz_walk_ok (cl wy : Int32) : ∀ (n : Nat) (σ : bz_S) (at_ by_ sp : Int32) (j a b : Nat), sp = nI j → j + n = 16 → at_ = nI a → a < 45 → by_ = nI b → b < 8 → bz_trk σ j → bz_trk (lp_walk cl wy n σ at_ by_ sp) 16 := by
  intro n
  induction n with
  | zero =>
    intro σ at_ by_ sp j a b hs hj ha ha2 hb hb2 ht
    rw [lp_walk]
    intro q hq
    exact ht q (by omega)
  | succ n ih =>
    intro σ at_ by_ sp j a b hs hj ha ha2 hb hb2 ht
    obtain ⟨e1, e2, e3, e4⟩ := nT_ok ha2 hb2
    have ht1 : bz_trk (bz_up σ.1 13 sp.toNatClampNeg at_, σ.2) (j + 1) := by
      intro q hq
      by_cases hqj : q = j
      · refine ⟨a, ha2, ?_⟩
        show bz_up σ.1 13 sp.toNatClampNeg at_ 13 q = nI a
        rw [hs, nI_clamp (by omega), hqj, bz_up_s, ha]
      · obtain ⟨c, hc, hc2⟩ := ht q (by omega)
        refine ⟨c, hc, ?_⟩
        show bz_up σ.1 13 sp.toNatClampNeg at_ 13 q = nI c
        rw [hs, nI_clamp (by omega), bz_up_k hqj]
        exact hc2
    have key : ∀ (τ : bz_S), (∀ q, τ.1 13 q = (bz_up σ.1 13 sp.toNatClampNeg at_) 13 q) → bz_trk (lp_walk cl wy n τ (f_X10_next at_ (f_X10_turned at_ by_)) (f_X10_turned at_ by_) (sp + 1)) 16 := by
      intro τ hτ
      refine ih τ _ _ _ (j + 1) (nN a (nT a b)) (nT a b) (by rw [hs]; exact nI_1 j) (by omega) ?_ e4 ?_ e2 ?_
      · rw [ha, hb, e1, e3]
      · rw [ha, hb, e1]
      · intro q hq
        obtain ⟨c, hc, hc2⟩ := ht1 q hq
        exact ⟨c, hc, (hτ q).trans hc2⟩
    rw [lp_walk]
    repeat' split
    all_goals exact key _ (fun q => by first | rfl | simp [bz_up])
theorem bz_walk_ok12 (σ : bz_S) {a b : Nat} (ha : a < 45) (hb : b < 8) : bz_trk (f_X7_walk_12 σ (nI a) (nI b)) 16 := by
  unfold f_X7_walk_12
  rw [bz_k_eq]
  exact bz_walk_ok _ _ 16 _ _ _ _ 0 a b rfl (by omega) rfl ha rfl hb (fun q hq => absurd hq (by omega))
theorem bz_behind {σ : bz_S} (h : bz_trk σ 16) (n : Int32) : ∃ c, c < 45 ∧ f_X7_cellBehind_12 σ n = nI c := by
  have h1 := bz_fm16 n
  unfold f_X7_cellBehind_12
  exact h _ (Nat.not_le.mp fun q => h1 (Or.inr q))
def bz_codN (σ : bz_S) (c : Nat) : Prop := σ.1 14 1 = nI c ∧ ∀ q, q < c → ∃ a b, a < 45 ∧ b < 8 ∧ σ.1 15 q = nI (10 * a + b)

def lp_ga1_a (rc : bz_S → Int32 → bz_S) (cl9 : Int32) (σ : bz_S) (way : Int32) (τ1 : bz_S) : bz_S := if f_X4_allFit_3_12 τ1 = true then (rc ((bz_up (bz_up τ1.1 15 ((τ1.1 14 1).toNatClampNeg) ((10 * cl9) + way)) 14 1 ((τ1.1 14 1) + 1)), τ1.2) (way + 1)) else (rc τ1 (way + 1))
def lp_ga1 (cl9 : Int32) : Nat → bz_S → Int32 → bz_S
  | 0, σ, way => σ
  | n + 1, σ, way => if f_X10_isPlace cl9 = true then (lp_ga1_a (lp_ga1 cl9 n) cl9 σ way (f_X7_walk_12 σ cl9 way)) else σ
set_option maxRecDepth 100000 in
theorem s_lp_ga1 {X : bz_X} (cl9 : Int32) {Q : bz_Q} (cn : Nat) (hcl : cl9 = nI cn) (hcn : cn < 45) : ∀ (n : Nat) (σ : bz_S) (way : Int32) (j9 : Nat) (hi : way = nI j9) (hj : j9 + n = 8) (c9 : Nat) (gc : σ.1 14 1 = nI c9) (gb : c9 ≤ 8 * cn + j9) (gs : bz_sgh σ) (kk : bz_wp bz_P X mX9_gather Q (77, [some (.ref 14), some (.ref 3), some (.ref 12), some (.int cl9), none], [], (lp_ga1 cl9 n σ way))), bz_wp bz_P X mX9_gather (Q) (16, [some (.ref 14), some (.ref 3), some (.ref 12), some (.int cl9), some (.int way)], [], σ) := by
  intro n
  induction n with
  | zero =>
    intro σ way j9 hi hj c9 gc gb gs kk
    refine bz_wpb bT_X9_gather 3 (b1 := (77, [some (.ref 14), some (.ref 3), some (.ref 12), some (.int cl9), some (.int way)], [], σ)) (b2 := (23, [some (.ref 14), some (.ref 3), some (.ref 12), some (.int cl9), some (.int way)], [], σ)) (C := 8 ≤ way) (G := True) rfl trivial (fun _ => ?_) (fun z => absurd (show (8 : Int32) ≤ way from by rw [hi, show j9 = 8 from by omega]; decide) z)
    have e9 : lp_ga1 cl9 0 σ way = σ := by rw [lp_ga1]
    rw [e9] at kk
    refine bz_wpw (by exact ⟨rfl, rfl, rfl, rfl, trivial⟩) kk
  | succ n ih =>
    intro σ way j9 hi hj c9 gc gb gs kk
    refine bz_wpb bT_X9_gather 3 (b1 := (77, [some (.ref 14), some (.ref 3), some (.ref 12), some (.int cl9), some (.int way)], [], σ)) (b2 := (23, [some (.ref 14), some (.ref 3), some (.ref 12), some (.int cl9), some (.int way)], [], σ)) (C := 8 ≤ way) (G := True) rfl trivial (fun z => absurd z (show ¬ (8 : Int32) ≤ way from by rw [hi]; exact nI_ge (b := 8) (by omega) (by decide))) (fun _ => ?_)
    refine bz_wpn bT_X9_gather 1 (b := (24, [some (.ref 14), some (.ref 3), some (.ref 12), some (.int cl9), some (.int way)], [.int cl9], σ)) (G := True) rfl trivial ?_
    refine bz_wci bT_X9_gather [.int cl9] (pc' := 27) (rest := []) rfl rfl (Nat.le_of_ble_eq_true rfl) rfl (Nat.le_of_ble_eq_true rfl) rfl (s_X10_isPlace σ cl9) rfl ?_
    refine bz_wpb bT_X9_gather 1 (b1 := (77, [some (.ref 14), some (.ref 3), some (.ref 12), some (.int cl9), some (.int way)], [], σ)) (b2 := (30, [some (.ref 14), some (.ref 3), some (.ref 12), some (.int cl9), some (.int way)], [], σ)) (C := bz_b (f_X10_isPlace cl9) = 0) (G := True) rfl trivial (fun h1 => ?_) (fun h1 => ?_)
    · skip
      have h1 := bz_b0 h1
      have e9 : lp_ga1 cl9 (n + 1) σ way = σ := by rw [lp_ga1, if_neg (bz_ff h1)]
      rw [e9] at kk
      refine bz_wpw (by exact ⟨rfl, rfl, rfl, rfl, trivial⟩) kk
    · skip
      have h1 := bz_b1 h1
      refine bz_wpn bT_X9_gather 3 (b := (34, [some (.ref 14), some (.ref 3), some (.ref 12), some (.int cl9), some (.int way)], [.int way, .int cl9, .ref 12], σ)) (G := True) rfl trivial ?_
      refine bz_wcv bT_X9_gather [.ref 12, .int cl9, .int way] (pc' := 37) (rest := []) rfl rfl (Nat.le_of_ble_eq_true rfl) rfl (Nat.le_of_ble_eq_true rfl) rfl (s_X7_walk_12 σ cl9 way) rfl ?_
      generalize hτ1 : f_X7_walk_12 σ cl9 way = τ1
      refine bz_wpn bT_X9_gather 2 (b := (39, [some (.ref 14), some (.ref 3), some (.ref 12), some (.int cl9), some (.int way)], [.ref 12, .ref 3], τ1)) (G := True) rfl trivial ?_
      refine bz_wci bT_X9_gather [.ref 3, .ref 12] (pc' := 42) (rest := []) rfl rfl (Nat.le_of_ble_eq_true rfl) rfl (Nat.le_of_ble_eq_true rfl) rfl (s_X4_allFit_3_12 τ1 (bz_sgh_c gs (bz_fr_at (by rw [← hτ1]; exact rf_X7_walk_12 σ _ _ : bz_fr [12, 13] σ τ1) 3 (by decide)))) rfl ?_
      refine bz_wpb bT_X9_gather 1 (b1 := (71, [some (.ref 14), some (.ref 3), some (.ref 12), some (.int cl9), some (.int way)], [], τ1)) (b2 := (45, [some (.ref 14), some (.ref 3), some (.ref 12), some (.int cl9), some (.int way)], [], τ1)) (C := bz_b (f_X4_allFit_3_12 τ1) = 0) (G := True) rfl trivial (fun h2 => ?_) (fun h2 => ?_)
      · skip
        have h2 := bz_b0 h2
        refine bz_wpn bT_X9_gather 2 (b := (16, [some (.ref 14), some (.ref 3), some (.ref 12), some (.int cl9), some (.int (way + 1))], [], τ1)) (G := True) rfl trivial ?_
        have e9 : lp_ga1 cl9 (n + 1) σ way = (lp_ga1 cl9 n τ1 (way + 1)) := by rw [lp_ga1, if_pos (h1), hτ1, lp_ga1_a, if_neg (bz_ff h2)]
        rw [e9] at kk
        exact ih τ1 (way + 1) (j9 + 1) (by rw [hi]; exact nI_1 j9) (by omega) c9 ((congrFun (bz_fr_at (by rw [← hτ1]; exact rf_X7_walk_12 σ _ _ : bz_fr [12, 13] σ τ1) 14 (by decide)) 1).trans gc) (by omega) (bz_sgh_c gs ((show τ1.1 3 = τ1.1 3 from by first | rfl | (funext q; simp [bz_up])).trans (bz_fr_at (by rw [← hτ1]; exact rf_X7_walk_12 σ _ _ : bz_fr [12, 13] σ τ1) 3 (by decide)))) kk
      · skip
        have h2 := bz_b1 h2
        refine bz_wpn bT_X9_gather 18 (b := (16, [some (.ref 14), some (.ref 3), some (.ref 12), some (.int cl9), some (.int (way + 1))], [], ((bz_up (bz_up τ1.1 15 ((τ1.1 14 1).toNatClampNeg) ((10 * cl9) + way)) 14 1 ((τ1.1 14 1) + 1)), τ1.2))) (G := vp_in (τ1.1 14 1) 360 ∧ True) rfl ⟨(by rw [congrFun (bz_fr_at (by rw [← hτ1]; exact rf_X7_walk_12 σ _ _ : bz_fr [12, 13] σ τ1) 14 (by decide)) 1, gc]; exact vp_in_nI (by omega) (by decide)), trivial⟩ ?_
        have e9 : lp_ga1 cl9 (n + 1) σ way = (lp_ga1 cl9 n ((bz_up (bz_up τ1.1 15 ((τ1.1 14 1).toNatClampNeg) ((10 * cl9) + way)) 14 1 ((τ1.1 14 1) + 1)), τ1.2) (way + 1)) := by rw [lp_ga1, if_pos (h1), hτ1, lp_ga1_a, if_pos (h2)]
        rw [e9] at kk
        exact ih ((bz_up (bz_up τ1.1 15 ((τ1.1 14 1).toNatClampNeg) ((10 * cl9) + way)) 14 1 ((τ1.1 14 1) + 1)), τ1.2) (way + 1) (j9 + 1) (by rw [hi]; exact nI_1 j9) (by omega) (c9 + 1) (show ((bz_up (bz_up τ1.1 15 ((τ1.1 14 1).toNatClampNeg) ((10 * cl9) + way)) 14 1 ((τ1.1 14 1) + 1)), τ1.2).1 14 1 = nI (c9 + 1) from by rw [← nI_1 c9, ← ((congrFun (bz_fr_at (by rw [← hτ1]; exact rf_X7_walk_12 σ _ _ : bz_fr [12, 13] σ τ1) 14 (by decide)) 1).trans gc)]; rfl) (by omega) (bz_sgh_c gs ((show ((bz_up (bz_up τ1.1 15 ((τ1.1 14 1).toNatClampNeg) ((10 * cl9) + way)) 14 1 ((τ1.1 14 1) + 1)), τ1.2).1 3 = τ1.1 3 from by first | rfl | (funext q; simp [bz_up])).trans (bz_fr_at (by rw [← hτ1]; exact rf_X7_walk_12 σ _ _ : bz_fr [12, 13] σ τ1) 3 (by decide)))) kk
theorem rlp_ga1_a (rc : bz_S → Int32 → bz_S) (cl9 : Int32) (σ : bz_S) (way : Int32) (τ1 : bz_S) (ihc : ∀ (σ : bz_S) (way : Int32), bz_fr [12, 13, 14, 15] σ (rc σ way)) (fτ1 : bz_fr [12, 13, 14, 15] σ τ1) : bz_fr [12, 13, 14, 15] σ (lp_ga1_a rc cl9 σ way τ1) := by
  unfold lp_ga1_a
  exact (bz_ite (bz_fr_tr (τ := ((bz_up (bz_up τ1.1 15 ((τ1.1 14 1).toNatClampNeg) ((10 * cl9) + way)) 14 1 ((τ1.1 14 1) + 1)), τ1.2)) ⟨(bz_f1_up (bz_f1_up (fτ1).1 (by decide)) (by decide)), (fτ1).2⟩ (ihc ((bz_up (bz_up τ1.1 15 ((τ1.1 14 1).toNatClampNeg) ((10 * cl9) + way)) 14 1 ((τ1.1 14 1) + 1)), τ1.2) (way + 1))) (bz_fr_tr (τ := τ1) fτ1 (ihc τ1 (way + 1))))
theorem rlp_ga1 (cl9 : Int32) : ∀ (n : Nat) (σ : bz_S) (way : Int32), bz_fr [12, 13, 14, 15] σ (lp_ga1 cl9 n σ way) := by
  intro n
  induction n with
  | zero =>
    intro σ way
    rw [lp_ga1]
    exact bz_fr_rf
  | succ n ihc =>
    intro σ way
    rw [lp_ga1]
    exact (bz_ite (rlp_ga1_a (lp_ga1 cl9 n) cl9 σ way (f_X7_walk_12 σ cl9 way) ihc (bz_fr_mo (rf_X7_walk_12 σ cl9 way) (by decide))) bz_fr_rf)

theorem q_ga1 (cl9 : Int32) (cn : Nat) (hcl : cl9 = nI cn) (hcn : cn < 45) : ∀ (n : Nat) (σ : bz_S) (way : Int32) (j c : Nat), way = nI j → j + n = 8 → bz_codN σ c → c ≤ 8 * cn + j → ∃ c', c' ≤ 8 * cn + 8 ∧ bz_codN (lp_ga1 cl9 n σ way) c' := by
  intro n
  induction n with
  | zero =>
    intro σ way j c hw hj hc hb
    rw [lp_ga1]
    exact ⟨c, by omega, hc⟩
  | succ n ih =>
    intro σ way j c hw hj hc hb
    rw [lp_ga1]
    split
    · generalize hτ : f_X7_walk_12 σ cl9 way = τ
      have fr : bz_fr [12, 13] σ τ := by rw [← hτ]; exact rf_X7_walk_12 σ _ _
      have c1 : bz_codN τ c := by
        refine ⟨(congrFun (bz_fr_at fr 14 (by decide)) 1).trans hc.1, fun q hq => ?_⟩
        obtain ⟨a, b, h1, h2, h3⟩ := hc.2 q hq
        exact ⟨a, b, h1, h2, (congrFun (bz_fr_at fr 15 (by decide)) q).trans h3⟩
      rw [lp_ga1_a]
      split
      · refine ih _ _ (j + 1) (c + 1) (by rw [hw]; exact nI_1 j) (by omega) ⟨?_, fun q hq => ?_⟩ (by omega)
        · show τ.1 14 1 + 1 = nI (c + 1)
          rw [c1.1]; exact nI_1 c
        · show ∃ a b, a < 45 ∧ b < 8 ∧ (bz_up (bz_up τ.1 15 (τ.1 14 1).toNatClampNeg ((10 * cl9) + way)) 14 1 (τ.1 14 1 + 1)) 15 q = nI (10 * a + b)
          rw [bz_up_o (by decide), c1.1, nI_clamp (by omega)]
          by_cases hqc : q = c
          · rw [hqc, bz_up_s]
            exact ⟨cn, j, hcn, by omega, bz_10 hcl hw⟩
          · rw [bz_up_k hqc]
            exact c1.2 q (by omega)
      · exact ih _ _ (j + 1) c (by rw [hw]; exact nI_1 j) (by omega) c1 (by omega)
    · exact ⟨c, by omega, hc⟩
