def lp_ga_a (rc : bz_S → Int32 → bz_S) (σ : bz_S) (cl9 : Int32) (τ1 : bz_S) : bz_S := (rc τ1 (cl9 + 1))
def lp_ga : Nat → bz_S → Int32 → bz_S
  | 0, σ, cl9 => σ
  | n + 1, σ, cl9 => (lp_ga_a (lp_ga n) σ cl9 ((lp_ga1 cl9 (bz_k 8) σ 0)))
set_option maxRecDepth 100000 in
theorem s_lp_ga {X : bz_X} : ∀ (n : Nat) (σ : bz_S) (cl9 : Int32) (j9 : Nat) (hi : cl9 = nI j9) (hj : j9 + n = 45) (c9 : Nat) (gn : bz_codN σ c9) (gb : c9 ≤ 8 * j9) (gs : bz_sgh σ), bz_wp bz_P X mX9_gather (bz_pv (lp_ga n σ cl9)) (7, [some (.ref 14), some (.ref 3), some (.ref 12), some (.int cl9), none], [], σ) := by
  intro n
  induction n with
  | zero =>
    intro σ cl9 j9 hi hj c9 gn gb gs
    refine bz_wpb bT_X9_gather 3 (b1 := (83, [some (.ref 14), some (.ref 3), some (.ref 12), some (.int cl9), none], [], σ)) (b2 := (13, [some (.ref 14), some (.ref 3), some (.ref 12), some (.int cl9), none], [], σ)) (C := 45 ≤ cl9) (G := True) rfl trivial (fun _ => ?_) (fun z => absurd (show (45 : Int32) ≤ cl9 from by rw [hi, show j9 = 45 from by omega]; decide) z)
    refine bz_wpr bT_X9_gather rfl rfl trivial ?_
    have e9 : lp_ga 0 σ cl9 = σ := by rw [lp_ga]
    exact ⟨rfl, by rw [e9]⟩
  | succ n ih =>
    intro σ cl9 j9 hi hj c9 gn gb gs
    refine bz_wpb bT_X9_gather 3 (b1 := (83, [some (.ref 14), some (.ref 3), some (.ref 12), some (.int cl9), none], [], σ)) (b2 := (13, [some (.ref 14), some (.ref 3), some (.ref 12), some (.int cl9), none], [], σ)) (C := 45 ≤ cl9) (G := True) rfl trivial (fun z => absurd z (show ¬ (45 : Int32) ≤ cl9 from by rw [hi]; exact nI_ge (b := 45) (by omega) (by decide))) (fun _ => ?_)
    refine bz_wpn bT_X9_gather 2 (b := (16, [some (.ref 14), some (.ref 3), some (.ref 12), some (.int cl9), some (.int 0)], [], σ)) (G := True) rfl trivial ?_
    refine s_lp_ga1 cl9 j9 hi (by omega) (bz_k 8) σ 0 0 rfl (by rw [bz_k_eq]) c9 gn.1 (by omega) gs ?_
    generalize hτ1 : (lp_ga1 cl9 (bz_k 8) σ 0) = τ1
    refine bz_wpn bT_X9_gather 2 (b := (7, [some (.ref 14), some (.ref 3), some (.ref 12), some (.int (cl9 + 1)), none], [], τ1)) (G := True) rfl trivial ?_
    have e9 : lp_ga (n + 1) σ cl9 = (lp_ga n τ1 (cl9 + 1)) := by rw [lp_ga, hτ1, lp_ga_a]
    rw [e9]
    exact ih τ1 (cl9 + 1) (j9 + 1) (by rw [hi]; exact nI_1 j9) (by omega) (q_ga1 cl9 j9 hi (by omega) (bz_k 8) σ 0 0 c9 rfl (by rw [bz_k_eq]) gn (by omega)).choose (by rw [← hτ1]; exact (q_ga1 cl9 j9 hi (by omega) (bz_k 8) σ 0 0 c9 rfl (by rw [bz_k_eq]) gn (by omega)).choose_spec.2) (by have := (q_ga1 cl9 j9 hi (by omega) (bz_k 8) σ 0 0 c9 rfl (by rw [bz_k_eq]) gn (by omega)).choose_spec.1; omega) (bz_sgh_c gs (bz_fr_at (by rw [← hτ1]; exact rlp_ga1 _ _ _ _ : bz_fr [12, 13, 14, 15] σ τ1) 3 (by decide)))
theorem rlp_ga_a (rc : bz_S → Int32 → bz_S) (σ : bz_S) (cl9 : Int32) (τ1 : bz_S) (ihc : ∀ (σ : bz_S) (cl9 : Int32), bz_fr [12, 13, 14, 15] σ (rc σ cl9)) (fτ1 : bz_fr [12, 13, 14, 15] σ τ1) : bz_fr [12, 13, 14, 15] σ (lp_ga_a rc σ cl9 τ1) := by
  unfold lp_ga_a
  exact (bz_fr_tr (τ := τ1) fτ1 (ihc τ1 (cl9 + 1)))
theorem rlp_ga : ∀ (n : Nat) (σ : bz_S) (cl9 : Int32), bz_fr [12, 13, 14, 15] σ (lp_ga n σ cl9) := by
  intro n
  induction n with
  | zero =>
    intro σ cl9
    rw [lp_ga]
    exact bz_fr_rf
  | succ n ihc =>
    intro σ cl9
    rw [lp_ga]
    exact (rlp_ga_a (lp_ga n) σ cl9 ((lp_ga1 cl9 (bz_k 8) σ 0)) ihc (bz_fr_mo (rlp_ga1 cl9 (bz_k 8) σ 0) (by decide)))

def f_X9_gather_14_3_12 (σ : bz_S)  : bz_S := lp_ga (bz_k 45) ((bz_up σ.1 14 1 0), σ.2) 0
set_option maxRecDepth 100000 in
theorem s_X9_gather_14_3_12 {X : bz_X} (σ : bz_S) (hs : bz_sgh σ) : bz_C bz_P X mX9_gather [.ref 14, .ref 3, .ref 12] σ (bz_pv (f_X9_gather_14_3_12 σ)) := by
  show bz_wp bz_P X mX9_gather (bz_pv (f_X9_gather_14_3_12 σ)) (0, [some (.ref 14), some (.ref 3), some (.ref 12), none, none], [], σ)
  refine bz_wpn bT_X9_gather 5 (b := (7, [some (.ref 14), some (.ref 3), some (.ref 12), some (.int 0), none], [], ((bz_up σ.1 14 1 0), σ.2))) (G := True) rfl trivial ?_
  have e9 : f_X9_gather_14_3_12 σ = lp_ga (bz_k 45) ((bz_up σ.1 14 1 0), σ.2) 0 := by rw [f_X9_gather_14_3_12]
  rw [e9]
  exact bz_wpw (by exact ⟨rfl, rfl, rfl, rfl, trivial⟩) (s_lp_ga (bz_k 45) ((bz_up σ.1 14 1 0), σ.2) 0 0 rfl (by rw [bz_k_eq]) 0 ⟨rfl, fun q hq => absurd hq (by omega)⟩ (by omega) (bz_sgh_c hs (show ((bz_up σ.1 14 1 0), σ.2).1 3 = σ.1 3 from by funext q; simp [bz_up])))
theorem rf_X9_gather_14_3_12 (σ : bz_S)  : bz_fr [12, 13, 14, 15] σ (f_X9_gather_14_3_12 σ) := by
  unfold f_X9_gather_14_3_12
  exact (bz_fr_tr (τ := ((bz_up σ.1 14 1 0), σ.2)) ⟨(bz_f1_up (bz_fr_rf).1 (by decide)), (bz_fr_rf).2⟩ (bz_fr_mo (rlp_ga (bz_k 45) ((bz_up σ.1 14 1 0), σ.2) 0) (by decide)))

theorem q_ga : ∀ (n : Nat) (σ : bz_S) (cl9 : Int32) (j c : Nat), cl9 = nI j → j + n = 45 → bz_codN σ c → c ≤ 8 * j → ∃ c', c' ≤ 360 ∧ bz_codN (lp_ga n σ cl9) c' := by
  intro n
  induction n with
  | zero =>
    intro σ cl9 j c hw hj hc hb
    rw [lp_ga]
    exact ⟨c, by omega, hc⟩
  | succ n ih =>
    intro σ cl9 j c hw hj hc hb
    rw [lp_ga]
    obtain ⟨c', h1, h2⟩ := q_ga1 cl9 j hw (by omega) (bz_k 8) σ 0 0 c rfl (by rw [bz_k_eq]) hc (by omega)
    exact ih _ _ (j + 1) c' (by rw [hw]; exact nI_1 j) (by omega) h2 (by omega)
theorem q_gather (σ : bz_S) : ∃ c, c ≤ 360 ∧ bz_codN (f_X9_gather_14_3_12 σ) c := by
  unfold f_X9_gather_14_3_12
  exact q_ga _ _ 0 0 0 rfl (by rw [bz_k_eq]) ⟨rfl, fun q hq => absurd hq (by omega)⟩ (by omega)
theorem bz_codI {σ : bz_S} {c : Nat} (hc : c ≤ 360) (h : bz_codN σ c) {x : Int32} (hx : f_X10_isWithin x 0 ((σ.1 14 1) - 1) = true) : vp_in x 360 := by
  obtain ⟨h1, h2⟩ := bz_within hx
  rw [h.1] at h2
  have h3 : nI c - 1 < 360 := by
    cases c with
    | zero => decide
    | succ c => rw [nI_pred]; exact nI_lt (b := 360) (by omega) (by decide)
  exact bz_inn (Int32.not_lt.mpr h1) (Int32.lt_of_le_of_lt h2 h3) (by decide)

def f_X10_sent_0_a (σ : bz_S) (ix : Int32) (τ1 : bz_S) : Int32 × bz_S := if ix = (-1) then ((τ1.1 14 1), τ1) else (if f_X10_isWithin ix 0 ((τ1.1 14 1) - 1) = true then ((τ1.1 15 ix.toNatClampNeg), τ1) else ((-6), τ1))
def f_X10_sent_0 (σ : bz_S) (ix : Int32) : Int32 × bz_S := (f_X10_sent_0_a σ ix (f_X9_gather_14_3_12 σ))
set_option maxRecDepth 100000 in
theorem s_X10_sent_0 {X : bz_X} (σ : bz_S) (ix : Int32) (hs : bz_sgh σ) : bz_C bz_P X mX10_sent [.ref 0, .int ix] σ (bz_pi (f_X10_sent_0 σ ix).1 (f_X10_sent_0 σ ix).2) := by
  show bz_wp bz_P X mX10_sent (bz_pi (f_X10_sent_0 σ ix).1 (f_X10_sent_0 σ ix).2) (0, [some (.ref 0), some (.int ix)], [], σ)
  refine bz_wpn bT_X10_sent 6 (b := (12, [some (.ref 0), some (.int ix)], [.ref 12, .ref 3, .ref 14], σ)) (G := True) rfl trivial ?_
  refine bz_wcv bT_X10_sent [.ref 14, .ref 3, .ref 12] (pc' := 15) (rest := []) rfl rfl (Nat.le_of_ble_eq_true rfl) rfl (Nat.le_of_ble_eq_true rfl) rfl (s_X9_gather_14_3_12 σ hs) rfl ?_
  generalize hτ1 : f_X9_gather_14_3_12 σ = τ1
  refine bz_wpb bT_X10_sent 3 (b1 := (28, [some (.ref 0), some (.int ix)], [], τ1)) (b2 := (20, [some (.ref 0), some (.int ix)], [], τ1)) (C := ¬ ix = (-1)) (G := True) rfl trivial (fun h1 => ?_) (fun h1 => ?_)
  · skip
    refine bz_wpn bT_X10_sent 7 (b := (39, [some (.ref 0), some (.int ix)], [.int ((τ1.1 14 1) - 1), .int 0, .int ix], τ1)) (G := True) rfl trivial ?_
    refine bz_wci bT_X10_sent [.int ix, .int 0, .int ((τ1.1 14 1) - 1)] (pc' := 42) (rest := []) rfl rfl (Nat.le_of_ble_eq_true rfl) rfl (Nat.le_of_ble_eq_true rfl) rfl (s_X10_isWithin τ1 ix 0 ((τ1.1 14 1) - 1)) rfl ?_
    refine bz_wpb bT_X10_sent 1 (b1 := (57, [some (.ref 0), some (.int ix)], [], τ1)) (b2 := (45, [some (.ref 0), some (.int ix)], [], τ1)) (C := bz_b (f_X10_isWithin ix 0 ((τ1.1 14 1) - 1)) = 0) (G := True) rfl trivial (fun h2 => ?_) (fun h2 => ?_)
    · skip
      have h2 := bz_b0 h2
      refine bz_wpn bT_X10_sent 1 (b := (59, [some (.ref 0), some (.int ix)], [.int (-6)], τ1)) (G := True) rfl trivial ?_
      refine bz_wpr bT_X10_sent rfl rfl trivial ?_
      have e9 : f_X10_sent_0 σ ix = ((-6), τ1) := by rw [f_X10_sent_0, hτ1, f_X10_sent_0_a, if_neg (h1), if_neg (bz_ff h2)]
      exact ⟨by rw [e9], by rw [e9]⟩
    · skip
      have h2 := bz_b1 h2
      refine bz_wpn bT_X10_sent 6 (b := (59, [some (.ref 0), some (.int ix)], [.int (τ1.1 15 ix.toNatClampNeg)], τ1)) (G := vp_in ix 360 ∧ True) rfl ⟨(by obtain ⟨c, h8, h9⟩ := q_gather σ; rw [hτ1] at h9; exact bz_codI h8 h9 (by assumption)), trivial⟩ ?_
      refine bz_wpr bT_X10_sent rfl rfl trivial ?_
      have e9 : f_X10_sent_0 σ ix = ((τ1.1 15 ix.toNatClampNeg), τ1) := by rw [f_X10_sent_0, hτ1, f_X10_sent_0_a, if_neg (h1), if_pos (h2)]
      exact ⟨by rw [e9], by rw [e9]⟩
  · skip
    refine bz_wpn bT_X10_sent 3 (b := (27, [some (.ref 0), some (.int ix)], [.int (τ1.1 14 1)], τ1)) (G := True) rfl trivial ?_
    refine bz_wpr bT_X10_sent rfl rfl trivial ?_
    have e9 : f_X10_sent_0 σ ix = ((τ1.1 14 1), τ1) := by rw [f_X10_sent_0, hτ1, f_X10_sent_0_a, if_pos ((Decidable.not_not.mp h1))]
    exact ⟨by rw [e9], by rw [e9]⟩
theorem rf_X10_sent_0_a (σ : bz_S) (ix : Int32) (τ1 : bz_S) (fτ1 : bz_fr [12, 13, 14, 15] σ τ1) : bz_fr [12, 13, 14, 15] σ (f_X10_sent_0_a σ ix τ1).2 := by
  unfold f_X10_sent_0_a
  exact (bz_ite2 fτ1 (bz_ite2 fτ1 fτ1))
theorem rf_X10_sent_0 (σ : bz_S) (ix : Int32) : bz_fr [12, 13, 14, 15] σ (f_X10_sent_0 σ ix).2 := by
  unfold f_X10_sent_0
  exact (rf_X10_sent_0_a σ ix (f_X9_gather_14_3_12 σ) (bz_fr_mo (rf_X9_gather_14_3_12 σ) (by decide)))

def lp_cl1 : Nat → bz_S → Int32 → bz_S
  | 0, σ, ix => σ
  | n + 1, σ, ix => (lp_cl1 n ((bz_up σ.1 16 ix.toNatClampNeg 0), σ.2) (ix + 1))
set_option maxRecDepth 100000 in
theorem s_lp_cl1 {X : bz_X} {Q : bz_Q} : ∀ (n : Nat) (σ : bz_S) (ix : Int32) (j9 : Nat) (hi : ix = nI j9) (hj : j9 + n = 720) (kk : bz_wp bz_P X mX9_countLeft Q (22, [some (.ref 14), some (.ref 12), none, none], [], (lp_cl1 n σ ix))), bz_wp bz_P X mX9_countLeft (Q) (2, [some (.ref 14), some (.ref 12), some (.int ix), none], [], σ) := by
  intro n
  induction n with
  | zero =>
    intro σ ix j9 hi hj kk
    refine bz_wpb bT_X9_countLeft 3 (b1 := (22, [some (.ref 14), some (.ref 12), some (.int ix), none], [], σ)) (b2 := (9, [some (.ref 14), some (.ref 12), some (.int ix), none], [], σ)) (C := 720 ≤ ix) (G := True) rfl trivial (fun _ => ?_) (fun z => absurd (show (720 : Int32) ≤ ix from by rw [hi, show j9 = 720 from by omega]; decide) z)
    have e9 : lp_cl1 0 σ ix = σ := by rw [lp_cl1]
    rw [e9] at kk
    refine bz_wpw (by exact ⟨rfl, rfl, trivial⟩) kk
  | succ n ih =>
    intro σ ix j9 hi hj kk
    refine bz_wpb bT_X9_countLeft 3 (b1 := (22, [some (.ref 14), some (.ref 12), some (.int ix), none], [], σ)) (b2 := (9, [some (.ref 14), some (.ref 12), some (.int ix), none], [], σ)) (C := 720 ≤ ix) (G := True) rfl trivial (fun z => absurd z (show ¬ (720 : Int32) ≤ ix from by rw [hi]; exact nI_ge (b := 720) (by omega) (by decide))) (fun _ => ?_)
    refine bz_wpn bT_X9_countLeft 7 (b := (2, [some (.ref 14), some (.ref 12), some (.int (ix + 1)), none], [], ((bz_up σ.1 16 ix.toNatClampNeg 0), σ.2))) (G := vp_in ix 720 ∧ True) rfl ⟨(by rw [hi]; exact vp_in_nI (by omega) (by decide)), trivial⟩ ?_
    have e9 : lp_cl1 (n + 1) σ ix = (lp_cl1 n ((bz_up σ.1 16 ix.toNatClampNeg 0), σ.2) (ix + 1)) := by rw [lp_cl1]
    rw [e9] at kk
    exact ih ((bz_up σ.1 16 ix.toNatClampNeg 0), σ.2) (ix + 1) (j9 + 1) (by rw [hi]; exact nI_1 j9) (by omega) kk
theorem rlp_cl1 : ∀ (n : Nat) (σ : bz_S) (ix : Int32), bz_fr [16] σ (lp_cl1 n σ ix) := by
  intro n
  induction n with
  | zero =>
    intro σ ix
    rw [lp_cl1]
    exact bz_fr_rf
  | succ n ihc =>
    intro σ ix
    rw [lp_cl1]
    exact (bz_fr_tr (τ := ((bz_up σ.1 16 ix.toNatClampNeg 0), σ.2)) ⟨(bz_f1_up (bz_fr_rf).1 (by decide)), (bz_fr_rf).2⟩ (ihc ((bz_up σ.1 16 ix.toNatClampNeg 0), σ.2) (ix + 1)))

theorem bz_45 {x y : Int32} {s c : Nat} (hx : x = nI s) (hy : y = nI c) (hs : s < 16) (hc : c < 45) : vp_in ((x * 45) + y) 720 := by
  rw [hx, hy]
  show vp_in (nI s * nI 45 + nI c) 720
  rw [bz_mulN, nI_add]
  exact vp_in_nI (by omega) (by decide)

def lp_cl3 (ix : Int32) : Nat → bz_S → Int32 → bz_S
  | 0, σ, sp => σ
  | n + 1, σ, sp => (lp_cl3 ix n ((bz_up σ.1 16 (((sp * 45) + (f_X7_cellBehind_12 σ sp)).toNatClampNeg) ((σ.1 16 (((sp * 45) + (f_X7_cellBehind_12 σ sp)).toNatClampNeg)) + 1)), σ.2) (sp + 1))
set_option maxRecDepth 100000 in
theorem s_lp_cl3 {X : bz_X} (ix : Int32) {Q : bz_Q} : ∀ (n : Nat) (σ : bz_S) (sp : Int32) (j9 : Nat) (hi : sp = nI j9) (hj : j9 + n = 16) (gt : bz_trk σ 16) (kk : bz_wp bz_P X mX9_countLeft Q (87, [some (.ref 14), some (.ref 12), some (.int ix), none], [], (lp_cl3 ix n σ sp))), bz_wp bz_P X mX9_countLeft (Q) (56, [some (.ref 14), some (.ref 12), some (.int ix), some (.int sp)], [], σ) := by
  intro n
  induction n with
  | zero =>
    intro σ sp j9 hi hj gt kk
    refine bz_wpb bT_X9_countLeft 3 (b1 := (87, [some (.ref 14), some (.ref 12), some (.int ix), some (.int sp)], [], σ)) (b2 := (62, [some (.ref 14), some (.ref 12), some (.int ix), some (.int sp)], [], σ)) (C := 16 ≤ sp) (G := True) rfl trivial (fun _ => ?_) (fun z => absurd (show (16 : Int32) ≤ sp from by rw [hi, show j9 = 16 from by omega]; decide) z)
    have e9 : lp_cl3 ix 0 σ sp = σ := by rw [lp_cl3]
    rw [e9] at kk
    refine bz_wpw (by exact ⟨rfl, rfl, rfl, trivial⟩) kk
  | succ n ih =>
    intro σ sp j9 hi hj gt kk
    refine bz_wpb bT_X9_countLeft 3 (b1 := (87, [some (.ref 14), some (.ref 12), some (.int ix), some (.int sp)], [], σ)) (b2 := (62, [some (.ref 14), some (.ref 12), some (.int ix), some (.int sp)], [], σ)) (C := 16 ≤ sp) (G := True) rfl trivial (fun z => absurd z (show ¬ (16 : Int32) ≤ sp from by rw [hi]; exact nI_ge (b := 16) (by omega) (by decide))) (fun _ => ?_)
    refine bz_wpn bT_X9_countLeft 7 (b := (72, [some (.ref 14), some (.ref 12), some (.int ix), some (.int sp)], [.int sp, .ref 12, .int (sp * 45), .ref 16], σ)) (G := True) rfl trivial ?_
    refine bz_wci bT_X9_countLeft [.ref 12, .int sp] (pc' := 75) (rest := [.int (sp * 45), .ref 16]) rfl rfl (Nat.le_of_ble_eq_true rfl) rfl (Nat.le_of_ble_eq_true rfl) rfl (s_X7_cellBehind_12 σ sp) rfl ?_
    refine bz_wpn bT_X9_countLeft 8 (b := (56, [some (.ref 14), some (.ref 12), some (.int ix), some (.int (sp + 1))], [], ((bz_up σ.1 16 (((sp * 45) + (f_X7_cellBehind_12 σ sp)).toNatClampNeg) ((σ.1 16 (((sp * 45) + (f_X7_cellBehind_12 σ sp)).toNatClampNeg)) + 1)), σ.2))) (G := vp_in ((sp * 45) + (f_X7_cellBehind_12 σ sp)) 720 ∧ vp_in ((sp * 45) + (f_X7_cellBehind_12 σ sp)) 720 ∧ True) rfl ⟨(by obtain ⟨c, hc, he⟩ := bz_behind gt sp; exact bz_45 hi he (by omega) hc), (by obtain ⟨c, hc, he⟩ := bz_behind gt sp; exact bz_45 hi he (by omega) hc), trivial⟩ ?_
    have e9 : lp_cl3 ix (n + 1) σ sp = (lp_cl3 ix n ((bz_up σ.1 16 (((sp * 45) + (f_X7_cellBehind_12 σ sp)).toNatClampNeg) ((σ.1 16 (((sp * 45) + (f_X7_cellBehind_12 σ sp)).toNatClampNeg)) + 1)), σ.2) (sp + 1)) := by rw [lp_cl3]
    rw [e9] at kk
    exact ih ((bz_up σ.1 16 (((sp * 45) + (f_X7_cellBehind_12 σ sp)).toNatClampNeg) ((σ.1 16 (((sp * 45) + (f_X7_cellBehind_12 σ sp)).toNatClampNeg)) + 1)), σ.2) (sp + 1) (j9 + 1) (by rw [hi]; exact nI_1 j9) (by omega) (fun q hq => by obtain ⟨c, hc, he⟩ := gt q hq; exact ⟨c, hc, he⟩) kk
theorem rlp_cl3 (ix : Int32) : ∀ (n : Nat) (σ : bz_S) (sp : Int32), bz_fr [16] σ (lp_cl3 ix n σ sp) := by
  intro n
  induction n with
  | zero =>
    intro σ sp
    rw [lp_cl3]
    exact bz_fr_rf
  | succ n ihc =>
    intro σ sp
    rw [lp_cl3]
    exact (bz_fr_tr (τ := ((bz_up σ.1 16 (((sp * 45) + (f_X7_cellBehind_12 σ sp)).toNatClampNeg) ((σ.1 16 (((sp * 45) + (f_X7_cellBehind_12 σ sp)).toNatClampNeg)) + 1)), σ.2)) ⟨(bz_f1_up (bz_fr_rf).1 (by decide)), (bz_fr_rf).2⟩ (ihc ((bz_up σ.1 16 (((sp * 45) + (f_X7_cellBehind_12 σ sp)).toNatClampNeg) ((σ.1 16 (((sp * 45) + (f_X7_cellBehind_12 σ sp)).toNatClampNeg)) + 1)), σ.2) (sp + 1)))

theorem bz_cd {σ : bz_S} {N j : Nat} {ix : Int32} (gn : bz_codN σ N) (hi : ix = nI j) (hj : j < N) (hb : j < 2 ^ 31) : bz_trk (f_X7_walk_12 σ ((σ.1 15 ix.toNatClampNeg) / 10) ((σ.1 15 ix.toNatClampNeg) % 10)) 16 := by
  obtain ⟨a, b, h1, h2, h3⟩ := gn.2 j hj
  rw [hi, nI_clamp hb, h3]
  have e1 : nI (10 * a + b) / 10 = nI a := by
    show nI (10 * a + b) / nI 10 = _
    rw [bz_divN (by omega) (by decide) (by decide)]
    congr 1; omega
  have e2 : nI (10 * a + b) % 10 = nI b := by
    show nI (10 * a + b) % nI 10 = _
    rw [bz_modN (by omega) (by decide) (by decide)]
    congr 1; omega
  rw [e1, e2]
  exact bz_walk_ok12 σ h1 h2
theorem bz_codK {σ τ : bz_S} {N : Nat} (gn : bz_codN σ N) (h14 : τ.1 14 = σ.1 14) (h15 : τ.1 15 = σ.1 15) : bz_codN τ N := by
  unfold bz_codN at gn ⊢
  rw [h14, h15]
  exact gn

def lp_cl2_b (rc : bz_S → Int32 → bz_S) (σ : bz_S) (ix : Int32) (τ1 : bz_S) (τ2 : bz_S) : bz_S := (rc τ2 (ix + 1))
def lp_cl2_a (rc : bz_S → Int32 → bz_S) (σ : bz_S) (ix : Int32) (τ1 : bz_S) : bz_S := (lp_cl2_b rc σ ix τ1 ((lp_cl3 ix (bz_k 16) τ1 0)))
def lp_cl2 : Nat → bz_S → Int32 → bz_S
  | 0, σ, ix => σ
  | n + 1, σ, ix => (lp_cl2_a (lp_cl2 n) σ ix (f_X7_walk_12 σ ((σ.1 15 ix.toNatClampNeg) / 10) ((σ.1 15 ix.toNatClampNeg) % 10)))
set_option maxRecDepth 100000 in
theorem s_lp_cl2 {X : bz_X} (N : Nat) (hN : N ≤ 360) : ∀ (n : Nat) (σ : bz_S) (ix : Int32) (j9 : Nat) (hi : ix = nI j9) (hj : j9 + n = N) (gn : bz_codN σ N), bz_wp bz_P X mX9_countLeft (bz_pv (lp_cl2 n σ ix)) (24, [some (.ref 14), some (.ref 12), some (.int ix), none], [], σ) := by
  intro n
  induction n with
  | zero =>
    intro σ ix j9 hi hj gn
    refine bz_wpb bT_X9_countLeft 4 (b1 := (93, [some (.ref 14), some (.ref 12), some (.int ix), none], [], σ)) (b2 := (32, [some (.ref 14), some (.ref 12), some (.int ix), none], [], σ)) (C := (σ.1 14 1) ≤ ix) (G := True) rfl trivial (fun _ => ?_) (fun z => absurd (show (σ.1 14 1) ≤ ix from by rw [hi, gn.1]; exact nI_le (by omega) (by omega)) z)
    refine bz_wpr bT_X9_countLeft rfl rfl trivial ?_
    have e9 : lp_cl2 0 σ ix = σ := by rw [lp_cl2]
    exact ⟨rfl, by rw [e9]⟩
  | succ n ih =>
    intro σ ix j9 hi hj gn
    refine bz_wpb bT_X9_countLeft 4 (b1 := (93, [some (.ref 14), some (.ref 12), some (.int ix), none], [], σ)) (b2 := (32, [some (.ref 14), some (.ref 12), some (.int ix), none], [], σ)) (C := (σ.1 14 1) ≤ ix) (G := True) rfl trivial (fun z => absurd z (show ¬ (σ.1 14 1) ≤ ix from by rw [hi, gn.1]; exact nI_ge (by omega) (by omega))) (fun _ => ?_)
    refine bz_wpn bT_X9_countLeft 13 (b := (51, [some (.ref 14), some (.ref 12), some (.int ix), none], [.int ((σ.1 15 ix.toNatClampNeg) % 10), .int ((σ.1 15 ix.toNatClampNeg) / 10), .ref 12], σ)) (G := vp_in ix 360 ∧ ¬ (10 : Int32) = 0 ∧ vp_in ix 360 ∧ ¬ (10 : Int32) = 0 ∧ True) rfl ⟨(by rw [hi]; exact vp_in_nI (by omega) (by decide)), (by decide), (by rw [hi]; exact vp_in_nI (by omega) (by decide)), (by decide), trivial⟩ ?_
    refine bz_wcv bT_X9_countLeft [.ref 12, .int ((σ.1 15 ix.toNatClampNeg) / 10), .int ((σ.1 15 ix.toNatClampNeg) % 10)] (pc' := 54) (rest := []) rfl rfl (Nat.le_of_ble_eq_true rfl) rfl (Nat.le_of_ble_eq_true rfl) rfl (s_X7_walk_12 σ ((σ.1 15 ix.toNatClampNeg) / 10) ((σ.1 15 ix.toNatClampNeg) % 10)) rfl ?_
    generalize hτ1 : f_X7_walk_12 σ ((σ.1 15 ix.toNatClampNeg) / 10) ((σ.1 15 ix.toNatClampNeg) % 10) = τ1
    refine bz_wpn bT_X9_countLeft 2 (b := (56, [some (.ref 14), some (.ref 12), some (.int ix), some (.int 0)], [], τ1)) (G := True) rfl trivial ?_
    refine s_lp_cl3 ix (bz_k 16) τ1 0 0 rfl (by rw [bz_k_eq]) (by rw [← hτ1]; exact bz_cd gn hi (by omega) (by omega)) ?_
    generalize hτ2 : (lp_cl3 ix (bz_k 16) τ1 0) = τ2
    refine bz_wpn bT_X9_countLeft 2 (b := (24, [some (.ref 14), some (.ref 12), some (.int (ix + 1)), none], [], τ2)) (G := True) rfl trivial ?_
    have e9 : lp_cl2 (n + 1) σ ix = (lp_cl2 n τ2 (ix + 1)) := by rw [lp_cl2, hτ1, lp_cl2_a, hτ2, lp_cl2_b]
    rw [e9]
    exact ih τ2 (ix + 1) (j9 + 1) (by rw [hi]; exact nI_1 j9) (by omega) (bz_codK gn ((bz_fr_at (by rw [← hτ2]; exact rlp_cl3 _ _ _ _ : bz_fr [16] τ1 τ2) 14 (by decide)).trans (bz_fr_at (by rw [← hτ1]; exact rf_X7_walk_12 σ _ _ : bz_fr [12, 13] σ τ1) 14 (by decide))) ((bz_fr_at (by rw [← hτ2]; exact rlp_cl3 _ _ _ _ : bz_fr [16] τ1 τ2) 15 (by decide)).trans (bz_fr_at (by rw [← hτ1]; exact rf_X7_walk_12 σ _ _ : bz_fr [12, 13] σ τ1) 15 (by decide))))
theorem rlp_cl2_b (rc : bz_S → Int32 → bz_S) (σ : bz_S) (ix : Int32) (τ1 : bz_S) (τ2 : bz_S) (ihc : ∀ (σ : bz_S) (ix : Int32), bz_fr [12, 13, 16] σ (rc σ ix)) (fτ1 : bz_fr [12, 13, 16] σ τ1) (fτ2 : bz_fr [12, 13, 16] σ τ2) : bz_fr [12, 13, 16] σ (lp_cl2_b rc σ ix τ1 τ2) := by
  unfold lp_cl2_b
  exact (bz_fr_tr (τ := τ2) fτ2 (ihc τ2 (ix + 1)))
theorem rlp_cl2_a (rc : bz_S → Int32 → bz_S) (σ : bz_S) (ix : Int32) (τ1 : bz_S) (ihc : ∀ (σ : bz_S) (ix : Int32), bz_fr [12, 13, 16] σ (rc σ ix)) (fτ1 : bz_fr [12, 13, 16] σ τ1) : bz_fr [12, 13, 16] σ (lp_cl2_a rc σ ix τ1) := by
  unfold lp_cl2_a
  exact (rlp_cl2_b rc σ ix τ1 ((lp_cl3 ix (bz_k 16) τ1 0)) ihc fτ1 (bz_fr_tr (τ := τ1) fτ1 (bz_fr_mo (rlp_cl3 ix (bz_k 16) τ1 0) (by decide))))
theorem rlp_cl2 : ∀ (n : Nat) (σ : bz_S) (ix : Int32), bz_fr [12, 13, 16] σ (lp_cl2 n σ ix) := by
  intro n
  induction n with
  | zero =>
    intro σ ix
    rw [lp_cl2]
    exact bz_fr_rf
  | succ n ihc =>
    intro σ ix
    rw [lp_cl2]
    exact (rlp_cl2_a (lp_cl2 n) σ ix (f_X7_walk_12 σ ((σ.1 15 ix.toNatClampNeg) / 10) ((σ.1 15 ix.toNatClampNeg) % 10)) ihc (bz_fr_mo (rf_X7_walk_12 σ ((σ.1 15 ix.toNatClampNeg) / 10) ((σ.1 15 ix.toNatClampNeg) % 10)) (by decide)))

def f_X9_countLeft_14_12_a (σ : bz_S) (τ1 : bz_S) : bz_S := lp_cl2 (σ.1 14 1).toNatClampNeg τ1 0
def f_X9_countLeft_14_12 (σ : bz_S)  : bz_S := (f_X9_countLeft_14_12_a σ ((lp_cl1 (bz_k 720) σ 0)))
set_option maxRecDepth 100000 in
theorem s_X9_countLeft_14_12 {X : bz_X} (σ : bz_S) (hc : ∃ N, N ≤ 360 ∧ bz_codN σ N) : bz_C bz_P X mX9_countLeft [.ref 14, .ref 12] σ (bz_pv (f_X9_countLeft_14_12 σ)) := by
  show bz_wp bz_P X mX9_countLeft (bz_pv (f_X9_countLeft_14_12 σ)) (0, [some (.ref 14), some (.ref 12), none, none], [], σ)
  refine bz_wpn bT_X9_countLeft 2 (b := (2, [some (.ref 14), some (.ref 12), some (.int 0), none], [], σ)) (G := True) rfl trivial ?_
  refine s_lp_cl1 (bz_k 720) σ 0 0 rfl (by rw [bz_k_eq]) ?_
  generalize hτ1 : (lp_cl1 (bz_k 720) σ 0) = τ1
  refine bz_wpn bT_X9_countLeft 2 (b := (24, [some (.ref 14), some (.ref 12), some (.int 0), none], [], τ1)) (G := True) rfl trivial ?_
  have e9 : f_X9_countLeft_14_12 σ = lp_cl2 (σ.1 14 1).toNatClampNeg τ1 0 := by rw [f_X9_countLeft_14_12, hτ1, f_X9_countLeft_14_12_a]
  rw [e9]
  obtain ⟨N, hN, gn⟩ := hc
  exact s_lp_cl2 N hN _ τ1 0 0 rfl (by rw [gn.1, nI_clamp (by omega)]; omega) (bz_codK gn (bz_fr_at (by rw [← hτ1]; exact rlp_cl1 _ _ _ : bz_fr [16] σ τ1) 14 (by decide)) (bz_fr_at (by rw [← hτ1]; exact rlp_cl1 _ _ _ : bz_fr [16] σ τ1) 15 (by decide)))
theorem rf_X9_countLeft_14_12_a (σ : bz_S) (τ1 : bz_S) (fτ1 : bz_fr [12, 13, 16] σ τ1) : bz_fr [12, 13, 16] σ (f_X9_countLeft_14_12_a σ τ1) := by
  unfold f_X9_countLeft_14_12_a
  exact (bz_fr_tr (τ := τ1) fτ1 (bz_fr_mo (rlp_cl2 (σ.1 14 1).toNatClampNeg τ1 0) (by decide)))
theorem rf_X9_countLeft_14_12 (σ : bz_S)  : bz_fr [12, 13, 16] σ (f_X9_countLeft_14_12 σ) := by
  unfold f_X9_countLeft_14_12
  exact (rf_X9_countLeft_14_12_a σ ((lp_cl1 (bz_k 720) σ 0)) (bz_fr_mo (rlp_cl1 (bz_k 720) σ 0) (by decide)))

def lp_most (sp : Int32) : Nat → bz_S → Int32 → Int32 → Int32
  | 0, σ, mo, cl9 => mo
  | n + 1, σ, mo, cl9 => (lp_most sp n σ (f_J9_max_7cf53 mo (σ.1 16 (((sp * 45) + cl9).toNatClampNeg))) (cl9 + 1))
set_option maxRecDepth 100000 in
theorem s_lp_most {X : bz_X} (sp : Int32) (SN : Nat) (hS : sp = nI SN) (hS2 : SN < 16) : ∀ (n : Nat) (σ : bz_S) (mo : Int32) (cl9 : Int32) (j9 : Nat) (hi : cl9 = nI j9) (hj : j9 + n = 45), bz_wp bz_P X mX9_mostLeftAt (bz_pi (lp_most sp n σ mo cl9) σ) (4, [some (.ref 14), some (.int sp), some (.int mo), some (.int cl9)], [], σ) := by
  intro n
  induction n with
  | zero =>
    intro σ mo cl9 j9 hi hj
    refine bz_wpb bT_X9_mostLeftAt 3 (b1 := (32, [some (.ref 14), some (.int sp), some (.int mo), some (.int cl9)], [], σ)) (b2 := (10, [some (.ref 14), some (.int sp), some (.int mo), some (.int cl9)], [], σ)) (C := 45 ≤ cl9) (G := True) rfl trivial (fun _ => ?_) (fun z => absurd (show (45 : Int32) ≤ cl9 from by rw [hi, show j9 = 45 from by omega]; decide) z)
    refine bz_wpn bT_X9_mostLeftAt 1 (b := (33, [some (.ref 14), some (.int sp), some (.int mo), some (.int cl9)], [.int mo], σ)) (G := True) rfl trivial ?_
    refine bz_wpr bT_X9_mostLeftAt rfl rfl trivial ?_
    have e9 : lp_most sp 0 σ mo cl9 = mo := by rw [lp_most]
    exact ⟨by rw [e9], rfl⟩
  | succ n ih =>
    intro σ mo cl9 j9 hi hj
    refine bz_wpb bT_X9_mostLeftAt 3 (b1 := (32, [some (.ref 14), some (.int sp), some (.int mo), some (.int cl9)], [], σ)) (b2 := (10, [some (.ref 14), some (.int sp), some (.int mo), some (.int cl9)], [], σ)) (C := 45 ≤ cl9) (G := True) rfl trivial (fun z => absurd z (show ¬ (45 : Int32) ≤ cl9 from by rw [hi]; exact nI_ge (b := 45) (by omega) (by decide))) (fun _ => ?_)
    refine bz_wpn bT_X9_mostLeftAt 9 (b := (22, [some (.ref 14), some (.int sp), some (.int mo), some (.int cl9)], [.int (σ.1 16 (((sp * 45) + cl9).toNatClampNeg)), .int mo], σ)) (G := vp_in ((sp * 45) + cl9) 720 ∧ True) rfl ⟨(bz_45 hS hi hS2 (by omega)), trivial⟩ ?_
    refine bz_wci bT_X9_mostLeftAt [.int mo, .int (σ.1 16 (((sp * 45) + cl9).toNatClampNeg))] (pc' := 25) (rest := []) rfl rfl (Nat.le_of_ble_eq_true rfl) rfl (Nat.le_of_ble_eq_true rfl) rfl (s_J9_max_7cf53 σ mo (σ.1 16 (((sp * 45) + cl9).toNatClampNeg))) rfl ?_
    refine bz_wpn bT_X9_mostLeftAt 3 (b := (4, [some (.ref 14), some (.int sp), some (.int (f_J9_max_7cf53 mo (σ.1 16 (((sp * 45) + cl9).toNatClampNeg)))), some (.int (cl9 + 1))], [], σ)) (G := True) rfl trivial ?_
    have e9 : lp_most sp (n + 1) σ mo cl9 = (lp_most sp n σ (f_J9_max_7cf53 mo (σ.1 16 (((sp * 45) + cl9).toNatClampNeg))) (cl9 + 1)) := by rw [lp_most]
    rw [e9]
    exact ih σ (f_J9_max_7cf53 mo (σ.1 16 (((sp * 45) + cl9).toNatClampNeg))) (cl9 + 1) (j9 + 1) (by rw [hi]; exact nI_1 j9) (by omega)

def f_X9_mostLeftAt_14 (σ : bz_S) (sp : Int32) : Int32 := lp_most sp (bz_k 45) σ 0 0
set_option maxRecDepth 100000 in
theorem s_X9_mostLeftAt_14 {X : bz_X} (σ : bz_S) (sp : Int32) (hs : bz_lt 16 sp) : bz_C bz_P X mX9_mostLeftAt [.ref 14, .int sp] σ (bz_pi (f_X9_mostLeftAt_14 σ sp) σ) := by
  show bz_wp bz_P X mX9_mostLeftAt (bz_pi (f_X9_mostLeftAt_14 σ sp) σ) (0, [some (.ref 14), some (.int sp), none, none], [], σ)
  refine bz_wpn bT_X9_mostLeftAt 4 (b := (4, [some (.ref 14), some (.int sp), some (.int 0), some (.int 0)], [], σ)) (G := True) rfl trivial ?_
  have e9 : f_X9_mostLeftAt_14 σ sp = lp_most sp (bz_k 45) σ 0 0 := by rw [f_X9_mostLeftAt_14]
  rw [e9]
  obtain ⟨SN, hS2, hS⟩ := hs
  exact s_lp_most sp SN hS hS2 (bz_k 45) σ 0 0 0 rfl (by rw [bz_k_eq])

def lp_chs : Nat → bz_S → Int32 → bz_S
  | 0, σ, sp => σ
  | n + 1, σ, sp => if (σ.1 14 2) = (-6) then (lp_chs n ((bz_up (bz_up σ.1 14 2 sp) 14 3 (f_X9_mostLeftAt_14 σ sp)), σ.2) (sp + 1)) else (if (σ.1 14 3) ≤ (f_X9_mostLeftAt_14 σ sp) then (lp_chs n σ (sp + 1)) else (lp_chs n ((bz_up (bz_up σ.1 14 2 sp) 14 3 (f_X9_mostLeftAt_14 σ sp)), σ.2) (sp + 1)))
set_option maxRecDepth 100000 in
theorem s_lp_chs {X : bz_X} : ∀ (n : Nat) (σ : bz_S) (sp : Int32) (j9 : Nat) (hi : sp = nI j9) (hj : j9 + n = 16), bz_wp bz_P X mX9_chooseStep (bz_pv (lp_chs n σ sp)) (19, [some (.ref 14), some (.ref 12), some (.int sp), none], [], σ) := by
  intro n
  induction n with
  | zero =>
    intro σ sp j9 hi hj
    refine bz_wpb bT_X9_chooseStep 3 (b1 := (64, [some (.ref 14), some (.ref 12), some (.int sp), none], [], σ)) (b2 := (25, [some (.ref 14), some (.ref 12), some (.int sp), none], [], σ)) (C := 16 ≤ sp) (G := True) rfl trivial (fun _ => ?_) (fun z => absurd (show (16 : Int32) ≤ sp from by rw [hi, show j9 = 16 from by omega]; decide) z)
    refine bz_wpr bT_X9_chooseStep rfl rfl trivial ?_
    have e9 : lp_chs 0 σ sp = σ := by rw [lp_chs]
    exact ⟨rfl, by rw [e9]⟩
  | succ n ih =>
    intro σ sp j9 hi hj
    refine bz_wpb bT_X9_chooseStep 3 (b1 := (64, [some (.ref 14), some (.ref 12), some (.int sp), none], [], σ)) (b2 := (25, [some (.ref 14), some (.ref 12), some (.int sp), none], [], σ)) (C := 16 ≤ sp) (G := True) rfl trivial (fun z => absurd z (show ¬ (16 : Int32) ≤ sp from by rw [hi]; exact nI_ge (b := 16) (by omega) (by decide))) (fun _ => ?_)
    refine bz_wpn bT_X9_chooseStep 2 (b := (27, [some (.ref 14), some (.ref 12), some (.int sp), none], [.int sp, .ref 14], σ)) (G := True) rfl trivial ?_
    refine bz_wci bT_X9_chooseStep [.ref 14, .int sp] (pc' := 30) (rest := []) rfl rfl (Nat.le_of_ble_eq_true rfl) rfl (Nat.le_of_ble_eq_true rfl) rfl (s_X9_mostLeftAt_14 σ sp ⟨j9, by omega, hi⟩) rfl ?_
    refine bz_wpb bT_X9_chooseStep 5 (b1 := (48, [some (.ref 14), some (.ref 12), some (.int sp), some (.int (f_X9_mostLeftAt_14 σ sp))], [], σ)) (b2 := (40, [some (.ref 14), some (.ref 12), some (.int sp), some (.int (f_X9_mostLeftAt_14 σ sp))], [], σ)) (C := (σ.1 14 2) = (-6)) (G := True) rfl trivial (fun h1 => ?_) (fun h1 => ?_)
    · skip
      refine bz_wpn bT_X9_chooseStep 8 (b := (19, [some (.ref 14), some (.ref 12), some (.int (sp + 1)), some (.int (f_X9_mostLeftAt_14 σ sp))], [], ((bz_up (bz_up σ.1 14 2 sp) 14 3 (f_X9_mostLeftAt_14 σ sp)), σ.2))) (G := True) rfl trivial ?_
      have e9 : lp_chs (n + 1) σ sp = (lp_chs n ((bz_up (bz_up σ.1 14 2 sp) 14 3 (f_X9_mostLeftAt_14 σ sp)), σ.2) (sp + 1)) := by rw [lp_chs, if_pos (h1)]
      rw [e9]
      refine bz_wpw (L' := [some (.ref 14), some (.ref 12), some (.int (sp + 1)), none]) (by exact ⟨rfl, rfl, rfl, trivial⟩) ?_
      exact ih ((bz_up (bz_up σ.1 14 2 sp) 14 3 (f_X9_mostLeftAt_14 σ sp)), σ.2) (sp + 1) (j9 + 1) (by rw [hi]; exact nI_1 j9) (by omega)
    · skip
      refine bz_wpb bT_X9_chooseStep 4 (b1 := (58, [some (.ref 14), some (.ref 12), some (.int sp), some (.int (f_X9_mostLeftAt_14 σ sp))], [], σ)) (b2 := (48, [some (.ref 14), some (.ref 12), some (.int sp), some (.int (f_X9_mostLeftAt_14 σ sp))], [], σ)) (C := (σ.1 14 3) ≤ (f_X9_mostLeftAt_14 σ sp)) (G := True) rfl trivial (fun h2 => ?_) (fun h2 => ?_)
      · skip
        refine bz_wpn bT_X9_chooseStep 2 (b := (19, [some (.ref 14), some (.ref 12), some (.int (sp + 1)), some (.int (f_X9_mostLeftAt_14 σ sp))], [], σ)) (G := True) rfl trivial ?_
        have e9 : lp_chs (n + 1) σ sp = (lp_chs n σ (sp + 1)) := by rw [lp_chs, if_neg (h1), if_pos (h2)]
        rw [e9]
        refine bz_wpw (L' := [some (.ref 14), some (.ref 12), some (.int (sp + 1)), none]) (by exact ⟨rfl, rfl, rfl, trivial⟩) ?_
        exact ih σ (sp + 1) (j9 + 1) (by rw [hi]; exact nI_1 j9) (by omega)
      · skip
        refine bz_wpn bT_X9_chooseStep 8 (b := (19, [some (.ref 14), some (.ref 12), some (.int (sp + 1)), some (.int (f_X9_mostLeftAt_14 σ sp))], [], ((bz_up (bz_up σ.1 14 2 sp) 14 3 (f_X9_mostLeftAt_14 σ sp)), σ.2))) (G := True) rfl trivial ?_
        have e9 : lp_chs (n + 1) σ sp = (lp_chs n ((bz_up (bz_up σ.1 14 2 sp) 14 3 (f_X9_mostLeftAt_14 σ sp)), σ.2) (sp + 1)) := by rw [lp_chs, if_neg (h1), if_neg (h2)]
        rw [e9]
        refine bz_wpw (L' := [some (.ref 14), some (.ref 12), some (.int (sp + 1)), none]) (by exact ⟨rfl, rfl, rfl, trivial⟩) ?_
        exact ih ((bz_up (bz_up σ.1 14 2 sp) 14 3 (f_X9_mostLeftAt_14 σ sp)), σ.2) (sp + 1) (j9 + 1) (by rw [hi]; exact nI_1 j9) (by omega)
theorem rlp_chs : ∀ (n : Nat) (σ : bz_S) (sp : Int32), bz_fr [14] σ (lp_chs n σ sp) := by
  intro n
  induction n with
  | zero =>
    intro σ sp
    rw [lp_chs]
    exact bz_fr_rf
  | succ n ihc =>
    intro σ sp
    rw [lp_chs]
    exact (bz_ite (bz_fr_tr (τ := ((bz_up (bz_up σ.1 14 2 sp) 14 3 (f_X9_mostLeftAt_14 σ sp)), σ.2)) ⟨(bz_f1_up (bz_f1_up (bz_fr_rf).1 (by decide)) (by decide)), (bz_fr_rf).2⟩ (ihc ((bz_up (bz_up σ.1 14 2 sp) 14 3 (f_X9_mostLeftAt_14 σ sp)), σ.2) (sp + 1))) (bz_ite (bz_fr_tr (τ := σ) bz_fr_rf (ihc σ (sp + 1))) (bz_fr_tr (τ := ((bz_up (bz_up σ.1 14 2 sp) 14 3 (f_X9_mostLeftAt_14 σ sp)), σ.2)) ⟨(bz_f1_up (bz_f1_up (bz_fr_rf).1 (by decide)) (by decide)), (bz_fr_rf).2⟩ (ihc ((bz_up (bz_up σ.1 14 2 sp) 14 3 (f_X9_mostLeftAt_14 σ sp)), σ.2) (sp + 1)))))

def f_X9_chooseStep_14_12_a (σ : bz_S) (τ1 : bz_S) : bz_S := lp_chs (bz_k 16) ((bz_up (bz_up τ1.1 14 2 (-6)) 14 3 (-6)), τ1.2) 0
def f_X9_chooseStep_14_12 (σ : bz_S)  : bz_S := (f_X9_chooseStep_14_12_a σ (f_X9_countLeft_14_12 σ))
set_option maxRecDepth 100000 in
theorem s_X9_chooseStep_14_12 {X : bz_X} (σ : bz_S) (hc : ∃ N, N ≤ 360 ∧ bz_codN σ N) : bz_C bz_P X mX9_chooseStep [.ref 14, .ref 12] σ (bz_pv (f_X9_chooseStep_14_12 σ)) := by
  show bz_wp bz_P X mX9_chooseStep (bz_pv (f_X9_chooseStep_14_12 σ)) (0, [some (.ref 14), some (.ref 12), none, none], [], σ)
  refine bz_wpn bT_X9_chooseStep 2 (b := (2, [some (.ref 14), some (.ref 12), none, none], [.ref 12, .ref 14], σ)) (G := True) rfl trivial ?_
  refine bz_wcv bT_X9_chooseStep [.ref 14, .ref 12] (pc' := 5) (rest := []) rfl rfl (Nat.le_of_ble_eq_true rfl) rfl (Nat.le_of_ble_eq_true rfl) rfl (s_X9_countLeft_14_12 σ hc) rfl ?_
  generalize hτ1 : f_X9_countLeft_14_12 σ = τ1
  refine bz_wpn bT_X9_chooseStep 8 (b := (19, [some (.ref 14), some (.ref 12), some (.int 0), none], [], ((bz_up (bz_up τ1.1 14 2 (-6)) 14 3 (-6)), τ1.2))) (G := True) rfl trivial ?_
  have e9 : f_X9_chooseStep_14_12 σ = lp_chs (bz_k 16) ((bz_up (bz_up τ1.1 14 2 (-6)) 14 3 (-6)), τ1.2) 0 := by rw [f_X9_chooseStep_14_12, hτ1, f_X9_chooseStep_14_12_a]
  rw [e9]
  exact s_lp_chs (bz_k 16) ((bz_up (bz_up τ1.1 14 2 (-6)) 14 3 (-6)), τ1.2) 0 0 rfl (by rw [bz_k_eq])
theorem rf_X9_chooseStep_14_12_a (σ : bz_S) (τ1 : bz_S) (fτ1 : bz_fr [12, 13, 14, 16] σ τ1) : bz_fr [12, 13, 14, 16] σ (f_X9_chooseStep_14_12_a σ τ1) := by
  unfold f_X9_chooseStep_14_12_a
  exact (bz_fr_tr (τ := ((bz_up (bz_up τ1.1 14 2 (-6)) 14 3 (-6)), τ1.2)) ⟨(bz_f1_up (bz_f1_up (fτ1).1 (by decide)) (by decide)), (fτ1).2⟩ (bz_fr_mo (rlp_chs (bz_k 16) ((bz_up (bz_up τ1.1 14 2 (-6)) 14 3 (-6)), τ1.2) 0) (by decide)))
theorem rf_X9_chooseStep_14_12 (σ : bz_S)  : bz_fr [12, 13, 14, 16] σ (f_X9_chooseStep_14_12 σ) := by
  unfold f_X9_chooseStep_14_12
  exact (rf_X9_chooseStep_14_12_a σ (f_X9_countLeft_14_12 σ) (bz_fr_mo (rf_X9_countLeft_14_12 σ) (by decide)))

def f_X10_ask_0_b (σ : bz_S) (what : Int32) (τ1 : bz_S) (τ2 : bz_S) : Int32 × bz_S := if what = 0 then ((τ2.1 14 2), τ2) else ((τ2.1 14 3), τ2)
def f_X10_ask_0_a (σ : bz_S) (what : Int32) (τ1 : bz_S) : Int32 × bz_S := if (τ1.1 14 1) = 0 then ((-6), τ1) else (f_X10_ask_0_b σ what τ1 (f_X9_chooseStep_14_12 τ1))
def f_X10_ask_0 (σ : bz_S) (what : Int32) : Int32 × bz_S := if f_X10_isWithin what 0 1 = true then (f_X10_ask_0_a σ what (f_X9_gather_14_3_12 σ)) else ((-2), σ)
set_option maxRecDepth 100000 in
theorem s_X10_ask_0 {X : bz_X} (σ : bz_S) (what : Int32) (hs : bz_sgh σ) : bz_C bz_P X mX10_ask [.ref 0, .int what] σ (bz_pi (f_X10_ask_0 σ what).1 (f_X10_ask_0 σ what).2) := by
  show bz_wp bz_P X mX10_ask (bz_pi (f_X10_ask_0 σ what).1 (f_X10_ask_0 σ what).2) (0, [some (.ref 0), some (.int what)], [], σ)
  refine bz_wpn bT_X10_ask 3 (b := (3, [some (.ref 0), some (.int what)], [.int 1, .int 0, .int what], σ)) (G := True) rfl trivial ?_
  refine bz_wci bT_X10_ask [.int what, .int 0, .int 1] (pc' := 6) (rest := []) rfl rfl (Nat.le_of_ble_eq_true rfl) rfl (Nat.le_of_ble_eq_true rfl) rfl (s_X10_isWithin σ what 0 1) rfl ?_
  refine bz_wpb bT_X10_ask 1 (b1 := (12, [some (.ref 0), some (.int what)], [], σ)) (b2 := (9, [some (.ref 0), some (.int what)], [], σ)) (C := ¬ bz_b (f_X10_isWithin what 0 1) = 0) (G := True) rfl trivial (fun h1 => ?_) (fun h1 => ?_)
  · skip
    have h1 := bz_b1 h1
    refine bz_wpn bT_X10_ask 6 (b := (24, [some (.ref 0), some (.int what)], [.ref 12, .ref 3, .ref 14], σ)) (G := True) rfl trivial ?_
    refine bz_wcv bT_X10_ask [.ref 14, .ref 3, .ref 12] (pc' := 27) (rest := []) rfl rfl (Nat.le_of_ble_eq_true rfl) rfl (Nat.le_of_ble_eq_true rfl) rfl (s_X9_gather_14_3_12 σ hs) rfl ?_
    generalize hτ1 : f_X9_gather_14_3_12 σ = τ1
    refine bz_wpb bT_X10_ask 4 (b1 := (40, [some (.ref 0), some (.int what)], [], τ1)) (b2 := (37, [some (.ref 0), some (.int what)], [], τ1)) (C := ¬ (τ1.1 14 1) = 0) (G := True) rfl trivial (fun h2 => ?_) (fun h2 => ?_)
    · skip
      refine bz_wpn bT_X10_ask 4 (b := (48, [some (.ref 0), some (.int what)], [.ref 12, .ref 14], τ1)) (G := True) rfl trivial ?_
      refine bz_wcv bT_X10_ask [.ref 14, .ref 12] (pc' := 51) (rest := []) rfl rfl (Nat.le_of_ble_eq_true rfl) rfl (Nat.le_of_ble_eq_true rfl) rfl (s_X9_chooseStep_14_12 τ1 (by rw [← hτ1]; exact q_gather σ)) rfl ?_
      generalize hτ2 : f_X9_chooseStep_14_12 τ1 = τ2
      refine bz_wpb bT_X10_ask 2 (b1 := (65, [some (.ref 0), some (.int what)], [], τ2)) (b2 := (55, [some (.ref 0), some (.int what)], [], τ2)) (C := ¬ what = 0) (G := True) rfl trivial (fun h3 => ?_) (fun h3 => ?_)
      · skip
        refine bz_wpn bT_X10_ask 3 (b := (72, [some (.ref 0), some (.int what)], [.int (τ2.1 14 3)], τ2)) (G := True) rfl trivial ?_
        refine bz_wpr bT_X10_ask rfl rfl trivial ?_
        have e9 : f_X10_ask_0 σ what = ((τ2.1 14 3), τ2) := by rw [f_X10_ask_0, if_pos (h1), hτ1, f_X10_ask_0_a, if_neg (h2), hτ2, f_X10_ask_0_b, if_neg (h3)]
        exact ⟨by rw [e9], by rw [e9]⟩
      · skip
        refine bz_wpn bT_X10_ask 4 (b := (72, [some (.ref 0), some (.int what)], [.int (τ2.1 14 2)], τ2)) (G := True) rfl trivial ?_
        refine bz_wpr bT_X10_ask rfl rfl trivial ?_
        have e9 : f_X10_ask_0 σ what = ((τ2.1 14 2), τ2) := by rw [f_X10_ask_0, if_pos (h1), hτ1, f_X10_ask_0_a, if_neg (h2), hτ2, f_X10_ask_0_b, if_pos ((Decidable.not_not.mp h3))]
        exact ⟨by rw [e9], by rw [e9]⟩
    · skip
      refine bz_wpn bT_X10_ask 1 (b := (39, [some (.ref 0), some (.int what)], [.int (-6)], τ1)) (G := True) rfl trivial ?_
      refine bz_wpr bT_X10_ask rfl rfl trivial ?_
      have e9 : f_X10_ask_0 σ what = ((-6), τ1) := by rw [f_X10_ask_0, if_pos (h1), hτ1, f_X10_ask_0_a, if_pos ((Decidable.not_not.mp h2))]
      exact ⟨by rw [e9], by rw [e9]⟩
  · skip
    have h1 := bz_b0 (Decidable.not_not.mp h1)
    refine bz_wpn bT_X10_ask 1 (b := (11, [some (.ref 0), some (.int what)], [.int (-2)], σ)) (G := True) rfl trivial ?_
    refine bz_wpr bT_X10_ask rfl rfl trivial ?_
    have e9 : f_X10_ask_0 σ what = ((-2), σ) := by rw [f_X10_ask_0, if_neg (bz_ff h1)]
    exact ⟨by rw [e9], by rw [e9]⟩
theorem rf_X10_ask_0_b (σ : bz_S) (what : Int32) (τ1 : bz_S) (τ2 : bz_S) (fτ1 : bz_fr [12, 13, 14, 15, 16] σ τ1) (fτ2 : bz_fr [12, 13, 14, 15, 16] σ τ2) : bz_fr [12, 13, 14, 15, 16] σ (f_X10_ask_0_b σ what τ1 τ2).2 := by
  unfold f_X10_ask_0_b
  exact (bz_ite2 fτ2 fτ2)
theorem rf_X10_ask_0_a (σ : bz_S) (what : Int32) (τ1 : bz_S) (fτ1 : bz_fr [12, 13, 14, 15, 16] σ τ1) : bz_fr [12, 13, 14, 15, 16] σ (f_X10_ask_0_a σ what τ1).2 := by
  unfold f_X10_ask_0_a
  exact (bz_ite2 fτ1 (rf_X10_ask_0_b σ what τ1 (f_X9_chooseStep_14_12 τ1) fτ1 (bz_fr_tr (τ := τ1) fτ1 (bz_fr_mo (rf_X9_chooseStep_14_12 τ1) (by decide)))))
theorem rf_X10_ask_0 (σ : bz_S) (what : Int32) : bz_fr [12, 13, 14, 15, 16] σ (f_X10_ask_0 σ what).2 := by
  unfold f_X10_ask_0
  exact (bz_ite2 (rf_X10_ask_0_a σ what (f_X9_gather_14_3_12 σ) (bz_fr_mo (rf_X9_gather_14_3_12 σ) (by decide))) bz_fr_rf)
