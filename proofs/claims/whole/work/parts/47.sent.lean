/-! WHENCE A BALL WAS SENT -/
/-- the sights as numbers fit the state s -/
def fiN (st ce : Nat → Nat) : Nat → Nat → Nat → Bool
  | 0, _, _ => true
  | n + 1, i, s => if itN (st i) s / 8 = ce i then fiN st ce n (i + 1) s else false
/-- sights as numbers -/
def sk_R (N : Nat) (st ce : Nat → Nat) (a b : Nat → Int32) : Prop := ∀ i, i < 8 → st i < 100 ∧ ce i < 45 ∧ a i = nI (st i) ∧ b i = nI (ce i)
def pF (N : Nat) (st ce : Nat → Nat) (s : Nat) : Bool := plB (s / 8) && fiN st ce N 0 s
/-- the states below n that fit -/
def li (p : Nat → Bool) (n : Nat) : List Nat := (List.range n).filter p
theorem li_s (p : Nat → Bool) (n : Nat) : li p (n + 1) = li p n ++ (if p n = true then [n] else []) := by
  unfold li
  rw [List.range_succ, List.filter_append]
  by_cases h : p n = true
  · rw [if_pos h, List.filter_cons_of_pos h, List.filter_nil]
  · rw [if_neg h, List.filter_cons_of_neg h, List.filter_nil]
theorem li_le (p : Nat → Bool) (n : Nat) : (li p n).length ≤ n := by
  have := List.length_filter_le p (List.range n)
  rw [List.length_range] at this
  exact this
theorem li_lt (p : Nat → Bool) (n : Nat) {x : Nat} (h : x ∈ li p n) : x < n := List.mem_range.mp (List.mem_filter.mp h).1
/-- a row of codes -/
def co_R (g : Nat → Int32) (l : List Nat) : Prop := ∀ q, q < l.length → g q = cdN (l.getD q 0)
theorem co_put {f : Nat → Nat → Int32} {o s : Nat} {l : List Nat} (h : co_R (f o) l) : co_R (bz_up f o l.length (cdN s) o) (l ++ [s]) := by
  intro q hq
  rw [List.length_append, List.length_singleton] at hq
  by_cases e : q = l.length
  · rw [e, bz_up_s]
    simp [List.getD]
  · have hq' : q < l.length := by omega
    rw [bz_up_k e, h q hq']
    simp [List.getD, List.getElem?_append, hq']
section SE
variable {T : Nat → Int32} {σ τ : bz_S}
theorem c_fit {N : Nat} {st ce : Nat → Nat} (h8 : N ≤ 8) {s : Nat} (hs : s < 360) (σ0 : bz_S) : ∀ (n : Nat) (i : Nat), i + n = N → sk_R N st ce (σ0.1 4) (σ0.1 5) → lp_fit n (f_X7_walk_12 σ0 (nI (s / 8)) (nI (s % 8))) (nI i) = fiN st ce n i s := by
  intro n
  induction n with
  | zero => intro i hi h; rw [lp_fit, fiN]
  | succ n ih =>
    intro i hi h
    obtain ⟨k1, k2, k3, k4⟩ := h i (by omega)
    have fr := rf_X7_walk_12 σ0 (nI (s / 8)) (nI (s % 8))
    rw [lp_fit, fiN, nI_clamp (by omega), bz_fr_at fr 4 (by decide), bz_fr_at fr 5 (by decide), k3, k4, c_beh σ0 hs (by omega), nI_1]
    have lt := itN_lt (st i) s hs
    by_cases z : itN (st i) s / 8 = ce i
    · rw [if_pos z, if_pos (by rw [z])]
      exact ih (i + 1) (by omega) h
    · rw [if_neg z, if_neg (fun y => z ((nI_eq (by omega) (by omega)).mp y))]
theorem c_allFit {N : Nat} {st ce : Nat → Nat} (h8 : N ≤ 8) {s : Nat} (hs : s < 360) (σ0 : bz_S) (hN : σ0.1 3 2 = nI N) (h : sk_R N st ce (σ0.1 4) (σ0.1 5)) : f_X4_allFit_3_12 (f_X7_walk_12 σ0 (nI (s / 8)) (nI (s % 8))) = fiN st ce N 0 s := by
  unfold f_X4_allFit_3_12
  rw [bz_fr_at (rf_X7_walk_12 σ0 _ _) 3 (by decide), hN, nI_clamp (by omega)]
  exact c_fit h8 hs σ0 N 0 (by omega) h
def cg_R (σ : bz_S) (l : List Nat) : Prop := σ.1 14 1 = nI l.length ∧ co_R (σ.1 15) l
theorem c_ga1 {N : Nat} {st ce : Nat → Nat} (h8 : N ≤ 8) {a : Nat} (ha : a < 45) : ∀ (n : Nat) (σ : bz_S) (b : Nat), b + n = 8 → σ.1 3 2 = nI N → sk_R N st ce (σ.1 4) (σ.1 5) → cg_R σ (li (pF N st ce) (8 * a + b)) → cg_R (lp_ga1 (nI a) n σ (nI b)) (li (pF N st ce) (8 * a + 8)) := by
  intro n
  induction n with
  | zero =>
    intro σ b hb h3 hk h
    obtain rfl : b = 8 := by omega
    rw [lp_ga1]
    exact h
  | succ n ih =>
    intro σ b hb h3 hk h
    rw [lp_ga1]
    by_cases p : f_X10_isPlace (nI a) = true
    · rw [if_pos p]
      unfold lp_ga1_a
      have hs : 8 * a + b < 360 := by omega
      have e := c_allFit (s := 8 * a + b) h8 hs σ h3 hk
      rw [show (8 * a + b) / 8 = a by omega, show (8 * a + b) % 8 = b by omega] at e
      have fr := rf_X7_walk_12 σ (nI a) (nI b)
      rw [e, nI_1]
      generalize f_X7_walk_12 σ (nI a) (nI b) = ω at *
      have w14 := bz_fr_at fr 14 (by decide)
      have w15 := bz_fr_at fr 15 (by decide)
      have w3 : ω.1 3 2 = nI N := by rw [bz_fr_at fr 3 (by decide)]; exact h3
      have w4 : sk_R N st ce (ω.1 4) (ω.1 5) := by rw [bz_fr_at fr 4 (by decide), bz_fr_at fr 5 (by decide)]; exact hk
      have h' : cg_R ω (li (pF N st ce) (8 * a + b)) := by unfold cg_R; rw [w14, w15]; exact h
      have pp : pF N st ce (8 * a + b) = fiN st ce N 0 (8 * a + b) := by
        unfold pF plB
        rw [show (8 * a + b) / 8 = a by omega, p, Bool.true_and]
      have ls := li_s (pF N st ce) (8 * a + b)
      have ll := li_le (pF N st ce) (8 * a + b)
      by_cases z : fiN st ce N 0 (8 * a + b) = true
      · rw [if_pos z]
        rw [pp, if_pos z] at ls
        have e15 : (bz_up (bz_up ω.1 15 (ω.1 14 1).toNatClampNeg ((10 * nI a) + nI b)) 14 1 ((ω.1 14 1) + 1)) 15 = (bz_up ω.1 15 (ω.1 14 1).toNatClampNeg ((10 * nI a) + nI b)) 15 := up_o1 (by decide)
        have q3 : (bz_up (bz_up ω.1 15 (ω.1 14 1).toNatClampNeg ((10 * nI a) + nI b)) 14 1 ((ω.1 14 1) + 1)) 3 2 = ω.1 3 2 := (bz_up_o (by decide)).trans (bz_up_o (by decide))
        refine ih _ (b + 1) (by omega) (q3.trans w3) ?_ ?_
        · have q4 : (bz_up (bz_up ω.1 15 (ω.1 14 1).toNatClampNeg ((10 * nI a) + nI b)) 14 1 ((ω.1 14 1) + 1)) 4 = ω.1 4 := up_oo (by decide) (by decide)
          have q5 : (bz_up (bz_up ω.1 15 (ω.1 14 1).toNatClampNeg ((10 * nI a) + nI b)) 14 1 ((ω.1 14 1) + 1)) 5 = ω.1 5 := up_oo (by decide) (by decide)
          show sk_R N st ce ((bz_up (bz_up ω.1 15 (ω.1 14 1).toNatClampNeg ((10 * nI a) + nI b)) 14 1 ((ω.1 14 1) + 1)) 4) ((bz_up (bz_up ω.1 15 (ω.1 14 1).toNatClampNeg ((10 * nI a) + nI b)) 14 1 ((ω.1 14 1) + 1)) 5)
          rw [q4, q5]
          exact w4
        · rw [show 8 * a + (b + 1) = 8 * a + b + 1 by omega, ls]
          refine ⟨?_, ?_⟩
          · rw [bz_up_s1, h'.1, nI_1, List.length_append, List.length_singleton]
          · show co_R ((bz_up (bz_up ω.1 15 (ω.1 14 1).toNatClampNeg ((10 * nI a) + nI b)) 14 1 ((ω.1 14 1) + 1)) 15) _
            have cd : (10 * nI a) + nI b = cdN (8 * a + b) := by
              unfold cdN
              rw [show (8 * a + b) / 8 = a by omega, show (8 * a + b) % 8 = b by omega]
              exact bz_10 rfl rfl
            rw [e15, h'.1, nI_clamp (by omega), cd]
            exact co_put h'.2
      · rw [if_neg z]
        rw [pp, if_neg z, List.append_nil] at ls
        refine ih _ (b + 1) (by omega) w3 w4 ?_
        rw [show 8 * a + (b + 1) = 8 * a + b + 1 by omega, ls]
        exact h'
    · rw [if_neg p]
      have no : ∀ k, li (pF N st ce) (8 * a + b + k) = li (pF N st ce) (8 * a + b) ∨ 8 < b + k := by
        intro k
        induction k with
        | zero => exact Or.inl rfl
        | succ k ihk =>
          by_cases y : 8 < b + (k + 1)
          · exact Or.inr y
          · refine Or.inl ?_
            rw [← Nat.add_assoc, li_s, ihk.resolve_right (by omega)]
            have : pF N st ce (8 * a + b + k) = false := by
              unfold pF plB
              rw [show (8 * a + b + k) / 8 = a by omega, Bool.eq_false_iff.mpr p, Bool.false_and]
            rw [this, if_neg (by decide), List.append_nil]
      rw [show 8 * a + 8 = 8 * a + b + (n + 1) by omega, (no (n + 1)).resolve_right (by omega)]
      exact h
theorem c_ga {N : Nat} {st ce : Nat → Nat} (h8 : N ≤ 8) : ∀ (n : Nat) (σ : bz_S) (a : Nat), a + n = 45 → σ.1 3 2 = nI N → sk_R N st ce (σ.1 4) (σ.1 5) → cg_R σ (li (pF N st ce) (8 * a)) → cg_R (lp_ga n σ (nI a)) (li (pF N st ce) 360) := by
  intro n
  induction n with
  | zero =>
    intro σ a ha h3 hk h
    rw [lp_ga]
    rw [show 8 * a = 360 by omega] at h
    exact h
  | succ n ih =>
    intro σ a ha h3 hk h
    rw [lp_ga]
    unfold lp_ga_a
    rw [bz_k_eq, nI_1]
    have r := c_ga1 h8 (show a < 45 by omega) 8 σ 0 (by omega) h3 hk h
    have fr := rlp_ga1 (nI a) 8 σ 0
    have r' : cg_R (lp_ga1 (nI a) 8 σ 0) (li (pF N st ce) (8 * a + 8)) := r
    refine ih _ (a + 1) (by omega) (by rw [bz_fr_at fr 3 (by decide)]; exact h3) (by rw [bz_fr_at fr 4 (by decide), bz_fr_at fr 5 (by decide)]; exact hk) ?_
    rw [show 8 * (a + 1) = 8 * a + 8 by omega]
    exact r'
theorem c_gather {N : Nat} {st ce : Nat → Nat} (h8 : N ≤ 8) (h3 : σ.1 3 2 = nI N) (hk : sk_R N st ce (σ.1 4) (σ.1 5)) : cg_R (f_X9_gather_14_3_12 σ) (li (pF N st ce) 360) := by
  unfold f_X9_gather_14_3_12
  rw [bz_k_eq]
  refine c_ga h8 45 _ 0 (by omega) ((show bz_up σ.1 14 1 0 3 2 = σ.1 3 2 from bz_up_o (by decide)).trans h3) ?_ ⟨bz_up_s1, fun q hq => absurd hq (by simp [li])⟩
  have q4 : (bz_up σ.1 14 1 0) 4 = σ.1 4 := up_o1 (by decide)
  have q5 : (bz_up σ.1 14 1 0) 5 = σ.1 5 := up_o1 (by decide)
  show sk_R N st ce ((bz_up σ.1 14 1 0) 4) ((bz_up σ.1 14 1 0) 5)
  rw [q4, q5]
  exact hk
/-! the model's -/
theorem m_fit {N : Nat} {st ce : Nat → Nat} (h8 : N ≤ 8) {s : Nat} (hs : s < 360) : ∀ (n : Nat) (τ : bz_S) (i : Nat), i + n = N → sk_R N st ce (τ.1 34) (τ.1 35) → lp_isf (cdN s) n τ true (nI i) = fiN st ce n i s := by
  intro n
  induction n with
  | zero => intro τ i hi h; rw [lp_isf, fiN]
  | succ n ih =>
    intro τ i hi h
    obtain ⟨k1, k2, k3, k4⟩ := h i (by omega)
    have lt := itN_lt (st i) s hs
    rw [lp_isf, fiN, if_pos rfl, nI_clamp (by omega), k3, k4, m_beh hs (by omega), nI_1]
    by_cases z : itN (st i) s / 8 = ce i
    · rw [if_pos z, if_pos (by rw [z])]
      exact ih τ (i + 1) (by omega) h
    · rw [if_neg z, if_neg (fun y => z ((nI_eq (by omega) (by omega)).mp y)), bz_lp_isf_f]
theorem m_isFit {N : Nat} {st ce : Nat → Nat} (h8 : N ≤ 8) {τ : bz_S} (h3 : τ.1 32 6 = nI N) (hk : sk_R N st ce (τ.1 34) (τ.1 35)) {s : Nat} (hs : s < 360) : f_X11_isFit_32 τ (cdN s) = pF N st ce s := by
  have e10 : cdN s % 10 = nI (s % 8) := by
    have : nI (10 * (s / 8) + s % 8) % 10 = nI ((10 * (s / 8) + s % 8) % 10) := bz_modN (d := 10) (by omega) (by decide) (by decide)
    show nI (10 * (s / 8) + s % 8) % 10 = _
    rw [this]
    congr 1
    omega
  unfold f_X11_isFit_32
  rw [e10, cdN_10 hs, if_neg (show ¬ (8 : Int32) ≤ nI (s % 8) from nI_ge (b := 8) (by omega) (by decide)), h3, nI_clamp (by omega), m_isPocket]
  unfold pF
  by_cases p : f_X10_isPocket (nI (s / 8)) = true
  · have : plB (s / 8) = false := by
      cases hb : plB (s / 8) with
      | false => rfl
      | true => exact absurd ((plB_pk (show s / 8 < 45 by omega)).mp hb) (by rw [p]; decide)
    rw [if_pos p, bz_lp_isf_f, this, Bool.false_and]
  · have : plB (s / 8) = true := (plB_pk (show s / 8 < 45 by omega)).mpr (Bool.eq_false_iff.mpr p)
    rw [if_neg p, this, Bool.true_and]
    exact m_fit h8 hs N τ 0 (by omega) hk
def mg_R (τ : bz_S) (l : List Nat) : Prop := τ.1 32 34 = nI l.length ∧ co_R (τ.1 45) l ∧ co_R (τ.1 46) l
theorem m_finf {N : Nat} {st ce : Nat → Nat} (h8 : N ≤ 8) : ∀ (n : Nat) (τ : bz_S) (j : Nat), j + n = 450 → τ.1 32 6 = nI N → sk_R N st ce (τ.1 34) (τ.1 35) → mg_R τ (li (pF N st ce) (8 * (j / 10) + min (j % 10) 8)) → mg_R (lp_finf n τ (nI j)) (li (pF N st ce) 360) := by
  intro n
  induction n with
  | zero =>
    intro τ j hj h3 hk h
    rw [lp_finf]
    rw [show 8 * (j / 10) + min (j % 10) 8 = 360 by omega] at h
    exact h
  | succ n ih =>
    intro τ j hj h3 hk h
    rw [lp_finf, nI_1]
    by_cases w : j % 10 < 8
    · obtain ⟨s, hs, es⟩ : ∃ s, s = 8 * (j / 10) + j % 10 ∧ s < 360 := ⟨_, rfl, by omega⟩
      have cd : nI j = cdN s := by
        unfold cdN
        congr 1
        omega
      have i1 : 8 * (j / 10) + min (j % 10) 8 = s := by omega
      have i2 : 8 * ((j + 1) / 10) + min ((j + 1) % 10) 8 = s + 1 := by omega
      rw [i1] at h
      have ls := li_s (pF N st ce) s
      have ll := li_le (pF N st ce) s
      rw [cd, m_isFit h8 h3 hk es]
      by_cases z : pF N st ce s = true
      · rw [if_pos z]
        rw [if_pos z] at ls
        have o : ∀ o, o ≠ 32 → o ≠ 45 → o ≠ 46 → (bz_up (bz_up (bz_up τ.1 45 (τ.1 32 34).toNatClampNeg (cdN s)) 46 (τ.1 32 34).toNatClampNeg (cdN s)) 32 34 ((τ.1 32 34) + 1)) o = τ.1 o := fun o a b c => up_o3 b c a
        have q6 : (bz_up (bz_up (bz_up τ.1 45 (τ.1 32 34).toNatClampNeg (cdN s)) 46 (τ.1 32 34).toNatClampNeg (cdN s)) 32 34 ((τ.1 32 34) + 1)) 32 6 = τ.1 32 6 := (bz_up_k (by decide)).trans ((bz_up_o (by decide)).trans (bz_up_o (by decide)))
        refine ih _ (j + 1) (by omega) (q6.trans h3) ?_ ?_
        · show sk_R N st ce ((bz_up (bz_up (bz_up τ.1 45 (τ.1 32 34).toNatClampNeg (cdN s)) 46 (τ.1 32 34).toNatClampNeg (cdN s)) 32 34 ((τ.1 32 34) + 1)) 34) ((bz_up (bz_up (bz_up τ.1 45 (τ.1 32 34).toNatClampNeg (cdN s)) 46 (τ.1 32 34).toNatClampNeg (cdN s)) 32 34 ((τ.1 32 34) + 1)) 35)
          rw [o 34 (by decide) (by decide) (by decide), o 35 (by decide) (by decide) (by decide)]
          exact hk
        · rw [i2, ls]
          refine ⟨?_, ?_, ?_⟩
          · rw [bz_up_s1, h.1, nI_1, List.length_append, List.length_singleton]
          · show co_R ((bz_up (bz_up (bz_up τ.1 45 (τ.1 32 34).toNatClampNeg (cdN s)) 46 (τ.1 32 34).toNatClampNeg (cdN s)) 32 34 ((τ.1 32 34) + 1)) 45) _
            rw [up_oo (o1 := 46) (o2 := 32) (by decide) (by decide), h.1, nI_clamp (by omega)]
            exact co_put h.2.1
          · show co_R ((bz_up (bz_up (bz_up τ.1 45 (τ.1 32 34).toNatClampNeg (cdN s)) 46 (τ.1 32 34).toNatClampNeg (cdN s)) 32 34 ((τ.1 32 34) + 1)) 46) _
            rw [up_o1 (o1 := 32) (by decide), h.1, nI_clamp (by omega)]
            refine co_put (f := bz_up τ.1 45 _ _) ?_
            rw [up_o1 (by decide)]
            exact h.2.2
      · rw [if_neg z]
        rw [if_neg z, List.append_nil] at ls
        rw [← i2] at ls
        exact ih _ (j + 1) (by omega) h3 hk (by rw [ls]; exact h)
    · have nf : f_X11_isFit_32 τ (nI j) = false := by
        cases hb : f_X11_isFit_32 τ (nI j) with
        | false => rfl
        | true => exact absurd (m_isFit_m hb rfl (by omega)) w
      rw [nf, if_neg (by decide)]
      refine ih _ (j + 1) (by omega) h3 hk ?_
      rw [show 8 * ((j + 1) / 10) + min ((j + 1) % 10) 8 = 8 * (j / 10) + min (j % 10) 8 by omega]
      exact h
theorem m_fits {N : Nat} {st ce : Nat → Nat} (h8 : N ≤ 8) (h3 : τ.1 32 6 = nI N) (hk : sk_R N st ce (τ.1 34) (τ.1 35)) : mg_R (f_X11_findFits_32 τ) (li (pF N st ce) 360) := by
  unfold f_X11_findFits_32
  rw [bz_k_eq]
  refine m_finf h8 450 _ 0 (by omega) ((show bz_up τ.1 32 34 0 32 6 = τ.1 32 6 from bz_up_k (by decide)).trans h3) ?_ ⟨bz_up_s1, fun q hq => absurd hq (by simp [li]), fun q hq => absurd hq (by simp [li])⟩
  have q4 : (bz_up τ.1 32 34 0) 34 = τ.1 34 := up_o1 (by decide)
  have q5 : (bz_up τ.1 32 34 0) 35 = τ.1 35 := up_o1 (by decide)
  show sk_R N st ce ((bz_up τ.1 32 34 0) 34) ((bz_up τ.1 32 34 0) 35)
  rw [q4, q5]
  exact hk
/-- both sides' fits -/
theorem e_fits (h : iv_R T σ τ) : ∃ l : List Nat, l.length ≤ 360 ∧ (∀ x, x ∈ l → x < 360) ∧ cg_R (f_X9_gather_14_3_12 σ) l ∧ mg_R (f_X11_findFits_32 τ) l := by
  obtain ⟨-, -, ⟨N, n1, n2, n3, n4⟩, -⟩ := h
  refine ⟨li (pF N (fun i => (σ.1 4 i).toNatClampNeg) (fun i => (σ.1 5 i).toNatClampNeg)) 360, li_le _ _, fun x hx => li_lt _ _ hx, c_gather n1 n2 ?_, m_fits n1 n3 ?_⟩
  · intro i hi
    obtain ⟨-, -, ⟨K, k1, k2⟩, C, c1, c2⟩ := n4 i hi
    show (σ.1 4 i).toNatClampNeg < 100 ∧ (σ.1 5 i).toNatClampNeg < 45 ∧ σ.1 4 i = nI (σ.1 4 i).toNatClampNeg ∧ σ.1 5 i = nI (σ.1 5 i).toNatClampNeg
    rw [k2, c2, nI_clamp (by omega), nI_clamp (by omega)]
    exact ⟨by omega, c1, rfl, rfl⟩
  · intro i hi
    obtain ⟨e1, e2, ⟨K, k1, k2⟩, C, c1, c2⟩ := n4 i hi
    show (σ.1 4 i).toNatClampNeg < 100 ∧ (σ.1 5 i).toNatClampNeg < 45 ∧ τ.1 34 i = nI (σ.1 4 i).toNatClampNeg ∧ τ.1 35 i = nI (σ.1 5 i).toNatClampNeg
    rw [e1, e2, k2, c2, nI_clamp (by omega), nI_clamp (by omega)]
    exact ⟨by omega, c1, rfl, rfl⟩
theorem e_sentI (h : iv_R T σ τ) (i : Int32) : iv_R T (f_X10_sent_0 σ i).2 (f_X11_sent_32 τ i).2 := iv_c h (bz_fr_mo (rf_X10_sent_0 σ i) (by decide)) (bz_fr_mo (rf_X11_sent_32 τ i) (by decide)) (fun k hk => qf_X11_sent_32 τ i k (by rcases hk with rfl | rfl | rfl | rfl | rfl <;> decide)) (fun b _ => congrFun (bz_fr_at (rf_X11_sent_32 τ i) 33 (by decide)) b)
theorem e_sent (h : iv_R T σ τ) (i : Int32) : (f_X11_sent_32 τ i).1 = (f_X10_sent_0 σ i).1 ∧ iv_R T (f_X10_sent_0 σ i).2 (f_X11_sent_32 τ i).2 := by
  refine ⟨?_, e_sentI h i⟩
  obtain ⟨l, l1, l2, c, m⟩ := e_fits h
  unfold f_X11_sent_32 f_X11_sent_32_a f_X10_sent_0 f_X10_sent_0_a
  generalize f_X9_gather_14_3_12 σ = ρ at *
  generalize f_X11_findFits_32 τ = μ at *
  rw [c.1, m.1, m_w i 0 (nI l.length - 1) (by decide) rfl]
  split
  · rfl
  · split
    · rename_i hw
      have e : ∃ q, q < l.length ∧ i = nI q := by
        cases hl : l.length with
        | zero =>
          rw [hl] at hw
          obtain ⟨a, b⟩ := bz_within hw
          exact absurd (Int32.le_trans a b) (by decide)
        | succ n =>
          rw [hl, nI_pred] at hw
          obtain ⟨j, j1, j2, j3⟩ := bz_wN (a := 0) (b := n) (by decide) (nI_toInt (by omega)) (by omega) hw
          exact ⟨j, by omega, j3⟩
      obtain ⟨q, hq, rfl⟩ := e
      show μ.1 45 (nI q).toNatClampNeg = ρ.1 15 (nI q).toNatClampNeg
      rw [nI_clamp (by omega), m.2.1 q hq, c.2 q hq]
    · rfl
end SE
