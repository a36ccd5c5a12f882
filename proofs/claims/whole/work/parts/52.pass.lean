/-! IMAGES -/
theorem pw {σ : bz_S} {K : Nat} (hK : K < 60) (h40 : σ.1 32 40 = nI K) (h41 : σ.1 32 41 = 1) (v : Int32) : f_X11_pass_32 σ v = (v, (bz_up (bz_up σ.1 50 K v) 32 40 (nI (K + 1)), σ.2)) := by
  unfold f_X11_pass_32
  rw [h40, h41, if_neg (by decide), nI_clamp (by omega), nI_1]
theorem pr {σ : bz_S} {K : Nat} (hK : K < 60) (h40 : σ.1 32 40 = nI K) (h41 : σ.1 32 41 = 0) (v : Int32) : f_X11_pass_32 σ v = (σ.1 50 K, (bz_up σ.1 32 40 (nI (K + 1)), σ.2)) := by
  unfold f_X11_pass_32
  rw [h40, h41, if_pos rfl, nI_clamp (by omega), nI_1, up_id]
/-- a field that is passed -/
def fp (σ : bz_S) (f : Nat) : bz_S := ((bz_up (f_X11_pass_32 σ (σ.1 32 f)).2.1 32 f (f_X11_pass_32 σ (σ.1 32 f)).1), (f_X11_pass_32 σ (σ.1 32 f)).2.2)
theorem fp_def (σ : bz_S) (f : Nat) : fp σ f = ((bz_up (f_X11_pass_32 σ (σ.1 32 f)).2.1 32 f (f_X11_pass_32 σ (σ.1 32 f)).1), (f_X11_pass_32 σ (σ.1 32 f)).2.2) := rfl
theorem pa_all (σ : bz_S) : f_X11_passAll_32 σ = f_X11_passRow_32_35 (f_X11_passRow_32_34 (f_X11_passRow_32_33 (fp (fp (fp (fp σ 1) 2) 3) 6) 3) 8) 8 := by
  have k1 : ∀ σ : bz_S, (fp σ 1).1 32 2 = (f_X11_pass_32 σ (σ.1 32 1)).2.1 32 2 := fun σ => by rw [fp_def]; simp [bz_up]
  have k2 : ∀ σ : bz_S, (fp σ 2).1 32 3 = (f_X11_pass_32 σ (σ.1 32 2)).2.1 32 3 := fun σ => by rw [fp_def]; simp [bz_up]
  have k3 : ∀ σ : bz_S, (fp σ 3).1 32 6 = (f_X11_pass_32 σ (σ.1 32 3)).2.1 32 6 := fun σ => by rw [fp_def]; simp [bz_up]
  rw [fp_def (fp (fp (fp σ 1) 2) 3) 6, k3, fp_def (fp (fp σ 1) 2) 3, k2, fp_def (fp σ 1) 2, k1, fp_def σ 1]
  unfold f_X11_passAll_32 f_X11_passAll_32_a f_X11_passAll_32_b f_X11_passAll_32_c f_X11_passAll_32_d f_X11_passAll_32_e f_X11_passAll_32_f f_X11_passAll_32_g
  rfl
/-- what a pass that writes leaves: K is the place, n how many -/
def wr_R (K : Nat) (σ τ : bz_S) : Prop := τ.1 32 40 = nI K ∧ τ.1 32 41 = 1 ∧ (∀ k, k ≠ 40 → τ.1 32 k = σ.1 32 k) ∧ ∀ o, o ≠ 32 → o ≠ 50 → τ.1 o = σ.1 o
theorem fp_w {σ τ : bz_S} {K f : Nat} (hK : K < 60) (hf : f ≠ 40) (h : wr_R K σ τ) : wr_R (K + 1) σ (fp τ f) ∧ (fp τ f).1 50 K = σ.1 32 f ∧ ∀ q, q ≠ K → (fp τ f).1 50 q = τ.1 50 q := by
  obtain ⟨h40, h41, h32, ho⟩ := h
  unfold fp
  rw [pw hK h40 h41]
  have e41 : (41 : Nat) ≠ 40 := by decide
  refine ⟨⟨?_, ?_, fun k hk => ?_, fun o o1 o2 => ?_⟩, ?_, fun q hq => ?_⟩
  · show bz_up (bz_up (bz_up τ.1 50 K (τ.1 32 f)) 32 40 (nI (K + 1))) 32 f (τ.1 32 f) 32 40 = _
    rw [bz_up_k (fun z => hf z.symm), bz_up_s]
  · show bz_up (bz_up (bz_up τ.1 50 K (τ.1 32 f)) 32 40 (nI (K + 1))) 32 f (τ.1 32 f) 32 41 = _
    by_cases z : 41 = f
    · rw [← z, bz_up_s]; exact h41
    · rw [bz_up_k z, bz_up_k e41, bz_up_o (by decide)]; exact h41
  · show bz_up (bz_up (bz_up τ.1 50 K (τ.1 32 f)) 32 40 (nI (K + 1))) 32 f (τ.1 32 f) 32 k = _
    by_cases z : k = f
    · rw [z, bz_up_s]; exact h32 f hf
    · rw [bz_up_k z, bz_up_k hk, bz_up_o (by decide)]; exact h32 k hk
  · exact (up_o3 o2 o1 o1).trans (ho o o1 o2)
  · show bz_up (bz_up (bz_up τ.1 50 K (τ.1 32 f)) 32 40 (nI (K + 1))) 32 f (τ.1 32 f) 50 K = _
    rw [bz_up_o (by decide), bz_up_o (by decide), bz_up_s]
    exact h32 f hf
  · show bz_up (bz_up (bz_up τ.1 50 K (τ.1 32 f)) 32 40 (nI (K + 1))) 32 f (τ.1 32 f) 50 q = _
    rw [bz_up_o (by decide), bz_up_o (by decide), bz_up_k hq]
/-- what a pass that reads leaves -/
def rd_R (K : Nat) (σ τ : bz_S) : Prop := τ.1 32 40 = nI K ∧ τ.1 32 41 = 0 ∧ τ.1 50 = σ.1 50
theorem fp_r {σ τ : bz_S} {K f : Nat} (hK : K < 60) (hf : f ≠ 40) (hf2 : f ≠ 41) (h : rd_R K σ τ) : rd_R (K + 1) σ (fp τ f) ∧ (fp τ f).1 32 f = σ.1 50 K ∧ (∀ k, k ≠ 40 → k ≠ f → (fp τ f).1 32 k = τ.1 32 k) ∧ ∀ o, o ≠ 32 → (fp τ f).1 o = τ.1 o := by
  obtain ⟨h40, h41, h50⟩ := h
  have e41 : (41 : Nat) ≠ 40 := by decide
  unfold fp
  rw [pr hK h40 h41]
  refine ⟨⟨?_, ?_, ?_⟩, ?_, fun k hk hk2 => ?_, fun o o1 => ?_⟩
  · show bz_up (bz_up τ.1 32 40 (nI (K + 1))) 32 f (τ.1 50 K) 32 40 = _
    rw [bz_up_k (fun z => hf z.symm), bz_up_s]
  · show bz_up (bz_up τ.1 32 40 (nI (K + 1))) 32 f (τ.1 50 K) 32 41 = _
    rw [bz_up_k (fun z => hf2 z.symm), bz_up_k e41]; exact h41
  · show (bz_up (bz_up τ.1 32 40 (nI (K + 1))) 32 f (τ.1 50 K)) 50 = σ.1 50
    rw [up_oo (by decide) (by decide)]
    exact h50
  · show bz_up (bz_up τ.1 32 40 (nI (K + 1))) 32 f (τ.1 50 K) 32 f = _
    rw [bz_up_s, h50]
  · show bz_up (bz_up τ.1 32 40 (nI (K + 1))) 32 f (τ.1 50 K) 32 k = _
    rw [bz_up_k hk2, bz_up_k hk]
  · exact up_oo o1 o1
theorem row_w33 {σ : bz_S} : ∀ (n : Nat) (τ : bz_S) (e K : Nat), e + n ≤ 8 → K + n ≤ 60 → wr_R K σ τ → wr_R (K + n) σ (lp_pr33 n τ (nI e)) ∧ (∀ q, q < n → (lp_pr33 n τ (nI e)).1 50 (K + q) = σ.1 33 (e + q)) ∧ ∀ q, (q < K ∨ K + n ≤ q) → (lp_pr33 n τ (nI e)).1 50 q = τ.1 50 q := by
  intro n
  induction n with
  | zero => intro τ e K he hK h; rw [lp_pr33]; exact ⟨h, fun q hq => absurd hq (by omega), fun q _ => rfl⟩
  | succ n ih =>
    intro τ e K he hK h
    obtain ⟨h40, h41, h32, ho⟩ := h
    have e41 : (41 : Nat) ≠ 40 := by decide
    have ow := ho 33 (by decide) (by decide)
    have hS : wr_R (K + 1) σ (bz_up (bz_up (bz_up τ.1 50 K (τ.1 33 e)) 32 40 (nI (K + 1))) 33 e (τ.1 33 e), τ.2) := by
      refine ⟨?_, ?_, fun k hk => ?_, fun o o1 o2 => ?_⟩
      · show bz_up (bz_up (bz_up τ.1 50 K (τ.1 33 e)) 32 40 (nI (K + 1))) 33 e (τ.1 33 e) 32 40 = _
        rw [bz_up_o (by decide), bz_up_s]
      · show bz_up (bz_up (bz_up τ.1 50 K (τ.1 33 e)) 32 40 (nI (K + 1))) 33 e (τ.1 33 e) 32 41 = _
        rw [bz_up_o (by decide), bz_up_k e41, bz_up_o (by decide)]; exact h41
      · show bz_up (bz_up (bz_up τ.1 50 K (τ.1 33 e)) 32 40 (nI (K + 1))) 33 e (τ.1 33 e) 32 k = _
        rw [bz_up_o (by decide), bz_up_k hk, bz_up_o (by decide)]; exact h32 k hk
      · by_cases z : o = 33
        · rw [z]
          have i1 : bz_up (bz_up (bz_up τ.1 50 K (τ.1 33 e)) 32 40 (nI (K + 1))) 33 e (τ.1 33 e) 33 = τ.1 33 := by
            funext q
            by_cases y : q = e
            · rw [y, bz_up_s]
            · rw [bz_up_k y, bz_up_o (by decide), bz_up_o (by decide)]
          exact i1.trans ow
        · exact (up_o3 o2 o1 z).trans (ho o o1 o2)
    rw [lp_pr33, nI_clamp (by omega), pw (by omega) h40 h41]
    unfold lp_pr33_a
    dsimp only
    rw [nI_clamp (by omega), nI_1]
    obtain ⟨r1, r2, r3⟩ := ih _ (e + 1) (K + 1) (by omega) (by omega) hS
    refine ⟨by rw [show K + (n + 1) = K + 1 + n by omega]; exact r1, fun q hq => ?_, fun q hq => ?_⟩
    · by_cases z : q = 0
      · subst z
        refine Eq.trans (r3 K (Or.inl (by omega))) ?_
        show bz_up (bz_up (bz_up τ.1 50 K (τ.1 33 e)) 32 40 (nI (K + 1))) 33 e (τ.1 33 e) 50 K = σ.1 33 e
        rw [bz_up_o (by decide), bz_up_o (by decide), bz_up_s, ow]
      · have := r2 (q - 1) (by omega)
        rw [show K + 1 + (q - 1) = K + q by omega, show e + 1 + (q - 1) = e + q by omega] at this
        exact this
    · rw [r3 q (by omega)]
      show bz_up (bz_up (bz_up τ.1 50 K (τ.1 33 e)) 32 40 (nI (K + 1))) 33 e (τ.1 33 e) 50 q = _
      rw [bz_up_o (by decide), bz_up_o (by decide), bz_up_k (by omega)]
theorem row_r33 {σ : bz_S} : ∀ (n : Nat) (τ : bz_S) (e K : Nat), e + n ≤ 8 → K + n ≤ 60 → rd_R K σ τ → rd_R (K + n) σ (lp_pr33 n τ (nI e)) ∧ (∀ q, q < n → (lp_pr33 n τ (nI e)).1 33 (e + q) = σ.1 50 (K + q)) ∧ (∀ q, q < e → (lp_pr33 n τ (nI e)).1 33 q = τ.1 33 q) ∧ (∀ k, k ≠ 40 → (lp_pr33 n τ (nI e)).1 32 k = τ.1 32 k) ∧ ∀ o, o ≠ 32 → o ≠ 33 → (lp_pr33 n τ (nI e)).1 o = τ.1 o := by
  intro n
  induction n with
  | zero => intro τ e K he hK h; rw [lp_pr33]; exact ⟨h, fun q hq => absurd hq (by omega), fun q _ => rfl, fun k _ => rfl, fun o _ _ => rfl⟩
  | succ n ih =>
    intro τ e K he hK h
    obtain ⟨h40, h41, h50⟩ := h
    have e41 : (41 : Nat) ≠ 40 := by decide
    have hS : rd_R (K + 1) σ (bz_up (bz_up τ.1 32 40 (nI (K + 1))) 33 e (τ.1 50 K), τ.2) := by
      refine ⟨?_, ?_, ?_⟩
      · show bz_up (bz_up τ.1 32 40 (nI (K + 1))) 33 e (τ.1 50 K) 32 40 = _
        rw [bz_up_o (by decide), bz_up_s]
      · show bz_up (bz_up τ.1 32 40 (nI (K + 1))) 33 e (τ.1 50 K) 32 41 = _
        rw [bz_up_o (by decide), bz_up_k e41]; exact h41
      · show (bz_up (bz_up τ.1 32 40 (nI (K + 1))) 33 e (τ.1 50 K)) 50 = σ.1 50
        rw [up_oo (by decide) (by decide)]
        exact h50
    rw [lp_pr33, pr (by omega) h40 h41]
    unfold lp_pr33_a
    dsimp only
    rw [nI_clamp (by omega), nI_1]
    obtain ⟨r1, r2, r3, r4, r5⟩ := ih _ (e + 1) (K + 1) (by omega) (by omega) hS
    refine ⟨by rw [show K + (n + 1) = K + 1 + n by omega]; exact r1, fun q hq => ?_, fun q hq => ?_, fun k hk => ?_, fun o o1 o2 => ?_⟩
    · by_cases z : q = 0
      · subst z
        refine Eq.trans (r3 e (by omega)) ?_
        show bz_up (bz_up τ.1 32 40 (nI (K + 1))) 33 e (τ.1 50 K) 33 e = σ.1 50 K
        rw [bz_up_s, h50]
      · have := r2 (q - 1) (by omega)
        rw [show K + 1 + (q - 1) = K + q by omega, show e + 1 + (q - 1) = e + q by omega] at this
        exact this
    · rw [r3 q (by omega)]
      show bz_up (bz_up τ.1 32 40 (nI (K + 1))) 33 e (τ.1 50 K) 33 q = _
      rw [bz_up_k (by omega), bz_up_o (by decide)]
    · rw [r4 k hk]
      show bz_up (bz_up τ.1 32 40 (nI (K + 1))) 33 e (τ.1 50 K) 32 k = _
      rw [bz_up_o (by decide), bz_up_k hk]
    · rw [r5 o o1 o2]
      exact up_oo o1 o2
theorem row_w34 {σ : bz_S} : ∀ (n : Nat) (τ : bz_S) (e K : Nat), e + n ≤ 8 → K + n ≤ 60 → wr_R K σ τ → wr_R (K + n) σ (lp_pr34 n τ (nI e)) ∧ (∀ q, q < n → (lp_pr34 n τ (nI e)).1 50 (K + q) = σ.1 34 (e + q)) ∧ ∀ q, (q < K ∨ K + n ≤ q) → (lp_pr34 n τ (nI e)).1 50 q = τ.1 50 q := by
  intro n
  induction n with
  | zero => intro τ e K he hK h; rw [lp_pr34]; exact ⟨h, fun q hq => absurd hq (by omega), fun q _ => rfl⟩
  | succ n ih =>
    intro τ e K he hK h
    obtain ⟨h40, h41, h32, ho⟩ := h
    have e41 : (41 : Nat) ≠ 40 := by decide
    have ow := ho 34 (by decide) (by decide)
    have hS : wr_R (K + 1) σ (bz_up (bz_up (bz_up τ.1 50 K (τ.1 34 e)) 32 40 (nI (K + 1))) 34 e (τ.1 34 e), τ.2) := by
      refine ⟨?_, ?_, fun k hk => ?_, fun o o1 o2 => ?_⟩
      · show bz_up (bz_up (bz_up τ.1 50 K (τ.1 34 e)) 32 40 (nI (K + 1))) 34 e (τ.1 34 e) 32 40 = _
        rw [bz_up_o (by decide), bz_up_s]
      · show bz_up (bz_up (bz_up τ.1 50 K (τ.1 34 e)) 32 40 (nI (K + 1))) 34 e (τ.1 34 e) 32 41 = _
        rw [bz_up_o (by decide), bz_up_k e41, bz_up_o (by decide)]; exact h41
      · show bz_up (bz_up (bz_up τ.1 50 K (τ.1 34 e)) 32 40 (nI (K + 1))) 34 e (τ.1 34 e) 32 k = _
        rw [bz_up_o (by decide), bz_up_k hk, bz_up_o (by decide)]; exact h32 k hk
      · by_cases z : o = 34
        · rw [z]
          have i1 : bz_up (bz_up (bz_up τ.1 50 K (τ.1 34 e)) 32 40 (nI (K + 1))) 34 e (τ.1 34 e) 34 = τ.1 34 := by
            funext q
            by_cases y : q = e
            · rw [y, bz_up_s]
            · rw [bz_up_k y, bz_up_o (by decide), bz_up_o (by decide)]
          exact i1.trans ow
        · exact (up_o3 o2 o1 z).trans (ho o o1 o2)
    rw [lp_pr34, nI_clamp (by omega), pw (by omega) h40 h41]
    unfold lp_pr34_a
    dsimp only
    rw [nI_clamp (by omega), nI_1]
    obtain ⟨r1, r2, r3⟩ := ih _ (e + 1) (K + 1) (by omega) (by omega) hS
    refine ⟨by rw [show K + (n + 1) = K + 1 + n by omega]; exact r1, fun q hq => ?_, fun q hq => ?_⟩
    · by_cases z : q = 0
      · subst z
        refine Eq.trans (r3 K (Or.inl (by omega))) ?_
        show bz_up (bz_up (bz_up τ.1 50 K (τ.1 34 e)) 32 40 (nI (K + 1))) 34 e (τ.1 34 e) 50 K = σ.1 34 e
        rw [bz_up_o (by decide), bz_up_o (by decide), bz_up_s, ow]
      · have := r2 (q - 1) (by omega)
        rw [show K + 1 + (q - 1) = K + q by omega, show e + 1 + (q - 1) = e + q by omega] at this
        exact this
    · rw [r3 q (by omega)]
      show bz_up (bz_up (bz_up τ.1 50 K (τ.1 34 e)) 32 40 (nI (K + 1))) 34 e (τ.1 34 e) 50 q = _
      rw [bz_up_o (by decide), bz_up_o (by decide), bz_up_k (by omega)]
theorem row_r34 {σ : bz_S} : ∀ (n : Nat) (τ : bz_S) (e K : Nat), e + n ≤ 8 → K + n ≤ 60 → rd_R K σ τ → rd_R (K + n) σ (lp_pr34 n τ (nI e)) ∧ (∀ q, q < n → (lp_pr34 n τ (nI e)).1 34 (e + q) = σ.1 50 (K + q)) ∧ (∀ q, q < e → (lp_pr34 n τ (nI e)).1 34 q = τ.1 34 q) ∧ (∀ k, k ≠ 40 → (lp_pr34 n τ (nI e)).1 32 k = τ.1 32 k) ∧ ∀ o, o ≠ 32 → o ≠ 34 → (lp_pr34 n τ (nI e)).1 o = τ.1 o := by
  intro n
  induction n with
  | zero => intro τ e K he hK h; rw [lp_pr34]; exact ⟨h, fun q hq => absurd hq (by omega), fun q _ => rfl, fun k _ => rfl, fun o _ _ => rfl⟩
  | succ n ih =>
    intro τ e K he hK h
    obtain ⟨h40, h41, h50⟩ := h
    have e41 : (41 : Nat) ≠ 40 := by decide
    have hS : rd_R (K + 1) σ (bz_up (bz_up τ.1 32 40 (nI (K + 1))) 34 e (τ.1 50 K), τ.2) := by
      refine ⟨?_, ?_, ?_⟩
      · show bz_up (bz_up τ.1 32 40 (nI (K + 1))) 34 e (τ.1 50 K) 32 40 = _
        rw [bz_up_o (by decide), bz_up_s]
      · show bz_up (bz_up τ.1 32 40 (nI (K + 1))) 34 e (τ.1 50 K) 32 41 = _
        rw [bz_up_o (by decide), bz_up_k e41]; exact h41
      · show (bz_up (bz_up τ.1 32 40 (nI (K + 1))) 34 e (τ.1 50 K)) 50 = σ.1 50
        rw [up_oo (by decide) (by decide)]
        exact h50
    rw [lp_pr34, pr (by omega) h40 h41]
    unfold lp_pr34_a
    dsimp only
    rw [nI_clamp (by omega), nI_1]
    obtain ⟨r1, r2, r3, r4, r5⟩ := ih _ (e + 1) (K + 1) (by omega) (by omega) hS
    refine ⟨by rw [show K + (n + 1) = K + 1 + n by omega]; exact r1, fun q hq => ?_, fun q hq => ?_, fun k hk => ?_, fun o o1 o2 => ?_⟩
    · by_cases z : q = 0
      · subst z
        refine Eq.trans (r3 e (by omega)) ?_
        show bz_up (bz_up τ.1 32 40 (nI (K + 1))) 34 e (τ.1 50 K) 34 e = σ.1 50 K
        rw [bz_up_s, h50]
      · have := r2 (q - 1) (by omega)
        rw [show K + 1 + (q - 1) = K + q by omega, show e + 1 + (q - 1) = e + q by omega] at this
        exact this
    · rw [r3 q (by omega)]
      show bz_up (bz_up τ.1 32 40 (nI (K + 1))) 34 e (τ.1 50 K) 34 q = _
      rw [bz_up_k (by omega), bz_up_o (by decide)]
    · rw [r4 k hk]
      show bz_up (bz_up τ.1 32 40 (nI (K + 1))) 34 e (τ.1 50 K) 32 k = _
      rw [bz_up_o (by decide), bz_up_k hk]
    · rw [r5 o o1 o2]
      exact up_oo o1 o2
theorem row_w35 {σ : bz_S} : ∀ (n : Nat) (τ : bz_S) (e K : Nat), e + n ≤ 8 → K + n ≤ 60 → wr_R K σ τ → wr_R (K + n) σ (lp_pr35 n τ (nI e)) ∧ (∀ q, q < n → (lp_pr35 n τ (nI e)).1 50 (K + q) = σ.1 35 (e + q)) ∧ ∀ q, (q < K ∨ K + n ≤ q) → (lp_pr35 n τ (nI e)).1 50 q = τ.1 50 q := by
  intro n
  induction n with
  | zero => intro τ e K he hK h; rw [lp_pr35]; exact ⟨h, fun q hq => absurd hq (by omega), fun q _ => rfl⟩
  | succ n ih =>
    intro τ e K he hK h
    obtain ⟨h40, h41, h32, ho⟩ := h
    have e41 : (41 : Nat) ≠ 40 := by decide
    have ow := ho 35 (by decide) (by decide)
    have hS : wr_R (K + 1) σ (bz_up (bz_up (bz_up τ.1 50 K (τ.1 35 e)) 32 40 (nI (K + 1))) 35 e (τ.1 35 e), τ.2) := by
      refine ⟨?_, ?_, fun k hk => ?_, fun o o1 o2 => ?_⟩
      · show bz_up (bz_up (bz_up τ.1 50 K (τ.1 35 e)) 32 40 (nI (K + 1))) 35 e (τ.1 35 e) 32 40 = _
        rw [bz_up_o (by decide), bz_up_s]
      · show bz_up (bz_up (bz_up τ.1 50 K (τ.1 35 e)) 32 40 (nI (K + 1))) 35 e (τ.1 35 e) 32 41 = _
        rw [bz_up_o (by decide), bz_up_k e41, bz_up_o (by decide)]; exact h41
      · show bz_up (bz_up (bz_up τ.1 50 K (τ.1 35 e)) 32 40 (nI (K + 1))) 35 e (τ.1 35 e) 32 k = _
        rw [bz_up_o (by decide), bz_up_k hk, bz_up_o (by decide)]; exact h32 k hk
      · by_cases z : o = 35
        · rw [z]
          have i1 : bz_up (bz_up (bz_up τ.1 50 K (τ.1 35 e)) 32 40 (nI (K + 1))) 35 e (τ.1 35 e) 35 = τ.1 35 := by
            funext q
            by_cases y : q = e
            · rw [y, bz_up_s]
            · rw [bz_up_k y, bz_up_o (by decide), bz_up_o (by decide)]
          exact i1.trans ow
        · exact (up_o3 o2 o1 z).trans (ho o o1 o2)
    rw [lp_pr35, nI_clamp (by omega), pw (by omega) h40 h41]
    unfold lp_pr35_a
    dsimp only
    rw [nI_clamp (by omega), nI_1]
    obtain ⟨r1, r2, r3⟩ := ih _ (e + 1) (K + 1) (by omega) (by omega) hS
    refine ⟨by rw [show K + (n + 1) = K + 1 + n by omega]; exact r1, fun q hq => ?_, fun q hq => ?_⟩
    · by_cases z : q = 0
      · subst z
        refine Eq.trans (r3 K (Or.inl (by omega))) ?_
        show bz_up (bz_up (bz_up τ.1 50 K (τ.1 35 e)) 32 40 (nI (K + 1))) 35 e (τ.1 35 e) 50 K = σ.1 35 e
        rw [bz_up_o (by decide), bz_up_o (by decide), bz_up_s, ow]
      · have := r2 (q - 1) (by omega)
        rw [show K + 1 + (q - 1) = K + q by omega, show e + 1 + (q - 1) = e + q by omega] at this
        exact this
    · rw [r3 q (by omega)]
      show bz_up (bz_up (bz_up τ.1 50 K (τ.1 35 e)) 32 40 (nI (K + 1))) 35 e (τ.1 35 e) 50 q = _
      rw [bz_up_o (by decide), bz_up_o (by decide), bz_up_k (by omega)]
theorem row_r35 {σ : bz_S} : ∀ (n : Nat) (τ : bz_S) (e K : Nat), e + n ≤ 8 → K + n ≤ 60 → rd_R K σ τ → rd_R (K + n) σ (lp_pr35 n τ (nI e)) ∧ (∀ q, q < n → (lp_pr35 n τ (nI e)).1 35 (e + q) = σ.1 50 (K + q)) ∧ (∀ q, q < e → (lp_pr35 n τ (nI e)).1 35 q = τ.1 35 q) ∧ (∀ k, k ≠ 40 → (lp_pr35 n τ (nI e)).1 32 k = τ.1 32 k) ∧ ∀ o, o ≠ 32 → o ≠ 35 → (lp_pr35 n τ (nI e)).1 o = τ.1 o := by
  intro n
  induction n with
  | zero => intro τ e K he hK h; rw [lp_pr35]; exact ⟨h, fun q hq => absurd hq (by omega), fun q _ => rfl, fun k _ => rfl, fun o _ _ => rfl⟩
  | succ n ih =>
    intro τ e K he hK h
    obtain ⟨h40, h41, h50⟩ := h
    have e41 : (41 : Nat) ≠ 40 := by decide
    have hS : rd_R (K + 1) σ (bz_up (bz_up τ.1 32 40 (nI (K + 1))) 35 e (τ.1 50 K), τ.2) := by
      refine ⟨?_, ?_, ?_⟩
      · show bz_up (bz_up τ.1 32 40 (nI (K + 1))) 35 e (τ.1 50 K) 32 40 = _
        rw [bz_up_o (by decide), bz_up_s]
      · show bz_up (bz_up τ.1 32 40 (nI (K + 1))) 35 e (τ.1 50 K) 32 41 = _
        rw [bz_up_o (by decide), bz_up_k e41]; exact h41
      · show (bz_up (bz_up τ.1 32 40 (nI (K + 1))) 35 e (τ.1 50 K)) 50 = σ.1 50
        rw [up_oo (by decide) (by decide)]
        exact h50
    rw [lp_pr35, pr (by omega) h40 h41]
    unfold lp_pr35_a
    dsimp only
    rw [nI_clamp (by omega), nI_1]
    obtain ⟨r1, r2, r3, r4, r5⟩ := ih _ (e + 1) (K + 1) (by omega) (by omega) hS
    refine ⟨by rw [show K + (n + 1) = K + 1 + n by omega]; exact r1, fun q hq => ?_, fun q hq => ?_, fun k hk => ?_, fun o o1 o2 => ?_⟩
    · by_cases z : q = 0
      · subst z
        refine Eq.trans (r3 e (by omega)) ?_
        show bz_up (bz_up τ.1 32 40 (nI (K + 1))) 35 e (τ.1 50 K) 35 e = σ.1 50 K
        rw [bz_up_s, h50]
      · have := r2 (q - 1) (by omega)
        rw [show K + 1 + (q - 1) = K + q by omega, show e + 1 + (q - 1) = e + q by omega] at this
        exact this
    · rw [r3 q (by omega)]
      show bz_up (bz_up τ.1 32 40 (nI (K + 1))) 35 e (τ.1 50 K) 35 q = _
      rw [bz_up_k (by omega), bz_up_o (by decide)]
    · rw [r4 k hk]
      show bz_up (bz_up τ.1 32 40 (nI (K + 1))) 35 e (τ.1 50 K) 32 k = _
      rw [bz_up_o (by decide), bz_up_k hk]
    · rw [r5 o o1 o2]
      exact up_oo o1 o2
/-- all is written -/
theorem all_w {σ : bz_S} {K : Nat} (hK : K ≤ 30) (h40 : σ.1 32 40 = nI K) (h41 : σ.1 32 41 = 1) : wr_R (K + 23) σ (f_X11_passAll_32 σ) ∧ (f_X11_passAll_32 σ).1 50 K = σ.1 32 1 ∧ (f_X11_passAll_32 σ).1 50 (K + 1) = σ.1 32 2 ∧ (f_X11_passAll_32 σ).1 50 (K + 2) = σ.1 32 3 ∧ (f_X11_passAll_32 σ).1 50 (K + 3) = σ.1 32 6 ∧ (∀ q, q < 3 → (f_X11_passAll_32 σ).1 50 (K + 4 + q) = σ.1 33 q) ∧ (∀ q, q < 8 → (f_X11_passAll_32 σ).1 50 (K + 7 + q) = σ.1 34 q) ∧ (∀ q, q < 8 → (f_X11_passAll_32 σ).1 50 (K + 15 + q) = σ.1 35 q) ∧ ∀ q, (q < K ∨ K + 23 ≤ q) → (f_X11_passAll_32 σ).1 50 q = σ.1 50 q := by
  rw [pa_all]
  have a0 : wr_R K σ σ := ⟨h40, h41, fun _ _ => rfl, fun _ _ _ => rfl⟩
  obtain ⟨a1, b1, c1⟩ := fp_w (f := 1) (by omega) (by decide) a0
  obtain ⟨a2, b2, c2⟩ := fp_w (f := 2) (by omega) (by decide) a1
  obtain ⟨a3, b3, c3⟩ := fp_w (f := 3) (by omega) (by decide) a2
  obtain ⟨a4, b4, c4⟩ := fp_w (f := 6) (by omega) (by decide) a3
  generalize fp σ 1 = s1 at *
  generalize fp s1 2 = s2 at *
  generalize fp s2 3 = s3 at *
  generalize fp s3 6 = s4 at *
  unfold f_X11_passRow_32_35 f_X11_passRow_32_34 f_X11_passRow_32_33
  rw [show (8 : Int32).toNatClampNeg = 8 by decide, show (3 : Int32).toNatClampNeg = 3 by decide, show (0 : Int32) = nI 0 from rfl]
  obtain ⟨a5, b5, c5⟩ := row_w33 3 s4 0 (K + 1 + 1 + 1 + 1) (by omega) (by omega) a4
  generalize lp_pr33 3 s4 (nI 0) = s5 at *
  obtain ⟨a6, b6, c6⟩ := row_w34 8 s5 0 (K + 1 + 1 + 1 + 1 + 3) (by omega) (by omega) a5
  generalize lp_pr34 8 s5 (nI 0) = s6 at *
  obtain ⟨a7, b7, c7⟩ := row_w35 8 s6 0 (K + 1 + 1 + 1 + 1 + 3 + 8) (by omega) (by omega) a6
  generalize lp_pr35 8 s6 (nI 0) = s7 at *
  refine ⟨a7, ?_, ?_, ?_, ?_, fun q hq => ?_, fun q hq => ?_, fun q hq => ?_, fun q hq => ?_⟩
  · rw [c7 K (by omega), c6 K (by omega), c5 K (by omega), c4 K (by omega), c3 K (by omega), c2 K (by omega), b1]
  · rw [c7 _ (by omega), c6 _ (by omega), c5 _ (by omega), c4 _ (by omega), c3 _ (by omega), b2]
  · rw [show K + 2 = K + 1 + 1 by omega, c7 _ (by omega), c6 _ (by omega), c5 _ (by omega), c4 _ (by omega), b3]
  · rw [show K + 3 = K + 1 + 1 + 1 by omega, c7 _ (by omega), c6 _ (by omega), c5 _ (by omega), b4]
  · have := b5 q hq
    rw [Nat.zero_add] at this
    rw [show K + 4 + q = K + 1 + 1 + 1 + 1 + q by omega, c7 _ (by omega), c6 _ (by omega), this]
  · have := b6 q hq
    rw [Nat.zero_add] at this
    rw [show K + 7 + q = K + 1 + 1 + 1 + 1 + 3 + q by omega, c7 _ (by omega), this]
  · have := b7 q hq
    rw [Nat.zero_add] at this
    rw [show K + 15 + q = K + 1 + 1 + 1 + 1 + 3 + 8 + q by omega, this]
  · rw [c7 q (by omega), c6 q (by omega), c5 q (by omega), c4 q (by omega), c3 q (by omega), c2 q (by omega), c1 q (by omega)]
/-- all is read -/
theorem all_r {σ : bz_S} {K : Nat} (hK : K ≤ 30) (h40 : σ.1 32 40 = nI K) (h41 : σ.1 32 41 = 0) : (f_X11_passAll_32 σ).1 50 = σ.1 50 ∧ (f_X11_passAll_32 σ).1 32 1 = σ.1 50 K ∧ (f_X11_passAll_32 σ).1 32 2 = σ.1 50 (K + 1) ∧ (f_X11_passAll_32 σ).1 32 3 = σ.1 50 (K + 2) ∧ (f_X11_passAll_32 σ).1 32 6 = σ.1 50 (K + 3) ∧ (∀ q, q < 3 → (f_X11_passAll_32 σ).1 33 q = σ.1 50 (K + 4 + q)) ∧ (∀ q, q < 8 → (f_X11_passAll_32 σ).1 34 q = σ.1 50 (K + 7 + q)) ∧ (∀ q, q < 8 → (f_X11_passAll_32 σ).1 35 q = σ.1 50 (K + 15 + q)) ∧ (∀ k, k ≠ 40 → k ≠ 1 → k ≠ 2 → k ≠ 3 → k ≠ 6 → (f_X11_passAll_32 σ).1 32 k = σ.1 32 k) ∧ ∀ o, o ≠ 32 → o ≠ 33 → o ≠ 34 → o ≠ 35 → (f_X11_passAll_32 σ).1 o = σ.1 o := by
  rw [pa_all]
  have a0 : rd_R K σ σ := ⟨h40, h41, rfl⟩
  obtain ⟨a1, b1, c1, d1⟩ := fp_r (f := 1) (by omega) (by decide) (by decide) a0
  obtain ⟨a2, b2, c2, d2⟩ := fp_r (f := 2) (by omega) (by decide) (by decide) a1
  obtain ⟨a3, b3, c3, d3⟩ := fp_r (f := 3) (by omega) (by decide) (by decide) a2
  obtain ⟨a4, b4, c4, d4⟩ := fp_r (f := 6) (by omega) (by decide) (by decide) a3
  generalize fp σ 1 = s1 at *
  generalize fp s1 2 = s2 at *
  generalize fp s2 3 = s3 at *
  generalize fp s3 6 = s4 at *
  unfold f_X11_passRow_32_35 f_X11_passRow_32_34 f_X11_passRow_32_33
  rw [show (8 : Int32).toNatClampNeg = 8 by decide, show (3 : Int32).toNatClampNeg = 3 by decide, show (0 : Int32) = nI 0 from rfl]
  obtain ⟨a5, b5, -, c5, d5⟩ := row_r33 3 s4 0 (K + 1 + 1 + 1 + 1) (by omega) (by omega) a4
  generalize lp_pr33 3 s4 (nI 0) = s5 at *
  obtain ⟨a6, b6, -, c6, d6⟩ := row_r34 8 s5 0 (K + 1 + 1 + 1 + 1 + 3) (by omega) (by omega) a5
  generalize lp_pr34 8 s5 (nI 0) = s6 at *
  obtain ⟨a7, b7, -, c7, d7⟩ := row_r35 8 s6 0 (K + 1 + 1 + 1 + 1 + 3 + 8) (by omega) (by omega) a6
  generalize lp_pr35 8 s6 (nI 0) = s7 at *
  refine ⟨a7.2.2, ?_, ?_, ?_, ?_, fun q hq => ?_, fun q hq => ?_, fun q hq => ?_, fun k k40 k1 k2 k3 k6 => ?_, fun o o1 o2 o3 o4 => ?_⟩
  · rw [c7 1 (by decide), c6 1 (by decide), c5 1 (by decide), c4 1 (by decide) (by decide), c3 1 (by decide) (by decide), c2 1 (by decide) (by decide), b1]
  · rw [c7 2 (by decide), c6 2 (by decide), c5 2 (by decide), c4 2 (by decide) (by decide), c3 2 (by decide) (by decide), b2]
  · rw [c7 3 (by decide), c6 3 (by decide), c5 3 (by decide), c4 3 (by decide) (by decide), b3]
  · rw [c7 6 (by decide), c6 6 (by decide), c5 6 (by decide), b4]
  · have := b5 q hq
    rw [Nat.zero_add] at this
    rw [d7 33 (by decide) (by decide), d6 33 (by decide) (by decide), this, show K + 4 + q = K + 1 + 1 + 1 + 1 + q by omega]
  · have := b6 q hq
    rw [Nat.zero_add] at this
    rw [d7 34 (by decide) (by decide), this, show K + 7 + q = K + 1 + 1 + 1 + 1 + 3 + q by omega]
  · have := b7 q hq
    rw [Nat.zero_add] at this
    rw [this, show K + 15 + q = K + 1 + 1 + 1 + 1 + 3 + 8 + q by omega]
  · rw [c7 k k40, c6 k k40, c5 k k40, c4 k k40 k6, c3 k k40 k3, c2 k k40 k2, c1 k k40 k1]
  · rw [d7 o o1 o4, d6 o o1 o3, d5 o o1 o2, d4 o o1, d3 o o1, d2 o o1, d1 o o1]
