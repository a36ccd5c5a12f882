/-! NAP, AND THE ACTS -/
def c_d1 (col : Int32) (σ : bz_S) (b : Int32) : bz_S := if f_X6_isDown_9 σ b = true then σ else (if (σ.1 10 b.toNatClampNeg) % 9 = col then f_X6_driftOne_9 σ b else σ)
def m_d1 (col : Int32) (τ : bz_S) (b : Int32) : bz_S := if (τ.1 41 b.toNatClampNeg) = col then f_X11_drift_32 τ b else τ
theorem c_d1_eq (col : Int32) (n : Nat) (σ : bz_S) (b : Int32) : lp_drift1 col (n + 1) σ b = lp_drift1 col n (c_d1 col σ b) (b + 1) := by
  rw [lp_drift1]
  unfold c_d1 lp_drift1_a
  split
  · rfl
  · split <;> rfl
theorem m_d1_eq (col : Int32) (n : Nat) (τ : bz_S) (b : Int32) : lp_mnap1 col (n + 1) τ b = lp_mnap1 col n (m_d1 col τ b) (b + 1) := by
  rw [lp_mnap1]
  unfold m_d1 lp_mnap1_a
  split <;> rfl
theorem c_d1_3 (col : Int32) (σ : bz_S) : lp_drift1 col 3 σ 0 = c_d1 col (c_d1 col (c_d1 col σ (nI 0)) (nI 1)) (nI 2) := by
  rw [show (0 : Int32) = nI 0 from rfl, c_d1_eq, nI_1, c_d1_eq, nI_1, c_d1_eq, nI_1, lp_drift1]
theorem m_d1_3 (col : Int32) (τ : bz_S) : lp_mnap1 col 3 τ 0 = m_d1 col (m_d1 col (m_d1 col τ (nI 0)) (nI 1)) (nI 2) := by
  rw [show (0 : Int32) = nI 0 from rfl, m_d1_eq, nI_1, m_d1_eq, nI_1, m_d1_eq, nI_1, lp_mnap1]
/-- nap under way: the columns below col are done, and in it the balls below b -/
def np_R (W : Nat → Nat) (σ τ : bz_S) (col b : Nat) : Prop := tb_R (σ.1 10) (τ.1 33) ∧ ∀ q, q < 3 → τ.1 41 q = nI (W q) ∧ ((W q = 9 ∧ σ.1 10 q = -1) ∨ (W q < 9 ∧ ∃ a, a < 45 ∧ σ.1 10 q = nI a ∧ a % 9 ≤ W q ∧ ((col < W q ∨ (W q = col ∧ b ≤ q)) → a % 9 = W q)))
theorem np_next {W : Nat → Nat} {σ τ : bz_S} {col : Nat} (h : np_R W σ τ col 3) : np_R W σ τ (col + 1) 0 := by
  refine ⟨h.1, fun q hq => ⟨(h.2 q hq).1, ?_⟩⟩
  rcases (h.2 q hq).2 with z | ⟨z1, a, z2, z3, z4, z5⟩
  · exact Or.inl z
  · exact Or.inr ⟨z1, a, z2, z3, z4, fun w => z5 (by omega)⟩
theorem np_skip {W : Nat → Nat} {σ τ : bz_S} {col b : Nat} (h : np_R W σ τ col b) (hn : ¬ W b = col) : np_R W σ τ col (b + 1) := by
  refine ⟨h.1, fun q hq => ⟨(h.2 q hq).1, ?_⟩⟩
  rcases (h.2 q hq).2 with z | ⟨z1, a, z2, z3, z4, z5⟩
  · exact Or.inl z
  · exact Or.inr ⟨z1, a, z2, z3, z4, fun w => z5 (by omega)⟩
theorem np_done {W : Nat → Nat} {σ τ : bz_S} {col b : Nat} (h : np_R W σ τ col b) : np_R W σ τ col (b + 1) := by
  refine ⟨h.1, fun q hq => ⟨(h.2 q hq).1, ?_⟩⟩
  rcases (h.2 q hq).2 with z | ⟨z1, a, z2, z3, z4, z5⟩
  · exact Or.inl z
  · exact Or.inr ⟨z1, a, z2, z3, z4, fun w => z5 (by omega)⟩
theorem c_dn9 {σ : bz_S} {B : Nat} (hB : B < 3) : (f_X6_isDown_9 σ (nI B) = true) ↔ σ.1 10 B = -1 := by
  unfold f_X6_isDown_9
  rw [if_pos (tb_isBall hB), nI_clamp (by omega)]
  by_cases h : σ.1 10 B = -1
  · rw [if_pos h]; exact ⟨fun _ => h, fun _ => rfl⟩
  · rw [if_neg h]; exact ⟨fun z => absurd z (by decide), fun z => absurd z h⟩
theorem np_step {W : Nat → Nat} {σ τ : bz_S} {col b : Nat} (hc : 1 ≤ col) (hc2 : col < 9) (hb : b < 3) (h : np_R W σ τ col b) : np_R W (c_d1 (nI col) σ (nI b)) (m_d1 (nI col) τ (nI b)) col (b + 1) := by
  obtain ⟨h1, h2⟩ := h.2 b hb
  unfold c_d1 m_d1
  rw [nI_clamp (by omega), h1]
  have cc : (nI (W b) = nI col) ↔ W b = col := by
    have : W b ≤ 9 := by rcases h2 with ⟨z, -⟩ | ⟨z, -⟩ <;> omega
    exact nI_eq (by omega) (by omega)
  rcases h2 with ⟨z1, z2⟩ | ⟨z1, a, z2, z3, z4, z5⟩
  · rw [if_pos ((c_dn9 hb).mpr z2), if_neg (fun w => absurd (cc.mp w) (by omega))]
    exact np_skip h (by omega)
  · rw [if_neg (fun w => tb_nd z2 (z3.symm.trans ((c_dn9 hb).mp w))), z3]
    have e9 : nI a % 9 = nI (a % 9) := bz_modN (d := 9) (by omega) (by decide) (by decide)
    rw [e9]
    by_cases e : W b = col
    · have ea := z5 (Or.inr ⟨e, Nat.le_refl _⟩)
      rw [if_pos (show nI (a % 9) = nI col by rw [ea, e]), if_pos (cc.mpr e)]
      have hy := (tb_c_up (h.1.1 b hb) (by rw [z3]; exact tb_nd z2)).1
      unfold f_X6_driftOne_9 f_X11_drift_32
      rw [nI_clamp (by omega), hy, z3, if_neg (nI_pos (by omega)), e9, if_neg (show ¬ nI (a % 9) ≤ 0 from nI_nle (by omega) (by omega)), m_isPocket, show nI a - 1 = nI (a - 1) from bz_subN (b := 1) (by omega), cl_on9, ml_on32]
      by_cases hp : f_X10_isPocket (nI (a - 1)) = true
      · rw [if_pos hp, if_pos hp]
        exact np_done h
      · rw [if_neg hp, if_neg hp]
        rcases tb_on h.1 (show a - 1 < 45 by omega) with ⟨o1, o2, o3⟩ | ⟨b', hb', o1, o2, o3⟩
        · rw [o1, o2, if_pos rfl, if_neg (by decide)]
          have pl := tb_plI (show a - 1 < 45 by omega) (Bool.eq_false_iff.mpr hp)
          refine ⟨tb_put h.1 (Or.inr ⟨rfl, pl⟩) (Or.inr fun b hb _ => o3 b hb), fun q hq => ?_⟩
          refine ⟨(show bz_up τ.1 33 b (nI (a - 1)) 41 q = τ.1 41 q from bz_up_o (by decide)).trans (h.2 q hq).1, ?_⟩
          by_cases eq : q = b
          · subst eq
            refine Or.inr ⟨z1, a - 1, by omega, bz_up_s1, by omega, fun w => by omega⟩
          · have e0 : (bz_up σ.1 10 b (nI (a - 1)), σ.2).1 10 q = σ.1 10 q := bz_up_k eq
            rw [e0]
            rcases (h.2 q hq).2 with y | ⟨y1, a', y2, y3, y4, y5⟩
            · exact Or.inl y
            · exact Or.inr ⟨y1, a', y2, y3, y4, fun w => y5 (by omega)⟩
        · rw [o1, o2, if_neg (tb_nd (by omega)), if_pos (nI_pos' (by omega))]
          exact np_done h
    · have n1 : ¬ nI (a % 9) = nI col := by
        intro w
        have w1 := (nI_eq (by omega) (by omega)).mp w
        rcases Nat.lt_or_ge col (W b) with y | y
        · have := z5 (Or.inl y)
          omega
        · omega
      rw [if_neg n1, if_neg (fun w => e (cc.mp w))]
      exact np_skip h e
theorem np_step0 {W : Nat → Nat} {σ τ : bz_S} {b : Nat} (hb : b < 3) (h : np_R W σ τ 0 b) : np_R W σ (m_d1 0 τ (nI b)) 0 (b + 1) := by
  obtain ⟨h1, h2⟩ := h.2 b hb
  have e : m_d1 0 τ (nI b) = τ := by
    unfold m_d1
    rw [nI_clamp (by omega), h1]
    rcases h2 with ⟨z1, z2⟩ | ⟨z1, a, z2, z3, z4, z5⟩
    · rw [if_neg (nI_ne0 (by omega) (by omega))]
    · by_cases w : W b = 0
      · rw [if_pos (show nI (W b) = 0 by rw [w]; rfl)]
        have hy := (tb_c_up (h.1.1 b hb) (by rw [z3]; exact tb_nd z2)).1
        have e9 : nI a % 9 = nI (a % 9) := bz_modN (d := 9) (by omega) (by decide) (by decide)
        unfold f_X11_drift_32
        rw [nI_clamp (by omega), hy, z3, if_neg (nI_pos (by omega)), e9, if_pos (show nI (a % 9) ≤ 0 by rw [show a % 9 = 0 by omega]; decide)]
      · rw [if_neg (nI_ne0 (by omega) (by omega))]
  rw [e]
  exact np_done h
theorem np_all {W : Nat → Nat} : ∀ (n : Nat) (σ τ : bz_S) (col : Nat), 1 ≤ col → col + n = 9 → np_R W σ τ col 0 → tb_R ((lp_drift n σ (nI col)).1 10) ((lp_mnap n τ (nI col)).1 33) := by
  intro n
  induction n with
  | zero =>
    intro σ τ col h1 h2 h
    rw [lp_drift, lp_mnap]
    exact h.1
  | succ n ih =>
    intro σ τ col h1 h2 h
    rw [lp_drift, lp_mnap, lp_drift_a, lp_mnap_a, bz_k_eq, c_d1_3, m_d1_3, nI_1]
    exact ih _ _ (col + 1) (by omega) (by omega) (np_next (np_step h1 (by omega) (by omega) (np_step h1 (by omega) (by omega) (np_step h1 (by omega) (by omega) h))))
theorem m_were (τ : bz_S) : ∀ q, q < 3 → (lp_were 3 τ 0).1 41 q = f_X11_columnOf (τ.1 33 q) := by
  intro q hq
  rw [show (0 : Int32) = nI 0 from rfl, lp_were, nI_clamp (by omega), nI_1, lp_were, nI_clamp (by omega), nI_1, lp_were, nI_clamp (by omega), nI_1, lp_were]
  rcases (show q = 0 ∨ q = 1 ∨ q = 2 by omega) with rfl | rfl | rfl <;> simp [bz_up]
theorem e_nap {σ τ : bz_S} (h : tb_R (σ.1 10) (τ.1 33)) : tb_R ((f_X6_drift_9 σ).1 10) ((f_X11_nap_32 τ).1 33) := by
  unfold f_X6_drift_9 f_X11_nap_32 f_X11_nap_32_a
  rw [bz_k_eq, bz_k_eq, bz_k_eq, lp_mnap, lp_mnap_a, bz_k_eq, m_d1_3]
  have w33 : (lp_were 3 τ 0).1 33 = τ.1 33 := bz_fr_at (rlp_were 3 τ 0) 33 (by decide)
  have h0 : np_R (fun q => (f_X11_columnOf (τ.1 33 q)).toNatClampNeg) σ (lp_were 3 τ 0) 0 0 := by
    refine ⟨by rw [w33]; exact h, fun q hq => ?_⟩
    rw [m_were τ q hq]
    show f_X11_columnOf (τ.1 33 q) = nI (f_X11_columnOf (τ.1 33 q)).toNatClampNeg ∧ (((f_X11_columnOf (τ.1 33 q)).toNatClampNeg = 9 ∧ _) ∨ ((f_X11_columnOf (τ.1 33 q)).toNatClampNeg < 9 ∧ ∃ a, _ ∧ _ ∧ a % 9 ≤ (f_X11_columnOf (τ.1 33 q)).toNatClampNeg ∧ ((0 < (f_X11_columnOf (τ.1 33 q)).toNatClampNeg ∨ ((f_X11_columnOf (τ.1 33 q)).toNatClampNeg = 0 ∧ _)) → a % 9 = (f_X11_columnOf (τ.1 33 q)).toNatClampNeg)))
    by_cases d : σ.1 10 q = -1
    · have c9 : f_X11_columnOf (τ.1 33 q) = nI 9 := by
        unfold f_X11_columnOf
        rw [if_neg (fun z => absurd ((tb_c_dn (h.1 q hq)).mp d) (Int32.not_lt.mpr z))]
        rfl
      rw [c9, nI_clamp (by omega)]
      exact ⟨rfl, Or.inl ⟨rfl, d⟩⟩
    · obtain ⟨e1, a, ha, e2, -⟩ := tb_c_up (h.1 q hq) d
      have c9 : f_X11_columnOf (τ.1 33 q) = nI (a % 9) := by
        unfold f_X11_columnOf
        rw [e1, e2, if_pos (nI_pos' (by omega))]
        exact bz_modN (d := 9) (by omega) (by decide) (by decide)
      rw [c9, nI_clamp (by omega)]
      exact ⟨rfl, Or.inr ⟨by omega, a, ha, e2, Nat.le_refl _, fun _ => rfl⟩⟩
  have h1 := np_next (np_step0 (show 2 < 3 by omega) (np_step0 (show 1 < 3 by omega) (np_step0 (show 0 < 3 by omega) h0)))
  exact np_all 8 _ _ 1 (by omega) (by omega) h1
/-- what an act leaves -/
def ac_R (σ τ σ' τ' : bz_S) : Prop := tr_R 10 9 σ' τ' ∧ (τ.1 32 23 = σ.1 8 5 → τ'.1 32 23 = σ'.1 8 5) ∧ (τ.1 32 24 = σ.1 8 6 → τ'.1 32 24 = σ'.1 8 6) ∧ ∀ k, k ≠ 5 → k ≠ 6 → σ'.1 8 k = σ.1 8 k
theorem e_first : ∀ B : Fin 3, f_tv0 B = f_X11_home (nI B) ∧ f_X10_isPlace (f_tv0 B) = true := by decide +kernel
theorem e_act {σ τ : bz_S} (h : tr_R 10 9 σ τ) {kd cb cw cf mw mf : Int32} {B : Nat} (hB : B < 3) (hk : kd = 0 ∨ kd = 1 ∨ kd = 2 ∨ kd = 3) (hb : kd = 0 ∨ kd = 1 → cb = nI B) (h0 : kd = 0 → cw = mw ∧ cf = mf ∧ (∃ w, w < 8 ∧ mw = nI w) ∧ ∃ F, F < 100 ∧ mf = nI F) : (f_X8_tryAct_8 σ kd cb cw cf).1 = f_X11_whyNot_32 τ kd (nI B) ∧ ((f_X8_tryAct_8 σ kd cb cw cf).1 = 0 → ac_R σ τ (f_X8_tryAct_8 σ kd cb cw cf).2 (f_X11_happen_32 τ kd (nI B) mw mf)) ∧ (¬ (f_X8_tryAct_8 σ kd cb cw cf).1 = 0 → (f_X8_tryAct_8 σ kd cb cw cf).2 = σ) := by
  have cB : (nI B).toNatClampNeg = B := nI_clamp (by omega)
  have dn := tb_c_dn (h.1.1 B hB)
  unfold f_X8_tryAct_8 f_X6_reasonAgainst_9 f_X11_whyNot_32 f_X11_happen_32
  rcases hk with rfl | rfl | rfl | rfl
  · rw [hb (Or.inl rfl)]
    obtain ⟨rfl, rfl, ⟨w, hw, rfl⟩, F, hF, rfl⟩ := h0 rfl
    rw [if_pos rfl, if_pos rfl, if_pos rfl, if_pos rfl, cB]
    by_cases d : σ.1 10 B = -1
    · rw [if_pos ((c_dn9 hB).mpr d), if_neg (show ¬ (1 : Int32) = 0 by decide), if_neg (Int32.not_le.mpr (dn.mp d))]
      exact ⟨rfl, fun z => absurd z (by show ¬ (1 : Int32) = 0; decide), fun _ => rfl⟩
    · rw [if_neg (fun z => d ((c_dn9 hB).mp z)), if_pos rfl, if_pos (Int32.not_lt.mp fun z => d (dn.mpr z))]
      refine ⟨rfl, fun _ => ?_, fun z => absurd rfl z⟩
      unfold f_X8_tryAct_8_a f_X11_happen_32_a
      exact e_play hB hw hF h d
  · rw [hb (Or.inr rfl)]
    rw [if_neg (show ¬ (1 : Int32) = 0 by decide), if_neg (show ¬ (1 : Int32) = 0 by decide), if_neg (show ¬ (1 : Int32) = 0 by decide), if_neg (show ¬ (1 : Int32) = 0 by decide), if_pos rfl, if_pos rfl, if_pos rfl, if_pos rfl, if_pos (tb_isBall hB), cB]
    obtain ⟨f1, f2⟩ := e_first ⟨B, hB⟩
    have f1' : f_tv0 B = f_X11_home (nI B) := f1
    by_cases d : σ.1 10 B = -1
    · rw [if_pos d, if_pos (dn.mp d), ← f1', cl_on9, ml_on32]
      obtain ⟨a, ha, ea, -⟩ := tb_pl f2
      have ea' : f_tv0 B = nI a := ea
      rw [ea']
      rcases tb_on h.1 ha with ⟨o1, o2, o3⟩ | ⟨b', hb', o1, o2, o3⟩
      · rw [o1, o2, if_pos rfl, if_pos rfl, if_pos (show (-6 : Int32) < 0 by decide)]
        refine ⟨rfl, fun _ => ⟨?_, fun e => ?_, fun e => ?_, fun k _ _ => ?_⟩, fun z => absurd rfl z⟩
        · refine ⟨tb_put h.1 (Or.inr ⟨rfl, by rw [← ea']; exact f2⟩) (Or.inr fun b hb _ => o3 b hb), ?_, ?_, ?_, ?_⟩
          · simpa [bz_up] using h.2.1
          · simpa [bz_up] using h.2.2.1
          · simpa [bz_up] using h.2.2.2.1
          · simpa [bz_up] using h.2.2.2.2
        · simpa [bz_up] using e
        · simpa [bz_up] using e
        · simp [bz_up]
      · rw [o1, o2, if_neg (tb_nd (by omega)), if_neg (show ¬ (2 : Int32) = 0 by decide), if_neg (nI_pos (by omega))]
        exact ⟨rfl, fun z => absurd z (by show ¬ (2 : Int32) = 0; decide), fun _ => rfl⟩
    · rw [if_neg d, if_neg (fun z => d (dn.mpr z)), if_neg (show ¬ (1 : Int32) = 0 by decide)]
      exact ⟨rfl, fun z => absurd z (by show ¬ (1 : Int32) = 0; decide), fun _ => rfl⟩
  · rw [if_neg (show ¬ (2 : Int32) = 0 by decide), if_neg (show ¬ (2 : Int32) = 0 by decide), if_neg (show ¬ (2 : Int32) = 0 by decide), if_neg (show ¬ (2 : Int32) = 0 by decide), if_neg (show ¬ (2 : Int32) = 1 by decide), if_neg (show ¬ (2 : Int32) = 1 by decide), if_neg (show ¬ (2 : Int32) = 1 by decide), if_neg (show ¬ (2 : Int32) = 1 by decide), if_pos rfl, if_pos rfl, if_pos rfl, if_pos rfl, if_pos rfl]
    refine ⟨rfl, fun _ => ?_, fun z => absurd rfl z⟩
    unfold f_X8_tryAct_8_b f_X11_happen_32_b
    have fc := rf_X6_drift_9 σ
    have fm := rf_X11_nap_32 τ
    have q := e_nap h.1
    have c9 := bz_fr_at fc 9 (by decide)
    have c8 := bz_fr_at fc 8 (by decide)
    have m32 := bz_fr_at fm 32 (by decide)
    refine ⟨⟨q, ?_, ?_, ?_, ?_⟩, fun e => ?_, fun e => ?_, fun k _ _ => ?_⟩
    · show (f_X11_nap_32 τ).1 32 1 = (f_X6_drift_9 σ).1 9 1
      rw [m32, c9]; exact h.2.1
    · show (f_X11_nap_32 τ).1 32 2 = (f_X6_drift_9 σ).1 9 2
      rw [m32, c9]; exact h.2.2.1
    · show (f_X11_nap_32 τ).1 32 3 = (f_X6_drift_9 σ).1 9 3
      rw [m32, c9]; exact h.2.2.2.1
    · show tb_E ((f_X6_drift_9 σ).1 9 3)
      rw [c9]; exact h.2.2.2.2
    · show (f_X11_nap_32 τ).1 32 23 = (f_X6_drift_9 σ).1 8 5
      rw [m32, c8]; exact e
    · show (f_X11_nap_32 τ).1 32 24 = (f_X6_drift_9 σ).1 8 6
      rw [m32, c8]; exact e
    · show (f_X6_drift_9 σ).1 8 k = σ.1 8 k
      rw [c8]
  · rw [if_neg (show ¬ (3 : Int32) = 0 by decide), if_neg (show ¬ (3 : Int32) = 0 by decide), if_neg (show ¬ (3 : Int32) = 0 by decide), if_neg (show ¬ (3 : Int32) = 0 by decide), if_neg (show ¬ (3 : Int32) = 1 by decide), if_neg (show ¬ (3 : Int32) = 1 by decide), if_neg (show ¬ (3 : Int32) = 1 by decide), if_neg (show ¬ (3 : Int32) = 1 by decide), if_neg (show ¬ (3 : Int32) = 2 by decide), if_neg (show ¬ (3 : Int32) = 2 by decide), if_neg (show ¬ (3 : Int32) = 2 by decide), if_neg (show ¬ (3 : Int32) = 2 by decide), if_pos rfl, if_pos rfl, h.2.2.2.1]
    obtain ⟨E, hE, eE⟩ := h.2.2.2.2
    rw [eE]
    by_cases e : E = 99
    · rw [e, if_neg (show ¬ nI 99 < 99 by decide), if_neg (show ¬ (3 : Int32) = 0 by decide), if_pos (show nI 99 = 99 from rfl)]
      exact ⟨rfl, fun z => absurd z (by show ¬ (3 : Int32) = 0; decide), fun _ => rfl⟩
    · rw [if_pos (show nI E < 99 from nI_lt (b := 99) (by omega) (by decide)), if_pos rfl, if_neg (show ¬ nI E = 99 from fun z => e ((nI_eq (b := 99) (by omega) (by decide)).mp z))]
      refine ⟨rfl, fun _ => ⟨⟨?_, ?_, ?_, ?_, ?_⟩, fun e => ?_, fun e => ?_, fun k _ _ => ?_⟩, fun z => absurd rfl z⟩
      · exact tb_R_c h.1 (fun b _ => by simp [bz_up]) (fun b _ => by simp [bz_up])
      · simpa [bz_up] using h.2.1
      · simpa [bz_up] using h.2.2.1
      · simp [bz_up]
      · simp only [bz_up]
        exact ⟨E + 1, by omega, by simp [nI_1]⟩
      · simpa [bz_up] using e
      · simpa [bz_up] using e
      · simp [bz_up]
