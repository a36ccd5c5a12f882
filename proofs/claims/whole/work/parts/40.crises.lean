/-! CRISES: the calls that try a text -/
/-- the model's store behind keepNow, and what it does before back -/
def kp_R (τ τ' : bz_S) : Prop := bz_fr [32, 33, 37, 38, 39, 40, 41, 42] τ τ' ∧ (∀ k, k = 6 ∨ k = 8 → τ'.1 32 k = τ.1 32 k) ∧ (∀ b, b < 3 → τ'.1 42 b = τ.1 33 b) ∧ τ'.1 42 3 = τ.1 32 1 ∧ τ'.1 42 4 = τ.1 32 2 ∧ τ'.1 42 5 = τ.1 32 3
section CR
variable {T : Nat → Int32} {σ τ : bz_S}
theorem kp_keep (τ : bz_S) : kp_R τ (f_X11_keepNow_32 τ) := by
  have f := rf_X11_keepNow_32 τ
  refine ⟨bz_fr_mo f (by decide), fun k _ => congrFun (bz_fr_at f 32 (by decide)) k, fun b hb => ?_, ?_, ?_, ?_⟩
  · unfold f_X11_keepNow_32
    rcases (show b = 0 ∨ b = 1 ∨ b = 2 by omega) with rfl | rfl | rfl <;> simp [bz_up]
  · unfold f_X11_keepNow_32; simp [bz_up]
  · unfold f_X11_keepNow_32; simp [bz_up]
  · unfold f_X11_keepNow_32; simp [bz_up]
theorem kp_tr {τ' τ'' : bz_S} (h : kp_R τ τ') (f : bz_fr [32, 33, 37, 38, 39, 40, 41] τ' τ'') (hk : ∀ k, k = 6 ∨ k = 8 → τ''.1 32 k = τ'.1 32 k) : kp_R τ τ'' := by
  obtain ⟨q1, q2, q3, q4, q5, q6⟩ := h
  have e := bz_fr_at f 42 (by decide)
  exact ⟨bz_fr_tr q1 (bz_fr_mo f (by decide)), fun k z => (hk k z).trans (q2 k z), fun b hb => by rw [e]; exact q3 b hb, by rw [e]; exact q4, by rw [e]; exact q5, by rw [e]; exact q6⟩
theorem kp_back {σ' τ' : bz_S} (h : iv_R T σ τ) (hc : bz_fr [8, 9, 10, 11, 12, 13, 14, 15, 16] σ σ') (hk : kp_R τ τ') (v : Int32) : iv_R T σ' (f_X11_back_32 τ' v).2 := by
  obtain ⟨q1, q2, q3, q4, q5, q6⟩ := hk
  refine iv_c h hc (bz_fr_tr (bz_fr_mo q1 (by decide)) (bz_fr_mo (rf_X11_back_32 τ' v) (by decide))) (fun k hk => ?_) (fun b hb => ?_)
  · unfold f_X11_back_32
    rcases hk with rfl | rfl | rfl | rfl | rfl
    · simpa [bz_up] using q4
    · simpa [bz_up] using q5
    · simpa [bz_up] using q6
    · simpa [bz_up] using q2 6 (by omega)
    · simpa [bz_up] using q2 8 (by omega)
  · unfold f_X11_back_32
    have := q3 b hb
    rcases (show b = 0 ∨ b = 1 ∨ b = 2 by omega) with rfl | rfl | rfl <;> simpa [bz_up] using this
theorem m_back (τ : bz_S) (v : Int32) (k : Nat) (hk : 4 ≤ k) : (f_X11_back_32 τ v).2.1 32 k = τ.1 32 k := by
  unfold f_X11_back_32
  exact (bz_up_k (by omega)).trans ((bz_up_k (by omega)).trans ((bz_up_k (by omega)).trans ((bz_up_o (by decide)).trans ((bz_up_o (by decide)).trans (bz_up_o (by decide))))))
theorem m_back1 (τ : bz_S) (v : Int32) : (f_X11_back_32 τ v).1 = v := rfl
def tx_ok (A : Nat) (σ τ : bz_S) : Prop := σ.1 8 3 = -6 ∧ τ.1 32 27 = -6 ∧ σ.1 8 4 = -6 ∧ τ.1 32 28 = -6 ∧ σ.1 8 2 = nI A
def tx_bd (σ τ : bz_S) : Prop := ∃ e, e < 60 ∧ σ.1 8 3 = nI e ∧ τ.1 32 27 = nI e ∧ τ.1 32 28 = σ.1 8 4
theorem c_begin (σ : bz_S) : (∀ b, b < 3 → (f_X8_begin_8_1 σ).1 10 b = σ.1 2 b) ∧ (f_X8_begin_8_1 σ).1 9 1 = σ.1 1 1 ∧ (f_X8_begin_8_1 σ).1 9 2 = σ.1 1 2 ∧ (f_X8_begin_8_1 σ).1 9 3 = σ.1 1 3 ∧ (f_X8_begin_8_1 σ).1 8 2 = 0 ∧ (f_X8_begin_8_1 σ).1 8 3 = -6 ∧ (f_X8_begin_8_1 σ).1 8 4 = -6 ∧ (f_X8_begin_8_1 σ).1 8 5 = 0 ∧ (f_X8_begin_8_1 σ).1 8 6 = 0 ∧ (f_X8_begin_8_1 σ).1 8 7 = -6 := by
  unfold f_X8_begin_8_1 f_X8_begin_8_1_a f_X6_copy_9_1
  refine ⟨fun b hb => ?_, ?_⟩
  · rcases (show b = 0 ∨ b = 1 ∨ b = 2 by omega) with rfl | rfl | rfl <;> simp [bz_up]
  · simp [bz_up]
theorem c_begin_tr (h : iv_R T σ τ) {τ' : bz_S} (h33 : ∀ b, b < 3 → τ'.1 33 b = τ.1 33 b) (h32 : ∀ k, 1 ≤ k → k ≤ 3 → τ'.1 32 k = τ.1 32 k) : tr_R 10 9 (f_X8_begin_8_1 σ) τ' := by
  obtain ⟨b0, b1, b2, b3, -⟩ := c_begin σ
  obtain ⟨q1, q2, q3, q4, q5⟩ := h.1
  exact ⟨tb_R_c q1 b0 h33, by rw [h32 1 (by omega) (by omega), b1]; exact q2, by rw [h32 2 (by omega) (by omega), b2]; exact q3, by rw [h32 3 (by omega) (by omega), b3]; exact q4, by rw [b3]; exact q5⟩
theorem e_text (h : iv_R T σ τ) : kp_R τ (f_X11_refusal_32 τ).2 ∧ bz_fr [8, 9, 10, 11] σ (f_X10_tryText_0 σ).2 ∧ (((f_X10_tryText_0 σ).1 = -5 ∧ (f_X11_refusal_32 τ).1 = -5) ∨ ∃ A, A ≤ 60 ∧ (f_X11_refusal_32 τ).2.1 32 13 = nI A ∧ tx_V (f_X10_tryText_0 σ).2 (f_X11_refusal_32 τ).2 ∧ (((f_X10_tryText_0 σ).1 = 0 ∧ (f_X11_refusal_32 τ).1 = -6 ∧ tx_ok A (f_X10_tryText_0 σ).2 (f_X11_refusal_32 τ).2) ∨ ((f_X10_tryText_0 σ).1 = -3 ∧ (f_X11_refusal_32 τ).1 = -3 ∧ tx_bd (f_X10_tryText_0 σ).2 (f_X11_refusal_32 τ).2))) := by
  have kk := kp_keep τ
  have fk := rf_X11_keepNow_32 τ
  have h1 : iv_R T σ (f_X11_keepNow_32 τ) := iv_c h bz_fr_rf (bz_fr_mo fk (by decide)) (fun k _ => congrFun (bz_fr_at fk 32 (by decide)) k) (fun b _ => congrFun (bz_fr_at fk 33 (by decide)) b)
  have e33 : (f_X11_keepNow_32 τ).1 33 = τ.1 33 := bz_fr_at fk 33 (by decide)
  have e32 : (f_X11_keepNow_32 τ).1 32 = τ.1 32 := bz_fr_at fk 32 (by decide)
  obtain ⟨g1, g2⟩ := e_fault h1
  have ff := rf_X11_fault_32 (f_X11_keepNow_32 τ)
  have fq := qf_X11_fault_32 (f_X11_keepNow_32 τ)
  have k2 : kp_R τ (f_X11_fault_32 (f_X11_keepNow_32 τ)).2 := kp_tr kk (bz_fr_mo ff (by decide)) (fun k hk => fq k (by rcases hk with rfl | rfl <;> decide))
  refine ⟨?_, rf_X10_tryText_0 σ, ?_⟩
  · unfold f_X11_refusal_32 f_X11_refusal_32_a f_X11_refusal_32_b
    split
    · have k3 : kp_R τ (f_X11_goCrises_32 (f_X11_fault_32 (f_X11_keepNow_32 τ)).2) := kp_tr k2 (bz_fr_mo (rf_X11_goCrises_32 _) (by decide)) (fun k hk => qf_X11_goCrises_32 _ k (by rcases hk with rfl | rfl <;> decide))
      unfold f_X11_refusal_32_c
      split
      · exact k3
      · exact k3
    · exact k2
  · unfold f_X11_refusal_32 f_X11_refusal_32_a f_X11_refusal_32_b f_X10_tryText_0
    unfold f_X10_fault_0 at g1
    by_cases hz : f_X3_firstFault_6 σ = -6
    · rw [if_pos hz, g1, hz, if_pos (show (-6 : Int32) < 0 by decide)]
      obtain ⟨-, N, A, n1, n2, n3, i8, i36, i13, isl, iN, -⟩ := g2 (by rw [g1, hz]; decide)
      generalize f_X11_fault_32 (f_X11_keepNow_32 τ) = ρ at *
      have r33 : ρ.2.1 33 = τ.1 33 := (bz_fr_at ff 33 (by decide)).trans e33
      have r32 : ∀ k, k ≠ 13 → ρ.2.1 32 k = τ.1 32 k := fun k hk => (fq k (by simpa using hk)).trans (congrFun e32 k)
      obtain ⟨b0, b1, b2, b3, b4, b5, b6, b7, b8, b9⟩ := c_begin σ
      have fb := rf_X8_begin_8_1 σ
      have run := tx_run (P := (f_X11_keepNow_32 τ).1 36) (N := N) (A := A) n1 n3 (by omega) A 60 (f_X8_begin_8_1 σ) ((bz_up (bz_up (bz_up (bz_up (bz_up ρ.2.1 32 27 (-6)) 32 28 (-6)) 32 29 (-6)) 32 23 0) 32 24 0), ρ.2.2) 0 (by omega) (by omega) ⟨⟨?_, fun k hk => ?_, ?_, fun e he => ?_⟩, ⟨?_, ?_, ?_, ?_, Or.inl b9⟩, b4, b5, b6, ?_, ?_⟩
      · unfold f_X8_runText_8_6_1 f_X8_runText_8_6_1_a f_X10_tryText_0_a f_X11_refusal_32_c f_X11_goCrises_32
        rw [i13, nI_clamp (by omega), bz_k_eq]
        have q13 := qf_X11_goCrises_32 ρ.2 13 (by decide)
        unfold f_X11_goCrises_32 at q13
        rw [i13, nI_clamp (by omega)] at q13
        have run' : tx_F A (lp_text 60 (f_X8_begin_8_1 σ) 0) (lp_goc A ((bz_up (bz_up (bz_up (bz_up (bz_up ρ.2.1 32 27 (-6)) 32 28 (-6)) 32 29 (-6)) 32 23 0) 32 24 0), ρ.2.2) 0) := run
        generalize lp_text 60 (f_X8_begin_8_1 σ) 0 = σf at *
        generalize lp_goc A ((bz_up (bz_up (bz_up (bz_up (bz_up ρ.2.1 32 27 (-6)) 32 28 (-6)) 32 29 (-6)) 32 23 0) 32 24 0), ρ.2.2) 0 = τf at *
        obtain ⟨v, w⟩ := run'
        refine Or.inr ⟨A, by omega, ?_, ?_⟩
        · split <;> exact q13
        · rcases w with ⟨w1, w2, w3⟩ | ⟨e, he, w1, w2, w3⟩
          · rw [w1, w2, if_pos rfl, if_pos (show (-6 : Int32) < 0 by decide)]
            exact ⟨v, Or.inl ⟨rfl, rfl, w1, w2, w3⟩⟩
          · rw [w1, w2, if_neg (bz_nI6 (by omega)), if_neg (nI_pos (by omega))]
            exact ⟨v, Or.inr ⟨rfl, rfl, e, he, w1, w2, w3⟩⟩
      · rw [bz_fr_at fb 6 (by decide)]; exact n2
      · rw [bz_fr_at fb 7 (by decide)]
        obtain ⟨-, ⟨N', -, -, -, p4⟩, -⟩ := h1
        exact (p4 k hk).symm
      · simpa [bz_up] using i13
      · refine pa_slot_c (isl e he) ?_ ?_ ?_ ?_ <;> simp [bz_up]
      · refine c_begin_tr h (fun b _ => ?_) (fun k k1 k3 => ?_)
        · rw [← r33]; simp [bz_up]
        · rw [← r32 k (by omega)]
          exact (bz_up_k (by omega)).trans ((bz_up_k (by omega)).trans ((bz_up_k (by omega)).trans ((bz_up_k (by omega)).trans (bz_up_k (by omega)))))
      · rw [b7]; simp [bz_up]
      · rw [b8]; simp [bz_up]
      · rw [b9]; simp [bz_up]
      · simp [bz_up]
      · simp [bz_up]
    · have nz : ¬ (f_X11_fault_32 (f_X11_keepNow_32 τ)).1 < 0 := fun z => hz (g1.symm.trans (g2 z).1)
      rw [if_neg hz, if_neg nz]
      exact Or.inl ⟨rfl, rfl⟩
theorem c_fr1 {σ' : bz_S} (h : bz_fr [8, 9, 10, 11] σ σ') : bz_fr [8, 9, 10, 11, 12, 13, 14, 15, 16] σ σ' := bz_fr_mo h (by decide)
theorem w_02 {x : Int32} (h : f_X10_isWithin x 0 2 = true) : x = 0 ∨ x = 1 ∨ x = 2 := by
  obtain ⟨j, j1, j2, rfl⟩ := bz_wN (a := 0) (b := 2) (by decide) (by decide) (by decide) h
  rcases (show j = 0 ∨ j = 1 ∨ j = 2 by omega) with rfl | rfl | rfl
  · exact Or.inl rfl
  · exact Or.inr (Or.inl rfl)
  · exact Or.inr (Or.inr rfl)
theorem w_03 {x : Int32} (h : f_X10_isWithin x 0 3 = true) : x = 0 ∨ x = 1 ∨ x = 2 ∨ x = 3 := by
  obtain ⟨j, j1, j2, rfl⟩ := bz_wN (a := 0) (b := 3) (by decide) (by decide) (by decide) h
  rcases (show j = 0 ∨ j = 1 ∨ j = 2 ∨ j = 3 by omega) with rfl | rfl | rfl | rfl
  · exact Or.inl rfl
  · exact Or.inr (Or.inl rfl)
  · exact Or.inr (Or.inr (Or.inl rfl))
  · exact Or.inr (Or.inr (Or.inr rfl))
theorem e_judge (h : iv_R T σ τ) (what : Int32) : (f_X11_judge_32 τ what).1 = (f_X10_judge_0 σ what).1 ∧ iv_R T (f_X10_judge_0 σ what).2 (f_X11_judge_32 τ what).2 := by
  obtain ⟨t1, t2, t3⟩ := e_text h
  unfold f_X11_judge_32 f_X10_judge_0
  rw [m_w what 0 2 (by decide) (by decide)]
  by_cases hw : f_X10_isWithin what 0 2 = true
  · rw [if_pos hw, if_pos hw]
    unfold f_X11_judge_32_a f_X11_judge_32_b f_X10_judge_0_a
    have iv := kp_back h (c_fr1 t2) t1 (f_X11_refusal_32 τ).1
    rw [m_back1]
    have k23 := m_back (f_X11_refusal_32 τ).2 (f_X11_refusal_32 τ).1 23 (by omega)
    have k27 := m_back (f_X11_refusal_32 τ).2 (f_X11_refusal_32 τ).1 27 (by omega)
    have k28 := m_back (f_X11_refusal_32 τ).2 (f_X11_refusal_32 τ).1 28 (by omega)
    generalize f_X11_back_32 (f_X11_refusal_32 τ).2 (f_X11_refusal_32 τ).1 = ω at *
    rcases w_02 hw with rfl | rfl | rfl <;> rcases t3 with ⟨a1, a2⟩ | ⟨A, -, -, v, ⟨a1, a2, w1, w2, w3, w4, w5⟩ | ⟨a1, a2, e, he, w1, w2, w3⟩⟩ <;> rw [a1, a2]
    · exact ⟨by simp (decide := true), by simpa (decide := true) using iv⟩
    · exact ⟨by simp (decide := true) [k27, w1, w2], by simpa (decide := true) using iv⟩
    · exact ⟨by simp (decide := true) [k27, w1, w2], by simpa (decide := true) using iv⟩
    · exact ⟨by simp (decide := true), by simpa (decide := true) using iv⟩
    · exact ⟨by simp (decide := true) [k28, w3, w4], by simpa (decide := true) using iv⟩
    · exact ⟨by simp (decide := true) [k28, w3], by simpa (decide := true) using iv⟩
    · exact ⟨by simp (decide := true), by simpa (decide := true) using iv⟩
    · exact ⟨by simp (decide := true) [k23, v.2.1], by simpa (decide := true) using iv⟩
    · exact ⟨by simp (decide := true), by simpa (decide := true) using iv⟩
  · rw [if_neg hw, if_neg hw]
    exact ⟨rfl, h⟩
theorem e_candour (h : iv_R T σ τ) (what : Int32) : (f_X11_candour_32 τ what).1 = (f_X10_candour_0 σ what).1 ∧ iv_R T (f_X10_candour_0 σ what).2 (f_X11_candour_32 τ what).2 := by
  obtain ⟨t1, t2, t3⟩ := e_text h
  unfold f_X11_candour_32 f_X10_candour_0
  rw [m_w what 0 1 (by decide) (by decide)]
  split
  · unfold f_X11_candour_32_a f_X11_candour_32_b f_X10_candour_0_a
    have iv := kp_back h (c_fr1 t2) t1 (f_X11_refusal_32 τ).1
    rw [m_back1]
    have k24 := m_back (f_X11_refusal_32 τ).2 (f_X11_refusal_32 τ).1 24 (by omega)
    have k29 := m_back (f_X11_refusal_32 τ).2 (f_X11_refusal_32 τ).1 29 (by omega)
    generalize f_X11_back_32 (f_X11_refusal_32 τ).2 (f_X11_refusal_32 τ).1 = ω at *
    rcases t3 with ⟨a1, a2⟩ | ⟨A, -, -, v, ⟨a1, a2, w1, w2, w3, w4, w5⟩ | ⟨a1, a2, e, he, w1, w2, w3⟩⟩
    · rw [a1, a2, if_neg (by decide), if_neg (by decide)]
      exact ⟨rfl, iv⟩
    · rw [a1, a2, if_pos rfl, if_pos rfl, k24, k29, v.2.2.1, v.2.2.2.1]
      split
      · exact ⟨rfl, iv⟩
      · exact ⟨rfl, iv⟩
    · rw [a1, a2, if_neg (by decide), if_neg (by decide)]
      exact ⟨rfl, iv⟩
  · exact ⟨rfl, h⟩
theorem e_behind (h : iv_R T σ τ) (b : Int32) : (f_X11_behind_32 τ b).1 = (f_X10_behind_0 σ b).1 ∧ iv_R T (f_X10_behind_0 σ b).2 (f_X11_behind_32 τ b).2 := by
  obtain ⟨t1, t2, t3⟩ := e_text h
  unfold f_X11_behind_32 f_X10_behind_0
  rw [m_isBall]
  split
  · rename_i hb
    obtain ⟨B, hB, rfl, cB⟩ := tb_b3 (bz_ball hb)
    unfold f_X11_behind_32_a f_X10_behind_0_a f_X11_behind_32_b f_X11_behind_32_c
    have iv := kp_back h (c_fr1 t2) t1
    rw [cB]
    rcases t3 with ⟨a1, a2⟩ | ⟨A, -, -, v, ⟨a1, a2, w⟩ | ⟨a1, a2, w⟩⟩
    · rw [a1, a2, if_neg (by decide), if_neg (by decide)]
      exact ⟨rfl, iv _⟩
    · rw [a1, a2, if_pos rfl, if_pos rfl]
      exact ⟨(tb_tell9 v.1.1 hB).symm, iv _⟩
    · rw [a1, a2, if_neg (by decide), if_neg (by decide)]
      exact ⟨rfl, iv _⟩
  · exact ⟨rfl, h⟩
theorem e_down (h : tb_R (σ.1 10) (τ.1 33)) : f_X11_downMany_32 τ = f_X6_howManyDown_9 σ := by
  unfold f_X11_downMany_32 f_X6_howManyDown_9
  have q : ∀ b, b < 3 → ((f_X6_isDown_9 σ (nI b) = true) ↔ ¬ 0 ≤ τ.1 33 b) := fun b hb => (c_dn9 hb).trans ((tb_c_dn (h.1 b hb)).trans ⟨Int32.not_le.mpr, Int32.not_le.mp⟩)
  have q0 : (f_X6_isDown_9 σ 0 = true) ↔ ¬ 0 ≤ τ.1 33 0 := q 0 (by omega)
  have q1 : (f_X6_isDown_9 σ 1 = true) ↔ ¬ 0 ≤ τ.1 33 1 := q 1 (by omega)
  have q2 : (f_X6_isDown_9 σ 2 = true) ↔ ¬ 0 ≤ τ.1 33 2 := q 2 (by omega)
  by_cases a : 0 ≤ τ.1 33 0 <;> by_cases b : 0 ≤ τ.1 33 1 <;> by_cases c : 0 ≤ τ.1 33 2 <;> simp [q0, q1, q2, a, b, c]
theorem e_table (h : iv_R T σ τ) (what : Int32) : (f_X11_table_32 τ what).1 = (f_X10_table_0 σ what).1 ∧ iv_R T (f_X10_table_0 σ what).2 (f_X11_table_32 τ what).2 := by
  obtain ⟨t1, t2, t3⟩ := e_text h
  unfold f_X11_table_32 f_X10_table_0
  rw [m_w what 0 3 (by decide) (by decide)]
  split
  · rename_i hw
    unfold f_X11_table_32_a f_X10_table_0_a f_X11_table_32_b f_X11_table_32_c f_X11_table_32_d f_X11_table_32_e f_X11_table_32_f
    have iv := kp_back h (c_fr1 t2) t1
    rcases t3 with ⟨a1, a2⟩ | ⟨A, -, -, v, ⟨a1, a2, w⟩ | ⟨a1, a2, w⟩⟩
    · rw [a1, a2, if_neg (by decide), if_neg (by decide)]
      exact ⟨rfl, iv _⟩
    · rw [a1, a2, if_pos rfl, if_pos rfl]
      split
      · exact ⟨v.1.2.1, iv _⟩
      · split
        · exact ⟨v.1.2.2.1, iv _⟩
        · split
          · exact ⟨e_down v.1.1, iv _⟩
          · exact ⟨v.1.2.2.2.1, iv _⟩
    · rw [a1, a2, if_neg (by decide), if_neg (by decide)]
      exact ⟨rfl, iv _⟩
  · exact ⟨rfl, h⟩
theorem e_done (h : iv_R T σ τ) : (f_X11_done_32 τ).1 = (f_X10_done_0 σ).1 ∧ iv_R T (f_X10_done_0 σ).2 (f_X11_done_32 τ).2 := by
  obtain ⟨t1, t2, t3⟩ := e_text h
  unfold f_X11_done_32 f_X10_done_0 f_X11_done_32_a f_X10_done_0_a f_X10_done_0_b f_X10_done_0_c f_X11_done_32_b f_X3_empty_6
  have iv := kp_back h (c_fr1 t2) t1
  rcases t3 with ⟨a1, a2⟩ | ⟨A, hA, h13, v, ⟨a1, a2, w1, w2, w3, w4, w5⟩ | ⟨a1, a2, w⟩⟩
  · rw [a1, a2, if_neg (by decide), if_neg (by decide)]
    exact ⟨rfl, iv _⟩
  · rw [a1, a2, if_pos rfl, if_pos rfl]
    have fc := rf_X6_copy_1_9 (f_X10_tryText_0 σ).2
    have c2 : ∀ b, b < 3 → (f_X6_copy_1_9 (f_X10_tryText_0 σ).2).1 2 b = (f_X10_tryText_0 σ).2.1 10 b := by
      intro b hb
      unfold f_X6_copy_1_9
      rcases (show b = 0 ∨ b = 1 ∨ b = 2 by omega) with rfl | rfl | rfl <;> simp [bz_up]
    have c1 : (f_X6_copy_1_9 (f_X10_tryText_0 σ).2).1 1 1 = (f_X10_tryText_0 σ).2.1 9 1 ∧ (f_X6_copy_1_9 (f_X10_tryText_0 σ).2).1 1 2 = (f_X10_tryText_0 σ).2.1 9 2 ∧ (f_X6_copy_1_9 (f_X10_tryText_0 σ).2).1 1 3 = (f_X10_tryText_0 σ).2.1 9 3 := by
      unfold f_X6_copy_1_9
      simp [bz_up]
    have o : ∀ o, o ≠ 1 → o ≠ 2 → o ≠ 8 → o ≠ 9 → o ≠ 10 → o ≠ 11 → (f_X6_copy_1_9 (f_X10_tryText_0 σ).2).1 o = σ.1 o := by
      intro o z1 z2 z8 z9 z10 z11
      refine (bz_fr_at fc o ?_).trans (bz_fr_at t2 o ?_)
      · simp only [List.mem_cons, List.not_mem_nil, or_false]; omega
      · simp only [List.mem_cons, List.not_mem_nil, or_false]; omega
    have c8 : (f_X6_copy_1_9 (f_X10_tryText_0 σ).2).1 8 = (f_X10_tryText_0 σ).2.1 8 := bz_fr_at fc 8 (by decide)
    generalize f_X6_copy_1_9 (f_X10_tryText_0 σ).2 = ω at *
    generalize f_X10_tryText_0 σ = ρ at *
    generalize f_X11_refusal_32 τ = μ at *
    obtain ⟨k1, k2, k3, k4, k5, k6⟩ := t1
    obtain ⟨q1, ⟨N, n1, n2, n3, n4⟩, q3, q4, q5, q6⟩ := h
    have g := fun o (ho : o ∉ [32, 33, 37, 38, 39, 40, 41, 42]) => bz_fr_at k1 o ho
    have p1 : ∀ o, o ≠ 6 → (bz_up ω.1 6 1 0) o = ω.1 o := fun o ho => up_o1 ho
    have p2 : ∀ o, o ≠ 32 → (bz_up μ.2.1 32 8 0) o = μ.2.1 o := fun o ho => up_o1 ho
    refine ⟨?_, ⟨tb_R_c v.1.1 (fun b hb => ?_) (fun b hb => ?_), ?_, ?_, ?_, ?_⟩, ⟨0, by omega, bz_up_s1, bz_up_s1, fun k hk => ?_⟩, ?_, ?_, ?_, ?_⟩
    · show μ.2.1 32 13 = bz_up ω.1 6 1 0 8 2
      rw [congrFun (p1 8 (by decide)) 2, c8, h13, w5]
    · show bz_up ω.1 6 1 0 2 b = _
      rw [congrFun (p1 2 (by decide)) b]; exact c2 b hb
    · exact congrFun (p2 33 (by decide)) b
    · show bz_up μ.2.1 32 8 0 32 1 = bz_up ω.1 6 1 0 1 1
      rw [congrFun (p1 1 (by decide)) 1, bz_up_k (by decide), c1.1]; exact v.1.2.1
    · show bz_up μ.2.1 32 8 0 32 2 = bz_up ω.1 6 1 0 1 2
      rw [congrFun (p1 1 (by decide)) 2, bz_up_k (by decide), c1.2.1]; exact v.1.2.2.1
    · show bz_up μ.2.1 32 8 0 32 3 = bz_up ω.1 6 1 0 1 3
      rw [congrFun (p1 1 (by decide)) 3, bz_up_k (by decide), c1.2.2]; exact v.1.2.2.2.1
    · show tb_E (bz_up ω.1 6 1 0 1 3)
      rw [congrFun (p1 1 (by decide)) 3, c1.2.2]; exact v.1.2.2.2.2
    · show bz_up μ.2.1 32 8 0 36 k = bz_up ω.1 6 1 0 7 k
      rw [congrFun (p1 7 (by decide)) k, congrFun (p2 36 (by decide)) k, g 36 (by decide), o 7 (by decide) (by decide) (by decide) (by decide) (by decide) (by decide)]
      exact n4 k hk
    · refine sg_R_c q3 ((p1 3 (by decide)).trans (o 3 (by decide) (by decide) (by decide) (by decide) (by decide) (by decide))) ((p1 4 (by decide)).trans (o 4 (by decide) (by decide) (by decide) (by decide) (by decide) (by decide))) ((p1 5 (by decide)).trans (o 5 (by decide) (by decide) (by decide) (by decide) (by decide) (by decide))) ?_ ((p2 34 (by decide)).trans (g 34 (by decide))) ((p2 35 (by decide)).trans (g 35 (by decide)))
      exact (show bz_up μ.2.1 32 8 0 32 6 = μ.2.1 32 6 from bz_up_k (by decide)).trans (k2 6 (by omega))
    · exact hp_R_c q4 ((p1 17 (by decide)).trans (o 17 (by decide) (by decide) (by decide) (by decide) (by decide) (by decide))) ((p1 18 (by decide)).trans (o 18 (by decide) (by decide) (by decide) (by decide) (by decide) (by decide)))
    · exact im_R_c q5 (fun q hq => (p1 _ (by omega)).trans (o _ (by omega) (by omega) (by omega) (by omega) (by omega) (by omega))) ((p2 50 (by decide)).trans (g 50 (by decide))) ((p2 51 (by decide)).trans (g 51 (by decide)))
    · exact im_R_c q6 (fun q hq => (p1 _ (by omega)).trans (o _ (by omega) (by omega) (by omega) (by omega) (by omega) (by omega))) ((p2 50 (by decide)).trans (g 50 (by decide))) ((p2 51 (by decide)).trans (g 51 (by decide)))
  · rw [a1, a2, if_neg (by decide), if_neg (by decide)]
    exact ⟨rfl, iv _⟩
end CR
