/-! ALONE: both sides answer alike -/
theorem c_bc_all : ∀ s : Fin 360, f_J13_bitCount_95d88 (lN (wO 16 s 0)) = nI (mM 400 s 0 0) := by decide +kernel
section AL
variable {T : Nat → Int32} {σ τ : bz_S}
theorem w_07 {x : Int32} (h : f_X10_isWithin x 0 7 = true) : ∃ b, b < 8 ∧ x = nI b := by
  obtain ⟨j, j1, j2, rfl⟩ := bz_wN (a := 0) (b := 7) (by decide) (by decide) (by decide) h
  exact ⟨j, by omega, rfl⟩
theorem e_alone (h : iv_R T σ τ) (c w n what : Int32) : (f_X11_alone_32 τ c w n what).1 = (f_X10_alone_0 σ c w n what).1 ∧ iv_R T (f_X10_alone_0 σ c w n what).2 (f_X11_alone_32 τ c w n what).2 := by
  refine ⟨?_, iv_c h (bz_fr_mo (rf_X10_alone_0 σ c w n what) (by decide)) (bz_fr_mo (rf_X11_alone_32 τ c w n what) (by decide)) (fun k _ => congrFun (bz_fr_at (rf_X11_alone_32 τ c w n what) 32 (by decide)) k) (fun b _ => congrFun (bz_fr_at (rf_X11_alone_32 τ c w n what) 33 (by decide)) b)⟩
  unfold f_X11_alone_32 f_X10_alone_0
  rw [m_isPlace, m_w w 0 7 (by decide) (by decide), m_w n 0 99999 (by decide) (by decide), m_w what 0 2 (by decide) (by decide)]
  split
  · rename_i hc
    split
    · rename_i hw
      split
      · rename_i hn
        split
        · rename_i hq
          obtain ⟨A, hA, rfl, -⟩ := tb_pl hc
          obtain ⟨B, hB, rfl⟩ := w_07 hw
          obtain ⟨N, n1, n2, rfl⟩ := bz_wN (a := 0) (b := 99999) (by decide) (by decide) (by decide) hn
          obtain ⟨s, hs, eA, eB⟩ : ∃ s, s < 360 ∧ A = s / 8 ∧ B = s % 8 := ⟨8 * A + B, by omega, by omega, by omega⟩
          subst eA
          subst eB
          have cd : (10 * nI (s / 8)) + nI (s % 8) = cdN s := bz_10 rfl rfl
          rw [cd]
          obtain ⟨w1, w2, w3⟩ := c_walk12 σ hs
          unfold f_X10_alone_0_a f_X11_alone_32_a
          rcases w_02 hq with rfl | rfl | rfl
          · rw [if_pos rfl, if_pos rfl]
            show _ / 10 = _
            rw [m_beh hs (by omega), c_beh σ hs (by omega)]
          · rw [if_neg (by decide), if_pos rfl, if_neg (by decide), if_pos rfl]
            show f_X11_stepsBack (cdN s) = (f_X7_walk_12 σ (nI (s / 8)) (nI (s % 8))).1 12 1
            rw [w1]
            unfold f_X11_stepsBack
            rw [bz_k_eq]
            have nx : f_X11_next (cdN s) = cdN (sN s) := (sN_ok hs).2.2.2
            have e := m_sb hs 399 (sN s) 1 (sN_lt ⟨s, hs⟩) (by omega) (by omega)
            have e' : lp_sb (cdN s) 399 (cdN (sN s)) 1 = nB (mB s 399 (sN s) 1) := e
            rw [nx, e', mB_wB ⟨s, hs⟩]
          · rw [if_neg (by decide), if_neg (by decide), if_neg (by decide), if_neg (by decide)]
            show (f_X11_metMany_32 τ (cdN s)).1 = f_J13_bitCount_95d88 ((f_X7_walk_12 σ (nI (s / 8)) (nI (s % 8))).2 12 2)
            rw [w2, m_met τ hs]
            exact (c_bc_all ⟨s, hs⟩).symm
        · rfl
      · rfl
    · rfl
  · rfl
end AL
