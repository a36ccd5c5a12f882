/-! WHAT COMES OF A STROKE; nap; acts -/
theorem c_touch_0 (σ : bz_S) (ly sp : Int32) : (f_X5_touch_11 σ ly sp).1 11 0 = σ.1 11 0 := by
  unfold f_X5_touch_11
  split <;> simp [bz_up]
theorem c_A_0 (σ : bz_S) (mv wy : Int32) : (c_A σ mv wy).1 11 0 = σ.1 11 0 := by
  unfold c_A
  split <;> simp [bz_up]
theorem c_run_0 : ∀ (n : Nat) (σ : bz_S) (mv wy sp : Int32), (lp_run n σ mv wy sp).1 11 0 = σ.1 11 0 := by
  intro n
  induction n with
  | zero => intro σ mv wy sp; rw [lp_run]
  | succ n ih =>
    intro σ mv wy sp
    by_cases hd : σ.1 11 3 = -1
    · rw [c_run _ _ _ _ _ hd]
      split
      · split
        · rw [ih, ← c_A_0 σ mv wy]
          simp [bz_up]
        · rw [ih, ← c_A_0 σ mv wy]
          simp [bz_up]
      · rw [ih, c_touch_0, c_A_0]
    · rw [lp_run, if_neg hd]
theorem e_run {σ τ : bz_S} {B w F : Nat} (hB : B < 3) (hw : w < 8) (hF : F < 100) (h : tb_R (σ.1 10) (τ.1 33)) (hu : ¬ σ.1 10 B = -1) : (f_X5_run_11_9 σ (nI B) (nI w) (nI F)).1 11 0 = nI B ∧ ∃ mv wy n, st_R (f_X5_run_11_9 σ (nI B) (nI w) (nI F)) (f_X11_send_32 τ (nI B) (nI w) (nI F)) mv wy F n ∧ ∀ O, O < 3 → ¬ O = B → σ.1 10 O = -1 → ¬ (f_X5_run_11_9 σ (nI B) (nI w) (nI F)).1 11 4 = nI O := by
  unfold f_X5_run_11_9 f_X5_run_11_9_a f_X11_send_32
  rw [nI_clamp (by omega), c_run_0]
  have b0 : (f_X5_begin_11 σ (nI B)).1 10 = σ.1 10 := bz_fr_at (rf_X5_begin_11 σ (nI B)) 10 (by decide)
  refine ⟨by unfold f_X5_begin_11; simp [bz_up], ?_⟩
  have go := st_run hF rfl F (f_X5_begin_11 σ (nI B)) ((bz_up (bz_up (bz_up (bz_up (bz_up (bz_up (bz_up (bz_up (bz_up τ.1 32 14 (nI B)) 32 15 (nI w)) 32 16 (nI F)) 32 17 0) 32 18 0) 32 19 (-6)) 32 20 (-6)) 32 21 (-6)) 32 22 (-6)), τ.2) (nI B) (nI w) 1 (Nat.le_refl _) (by rw [Nat.sub_self]; rfl) ?_
  · obtain ⟨mv, wy, n, r1, r2⟩ := go
    refine ⟨mv, wy, n, r1, fun O hO ne dn => (r2 O hO ⟨by rw [b0]; exact dn, fun z => ne ((nI_eq (by omega) (by omega)).mp z).symm, ?_⟩).2.2⟩
    unfold f_X5_begin_11
    simp only [bz_up]
    intro z
    exact tb_nd (a := O) (by omega) (by simpa using z.symm)
  refine ⟨?_, ⟨B, hB, rfl, fun _ => by rw [b0]; exact hu⟩, ⟨w, hw, rfl⟩, ?_, ?_, ?_, ?_, Or.inl ⟨?_, ?_⟩, 0, by omega, ?_, ?_, Or.inl ⟨rfl, ?_, ?_, ?_, ?_⟩⟩
  · rw [b0]
    refine tb_R_c h (fun b _ => rfl) (fun b _ => by simp [bz_up])
  · simp [bz_up]
  · simp [bz_up]
  · simp [bz_up]
  · unfold f_X5_begin_11; simp [bz_up]
  · unfold f_X5_begin_11; simp [bz_up]
  · simp [bz_up]
  · unfold f_X5_begin_11; simp [bz_up]; rfl
  · simp [bz_up]; rfl
  · unfold f_X5_begin_11; simp [bz_up]
  · simp [bz_up]
  · unfold f_X5_begin_11; simp [bz_up]
  · simp [bz_up]
/-- what the model adds for a stroke -/
def m_pt (τ : bz_S) (b : Int32) : Int32 := (if τ.1 32 17 ≤ 1 then 0 else 2) + (if τ.1 32 22 < 0 then 0 else (if τ.1 32 22 = b then 0 else 3))
def m_fl (τ : bz_S) (b : Int32) : Int32 := (if τ.1 32 22 = b then 1 else 0) + (if τ.1 32 17 ≤ 0 then 0 else (if τ.1 32 19 = 0 then 1 else 0))
theorem m_str (τ : bz_S) (b w fo : Int32) (τ1 : bz_S) : (f_X11_stroke_32_a τ b w fo τ1).1 32 1 = τ1.1 32 1 + m_pt τ1 b ∧ (f_X11_stroke_32_a τ b w fo τ1).1 32 2 = τ1.1 32 2 + m_fl τ1 b ∧ (f_X11_stroke_32_a τ b w fo τ1).1 32 23 = τ1.1 32 23 + τ1.1 32 17 ∧ (f_X11_stroke_32_a τ b w fo τ1).1 32 24 = τ1.1 32 24 + τ1.1 32 18 ∧ (f_X11_stroke_32_a τ b w fo τ1).1 32 3 = τ1.1 32 3 ∧ (f_X11_stroke_32_a τ b w fo τ1).1 33 = τ1.1 33 := by
  unfold f_X11_stroke_32_a m_pt m_fl
  by_cases h1 : τ1.1 32 17 ≤ 1 <;> by_cases h2 : τ1.1 32 22 < 0 <;> by_cases h3 : τ1.1 32 22 = b <;> by_cases h4 : τ1.1 32 17 ≤ 0 <;> by_cases h5 : τ1.1 32 19 = 0 <;> (try first | simp only [if_pos h1] | simp only [if_neg h1]) <;> (try first | simp only [if_pos h2] | simp only [if_neg h2]) <;> (try first | simp only [if_pos h3] | simp only [if_neg h3]) <;> (try first | simp only [if_pos h4] | simp only [if_neg h4]) <;> (try first | simp only [if_pos h5] | simp only [if_neg h5]) <;> exact ⟨by simp [bz_up, Int32.add_assoc], by simp [bz_up, Int32.add_assoc], by simp [bz_up], by simp [bz_up], by simp [bz_up], by funext q; simp [bz_up]⟩
theorem c_pt {σ τ : bz_S} {B F n : Nat} (hB : B < 3) (hF : F < 100) (h0 : σ.1 11 0 = nI B) (hd : dn_R σ τ) (hf : fs_R σ τ F n) : f_X5_pointsMore_11 σ = m_pt τ (nI B) ∧ f_X5_foulsMore_11 σ = m_fl τ (nI B) := by
  obtain ⟨Tn, t1, t2, t3, t4⟩ := hf
  have q2 : (nI Tn < 2) ↔ (nI Tn ≤ 1) := by
    rw [show (nI Tn < 2) ↔ Tn < 2 from nI_ltI (b := 2) (by omega) (by omega), show (nI Tn ≤ 1) ↔ Tn ≤ 1 from nI_leI (b := 1) (by omega) (by omega)]
    omega
  have q0 : (nI Tn ≤ 0) ↔ Tn = 0 := by
    rw [show (nI Tn ≤ 0) ↔ Tn ≤ 0 from nI_leI (b := 0) (by omega) (by omega)]
    omega
  have k6 : ¬ Tn = 0 → τ.1 32 19 = σ.1 11 6 := by
    intro z
    rcases t4 with ⟨r, -⟩ | ⟨-, -, -, r, -⟩
    · exact absurd r z
    · exact r
  unfold f_X5_pointsMore_11 f_X5_foulsMore_11 m_pt m_fl
  rw [t2, t3, h0]
  have e19 : (if nI Tn ≤ 0 then (0 : Int32) else (if τ.1 32 19 = 0 then 1 else 0)) = (if nI Tn ≤ 0 then 0 else (if σ.1 11 6 = 0 then 1 else 0)) := by
    by_cases z : Tn = 0
    · rw [if_pos (q0.mpr z), if_pos (q0.mpr z)]
    · rw [if_neg (fun w => z (q0.mp w)), if_neg (fun w => z (q0.mp w)), k6 z]
  rw [e19]
  rcases hd with ⟨d1, d2⟩ | ⟨b, hb, d1, d2⟩
  · rw [d1, d2, if_pos rfl, if_pos rfl, if_pos (show (-6 : Int32) < 0 by decide), if_neg (show ¬ (-1 : Int32) = nI B from fun z => tb_nd (by omega) z.symm), if_neg (show ¬ (-6 : Int32) = nI B from fun z => bz_nI6 (by omega) z.symm)]
    refine ⟨?_, (Int32.zero_add _).symm⟩
    by_cases z : nI Tn < 2
    · rw [if_pos z, if_pos (q2.mp z)]; rfl
    · rw [if_neg z, if_neg (fun w => z (q2.mpr w))]; rfl
  · rw [d1, d2, if_neg (tb_nd (by omega)), if_neg (tb_nd (by omega)), if_neg (nI_pos (by omega))]
    by_cases e : nI b = nI B
    · rw [if_pos e, if_pos e, if_pos e, if_pos e]
      refine ⟨?_, ?_⟩
      · by_cases z : nI Tn < 2
        · rw [if_pos z, if_pos (q2.mp z)]; rfl
        · rw [if_neg z, if_neg (fun w => z (q2.mpr w))]; rfl
      · split
        · rfl
        · split <;> rfl
    · rw [if_neg e, if_neg e, if_neg e, if_neg e]
      refine ⟨?_, (Int32.zero_add _).symm⟩
      by_cases z : nI Tn < 2
      · rw [if_pos z, if_pos (q2.mp z)]; rfl
      · rw [if_neg z, if_neg (fun w => z (q2.mpr w))]; rfl
theorem e_play {σ τ : bz_S} {B w F : Nat} (hB : B < 3) (hw : w < 8) (hF : F < 100) (h : tr_R 10 9 σ τ) (hu : ¬ σ.1 10 B = -1) : tr_R 10 9 (f_X8_play_8 σ (nI B) (nI w) (nI F)) (f_X11_stroke_32 τ (nI B) (nI w) (nI F)) ∧ (τ.1 32 23 = σ.1 8 5 → (f_X11_stroke_32 τ (nI B) (nI w) (nI F)).1 32 23 = (f_X8_play_8 σ (nI B) (nI w) (nI F)).1 8 5) ∧ (τ.1 32 24 = σ.1 8 6 → (f_X11_stroke_32 τ (nI B) (nI w) (nI F)).1 32 24 = (f_X8_play_8 σ (nI B) (nI w) (nI F)).1 8 6) ∧ ∀ k, k ≠ 5 → k ≠ 6 → (f_X8_play_8 σ (nI B) (nI w) (nI F)).1 8 k = σ.1 8 k := by
  obtain ⟨r0, mv, wy, n, hs, -⟩ := e_run hB hw hF h.1 hu
  have fr := rf_X5_run_11_9 σ (nI B) (nI w) (nI F)
  have fm := qf_X11_send_32 τ (nI B) (nI w) (nI F)
  unfold f_X8_play_8 f_X11_stroke_32 f_X8_play_8_a
  generalize f_X5_run_11_9 σ (nI B) (nI w) (nI F) = σ1 at *
  generalize f_X11_send_32 τ (nI B) (nI w) (nI F) = τ1 at *
  obtain ⟨p1, p2⟩ := c_pt hB hF r0 hs.2.2.2.2.2.2.2.1 hs.2.2.2.2.2.2.2.2
  obtain ⟨m1, m2, m3, m4, m5, m6⟩ := m_str τ (nI B) (nI w) (nI F) τ1
  have hk18 := hs.2.2.2.2.2.2.1
  obtain ⟨Tn, t1, t2, t3, -⟩ := hs.2.2.2.2.2.2.2.2
  have f9 : σ1.1 9 = σ.1 9 := bz_fr_at fr 9 (by decide)
  have f8 : σ1.1 8 = σ.1 8 := bz_fr_at fr 8 (by decide)
  have fl : f_X5_foulsMore_11 ((bz_up σ1.1 9 1 ((σ1.1 9 1) + (f_X5_pointsMore_11 σ1))), σ1.2) = f_X5_foulsMore_11 σ1 := by
    unfold f_X5_foulsMore_11
    simp [bz_up]
  rw [fl, p1, p2]
  refine ⟨⟨?_, ?_, ?_, ?_, ?_⟩, fun e => ?_, fun e => ?_, fun k k5 k6 => ?_⟩
  · refine tb_R_c hs.1 (fun b _ => by simp [bz_up]) (fun b _ => by rw [m6])
  · rw [m1, fm 1 (by decide), h.2.1, ← f9]
    simp [bz_up]
  · rw [m2, fm 2 (by decide), h.2.2.1, ← f9]
    simp [bz_up]
  · rw [m5, fm 3 (by decide), h.2.2.2.1, ← f9]
    simp [bz_up]
  · have := h.2.2.2.2
    rw [← f9] at this
    simpa [bz_up] using this
  · rw [m3, fm 23 (by decide), e, t3, ← f8, ← t2]
    simp [bz_up]
  · rw [m4, fm 24 (by decide), e, hk18, ← f8]
    simp [bz_up]
  · rw [← f8]
    show bz_up (bz_up (bz_up (bz_up σ1.1 9 1 _) 9 2 _) 8 5 _) 8 6 _ 8 k = σ1.1 8 k
    rw [bz_up_k k6, bz_up_k k5, bz_up_o (by decide), bz_up_o (by decide)]
