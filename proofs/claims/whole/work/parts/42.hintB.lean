/-! HINTS -/
section HB
variable {T : Nat → Int32} {σ τ : bz_S}
theorem e_force (h : iv_R T σ τ) {B O w : Nat} (hB : B < 3) (hO : O < 3) (hne : ¬ O = B) (hw : w < 8) (c : Int32) (hu : ¬ σ.1 2 B = -1) : (f_X11_stepsBy_32 τ (nI B) (nI O) c (nI w)).1 = (f_X8_forceToTouch_8_1 σ (nI B) (nI w) (nI O) c).1 ∧ hr (f_X8_forceToTouch_8_1 σ (nI B) (nI w) (nI O) c).1 ∧ (σ.1 2 O = -1 → (f_X8_forceToTouch_8_1 σ (nI B) (nI w) (nI O) c).1 = -6) ∧ iv_R T σ (f_X11_stepsBy_32 τ (nI B) (nI O) c (nI w)).2 := by
  have fk := rf_X11_keepNow_32 τ
  have tr := c_begin_tr h (τ' := f_X11_keepNow_32 τ) (fun b _ => congrFun (bz_fr_at fk 33 (by decide)) b) (fun k _ _ => congrFun (bz_fr_at fk 32 (by decide)) k)
  obtain ⟨b0, -⟩ := c_begin σ
  obtain ⟨-, mv, wy, n, hs, ho⟩ := e_run (σ := f_X8_begin_8_1 σ) (τ := f_X11_keepNow_32 τ) hB hw (F := 9) (by omega) tr.1 (by rw [b0 B hB]; exact hu)
  have kp : kp_R τ (f_X11_send_32 (f_X11_keepNow_32 τ) (nI B) (nI w) 9) := kp_tr (kp_keep τ) (bz_fr_mo (rf_X11_send_32 _ _ _ _) (by decide)) (fun k hk => qf_X11_send_32 _ _ _ _ k (by rcases hk with rfl | rfl <;> decide))
  have iv := kp_back h (bz_fr_rf : bz_fr [8, 9, 10, 11, 12, 13, 14, 15, 16] σ σ) kp
  unfold f_X11_stepsBy_32 f_X11_stepsBy_32_a f_X11_stepsBy_32_b f_X11_stepsBy_32_c f_X11_stepsBy_32_d f_X11_stepsBy_32_e f_X8_forceToTouch_8_1 f_X8_forceToTouch_8_1_a f_X8_forceToTouch_8_1_b
  have hs' : st_R (f_X5_run_11_9 (f_X8_begin_8_1 σ) (nI B) (nI w) 9) (f_X11_send_32 (f_X11_keepNow_32 τ) (nI B) (nI w) 9) mv wy 9 n := hs
  have ho' : ∀ O, O < 3 → ¬ O = B → (f_X8_begin_8_1 σ).1 10 O = -1 → ¬ (f_X5_run_11_9 (f_X8_begin_8_1 σ) (nI B) (nI w) 9).1 11 4 = nI O := ho
  generalize f_X5_run_11_9 (f_X8_begin_8_1 σ) (nI B) (nI w) 9 = σ1 at *
  generalize f_X11_send_32 (f_X11_keepNow_32 τ) (nI B) (nI w) 9 = τ1 at *
  obtain ⟨Tn, -, -, -, t4⟩ := hs'.2.2.2.2.2.2.2.2
  rcases t4 with ⟨-, r2, r3, -, -⟩ | ⟨-, -, r3, r4, r5, s, s1, s2⟩
  · rw [r2, r3, if_neg (show ¬ (-6 : Int32) = nI O from fun z => bz_nI6 (by omega) z.symm), if_neg (show ¬ (-1 : Int32) = nI O from fun z => tb_nd (by omega) z.symm)]
    exact ⟨rfl, Or.inl rfl, fun _ => rfl, iv _⟩
  · rw [r3, r4]
    by_cases z : σ1.1 11 4 = nI O
    · rw [if_pos z, if_pos z]
      have nd : ¬ σ.1 2 O = -1 := fun w => ho' O hO hne (by rw [b0 O hO]; exact w) z
      by_cases y : σ1.1 11 6 = c
      · rw [if_pos y, if_pos y]
        exact ⟨r5, Or.inr ⟨s, s1, s2⟩, fun w => absurd w nd, iv _⟩
      · rw [if_neg y, if_neg y]
        exact ⟨rfl, Or.inl rfl, fun w => absurd w nd, iv _⟩
    · rw [if_neg z, if_neg z]
      exact ⟨rfl, Or.inl rfl, fun _ => rfl, iv _⟩
theorem c_force_iv (h : iv_R T σ τ) (a b c d : Int32) : iv_R T (f_X8_forceToTouch_8_1 σ a b c d).2 τ := iv_c h (c_fr1 (rf_X8_forceToTouch_8_1 σ a b c d)) bz_fr_rf (fun _ _ => rfl) (fun _ _ => rfl)
theorem c_hint {B O : Nat} (hB : B < 3) (hO : O < 3) (hne : ¬ O = B) (c what : Int32) (r : Nat → Int32) (hr1 : ∀ i, i < 8 → r i = (f_X11_stepsBy_32 τ (nI B) (nI O) c (nI i)).1) : ∀ (n : Nat) (σ : bz_S) (lf lw : Int32) (i : Nat), i + n = 8 → iv_R T σ τ → ¬ σ.1 2 B = -1 → (lp_hint (nI B) (nI O) c what n σ lf lw (nI i)).1 = (if what = 0 then (hu r n i (lf, lw)).1 else (hu r n i (lf, lw)).2) ∧ iv_R T (lp_hint (nI B) (nI O) c what n σ lf lw (nI i)).2 τ := by
  intro n
  induction n with
  | zero =>
    intro σ lf lw i hi h hd
    rw [lp_hint, hu]
    by_cases w : what = 0
    · rw [if_pos w, if_pos w]; exact ⟨rfl, h⟩
    · rw [if_neg w, if_neg w]; exact ⟨rfl, h⟩
  | succ n ih =>
    intro σ lf lw i hi h hd
    rw [lp_hint, hu]
    unfold lp_hint_a
    obtain ⟨f1, -, -, -⟩ := e_force h hB hO hne (show i < 8 by omega) c hd
    rw [← f1, ← hr1 i (by omega), nI_1]
    have iv := c_force_iv h (nI B) (nI i) (nI O) c
    have hd' : ¬ (f_X8_forceToTouch_8_1 σ (nI B) (nI i) (nI O) c).2.1 2 B = -1 := by
      rw [bz_fr_at (rf_X8_forceToTouch_8_1 σ (nI B) (nI i) (nI O) c) 2 (by decide)]; exact hd
    generalize f_X8_forceToTouch_8_1 σ (nI B) (nI i) (nI O) c = ρ at *
    by_cases a : r i = -6
    · rw [if_pos a, if_pos a]
      exact ih _ _ _ (i + 1) (by omega) iv hd'
    · rw [if_neg a, if_neg a]
      by_cases b : lf = -6
      · rw [if_pos b, if_pos (show (lf, lw).1 = -6 from b)]
        exact ih _ _ _ (i + 1) (by omega) iv hd'
      · rw [if_neg b, if_neg (show ¬ (lf, lw).1 = -6 from b)]
        by_cases d : lf ≤ r i
        · rw [if_pos d, if_pos (show (lf, lw).1 ≤ r i from d)]
          exact ih _ _ _ (i + 1) (by omega) iv hd'
        · rw [if_neg d, if_neg (show ¬ (lf, lw).1 ≤ r i from d)]
          exact ih _ _ _ (i + 1) (by omega) iv hd'
theorem m_hint {B O : Nat} (hB : B < 3) (hO : O < 3) (hne : ¬ O = B) (c what : Int32) (r : Nat → Int32) (hnd : ¬ σ.1 2 B = -1) (hr1 : ∀ i, i < 8 → r i = (f_X8_forceToTouch_8_1 σ (nI B) (nI i) (nI O) c).1) : ∀ (n : Nat) (τ : bz_S) (best by_ way : Int32), n ≤ 8 → way + 1 = nI n → iv_R T σ τ → (lp_mhint (nI B) (nI O) c what n τ best by_ way).1 = (if what = 0 then (hd r 0 n (best, by_)).1 else (hd r 0 n (best, by_)).2) ∧ iv_R T σ (lp_mhint (nI B) (nI O) c what n τ best by_ way).2 := by
  intro n
  induction n with
  | zero =>
    intro τ best by_ way hn hw h
    rw [lp_mhint, hd]
    by_cases w : what = 0
    · rw [if_pos w, if_pos w]; exact ⟨rfl, h⟩
    · rw [if_neg w, if_neg w]; exact ⟨rfl, h⟩
  | succ n ih =>
    intro τ best by_ way hn hw h
    have wn := bz_dn hw
    have nd : ¬ τ.1 33 (nI B).toNatClampNeg < 0 := by
      rw [nI_clamp (by omega)]
      exact fun z => hnd ((tb_c_dn (h.1.1.1 B hB)).mpr z)
    rw [lp_mhint, hd, if_neg nd]
    unfold lp_mhint_a
    have wd : way + -1 + 1 = nI n := bz_dn' hw
    rw [wn] at wd ⊢
    obtain ⟨f1, -, -, iv⟩ := e_force h hB hO hne (show n < 8 by omega) c hnd
    rw [f1, ← hr1 n (by omega), Nat.zero_add]
    generalize f_X11_stepsBy_32 τ (nI B) (nI O) c (nI n) = ρ at *
    by_cases a : r n < 0
    · rw [if_pos a, if_pos a]
      exact ih _ _ _ _ (by omega) wd iv
    · rw [if_neg a, if_neg a]
      by_cases b : best < 0
      · rw [if_pos b, if_pos (show (best, by_).1 < 0 from b)]
        exact ih _ _ _ _ (by omega) wd iv
      · rw [if_neg b, if_neg (show ¬ (best, by_).1 < 0 from b)]
        by_cases d : best < r n
        · rw [if_pos d, if_pos (show (best, by_).1 < r n from d)]
          exact ih _ _ _ _ (by omega) wd iv
        · rw [if_neg d, if_neg (show ¬ (best, by_).1 < r n from d)]
          exact ih _ _ _ _ (by omega) wd iv
theorem c_dn1 {σ : bz_S} {B : Nat} (hB : B < 3) : (f_X6_isDown_1 σ (nI B) = true) ↔ σ.1 2 B = -1 := by
  unfold f_X6_isDown_1
  rw [if_pos (tb_isBall hB), nI_clamp (by omega)]
  by_cases h : σ.1 2 B = -1
  · rw [if_pos h]; exact ⟨fun _ => h, fun _ => rfl⟩
  · rw [if_neg h]; exact ⟨fun z => absurd z (by decide), fun z => absurd z h⟩
theorem hu_none (r : Nat → Int32) (h : ∀ i, r i = -6) : ∀ (n i : Nat) (p : Int32 × Int32), hu r n i p = p := by
  intro n
  induction n with
  | zero => intro i p; rw [hu]
  | succ n ih => intro i p; rw [hu, if_pos (h i)]; exact ih _ _
theorem e_hint (h : iv_R T σ τ) (b ot c what : Int32) : (f_X11_hint_32 τ b ot c what).1 = (f_X10_hint_0 σ b ot c what).1 ∧ iv_R T (f_X10_hint_0 σ b ot c what).2 (f_X11_hint_32 τ b ot c what).2 := by
  unfold f_X11_hint_32 f_X10_hint_0
  rw [m_isBall, m_isBall, m_w c 0 4 (by decide) (by decide), m_w what 0 1 (by decide) (by decide)]
  split
  · rename_i hb
    split
    · rename_i ho
      split
      · exact ⟨rfl, h⟩
      · rename_i ne
        obtain ⟨B, hB, rfl, cB⟩ := tb_b3 (bz_ball hb)
        obtain ⟨O, hO, rfl, cO⟩ := tb_b3 (bz_ball ho)
        have hne : ¬ O = B := fun z => ne (by rw [z])
        split
        · split
          · rw [bz_k_eq]
            have six : ∀ w : Int32, (if w = 0 then ((-6 : Int32), (-6 : Int32)).1 else ((-6 : Int32), (-6 : Int32)).2) = -6 := fun w => by split <;> rfl
            by_cases db : σ.1 2 B = -1
            · rw [if_pos ((c_dn1 hB).mpr db), lp_mhint, if_pos (by rw [cB]; exact (tb_c_dn (h.1.1.1 B hB)).mp db)]
              split
              · exact ⟨rfl, h⟩
              · exact ⟨rfl, h⟩
            · rw [if_neg (fun z => db ((c_dn1 hB).mp z))]
              have ef := fun i (hi : i < 8) => e_force h hB hO hne hi c db
              have hr9 : ∀ i, hr ((fun i => if i < 8 then (f_X8_forceToTouch_8_1 σ (nI B) (nI i) (nI O) c).1 else -6) i) := by
                intro i
                show hr (if i < 8 then _ else _)
                by_cases hi : i < 8
                · rw [if_pos hi]; exact (ef i hi).2.1
                · rw [if_neg hi]; exact Or.inl rfl
              have rc : ∀ i, i < 8 → (fun i => if i < 8 then (f_X8_forceToTouch_8_1 σ (nI B) (nI i) (nI O) c).1 else -6) i = (f_X8_forceToTouch_8_1 σ (nI B) (nI i) (nI O) c).1 := fun i hi => if_pos hi
              have rn : σ.1 2 O = -1 → ∀ i, (fun i => if i < 8 then (f_X8_forceToTouch_8_1 σ (nI B) (nI i) (nI O) c).1 else -6) i = -6 := by
                intro z i
                show (if i < 8 then _ else _) = (-6 : Int32)
                by_cases hi : i < 8
                · rw [if_pos hi]; exact (ef i hi).2.2.1 z
                · rw [if_neg hi]
              generalize (fun i => if i < 8 then (f_X8_forceToTouch_8_1 σ (nI B) (nI i) (nI O) c).1 else -6) = r at *
              obtain ⟨m1, m2⟩ := m_hint hB hO hne c what r db rc 8 τ (-6) (-6) 7 (by omega) (by decide) h
              have hh := hd_hu r hr9 8 0
              rw [hu] at hh
              rw [hh] at m1
              by_cases do_ : σ.1 2 O = -1
              · rw [if_pos ((c_dn1 hO).mpr do_)]
                rw [hu_none r (rn do_), six] at m1
                exact ⟨m1, m2⟩
              · rw [if_neg (fun z => do_ ((c_dn1 hO).mp z))]
                obtain ⟨c1, c2⟩ := c_hint hB hO hne c what r (fun i hi => (rc i hi).trans (ef i hi).1.symm) 8 σ (-6) (-6) 0 (by omega) h db
                have c1' : (lp_hint (nI B) (nI O) c what 8 σ (-6) (-6) 0).1 = (if what = 0 then (hu r 8 0 (-6, -6)).1 else (hu r 8 0 (-6, -6)).2) := c1
                have c2' : iv_R T (lp_hint (nI B) (nI O) c what 8 σ (-6) (-6) 0).2 τ := c2
                rw [c1']
                refine ⟨m1, ?_⟩
                have fc := rlp_hint (nI B) (nI O) c what 8 σ (-6) (-6) 0
                exact iv_c m2 (c_fr1 fc) bz_fr_rf (fun _ _ => rfl) (fun _ _ => rfl)
          · exact ⟨rfl, h⟩
        · exact ⟨rfl, h⟩
    · exact ⟨rfl, h⟩
  · exact ⟨rfl, h⟩
end HB
