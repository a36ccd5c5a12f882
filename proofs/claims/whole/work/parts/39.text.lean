/-! A TEXT OF ACTS -/
theorem pa_ln1 (P : Nat → Int32) (s : Nat) : 1 ≤ pa_ln P s ∧ pa_ln P s ≤ 3 := by
  unfold pa_ln
  split
  · split <;> omega
  · omega
theorem pa_st_le (P : Nat → Int32) {a b : Nat} (h : a ≤ b) : pa_st P a ≤ pa_st P b := by
  induction h with
  | refl => exact Nat.le_refl _
  | step _ ih => rw [pa_st]; omega
/-- how the class reads an act -/
theorem c_read {P : Nat → Int32} {σ : bz_S} {N s : Nat} (h6 : σ.1 6 1 = nI N) (h60 : N ≤ 60) (h7 : ∀ k, k < 60 → σ.1 7 k = P k) (hs : s + pa_ln P s ≤ N) : f_X3_signAt_6 σ (nI s) = P s ∧ f_X3_actKind_6 σ (nI s) = pa_kd P s ∧ f_X3_actLength_6 σ (nI s) = nI (pa_ln P s) ∧ (pa_kd P s = 0 → f_X3_signAt_6 σ (nI s + 1) = P (s + 1) ∧ f_X3_signAt_6 σ (nI s + 2) = P (s + 2)) := by
  have l1 := (pa_ln1 P s).1
  have sg : ∀ q, s + q < N → f_X3_signAt_6 σ (nI (s + q)) = P (s + q) := fun q hq => (bz_sgN h6 h60 hq).trans (h7 _ (by omega))
  have s0 : f_X3_signAt_6 σ (nI s) = P s := sg 0 (by omega)
  have kd : f_X3_actKind_6 σ (nI s) = pa_kd P s := by
    unfold f_X3_actKind_6 pa_kd
    rw [s0]
    by_cases hl : f_X3_isLetter (P s) = true
    · have l2 : 2 ≤ pa_ln P s := by
        unfold pa_ln
        rw [if_pos hl]
        split <;> omega
      rw [if_pos hl, if_pos hl, nI_1, sg 1 (by omega)]
    · rw [if_neg hl, if_neg hl]
  refine ⟨s0, kd, ?_, fun z => ?_⟩
  · unfold f_X3_actLength_6
    rw [kd]
    unfold pa_kd pa_ln
    by_cases hl : f_X3_isLetter (P s) = true
    · rw [if_pos hl, if_pos hl]
      by_cases hb : P (s + 1) = 94
      · rw [if_pos hb, if_pos hb, if_neg (show ¬ (1 : Int32) = 0 by decide), if_pos rfl]; rfl
      · rw [if_neg hb, if_neg hb, if_pos rfl]; rfl
    · rw [if_neg hl, if_neg hl]
      by_cases hb : P s = 126
      · rw [if_pos hb, if_neg (show ¬ (2 : Int32) = 0 by decide), if_neg (show ¬ (2 : Int32) = 1 by decide)]; rfl
      · rw [if_neg hb, if_neg (show ¬ (3 : Int32) = 0 by decide), if_neg (show ¬ (3 : Int32) = 1 by decide)]; rfl
  · have l3 : pa_ln P s = 3 := by
      unfold pa_kd at z
      unfold pa_ln
      by_cases hl : f_X3_isLetter (P s) = true
      · rw [if_pos hl] at z ⊢
        by_cases hb : P (s + 1) = 94
        · rw [if_pos hb] at z; exact absurd z (by decide)
        · rw [if_neg hb]
      · rw [if_neg hl] at z
        split at z <;> exact absurd z (by decide)
    exact ⟨by rw [nI_1]; exact sg 1 (by omega), by rw [show nI s + 2 = nI (s + 2) from nI_add s 2]; exact sg 2 (by omega)⟩
theorem pa_kd4 (P : Nat → Int32) (s : Nat) : pa_kd P s = 0 ∨ pa_kd P s = 1 ∨ pa_kd P s = 2 ∨ pa_kd P s = 3 := by
  unfold pa_kd
  split
  · split
    · exact Or.inr (Or.inl rfl)
    · exact Or.inl rfl
  · split
    · exact Or.inr (Or.inr (Or.inl rfl))
    · exact Or.inr (Or.inr (Or.inr rfl))
theorem pa_let {P : Nat → Int32} {s : Nat} (h : pa_kd P s = 0 ∨ pa_kd P s = 1) : f_X3_isLetter (P s) = true := by
  by_cases hl : f_X3_isLetter (P s) = true
  · exact hl
  · exfalso
    unfold pa_kd at h
    rw [if_neg hl] at h
    split at h <;> rcases h with z | z <;> exact absurd z (by decide)
def tx_C (P : Nat → Int32) (N A : Nat) (σ τ : bz_S) : Prop := σ.1 6 1 = nI N ∧ (∀ k, k < 60 → σ.1 7 k = P k) ∧ τ.1 32 13 = nI A ∧ (∀ e, e < A → pa_slot P τ e (pa_st P e))
theorem tx_C_c {P : Nat → Int32} {N A : Nat} {σ τ σ' τ' : bz_S} (h : tx_C P N A σ τ) (h6 : σ'.1 6 = σ.1 6) (h7 : σ'.1 7 = σ.1 7) (h13 : τ'.1 32 13 = τ.1 32 13) (h37 : τ'.1 37 = τ.1 37) (h38 : τ'.1 38 = τ.1 38) (h39 : τ'.1 39 = τ.1 39) (h40 : τ'.1 40 = τ.1 40) : tx_C P N A σ' τ' := by
  obtain ⟨q1, q2, q3, q4⟩ := h
  exact ⟨by rw [h6]; exact q1, by rw [h7]; exact q2, h13.trans q3, fun e he => pa_slot_c (q4 e he) (congrFun h37 e) (congrFun h38 e) (congrFun h39 e) (congrFun h40 e)⟩
def tx_V (σ τ : bz_S) : Prop := tr_R 10 9 σ τ ∧ τ.1 32 23 = σ.1 8 5 ∧ τ.1 32 24 = σ.1 8 6 ∧ τ.1 32 29 = σ.1 8 7 ∧ (σ.1 8 7 = -6 ∨ ∃ k, k < 60 ∧ σ.1 8 7 = nI k)
def tx_R (P : Nat → Int32) (N A : Nat) (σ τ : bz_S) (e : Nat) : Prop := tx_C P N A σ τ ∧ tx_V σ τ ∧ σ.1 8 2 = nI e ∧ σ.1 8 3 = -6 ∧ σ.1 8 4 = -6 ∧ τ.1 32 27 = -6 ∧ τ.1 32 28 = -6
def tx_F (A : Nat) (σ τ : bz_S) : Prop := tx_V σ τ ∧ ((σ.1 8 3 = -6 ∧ τ.1 32 27 = -6 ∧ σ.1 8 4 = -6 ∧ τ.1 32 28 = -6 ∧ σ.1 8 2 = nI A) ∨ (∃ e, e < 60 ∧ σ.1 8 3 = nI e ∧ τ.1 32 27 = nI e ∧ τ.1 32 28 = σ.1 8 4))
theorem c_text_bad (n : Nat) (σ : bz_S) (pl : Int32) (h : ¬ σ.1 8 3 = -6) : lp_text n σ pl = σ := by
  cases n with
  | zero => rw [lp_text]
  | succ n => rw [lp_text, if_neg h]; split <;> rfl
theorem m_goc_bad (n : Nat) (τ : bz_S) (e : Int32) (h : 0 ≤ τ.1 32 27) : lp_goc n τ e = τ := by
  cases n with
  | zero => rw [lp_goc]
  | succ n => rw [lp_goc, if_pos h]
theorem c_al {σ σ' : bz_S} (h6 : σ'.1 6 = σ.1 6) (h7 : σ'.1 7 = σ.1 7) (p : Int32) : f_X3_actLength_6 σ' p = f_X3_actLength_6 σ p := bz_al h6 h7 p
theorem tx_run {P : Nat → Int32} {N A : Nat} (h60 : N ≤ 60) (hA : A ≤ N) (hAN : pa_st P A = N) : ∀ (m k : Nat) (σ τ : bz_S) (e : Nat), e + m = A → m ≤ k → tx_R P N A σ τ e → tx_F A (lp_text k σ (nI (pa_st P e))) (lp_goc m τ (nI e)) := by
  intro m
  induction m with
  | zero =>
    intro k σ τ e he hk h
    obtain ⟨hC, hV, h2, h3, h4, h27, h28⟩ := h
    have ek : lp_text k σ (nI (pa_st P e)) = σ := by
      cases k with
      | zero => rw [lp_text]
      | succ k =>
        rw [lp_text, hC.1, if_pos]
        rw [show e = A by omega, hAN]
        exact nI_le (Nat.le_refl _) (by omega)
    rw [ek, lp_goc]
    exact ⟨hV, Or.inl ⟨h3, h27, h4, h28, by rw [h2]; congr 1⟩⟩
  | succ m ih =>
    intro k σ τ e he hk h
    obtain ⟨hC, hV, h2, h3, h4, h27, h28⟩ := h
    obtain ⟨k, rfl⟩ : ∃ k', k = k' + 1 := ⟨k - 1, by omega⟩
    have hst : pa_st P e + pa_ln P (pa_st P e) ≤ N := by
      have := pa_st_le P (show e + 1 ≤ A by omega)
      rw [hAN, pa_st] at this
      exact this
    obtain ⟨r1, r2, r3, r4⟩ := c_read hC.1 h60 hC.2.1 hst
    obtain ⟨l1, l3⟩ := pa_ln1 P (pa_st P e)
    obtain ⟨sl1, sl2, sl3, sl4, sl5⟩ := hC.2.2.2 e (by omega)
    obtain ⟨B, hB, eB, -⟩ := tb_b3 sl2
    have ce : (nI e).toNatClampNeg = e := nI_clamp (by omega)
    rw [lp_text, hC.1, if_neg (nI_ge (by omega) (by omega)), if_pos h3, lp_goc, h27, if_neg (show ¬ (0 : Int32) ≤ -6 by decide), ce, r1, r2, sl1, eB]
    -- the model, before it acts
    have tp : tr_R 10 9 σ ((bz_up (bz_up τ.1 32 27 (-6)) 32 28 (-6)), τ.2) := tr_R_c hV.1 (fun _ _ => rfl) (fun _ _ => rfl) (fun b _ => by simp [bz_up]) (fun q q1 q3 => (up_k0 (by omega)).trans (up_k0 (by omega)))
    have wy : f_X11_whyNot_32 τ (pa_kd P (pa_st P e)) (nI B) = f_X11_whyNot_32 ((bz_up (bz_up τ.1 32 27 (-6)) 32 28 (-6)), τ.2) (pa_kd P (pa_st P e)) (nI B) := by
      unfold f_X11_whyNot_32 f_X11_ballOn_32
      simp [bz_up]
    have hb : pa_kd P (pa_st P e) = 0 ∨ pa_kd P (pa_st P e) = 1 → P (pa_st P e) - 65 = nI B := fun z => (sl4 (pa_let z)).symm.trans eB
    have h0 : pa_kd P (pa_st P e) = 0 → (f_X3_signAt_6 σ (nI (pa_st P e) + 1) - 48 = τ.1 39 e) ∧ (f_X3_signAt_6 σ (nI (pa_st P e) + 2) - 48 = τ.1 40 e) ∧ (∃ w, w < 8 ∧ τ.1 39 e = nI w) ∧ ∃ F, F < 100 ∧ τ.1 40 e = nI F := by
      intro z
      obtain ⟨v1, v2⟩ := r4 z
      obtain ⟨v3, v4, v5, v6⟩ := sl5 z
      refine ⟨by rw [v1, v4], by rw [v2, v5], ?_, ?_⟩
      · obtain ⟨j, j1, j2, j3⟩ := bz_wN (a := 48) (b := 55) (by decide) (by decide) (by decide) v3
        exact ⟨j - 48, by omega, by rw [v4, j3]; exact bz_subN (b := 48) j1⟩
      · obtain ⟨j, j1, j2⟩ := bz_digitN v6
        exact ⟨j, j1, by rw [v5]; exact j2⟩
    obtain ⟨a1, a2, a3⟩ := e_act tp (cb := P (pa_st P e) - 65) (cw := f_X3_signAt_6 σ (nI (pa_st P e) + 1) - 48) (cf := f_X3_signAt_6 σ (nI (pa_st P e) + 2) - 48) (mw := τ.1 39 e) (mf := τ.1 40 e) hB (pa_kd4 P _) hb h0
    have frc := rf_X8_tryAct_8 σ (pa_kd P (pa_st P e)) (P (pa_st P e) - 65) (f_X3_signAt_6 σ (nI (pa_st P e) + 1) - 48) (f_X3_signAt_6 σ (nI (pa_st P e) + 2) - 48)
    have frm := rf_X11_happen_32 ((bz_up (bz_up τ.1 32 27 (-6)) 32 28 (-6)), τ.2) (pa_kd P (pa_st P e)) (nI B) (τ.1 39 e) (τ.1 40 e)
    have fqm := qf_X11_happen_32 ((bz_up (bz_up τ.1 32 27 (-6)) 32 28 (-6)), τ.2) (pa_kd P (pa_st P e)) (nI B) (τ.1 39 e) (τ.1 40 e)
    rw [wy, ← a1]
    unfold lp_text_a lp_goc_a
    rw [ce, sl1, eB]
    generalize f_X8_tryAct_8 σ (pa_kd P (pa_st P e)) (P (pa_st P e) - 65) (f_X3_signAt_6 σ (nI (pa_st P e) + 1) - 48) (f_X3_signAt_6 σ (nI (pa_st P e) + 2) - 48) = ρ at *
    generalize f_X11_happen_32 ((bz_up (bz_up τ.1 32 27 (-6)) 32 28 (-6)), τ.2) (pa_kd P (pa_st P e)) (nI B) (τ.1 39 e) (τ.1 40 e) = τh at *
    have g6 : ρ.2.1 6 = σ.1 6 := bz_fr_at frc 6 (by decide)
    have g7 : ρ.2.1 7 = σ.1 7 := bz_fr_at frc 7 (by decide)
    by_cases hr : ρ.1 = 0
    · rw [hr, if_pos rfl, if_pos (show (0 : Int32) ≤ 0 by decide), if_pos rfl]
      obtain ⟨b1, b2, b3, b4⟩ := a2 hr
      have v5 : τh.1 32 23 = ρ.2.1 8 5 := b2 (by simpa [bz_up] using hV.2.1)
      have v6 : τh.1 32 24 = ρ.2.1 8 6 := b3 (by simpa [bz_up] using hV.2.2.1)
      have k2 : ρ.2.1 8 2 = nI e := (b4 2 (by omega) (by omega)).trans h2
      have k3 : ρ.2.1 8 3 = -6 := (b4 3 (by omega) (by omega)).trans h3
      have k4 : ρ.2.1 8 4 = -6 := (b4 4 (by omega) (by omega)).trans h4
      have k7 : ρ.2.1 8 7 = σ.1 8 7 := b4 7 (by omega) (by omega)
      have u27 : τh.1 32 27 = -6 := (fqm 27 (by decide)).trans (by simp [bz_up])
      have u28 : τh.1 32 28 = -6 := (fqm 28 (by decide)).trans (by simp [bz_up])
      have u29 : τh.1 32 29 = τ.1 32 29 := (fqm 29 (by decide)).trans (by simp [bz_up])
      have u13 : τh.1 32 13 = τ.1 32 13 := (fqm 13 (by decide)).trans (by simp [bz_up])
      have o37 : τh.1 37 = τ.1 37 := (bz_fr_at frm 37 (by decide)).trans (by funext q; simp [bz_up])
      have o38 : τh.1 38 = τ.1 38 := (bz_fr_at frm 38 (by decide)).trans (by funext q; simp [bz_up])
      have o39 : τh.1 39 = τ.1 39 := (bz_fr_at frm 39 (by decide)).trans (by funext q; simp [bz_up])
      have o40 : τh.1 40 = τ.1 40 := (bz_fr_at frm 40 (by decide)).trans (by funext q; simp [bz_up])
      have fls : τh.1 32 2 ≤ τ.1 32 2 ↔ ρ.2.1 9 2 ≤ σ.1 9 2 := by rw [b1.2.2.1, hV.1.2.2.1]
      have n29 : τh.1 32 29 = ρ.2.1 8 7 := by rw [u29, k7]; exact hV.2.2.2.1
      have n7 : (ρ.2.1 8 7 = -6 ∨ ∃ k, k < 60 ∧ ρ.2.1 8 7 = nI k) := by rw [k7]; exact hV.2.2.2.2
      -- go on, whatever is put into 8 7 and 32 29
      have go : ∀ (σn τn : bz_S), (∀ o, o ≠ 8 → σn.1 o = ρ.2.1 o) → (∀ o, o ≠ 32 → τn.1 o = τh.1 o) → (∀ q, q ≠ 2 → q ≠ 7 → σn.1 8 q = ρ.2.1 8 q) → (∀ q, q ≠ 29 → τn.1 32 q = τh.1 32 q) → σn.1 8 2 = nI (e + 1) → τn.1 32 29 = σn.1 8 7 → (σn.1 8 7 = -6 ∨ ∃ k, k < 60 ∧ σn.1 8 7 = nI k) → tx_F A (lp_text k σn (nI (pa_st P e) + f_X3_actLength_6 σn (nI (pa_st P e)))) (lp_goc m τn (nI e + 1)) := by
        intro σn τn z1 z2 z3 z4 z5 z6 z7
        have i6 : σn.1 6 = σ.1 6 := (z1 6 (by decide)).trans g6
        have i7 : σn.1 7 = σ.1 7 := (z1 7 (by decide)).trans g7
        rw [c_al i6 i7, r3, nI_add, nI_1]
        have := ih k σn τn (e + 1) (by omega) (by omega) ⟨tx_C_c hC i6 i7 ((z4 13 (by decide)).trans u13) ((z2 37 (by decide)).trans o37) ((z2 38 (by decide)).trans o38) ((z2 39 (by decide)).trans o39) ((z2 40 (by decide)).trans o40), ⟨tr_R_c b1 (fun b _ => congrFun (z1 10 (by decide)) b) (fun q _ => congrFun (z1 9 (by decide)) q) (fun b _ => congrFun (z2 33 (by decide)) b) (fun q q1 q3 => z4 q (by omega)), ?_, ?_, z6, z7⟩, z5, (z3 3 (by decide) (by decide)).trans k3, (z3 4 (by decide) (by decide)).trans k4, (z4 27 (by decide)).trans u27, (z4 28 (by decide)).trans u28⟩
        · rw [pa_st] at this
          exact this
        · rw [z4 23 (by decide), z3 5 (by decide) (by decide)]; exact v5
        · rw [z4 24 (by decide), z3 6 (by decide) (by decide)]; exact v6
      have idm : ((bz_up τh.1 32 29 (τh.1 32 29), τh.2) : bz_S) = τh := by
        refine Prod.ext ?_ rfl
        funext o q
        show bz_up τh.1 32 29 (τh.1 32 29) o q = τh.1 o q
        by_cases z : o = 32 ∧ q = 29
        · rw [z.1, z.2, bz_up_s]
        · exact up_k0 z
      have c2 : ((bz_up ρ.2.1 8 2 (ρ.2.1 8 2 + 1), ρ.2.2) : bz_S).1 8 2 = nI (e + 1) := by rw [bz_up_s1, k2, nI_1]
      have co : ∀ o, o ≠ 8 → ((bz_up ρ.2.1 8 2 (ρ.2.1 8 2 + 1), ρ.2.2) : bz_S).1 o = ρ.2.1 o := fun o ho => up_o1 ho
      have ck : ∀ q, q ≠ 2 → ((bz_up ρ.2.1 8 2 (ρ.2.1 8 2 + 1), ρ.2.2) : bz_S).1 8 q = ρ.2.1 8 q := fun q hq => bz_up_k hq
      have keep : tx_F A (lp_text k (bz_up ρ.2.1 8 2 (ρ.2.1 8 2 + 1), ρ.2.2) (nI (pa_st P e) + f_X3_actLength_6 (bz_up ρ.2.1 8 2 (ρ.2.1 8 2 + 1), ρ.2.2) (nI (pa_st P e)))) (lp_goc m (bz_up τh.1 32 29 (τh.1 32 29), τh.2) (nI e + 1)) := by
        rw [idm]
        exact go _ _ co (fun _ _ => rfl) (fun q q2 _ => ck q q2) (fun _ _ => rfl) c2 (n29.trans (ck 7 (by decide)).symm) (by rw [ck 7 (by decide)]; exact n7)
      unfold lp_goc_b
      by_cases hf : ρ.2.1 9 2 ≤ σ.1 9 2
      · rw [if_pos hf, if_pos (fls.mpr hf)]
        split
        · exact keep
        · exact keep
      · rw [if_neg hf, if_neg (fun z => hf (fls.mp z)), n29]
        rcases n7 with z | ⟨kf, hkf, z⟩
        · rw [z, if_pos rfl, if_neg (show ¬ (0 : Int32) ≤ -6 by decide)]
          refine go _ _ (fun o ho => up_oo ho ho) (fun o ho => up_o1 ho) (fun q q2 q7 => (bz_up_k q2).trans (bz_up_k q7)) (fun q hq => bz_up_k hq) ?_ ?_ ?_
          · rw [bz_up_s1, k2, nI_1]
          · rw [bz_up_s1]
            show nI e = bz_up (bz_up ρ.2.1 8 7 (ρ.2.1 8 2)) 8 2 (ρ.2.1 8 2 + 1) 8 7
            rw [bz_up_k (by decide), bz_up_s, k2]
          · refine Or.inr ⟨e, by omega, ?_⟩
            show bz_up (bz_up ρ.2.1 8 7 (ρ.2.1 8 2)) 8 2 (ρ.2.1 8 2 + 1) 8 7 = nI e
            rw [bz_up_k (by decide), bz_up_s, k2]
        · rw [if_neg (by rw [z]; exact bz_nI6 (by omega)), if_pos (by rw [z]; exact nI_pos' (by omega)), ← n29]
          exact keep
    · have hs := a3 hr
      have f29 := hV.2.2.2.1
      -- why not: 1, 2 or 3
      have rp : ¬ ρ.1 ≤ 0 := by
        intro z
        have w1 : f_X11_whyNot_32 ((bz_up (bz_up τ.1 32 27 (-6)) 32 28 (-6)), τ.2) (pa_kd P (pa_st P e)) (nI B) ≤ 0 := by rw [← a1]; exact z
        have w2 : ¬ f_X11_whyNot_32 ((bz_up (bz_up τ.1 32 27 (-6)) 32 28 (-6)), τ.2) (pa_kd P (pa_st P e)) (nI B) = 0 := by rw [← a1]; exact hr
        revert w1 w2
        unfold f_X11_whyNot_32
        repeat' split
        all_goals intro w1 w2
        all_goals first | exact absurd rfl w2 | exact absurd w1 (by decide)
      rw [if_neg hr, if_neg rp, if_neg hr, hs, if_pos (Int32.le_refl _), if_pos (Int32.le_refl _)]
      have fin : ∀ (σn τn : bz_S) (p q : Int32), (∀ o, o ≠ 8 → σn.1 o = σ.1 o) → (∀ o, o ≠ 32 → τn.1 o = τ.1 o) → (∀ q, q ≠ 2 → q ≠ 3 → q ≠ 4 → σn.1 8 q = σ.1 8 q) → (∀ q, q ≠ 27 → q ≠ 28 → τn.1 32 q = τ.1 32 q) → σn.1 8 3 = nI e → τn.1 32 27 = nI e → τn.1 32 28 = σn.1 8 4 → tx_F A (lp_text k σn p) (lp_goc m τn q) := by
        intro σn τn p q z1 z2 z3 z4 z5 z6 z7
        rw [c_text_bad k σn p (by rw [z5]; exact bz_nI6 (by omega)), m_goc_bad m τn q (by rw [z6]; exact nI_pos' (by omega))]
        refine ⟨⟨tr_R_c hV.1 (fun b _ => congrFun (z1 10 (by decide)) b) (fun q _ => congrFun (z1 9 (by decide)) q) (fun b _ => congrFun (z2 33 (by decide)) b) (fun q q1 q3 => z4 q (by omega) (by omega)), ?_, ?_, ?_, ?_⟩, Or.inr ⟨e, by omega, z5, z6, z7⟩⟩
        · rw [z4 23 (by decide) (by decide), z3 5 (by decide) (by decide) (by decide)]; exact hV.2.1
        · rw [z4 24 (by decide) (by decide), z3 6 (by decide) (by decide) (by decide)]; exact hV.2.2.1
        · rw [z4 29 (by decide) (by decide), z3 7 (by decide) (by decide) (by decide)]; exact f29
        · rw [z3 7 (by decide) (by decide) (by decide)]; exact hV.2.2.2.2
      have pc : ∀ x y : Int32, tx_F A (lp_text k (bz_up (bz_up (bz_up σ.1 8 3 (σ.1 8 2)) 8 4 ρ.1) 8 2 x, σ.2) y) (lp_goc m (bz_up (bz_up (bz_up τ.1 32 27 (nI e)) 32 28 ρ.1) 32 29 (τ.1 32 29), τ.2) (nI e + 1)) := by
        intro x y
        refine fin _ _ _ _ (fun o ho => up_o3 ho ho ho) (fun o ho => up_o3 ho ho ho) (fun q q2 q3 q4 => (bz_up_k q2).trans ((bz_up_k q4).trans (bz_up_k q3))) (fun q q27 q28 => ?_) ?_ ?_ ?_
        · by_cases z : q = 29
          · rw [z]; exact bz_up_s1
          · exact (bz_up_k z).trans ((bz_up_k q28).trans (bz_up_k q27))
        · simp [bz_up, h2]
        · simp [bz_up]
        · simp [bz_up]
      split
      · exact pc _ _
      · exact pc _ _
