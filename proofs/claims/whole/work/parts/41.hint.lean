/-! SEASONS AND HINTS -/
section HT
variable {T : Nat → Int32} {σ τ : bz_S}
theorem m_lcg {k : Nat} (hk : k < 65537) : ((75 * nI k) + 74) % 65537 = nI ((75 * k + 74) % 65537) := by
  show (nI 75 * nI k + nI 74) % nI 65537 = _
  rw [bz_mulN, nI_add]
  exact bz_modN (by omega) (by decide) (by decide)
/-- a season's acts -/
theorem se_run (m : Int32) (seed : Int32) : ∀ (n : Nat) (σ τ : bz_S) (k : Nat) (e : Int32), k < 65537 → tr_R 10 9 σ τ → tr_R 10 9 (lp_season seed m n σ (nI k) e) (lp_mseason m n τ (nI k) e) := by
  intro n
  induction n with
  | zero => intro σ τ k e hk h; rw [lp_season, lp_mseason]; exact h
  | succ n ih =>
    intro σ τ k e hk h
    rw [lp_season, lp_mseason]
    unfold lp_season_a lp_season_b lp_mseason_a
    rw [bz_lcgM rfl hk, m_lcg hk]
    have hx : (75 * k + 74) % 65537 < 65537 := Nat.mod_lt _ (by decide)
    generalize (75 * k + 74) % 65537 = x at *
    have e3 : nI x % 3 = nI (x % 3) := bz_modN (d := 3) (by omega) (by decide) (by decide)
    have eL : (nI x / 3) % 8 = nI (x / 3 % 8) := by
      show (nI x / nI 3) % nI 8 = _
      rw [bz_divN (by omega) (by decide) (by decide), bz_modN (by omega) (by decide) (by decide)]
    have eW : (nI x / 24) % 8 = nI (x / 24 % 8) := by
      show (nI x / nI 24) % nI 8 = _
      rw [bz_divN (by omega) (by decide) (by decide), bz_modN (by omega) (by decide) (by decide)]
    have eF : 1 + (((nI x / 24) / 8) % 9) = nI (1 + x / 24 / 8 % 9) := by
      show nI 1 + ((nI x / nI 24) / nI 8) % nI 9 = _
      rw [bz_divN (by omega) (by decide) (by decide), bz_divN (by omega) (by decide) (by decide), bz_modN (by omega) (by decide) (by decide), nI_add]
    rw [e3, eL, eW, eF]
    have hB : x % 3 < 3 := Nat.mod_lt _ (by decide)
    have hl : x / 3 % 8 < 8 := Nat.mod_lt _ (by decide)
    have hw : x / 24 % 8 < 8 := Nat.mod_lt _ (by decide)
    have hf : x / 24 / 8 % 9 < 9 := Nat.mod_lt _ (by decide)
    -- an act of a kind
    have act : ∀ kd : Int32, (kd = 0 ∨ kd = 1 ∨ kd = 2 ∨ kd = 3) → tr_R 10 9 (lp_season seed m n (f_X8_tryAct_8 σ kd (nI (x % 3)) (nI (x / 24 % 8)) (nI (1 + x / 24 / 8 % 9))).2 (nI x) (e + 1)) (if f_X11_whyNot_32 τ kd (nI (x % 3)) = 0 then lp_mseason m n (f_X11_happen_32 τ kd (nI (x % 3)) (nI (x / 24 % 8)) (nI (1 + x / 24 / 8 % 9))) (nI x) (e + 1) else lp_mseason m n τ (nI x) (e + 1)) := by
      intro kd hk
      obtain ⟨a1, a2, a3⟩ := e_act h (kd := kd) (cb := nI (x % 3)) (cw := nI (x / 24 % 8)) (cf := nI (1 + x / 24 / 8 % 9)) (mw := nI (x / 24 % 8)) (mf := nI (1 + x / 24 / 8 % 9)) hB hk (fun _ => rfl) (fun _ => ⟨rfl, rfl, ⟨_, hw, rfl⟩, _, by omega, rfl⟩)
      rw [← a1]
      by_cases r : (f_X8_tryAct_8 σ kd (nI (x % 3)) (nI (x / 24 % 8)) (nI (1 + x / 24 / 8 % 9))).1 = 0
      · rw [if_pos r]
        exact ih _ _ x (e + 1) hx (a2 r).1
      · rw [if_neg r, a3 r]
        exact ih _ _ x (e + 1) hx h
    by_cases c : x / 3 % 8 ≤ 4
    · rw [if_neg (show ¬ (4 : Int32) < nI (x / 3 % 8) from nI_nlt (a := 4) c (by decide))]
      have ab : f_X11_actBy (nI (x / 3 % 8)) = 0 := by
        unfold f_X11_actBy
        rw [if_neg (show ¬ (5 : Int32) ≤ nI (x / 3 % 8) from nI_ge (b := 5) (by omega) (by decide))]
      rw [ab]
      exact act 0 (Or.inl rfl)
    · rw [if_pos (show (4 : Int32) < nI (x / 3 % 8) from nI_lt (a := 4) (by omega) (by omega))]
      have ab : f_X11_actBy (nI (x / 3 % 8)) = nI (x / 3 % 8) - 4 ∧ (nI (x / 3 % 8) - 4 = 0 ∨ nI (x / 3 % 8) - 4 = 1 ∨ nI (x / 3 % 8) - 4 = 2 ∨ nI (x / 3 % 8) - 4 = 3) := by
        rcases (show x / 3 % 8 = 5 ∨ x / 3 % 8 = 6 ∨ x / 3 % 8 = 7 by omega) with z | z | z <;> rw [z] <;> decide
      rw [ab.1]
      exact act _ ab.2
theorem e_season (h : iv_R T σ τ) (seed m what : Int32) : (f_X11_season_32 τ seed m what).1 = (f_X10_season_0 σ seed m what).1 ∧ iv_R T (f_X10_season_0 σ seed m what).2 (f_X11_season_32 τ seed m what).2 := by
  unfold f_X11_season_32 f_X10_season_0
  rw [m_w seed 0 9999 (by decide) (by decide), m_w m 1 99 (by decide) (by decide), m_w what 0 2 (by decide) (by decide)]
  split
  · rename_i hs
    split
    · split
      · obtain ⟨k, hk, rfl⟩ := bz_seed hs
        unfold f_X11_season_32_a f_X11_season_32_b f_X11_season_32_c f_X11_season_32_d f_X11_season_32_e f_X10_season_0_a
        have fc := rf_X8_runSeason_8_1 σ (nI k) m
        have run : tr_R 10 9 (f_X8_runSeason_8_1 σ (nI k) m) (lp_mseason m m.toNatClampNeg (f_X11_keepNow_32 τ) (nI k) 0) := by
          unfold f_X8_runSeason_8_1 f_X8_runSeason_8_1_a
          refine se_run m (nI k) _ _ _ k 0 hk (c_begin_tr h (fun b _ => ?_) (fun k _ _ => ?_))
          · exact congrFun (bz_fr_at (rf_X11_keepNow_32 τ) 33 (by decide)) b
          · exact congrFun (bz_fr_at (rf_X11_keepNow_32 τ) 32 (by decide)) k
        have kp : kp_R τ (lp_mseason m m.toNatClampNeg (f_X11_keepNow_32 τ) (nI k) 0) := kp_tr (kp_keep τ) (bz_fr_mo (rlp_mseason m _ _ _ _) (by decide)) (fun k hk => qlp_mseason m _ _ _ _ k (by rcases hk with rfl | rfl <;> decide))
        have iv := kp_back h (c_fr1 fc) kp
        split
        · exact ⟨run.2.1, iv _⟩
        · split
          · exact ⟨run.2.2.1, iv _⟩
          · exact ⟨e_down run.1, iv _⟩
      · exact ⟨rfl, h⟩
    · exact ⟨rfl, h⟩
  · exact ⟨rfl, h⟩
/-! hints: each way's force; the class goes up, the model down -/
/-- the least force and way, going up -/
def hu (r : Nat → Int32) : Nat → Nat → Int32 × Int32 → Int32 × Int32
  | 0, _, p => p
  | n + 1, i, p => hu r n (i + 1) (if r i = -6 then p else (if p.1 = -6 then (r i, nI i) else (if p.1 ≤ r i then p else (r i, nI i))))
/-- going down: the ways i + n - 1 .. i -/
def hd (r : Nat → Int32) (i : Nat) : Nat → Int32 × Int32 → Int32 × Int32
  | 0, p => p
  | n + 1, p => hd r i n (if r (i + n) < 0 then p else (if p.1 < 0 then (r (i + n), nI (i + n)) else (if p.1 < r (i + n) then p else (r (i + n), nI (i + n)))))
/-- a force, or none -/
def hr (x : Int32) : Prop := x = -6 ∨ ∃ s, s < 100 ∧ x = nI s
theorem hr_n {x : Int32} (h : hr x) : (x < 0) ↔ x = -6 := by
  rcases h with rfl | ⟨s, hs, rfl⟩
  · exact ⟨fun _ => rfl, fun _ => by decide⟩
  · exact ⟨fun z => absurd z (nI_pos (by omega)), fun z => absurd z (bz_nI6 (by omega))⟩
/-- what one way ahead of all others makes of the least -/
def hj (x y : Int32) (p : Int32 × Int32) : Int32 × Int32 := if x = -6 then p else (if p.1 = -6 then (x, y) else (if p.1 < x then p else (x, y)))
theorem hu_hr (r : Nat → Int32) (hr9 : ∀ i, hr (r i)) : ∀ (n i : Nat) (p : Int32 × Int32), hr p.1 → hr (hu r n i p).1 := by
  intro n
  induction n with
  | zero => intro i p h; exact h
  | succ n ih =>
    intro i p h
    rw [hu]
    apply ih
    split
    · exact h
    · split
      · exact hr9 i
      · split
        · exact h
        · exact hr9 i
theorem hu_j (r : Nat → Int32) (hr9 : ∀ i, hr (r i)) : ∀ (n i : Nat) (x y : Int32), hr x → ¬ x = -6 → hu r n i (x, y) = hj x y (hu r n i (-6, -6)) := by
  intro n
  induction n with
  | zero => intro i x y h1 h2; rw [hu, hu]; unfold hj; rw [if_neg h2, if_pos rfl]
  | succ n ih =>
    intro i x y h1 h2
    rw [hu, hu]
    by_cases z : r i = -6
    · rw [if_pos z, if_pos z]
      exact ih (i + 1) x y h1 h2
    · rw [if_neg z, if_neg z, if_neg (show ¬ (x, y).1 = -6 from h2), if_pos rfl]
      have e1 := ih (i + 1) (r i) (nI i) (hr9 i) z
      rw [e1]
      show hu r n (i + 1) (if x ≤ r i then (x, y) else (r i, nI i)) = _
      have hq := hu_hr r hr9 n (i + 1) (-6, -6) (Or.inl rfl)
      generalize hg : hu r n (i + 1) (-6, -6) = q at *
      by_cases c : x ≤ r i
      · rw [if_pos c, ih (i + 1) x y h1 h2, hg]
        unfold hj
        rw [if_neg h2, if_neg z, if_neg h2]
        by_cases q6 : q.1 = -6
        · rw [if_pos q6, if_pos q6]
          show (x, y) = if r i = -6 then _ else _
          rw [if_neg z]
          show (x, y) = if r i < x then _ else _
          rw [if_neg (Int32.not_lt.mpr c)]
        · rw [if_neg q6, if_neg q6]
          by_cases d : q.1 < r i
          · rw [if_pos d, if_neg q6]
          · rw [if_neg d, if_neg (show ¬ q.1 < x from fun w => d (Int32.lt_of_lt_of_le w c))]
            show (x, y) = if r i = -6 then _ else _
            rw [if_neg z]
            show (x, y) = if r i < x then _ else _
            rw [if_neg (Int32.not_lt.mpr c)]
      · rw [if_neg c, ih (i + 1) (r i) (nI i) (hr9 i) z, hg]
        have c' := Int32.not_le.mp c
        unfold hj
        rw [if_neg z, if_neg h2]
        by_cases q6 : q.1 = -6
        · rw [if_pos q6]
          show (r i, nI i) = if r i = -6 then _ else _
          rw [if_neg z]
          show (r i, nI i) = if r i < x then _ else _
          rw [if_pos c']
        · rw [if_neg q6]
          by_cases d : q.1 < r i
          · rw [if_pos d, if_neg q6, if_pos (Int32.lt_trans d c')]
          · rw [if_neg d]
            show (r i, nI i) = if r i = -6 then _ else _
            rw [if_neg z]
            show (r i, nI i) = if r i < x then _ else _
            rw [if_pos c']
theorem hu_1 (r : Nat → Int32) (hr9 : ∀ i, hr (r i)) (n i : Nat) : hu r (n + 1) i (-6, -6) = hj (r i) (nI i) (hu r n (i + 1) (-6, -6)) := by
  rw [hu]
  by_cases z : r i = -6
  · rw [if_pos z]; unfold hj; rw [if_pos z]
  · rw [if_neg z, if_pos rfl, hu_j r hr9 n (i + 1) _ _ (hr9 i) z]
theorem hd_j (r : Nat → Int32) (hr9 : ∀ i, hr (r i)) (x : Int32) (y : Int32) (p : Int32 × Int32) (hx : hr x) (hp : hr p.1) : (if x < 0 then p else (if p.1 < 0 then (x, y) else (if p.1 < x then p else (x, y)))) = hj x y p := by
  unfold hj
  simp only [hr_n hx, hr_n hp]
/-- both goings agree -/
theorem hd_hu (r : Nat → Int32) (hr9 : ∀ i, hr (r i)) : ∀ (n m : Nat), hd r 0 n (hu r m n (-6, -6)) = hu r (n + m) 0 (-6, -6) := by
  intro n
  induction n with
  | zero => intro m; rw [hd, Nat.zero_add]
  | succ n ih =>
    intro m
    have := ih (m + 1)
    rw [hd, show n + 1 + m = n + (m + 1) by omega, ← this, hu_1 r hr9, ← hd_j r hr9 (r n) (nI n) _ (hr9 n) (hu_hr r hr9 m (n + 1) _ (Or.inl rfl)), Nat.zero_add]
end HT
