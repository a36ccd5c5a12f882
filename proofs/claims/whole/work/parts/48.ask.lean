/-! THE STEP TO ASK ABOUT -/
/-- how many of the states lie on the cell c behind t steps -/
def cnt (t c : Nat) : List Nat → Nat
  | [] => 0
  | s :: l => cnt t c l + (if itN t s / 8 = c then 1 else 0)
theorem cnt_app (t c : Nat) : ∀ (a b : List Nat), cnt t c (a ++ b) = cnt t c a + cnt t c b := by
  intro a
  induction a with
  | nil => intro b; rw [List.nil_append, cnt, Nat.zero_add]
  | cons s a ih => intro b; rw [List.cons_append, cnt, cnt, ih]; omega
theorem cnt_le (t c : Nat) : ∀ (l : List Nat), cnt t c l ≤ l.length := by
  intro l
  induction l with
  | nil => exact Nat.le_refl _
  | cons s l ih => rw [cnt, List.length_cons]; split <;> omega
theorem take_s (l : List Nat) {i : Nat} (h : i < l.length) : l.take (i + 1) = l.take i ++ [l.getD i 0] := by
  rw [List.take_add_one, List.getElem?_eq_getElem h]
  simp [List.getD, List.getElem?_eq_getElem h]
theorem cnt_take (t c : Nat) (l : List Nat) {i : Nat} (h : i < l.length) : cnt t c (l.take (i + 1)) = cnt t c (l.take i) + (if itN t (l.getD i 0) / 8 = c then 1 else 0) := by
  have e : cnt t c [l.getD i 0] = (if itN t (l.getD i 0) / 8 = c then 1 else 0) := Nat.zero_add _
  rw [take_s l h, cnt_app, e]
theorem getD_mem (l : List Nat) {i : Nat} (h : i < l.length) : l.getD i 0 ∈ l := by
  rw [List.getD, List.getElem?_eq_getElem h]
  exact List.getElem_mem h
/-- the most of a row -/
def mx (f : Nat → Nat) : Nat → Nat
  | 0 => 0
  | n + 1 => max (mx f n) (f n)
theorem mx_le {f : Nat → Nat} {m : Nat} (h : ∀ c, f c ≤ m) : ∀ n, mx f n ≤ m := by
  intro n
  induction n with
  | zero => exact Nat.zero_le _
  | succ n ih => rw [mx]; have := h n; omega
theorem mx_c {f g : Nat → Nat} : ∀ n, (∀ c, c < n → f c = g c) → mx f n = mx g n := by
  intro n
  induction n with
  | zero => intro h; rfl
  | succ n ih => intro h; rw [mx, mx, h n (by omega), ih (fun c hc => h c (by omega))]
theorem mx_up {f : Nat → Nat} {c0 : Nat} : ∀ n, c0 < n → mx (fun c => f c + (if c0 = c then 1 else 0)) n = max (mx f n) (f c0 + 1) := by
  intro n
  induction n with
  | zero => intro h; omega
  | succ n ih =>
    intro h
    rw [mx, mx]
    show max _ (f n + if c0 = n then 1 else 0) = _
    by_cases e : c0 = n
    · rw [if_pos e, mx_c (g := f) n (fun c hc => by show f c + (if c0 = c then 1 else 0) = f c; rw [if_neg (by omega), Nat.add_zero]), e]
      omega
    · rw [if_neg e, ih (by omega)]
      omega
/-- the best step and how many are left -/
def mk (M : Nat → Nat) : Nat → Nat → Nat × Nat → Nat × Nat
  | 0, _, p => p
  | n + 1, j, p => mk M n (j + 1) (if p.2 ≤ M j then p else (j, M j))
theorem mk_add (M : Nat → Nat) : ∀ (a b j : Nat) (p : Nat × Nat), mk M (a + b) j p = mk M b (j + a) (mk M a j p) := by
  intro a
  induction a with
  | zero => intro b j p; rw [Nat.zero_add]; rfl
  | succ a ih => intro b j p; rw [show a + 1 + b = a + b + 1 by omega, mk, mk, ih, show j + 1 + a = j + (a + 1) by omega]
theorem mk_le (M : Nat → Nat) : ∀ (n j : Nat) (p : Nat × Nat), (∀ i, i < j → p.2 ≤ M i) → ∀ i, i < j + n → (mk M n j p).2 ≤ M i := by
  intro n
  induction n with
  | zero => intro j p h i hi; exact h i (by omega)
  | succ n ih =>
    intro j p h i hi
    rw [mk]
    refine ih (j + 1) _ (fun q hq => ?_) i (by omega)
    by_cases z : p.2 ≤ M j
    · rw [if_pos z]
      by_cases e : q = j
      · rw [e]; exact z
      · exact h q (by omega)
    · rw [if_neg z]
      show M j ≤ M q
      by_cases e : q = j
      · rw [e]; exact Nat.le_refl _
      · have := h q (by omega); omega
theorem mk_id (M : Nat → Nat) : ∀ (n j : Nat) (p : Nat × Nat), (∀ i, p.2 ≤ M i) → mk M n j p = p := by
  intro n
  induction n with
  | zero => intro j p h; rfl
  | succ n ih => intro j p h; rw [mk, if_pos (h j)]; exact ih _ p h
theorem mk_16 (M : Nat → Nat) (h : ∀ t, M t = M (t % 16)) : mk M 60 1 (0, M 0) = mk M 15 1 (0, M 0) := by
  rw [mk_add M 15 45 1]
  refine mk_id M 45 16 _ (fun i => ?_)
  rw [h i]
  refine mk_le M 15 1 _ (fun q hq => ?_) _ (by have : i % 16 < 16 := Nat.mod_lt _ (by decide); omega)
  rw [show q = 0 by omega]
  exact Nat.le_refl _
theorem mk_lt (M : Nat → Nat) {m : Nat} (h : ∀ t, M t ≤ m) : ∀ (n j : Nat) (p : Nat × Nat), p.1 < j → p.2 ≤ m → (mk M n j p).1 < j + n ∧ (mk M n j p).2 ≤ m := by
  intro n
  induction n with
  | zero => intro j p h1 h2; exact ⟨h1, h2⟩
  | succ n ih =>
    intro j p h1 h2
    rw [mk]
    have := ih (j + 1) (if p.2 ≤ M j then p else (j, M j)) (by split; omega; show j < j + 1; omega) (by split; exact h2; exact h j)
    exact ⟨by omega, this.2⟩
section AK
variable {T : Nat → Int32} {σ τ : bz_S}
theorem cdN_m {s : Nat} (hs : s < 360) : cdN s % 10 = nI (s % 8) := by
  have : nI (10 * (s / 8) + s % 8) % 10 = nI ((10 * (s / 8) + s % 8) % 10) := bz_modN (d := 10) (by omega) (by decide) (by decide)
  show nI (10 * (s / 8) + s % 8) % 10 = _
  rw [this]
  congr 1
  omega
theorem c_cl1 : ∀ (n : Nat) (σ : bz_S) (j : Nat), j + n = 720 → ∀ q, q < 720 → (lp_cl1 n σ (nI j)).1 16 q = if q < j then σ.1 16 q else 0 := by
  intro n
  induction n with
  | zero => intro σ j hj q hq; rw [lp_cl1, if_pos (by omega)]
  | succ n ih =>
    intro σ j hj q hq
    rw [lp_cl1, nI_clamp (by omega), nI_1, ih _ (j + 1) (by omega) q hq]
    by_cases z : q < j
    · rw [if_pos (by omega), if_pos z]; exact bz_up_k (by omega)
    · by_cases y : q = j
      · rw [if_pos (by omega), if_neg z, y]; exact bz_up_s1
      · rw [if_neg (by omega), if_neg z]
theorem c_cl3 {s : Nat} (hs : s < 360) (ix : Int32) : ∀ (n : Nat) (σ : bz_S) (j : Nat) (g : Nat → Nat → Nat), j + n = 16 → (∀ q, q < 16 → σ.1 13 q = nI (itN q s / 8)) → (∀ t c, t < 16 → c < 45 → σ.1 16 (t * 45 + c) = nI (g t c)) → ∀ t c, t < 16 → c < 45 → (lp_cl3 ix n σ (nI j)).1 16 (t * 45 + c) = nI (g t c + if j ≤ t ∧ itN t s / 8 = c then 1 else 0) := by
  intro n
  induction n with
  | zero => intro σ j g hj h13 h t c ht hc; rw [lp_cl3, h t c ht hc, if_neg (by omega), Nat.add_zero]
  | succ n ih =>
    intro σ j g hj h13 h t c ht hc
    have cb : f_X7_cellBehind_12 σ (nI j) = nI (itN j s / 8) := by
      unfold f_X7_cellBehind_12
      rw [c_fm j (by omega), nI_clamp (by omega), Nat.mod_eq_of_lt (by omega), h13 j (by omega)]
    have lt := itN_lt j s hs
    have ix2 : (nI j * 45) + nI (itN j s / 8) = nI (j * 45 + itN j s / 8) := by
      show nI j * nI 45 + _ = _
      rw [bz_mulN, nI_add]
    rw [lp_cl3, cb, ix2, nI_clamp (by omega), h j (itN j s / 8) (by omega) (by omega), nI_1, nI_1]
    rw [ih (bz_up σ.1 16 (j * 45 + itN j s / 8) (nI (g j (itN j s / 8) + 1)), σ.2) (j + 1) (fun t' c' => if t' = j ∧ c' = itN j s / 8 then g t' c' + 1 else g t' c') (by omega) (fun q hq => by show bz_up σ.1 16 (j * 45 + itN j s / 8) (nI (g j (itN j s / 8) + 1)) 13 q = _; rw [bz_up_o (by decide)]; exact h13 q hq) (fun t' c' ht' hc' => ?_) t c ht hc]
    · congr 1
      show (if t = j ∧ c = itN j s / 8 then g t c + 1 else g t c) + _ = _
      by_cases e : t = j
      · subst e
        by_cases e2 : c = itN t s / 8
        · rw [if_pos ⟨rfl, e2⟩, if_neg (by omega), if_pos ⟨Nat.le_refl _, e2.symm⟩]
        · rw [if_neg (fun z => e2 z.2), if_neg (by omega), if_neg (fun z => e2 z.2.symm)]
      · rw [if_neg (fun z => e z.1)]
        by_cases y : j ≤ t ∧ itN t s / 8 = c
        · rw [if_pos y, if_pos ⟨by omega, y.2⟩]
        · rw [if_neg y, if_neg (fun z => y ⟨by omega, z.2⟩)]
    · show bz_up σ.1 16 (j * 45 + itN j s / 8) (nI (g j (itN j s / 8) + 1)) 16 (t' * 45 + c') = nI (if t' = j ∧ c' = itN j s / 8 then g t' c' + 1 else g t' c')
      by_cases e : t' = j ∧ c' = itN j s / 8
      · rw [if_pos e, e.1, e.2, bz_up_s]
      · rw [if_neg e, bz_up_k (fun z => e (by omega))]
        exact h t' c' ht' hc'
def lc_R (σ : bz_S) (l : List Nat) : Prop := ∀ t c, t < 16 → c < 45 → σ.1 16 (t * 45 + c) = nI (cnt t c l)
theorem c_cl2 {l : List Nat} (hl : l.length ≤ 360) (hx : ∀ x, x ∈ l → x < 360) : ∀ (n : Nat) (σ : bz_S) (i : Nat), i + n = l.length → co_R (σ.1 15) l → lc_R σ (l.take i) → lc_R (lp_cl2 n σ (nI i)) l := by
  intro n
  induction n with
  | zero =>
    intro σ i hi h15 h
    rw [lp_cl2]
    rw [List.take_of_length_le (by omega)] at h
    exact h
  | succ n ih =>
    intro σ i hi h15 h
    have hs := hx _ (getD_mem l (show i < l.length by omega))
    rw [lp_cl2]
    unfold lp_cl2_a lp_cl2_b
    rw [nI_clamp (by omega), h15 i (by omega), cdN_10 hs, cdN_m hs, nI_1, bz_k_eq]
    generalize hS : l.getD i 0 = s at *
    obtain ⟨-, -, w13⟩ := c_walk12 σ hs
    have fr := rf_X7_walk_12 σ (nI (s / 8)) (nI (s % 8))
    generalize f_X7_walk_12 σ (nI (s / 8)) (nI (s % 8)) = ω at *
    have f3 := rlp_cl3 (nI i) 16 ω 0
    refine ih _ (i + 1) (by omega) ?_ ?_
    · rw [bz_fr_at f3 15 (by decide), bz_fr_at fr 15 (by decide)]
      exact h15
    · intro t c ht hc
      have := c_cl3 hs (nI i) 16 ω 0 (fun t c => cnt t c (l.take i)) (by omega) w13 (fun t c ht hc => by rw [bz_fr_at fr 16 (by decide)]; exact h t c ht hc) t c ht hc
      rw [show (0 : Int32) = nI 0 from rfl, this, cnt_take t c l (by omega), hS]
      congr 1
      by_cases e : itN t s / 8 = c
      · rw [if_pos e, if_pos ⟨Nat.zero_le _, e⟩]
      · rw [if_neg e, if_neg (fun z => e z.2)]
theorem c_count {l : List Nat} (hl : l.length ≤ 360) (hx : ∀ x, x ∈ l → x < 360) (h : cg_R σ l) : lc_R (f_X9_countLeft_14_12 σ) l := by
  unfold f_X9_countLeft_14_12 f_X9_countLeft_14_12_a
  rw [h.1, nI_clamp (by omega), bz_k_eq]
  have f1 := rlp_cl1 720 σ 0
  refine c_cl2 hl hx l.length _ 0 (by omega) ?_ (fun t c ht hc => ?_)
  · rw [bz_fr_at f1 15 (by decide)]
    exact h.2
  · have := c_cl1 720 σ 0 (by omega) (t * 45 + c) (by omega)
    rw [if_neg (by omega)] at this
    rw [List.take_zero, show (0 : Int32) = nI 0 from rfl, this]
    rfl
def Mx (l : List Nat) (t : Nat) : Nat := mx (fun c => cnt t c l) 45
theorem Mx_le (l : List Nat) (t : Nat) : Mx l t ≤ l.length := mx_le (fun c => cnt_le t c l) 45
theorem Mx_16 {l : List Nat} (hx : ∀ x, x ∈ l → x < 360) (t : Nat) : Mx l t = Mx l (t % 16) := by
  have e : ∀ c (l : List Nat), (∀ x, x ∈ l → x < 360) → cnt t c l = cnt (t % 16) c l := by
    intro c l
    induction l with
    | nil => intro h; rfl
    | cons s l ih => intro h; rw [cnt, cnt, ih (fun x hx => h x (List.mem_cons_of_mem _ hx)), itN_16 (h s List.mem_cons_self) t]
  exact mx_c 45 (fun c _ => e c l hx)
theorem c_most {l : List Nat} (hl : l.length ≤ 360) {t : Nat} (ht : t < 16) (h : lc_R σ l) : f_X9_mostLeftAt_14 σ (nI t) = nI (Mx l t) := by
  have go : ∀ (n c : Nat), c + n = 45 → lp_most (nI t) n σ (nI (mx (fun c => cnt t c l) c)) (nI c) = nI (mx (fun c => cnt t c l) 45) := by
    intro n
    induction n with
    | zero => intro c hc; rw [lp_most, show c = 45 by omega]
    | succ n ih =>
      intro c hc
      have ix2 : (nI t * 45) + nI c = nI (t * 45 + c) := by
        show nI t * nI 45 + _ = _
        rw [bz_mulN, nI_add]
      rw [lp_most, ix2, nI_clamp (by omega), h t c ht (by omega), nI_1]
      have m1 := mx_le (f := fun c => cnt t c l) (fun c => cnt_le t c l) c
      have m2 := cnt_le t c l
      have e : f_J9_max_7cf53 (nI (mx (fun c => cnt t c l) c)) (nI (cnt t c l)) = nI (mx (fun c => cnt t c l) (c + 1)) := by
        unfold f_J9_max_7cf53
        rw [mx]
        by_cases z : mx (fun c => cnt t c l) c < cnt t c l
        · rw [if_pos ((nI_ltI (by omega) (by omega)).mpr z)]
          congr 1
          show cnt t c l = max _ (cnt t c l)
          omega
        · rw [if_neg (fun y => z ((nI_ltI (by omega) (by omega)).mp y))]
          congr 1
          show _ = max _ (cnt t c l)
          omega
      rw [e]
      exact ih (c + 1) (by omega)
  unfold f_X9_mostLeftAt_14
  rw [bz_k_eq]
  exact go 45 0 (by omega)
theorem c_chs {l : List Nat} (hl : l.length ≤ 360) : ∀ (n : Nat) (σ : bz_S) (j : Nat) (p : Nat × Nat), j + n = 16 → p.1 < 100 → p.2 ≤ 360 → lc_R σ l → σ.1 14 2 = nI p.1 → σ.1 14 3 = nI p.2 → (lp_chs n σ (nI j)).1 14 2 = nI (mk (Mx l) n j p).1 ∧ (lp_chs n σ (nI j)).1 14 3 = nI (mk (Mx l) n j p).2 := by
  intro n
  induction n with
  | zero => intro σ j p hj p1 p2 h h2 h3; rw [lp_chs, mk]; exact ⟨h2, h3⟩
  | succ n ih =>
    intro σ j p hj p1 p2 h h2 h3
    have ml := Mx_le l j
    rw [lp_chs, mk, h2, h3, c_most hl (by omega) h, if_neg (bz_nI6 (by omega)), nI_1]
    by_cases z : p.2 ≤ Mx l j
    · rw [if_pos z, if_pos ((nI_leI (by omega) (by omega)).mpr z)]
      exact ih σ (j + 1) p (by omega) p1 p2 h h2 h3
    · rw [if_neg z, if_neg (fun y => z ((nI_leI (by omega) (by omega)).mp y))]
      refine ih _ (j + 1) (j, Mx l j) (by omega) (by show j < 100; omega) (by show Mx l j ≤ 360; omega) (fun t c ht hc => ?_) ?_ bz_up_s1
      · show bz_up (bz_up σ.1 14 2 (nI j)) 14 3 (nI (Mx l j)) 16 (t * 45 + c) = _
        rw [congrFun (up_oo (by decide) (by decide)) (t * 45 + c)]
        exact h t c ht hc
      · show bz_up (bz_up σ.1 14 2 (nI j)) 14 3 (nI (Mx l j)) 14 2 = _
        rw [bz_up_k (by decide), bz_up_s]
theorem c_choose {l : List Nat} (hl : l.length ≤ 360) (hx : ∀ x, x ∈ l → x < 360) (h : cg_R σ l) : (f_X9_chooseStep_14_12 σ).1 14 2 = nI (mk (Mx l) 15 1 (0, Mx l 0)).1 ∧ (f_X9_chooseStep_14_12 σ).1 14 3 = nI (mk (Mx l) 15 1 (0, Mx l 0)).2 := by
  have lc := c_count hl hx h
  unfold f_X9_chooseStep_14_12 f_X9_chooseStep_14_12_a
  rw [bz_k_eq]
  generalize f_X9_countLeft_14_12 σ = ω at *
  have l2 : ∀ (f : Nat → Nat → Int32) (g : Nat → Nat → Int64), (∀ q, f 16 q = ω.1 16 q) → lc_R (f, g) l := fun f g e t c ht hc => (e _).trans (lc t c ht hc)
  have ml := Mx_le l 0
  have e0 : lp_chs 16 ((bz_up (bz_up ω.1 14 2 (-6)) 14 3 (-6)), ω.2) 0 = lp_chs 15 ((bz_up (bz_up (bz_up (bz_up ω.1 14 2 (-6)) 14 3 (-6)) 14 2 0) 14 3 (nI (Mx l 0))), ω.2) (nI 1) := by
    rw [show (0 : Int32) = nI 0 from rfl, lp_chs, c_most (t := 0) hl (by omega) (l2 _ _ (fun q => congrFun (up_oo (by decide) (by decide)) q)), if_pos (show bz_up (bz_up ω.1 14 2 (-6)) 14 3 (-6) 14 2 = -6 from (bz_up_k (by decide)).trans bz_up_s), nI_1]
  rw [e0]
  refine c_chs hl 15 _ 1 (0, Mx l 0) (by omega) (by show 0 < 100; omega) (by show Mx l 0 ≤ 360; omega) (l2 _ _ (fun q => ?_)) ?_ bz_up_s1
  · exact (congrFun (up_oo (by decide) (by decide)) q).trans (congrFun (up_oo (by decide) (by decide)) q)
  · show bz_up (bz_up (bz_up (bz_up ω.1 14 2 (-6)) 14 3 (-6)) 14 2 0) 14 3 (nI (Mx l 0)) 14 2 = nI 0
    rw [bz_up_k (by decide), bz_up_s]
    rfl
/-! the model's -/
theorem itN_1 (t s : Nat) : itN (t + 1) s = sN (itN t s) := by rw [itN_add]; rfl
theorem m_mn1 : ∀ (n : Nat) (τ : bz_S) (j : Nat), j + n = 45 → ∀ q, q < 45 → (lp_mn1 n τ (nI j)).1 47 q = if q < j then τ.1 47 q else 0 := by
  intro n
  induction n with
  | zero => intro τ j hj q hq; rw [lp_mn1, if_pos (by omega)]
  | succ n ih =>
    intro τ j hj q hq
    rw [lp_mn1, nI_clamp (by omega), nI_1, ih _ (j + 1) (by omega) q hq]
    by_cases z : q < j
    · rw [if_pos (by omega), if_pos z]; exact bz_up_k (by omega)
    · by_cases y : q = j
      · rw [if_pos (by omega), if_neg z, y]; exact bz_up_s1
      · rw [if_neg (by omega), if_neg z]
def mn_R (τ : bz_S) (l : List Nat) (t : Nat) : Prop := τ.1 32 34 = nI l.length ∧ ∀ q, q < l.length → τ.1 46 q = cdN (itN t (l.getD q 0))
theorem m_mn2 {l : List Nat} (hl : l.length ≤ 360) (hx : ∀ x, x ∈ l → x < 360) (t : Nat) : ∀ (n : Nat) (τ : bz_S) (e : Nat), e + n = l.length → (∀ c, c < 45 → τ.1 47 c = nI (cnt t c (l.take e))) → (∀ q, q < l.length → τ.1 46 q = cdN (itN (if q < e then t + 1 else t) (l.getD q 0))) → (lp_mn2 n τ (nI (mx (fun c => cnt t c (l.take e)) 45)) (nI e)).1 = nI (Mx l t) ∧ ∀ q, q < l.length → (lp_mn2 n τ (nI (mx (fun c => cnt t c (l.take e)) 45)) (nI e)).2.1 46 q = cdN (itN (t + 1) (l.getD q 0)) := by
  intro n
  induction n with
  | zero =>
    intro τ e he h1 h2
    rw [lp_mn2]
    rw [List.take_of_length_le (by omega)]
    exact ⟨rfl, fun q hq => by rw [h2 q hq, if_pos (by omega)]⟩
  | succ n ih =>
    intro τ e he h1 h2
    have he' : e < l.length := by omega
    have hs := hx _ (getD_mem l he')
    have lt := itN_lt t _ hs
    have h46 : τ.1 46 e = cdN (itN t (l.getD e 0)) := by rw [h2 e he', if_neg (by omega)]
    have c1 := cnt_le t (itN t (l.getD e 0) / 8) (l.take e)
    have ll : (l.take e).length ≤ 360 := by rw [List.length_take]; omega
    have m1 := mx_le (f := fun c => cnt t c (l.take e)) (fun c => cnt_le t c (l.take e)) 45
    have nx : f_X11_next (cdN (itN t (l.getD e 0))) = cdN (sN (itN t (l.getD e 0))) := (sN_ok lt).2.2.2
    have up := mx_up (f := fun c => cnt t c (l.take e)) (c0 := itN t (l.getD e 0) / 8) 45 (by omega)
    have up' : mx (fun c => cnt t c (l.take (e + 1))) 45 = max (mx (fun c => cnt t c (l.take e)) 45) (cnt t (itN t (l.getD e 0) / 8) (l.take e) + 1) := by
      rw [← up]
      exact mx_c 45 (fun c _ => cnt_take t c l he')
    rw [lp_mn2, nI_clamp (by omega), h46, cdN_10 lt, nI_clamp (by omega), h1 _ (show itN t (l.getD e 0) / 8 < 45 by omega), bz_up_s, nI_1, nI_1, nx]
    have r := ih (bz_up (bz_up τ.1 47 (itN t (l.getD e 0) / 8) (nI (cnt t (itN t (l.getD e 0) / 8) (l.take e) + 1))) 46 e (cdN (sN (itN t (l.getD e 0)))), τ.2) (e + 1) (by omega) (fun c hc => by
      show bz_up (bz_up τ.1 47 (itN t (l.getD e 0) / 8) (nI (cnt t (itN t (l.getD e 0) / 8) (l.take e) + 1))) 46 e (cdN (sN (itN t (l.getD e 0)))) 47 c = _
      rw [bz_up_o (by decide), cnt_take t c l he']
      by_cases z : c = itN t (l.getD e 0) / 8
      · rw [z, bz_up_s, if_pos rfl]
      · rw [bz_up_k z, h1 c hc, if_neg (fun y => z y.symm), Nat.add_zero]) (fun q hq => by
      show bz_up (bz_up τ.1 47 (itN t (l.getD e 0) / 8) (nI (cnt t (itN t (l.getD e 0) / 8) (l.take e) + 1))) 46 e (cdN (sN (itN t (l.getD e 0)))) 46 q = _
      by_cases z : q = e
      · rw [z, bz_up_s, if_pos (by omega), itN_1]
      · rw [bz_up_k z, bz_up_o (by decide), h2 q hq]
        by_cases y : q < e
        · rw [if_pos y, if_pos (by omega)]
        · rw [if_neg y, if_neg (by omega)])
    rw [up'] at r
    by_cases z : cnt t (itN t (l.getD e 0) / 8) (l.take e) + 1 ≤ mx (fun c => cnt t c (l.take e)) 45
    · rw [if_pos ((nI_leI (by omega) (by omega)).mpr z)]
      rw [show max (mx (fun c => cnt t c (l.take e)) 45) (cnt t (itN t (l.getD e 0) / 8) (l.take e) + 1) = mx (fun c => cnt t c (l.take e)) 45 by omega] at r
      exact r
    · rw [if_neg (fun y => z ((nI_leI (by omega) (by omega)).mp y))]
      rw [show max (mx (fun c => cnt t c (l.take e)) 45) (cnt t (itN t (l.getD e 0) / 8) (l.take e) + 1) = cnt t (itN t (l.getD e 0) / 8) (l.take e) + 1 by omega] at r
      exact r
theorem m_mostNow {l : List Nat} (hl : l.length ≤ 360) (hx : ∀ x, x ∈ l → x < 360) {t : Nat} (h : mn_R τ l t) : (f_X11_mostNow_32 τ).1 = nI (Mx l t) ∧ mn_R (f_X11_mostNow_32 τ).2 l (t + 1) := by
  have fr := rf_X11_mostNow_32 τ
  have h34 : (f_X11_mostNow_32 τ).2.1 32 34 = nI l.length := by rw [bz_fr_at fr 32 (by decide)]; exact h.1
  unfold mn_R
  rw [h34]
  unfold f_X11_mostNow_32 f_X11_mostNow_32_a
  rw [h.1, nI_clamp (by omega), bz_k_eq]
  have f1 := rlp_mn1 45 τ 0
  have r := m_mn2 hl hx t l.length (lp_mn1 45 τ 0) 0 (by omega) (fun c hc => by
    have := m_mn1 45 τ 0 (by omega) c hc
    rw [if_neg (by omega)] at this
    rw [List.take_zero]
    exact this) (fun q hq => by rw [bz_fr_at f1 46 (by decide), h.2 q hq, if_neg (by omega)])
  rw [List.take_zero] at r
  have m0 : mx (fun c => cnt t c []) 45 = 0 := by
    have := mx_le (f := fun c => cnt t c []) (m := 0) (fun c => Nat.le_refl _) 45
    omega
  rw [m0] at r
  exact ⟨r.1, rfl, r.2⟩
theorem m_mask {l : List Nat} (hl : l.length ≤ 360) (h0 : 0 < l.length) (hx : ∀ x, x ∈ l → x < 360) : ∀ (n : Nat) (τ : bz_S) (j : Nat) (p : Nat × Nat), j + n = 61 → p.1 < 100 → p.2 ≤ 361 → mn_R τ l j → (lp_mask n τ (nI p.1) (nI p.2) (nI j)).2 = (nI (mk (Mx l) n j p).1, nI (mk (Mx l) n j p).2) := by
  intro n
  induction n with
  | zero => intro τ j p hj p1 p2 h; rw [lp_mask, mk]
  | succ n ih =>
    intro τ j p hj p1 p2 h
    have ml := Mx_le l j
    obtain ⟨m1, m2⟩ := m_mostNow hl hx h
    rw [lp_mask, mk, h.1, if_neg (show ¬ nI l.length ≤ 0 from nI_nle h0 (by omega))]
    unfold lp_mask_a
    rw [m1, nI_1]
    by_cases z : p.2 ≤ Mx l j
    · rw [if_pos z, if_pos ((nI_leI (by omega) (by omega)).mpr z)]
      exact ih _ (j + 1) p (by omega) p1 p2 m2
    · rw [if_neg z, if_neg (fun y => z ((nI_leI (by omega) (by omega)).mp y))]
      exact ih _ (j + 1) (j, Mx l j) (by omega) (by show j < 100; omega) (by show Mx l j ≤ 361; omega) m2
theorem e_ask (h : iv_R T σ τ) (what : Int32) : (f_X11_ask_32 τ what).1 = (f_X10_ask_0 σ what).1 ∧ iv_R T (f_X10_ask_0 σ what).2 (f_X11_ask_32 τ what).2 := by
  refine ⟨?_, iv_c h (bz_fr_mo (rf_X10_ask_0 σ what) (by decide)) (bz_fr_mo (rf_X11_ask_32 τ what) (by decide)) (fun k hk => qf_X11_ask_32 τ what k (by rcases hk with rfl | rfl | rfl | rfl | rfl <;> decide)) (fun b _ => congrFun (bz_fr_at (rf_X11_ask_32 τ what) 33 (by decide)) b)⟩
  obtain ⟨l, l1, l2, c, m⟩ := e_fits h
  unfold f_X11_ask_32 f_X11_ask_32_a f_X11_ask_32_b f_X10_ask_0 f_X10_ask_0_a f_X10_ask_0_b
  rw [m_w what 0 1 (by decide) (by decide)]
  split
  · generalize f_X9_gather_14_3_12 σ = ρ at *
    generalize f_X11_findFits_32 τ = μ at *
    rw [c.1, m.1, bz_k_eq, nI_1]
    by_cases z : l.length = 0
    · rw [z, if_pos (show nI 0 = 0 from rfl)]
      have e : lp_mask 61 μ (-6) (nI (0 + 1)) 0 = (μ, -6, nI 1) := by
        rw [lp_mask, m.1, z, if_pos (show nI 0 ≤ 0 by decide)]
      rw [e]
      rfl
    · rw [if_neg (nI_ne0 (by omega) (by omega))]
      obtain ⟨c2, c3⟩ := c_choose l1 l2 c
      have mn0 : mn_R μ l 0 := ⟨m.1, fun q hq => m.2.2 q hq⟩
      obtain ⟨n1, n2⟩ := m_mostNow l1 l2 mn0
      have ml := Mx_le l 0
      have e : (lp_mask 61 μ (-6) (nI (l.length + 1)) 0).2 = (nI (mk (Mx l) 60 1 (0, Mx l 0)).1, nI (mk (Mx l) 60 1 (0, Mx l 0)).2) := by
        rw [lp_mask, m.1, if_neg (show ¬ nI l.length ≤ 0 from nI_nle (by omega) (by omega))]
        unfold lp_mask_a
        rw [n1, if_neg (fun y => absurd ((nI_leI (by omega) (by omega)).mp y) (by omega))]
        exact m_mask l1 (by omega) l2 60 _ 1 (0, Mx l 0) (by omega) (by show 0 < 100; omega) (by show Mx l 0 ≤ 361; omega) n2
      rw [mk_16 _ (Mx_16 l2)] at e
      obtain ⟨k1, k2⟩ := mk_lt (Mx l) (Mx_le l) 15 1 (0, Mx l 0) (by show 0 < 1; omega) (Mx_le l 0)
      generalize lp_mask 61 μ (-6) (nI (l.length + 1)) 0 = ω at *
      rw [c2, c3, e]
      dsimp only
      rw [if_neg (show ¬ nI (mk (Mx l) 15 1 (0, Mx l 0)).1 < 0 from nI_pos (by omega))]
      split
      · rfl
      · rfl
  · rfl
end AK
