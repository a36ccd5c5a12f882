/-! THE SMALL CALLS: both sides answer alike -/
section EZ
variable {T : Nat → Int32} {σ τ : bz_S}
theorem m_w (b : Int32) (lo hi : Int32) {l h : Int64} (hl : l = lo.toInt64) (hh : h = hi.toInt64) : f_X11_in (Int32.toInt64 b) l h = f_X10_isWithin b lo hi := bz_inW hl hh
theorem up_k0 {α : Type} {f : Nat → Nat → α} {o k o' k' : Nat} {x : α} (h : ¬ (o' = o ∧ k' = k)) : bz_up f o k x o' k' = f o' k' := by
  unfold bz_up
  rw [if_neg h]
/-- what a class's table tells of a ball -/
theorem tb_tell {oc : Nat} (h : tb_R (σ.1 oc) (τ.1 33)) {B : Nat} (hB : B < 3) (dn : Bool) (hd : dn = (if f_X10_isBall (nI B) = true then (if σ.1 oc (nI B).toNatClampNeg = -1 then true else false) else true)) : (if dn = true then -6 else σ.1 oc (nI B).toNatClampNeg) = τ.1 33 B := by
  rw [hd, if_pos (tb_isBall hB), nI_clamp (by omega)]
  have e := tb_c_none (h.1 B hB)
  rw [← e]
  by_cases q : σ.1 oc B = -1
  · rw [if_pos q, if_pos q, if_pos rfl]
  · rw [if_neg q, if_neg q, if_neg (by decide)]
theorem tb_tell1 (h : tb_R (σ.1 2) (τ.1 33)) {B : Nat} (hB : B < 3) : f_X6_cellOrNone_1 σ (nI B) = τ.1 33 B := tb_tell (oc := 2) h hB _ rfl
theorem tb_tell9 (h : tb_R (σ.1 10) (τ.1 33)) {B : Nat} (hB : B < 3) : f_X6_cellOrNone_9 σ (nI B) = τ.1 33 B := tb_tell (oc := 10) h hB _ rfl
theorem e_ball (h : iv_R T σ τ) (b c : Int32) : (f_X11_ball_32 τ b c).1 = (f_X10_ball_0 σ b c).1 ∧ iv_R T (f_X10_ball_0 σ b c).2 (f_X11_ball_32 τ b c).2 := by
  unfold f_X11_ball_32 f_X10_ball_0
  rw [m_isBall]
  by_cases hb : f_X10_isBall b = true
  · rw [if_pos hb, if_pos hb]
    obtain ⟨B, hB, rfl, cB⟩ := tb_b3 (bz_ball hb)
    have ht := h.1.1
    have tell := tb_tell1 ht hB
    rw [cB]
    have fin : ∀ x y : Int32, tb_c x y → (x = -1 ∨ ∀ b, b < 3 → b ≠ B → ¬ σ.1 2 b = x) → iv_R T ((bz_up σ.1 2 B x, σ.2) : bz_S) ((bz_up τ.1 33 B y, τ.2) : bz_S) := by
      intro x y hxy hn
      obtain ⟨q1, q2, q3, q4, q5, q6⟩ := h
      refine ⟨⟨tb_put q1.1 hxy hn, ?_⟩, ?_⟩
      · have e : ∀ k, bz_up σ.1 2 B x 1 k = σ.1 1 k := fun k => bz_up_o (by decide)
        have e' : ∀ k, bz_up τ.1 33 B y 32 k = τ.1 32 k := fun k => bz_up_o (by decide)
        show bz_up τ.1 33 B y 32 1 = bz_up σ.1 2 B x 1 1 ∧ bz_up τ.1 33 B y 32 2 = bz_up σ.1 2 B x 1 2 ∧ bz_up τ.1 33 B y 32 3 = bz_up σ.1 2 B x 1 3 ∧ tb_E (bz_up σ.1 2 B x 1 3)
        rw [e, e, e, e', e', e']
        exact q1.2
      · have o := fun o (ho : o ≠ 2) => (funext fun k => bz_up_o ho : (bz_up σ.1 2 B x) o = σ.1 o)
        have o' := fun o (ho : o ≠ 33) => (funext fun k => bz_up_o ho : (bz_up τ.1 33 B y) o = τ.1 o)
        exact ⟨pd_R_c q2 (o 6 (by decide)) (o 7 (by decide)) (congrFun (o' 32 (by decide)) 8) (o' 36 (by decide)), sg_R_c q3 (o 3 (by decide)) (o 4 (by decide)) (o 5 (by decide)) (congrFun (o' 32 (by decide)) 6) (o' 34 (by decide)) (o' 35 (by decide)), hp_R_c q4 (o 17 (by decide)) (o 18 (by decide)), im_R_c q5 (fun q hq => o _ (by omega)) (o' 50 (by decide)) (o' 51 (by decide)), im_R_c q6 (fun q hq => o _ (by omega)) (o' 50 (by decide)) (o' 51 (by decide))⟩
    by_cases hc : c = -1
    · subst hc
      rw [if_pos rfl, if_pos rfl, if_pos rfl, if_neg (by decide), if_neg (by decide)]
      exact ⟨tell.symm, fin _ _ (Or.inl ⟨rfl, rfl⟩) (Or.inl rfl)⟩
    · rw [if_neg hc, if_neg hc, if_neg hc, m_isPlace]
      by_cases hp : f_X10_isPlace c = true
      · obtain ⟨a, ha, rfl, hk⟩ := tb_pl hp
        rw [if_pos hp, if_pos hp, if_pos (nI_pos' (by omega)), if_pos (nI_pos' (by omega)), ml_on32, cl_on1]
        rcases tb_on ht ha with ⟨o1, o2, o3⟩ | ⟨b', hb', o1, o2, o3⟩
        · rw [o1, o2, if_pos rfl, if_pos (by decide)]
          exact ⟨tell.symm, fin _ _ (Or.inr ⟨rfl, hp⟩) (Or.inr fun b hb _ => o3 b hb)⟩
        · rw [o1, o2, if_neg (nI_pos (by omega)), if_neg (tb_nd (by omega))]
          by_cases q : b' = B
          · rw [q, if_pos rfl, if_pos rfl]
            refine ⟨tell.symm, fin _ _ (Or.inr ⟨rfl, hp⟩) (Or.inr fun b hb hne z => ?_)⟩
            rcases ht.2 b b' hb hb' (z.trans o3.symm) with w | w
            · exact hne (w.trans q)
            · exact tb_nd ha (z.symm.trans w)
          · have n : ¬ nI b' = nI B := fun z => q ((nI_eq (by omega) (by omega)).mp z)
            rw [if_neg n, if_neg n]
            exact ⟨rfl, h⟩
      · rw [if_neg hp, if_neg hp]
        exact ⟨rfl, h⟩
  · rw [if_neg hb, if_neg hb]
    exact ⟨rfl, h⟩
theorem e_score (h : iv_R T σ τ) (p f : Int32) : (f_X11_score_32 τ p f).1 = (f_X10_score_0 σ p f).1 ∧ iv_R T (f_X10_score_0 σ p f).2 (f_X11_score_32 τ p f).2 := by
  unfold f_X11_score_32 f_X10_score_0
  rw [m_w p 0 99 (by decide) (by decide), m_w f 0 99 (by decide) (by decide)]
  split
  · split
    · obtain ⟨q1, q2, q3, q4, q5, q6⟩ := h
      refine ⟨by rw [q1.2.1, q1.2.2.1], ⟨?_, ?_⟩⟩
      · refine ⟨tb_R_c q1.1 (fun b _ => by simp [bz_up]) (fun b _ => by simp [bz_up]), by simp [bz_up], by simp [bz_up], ?_, ?_⟩
        · have := q1.2.2.2.1
          simpa [bz_up] using this
        · have := q1.2.2.2.2
          simpa [bz_up] using this
      · have o := fun o (ho : o ≠ 1) => (funext fun k => (bz_up_o ho).trans (bz_up_o ho) : (bz_up (bz_up σ.1 1 1 p) 1 2 f) o = σ.1 o)
        have o' := fun o (ho : o ≠ 32) => (funext fun k => (bz_up_o ho).trans (bz_up_o ho) : (bz_up (bz_up τ.1 32 1 p) 32 2 f) o = τ.1 o)
        exact ⟨pd_R_c q2 (o 6 (by decide)) (o 7 (by decide)) (by simp [bz_up]) (o' 36 (by decide)), sg_R_c q3 (o 3 (by decide)) (o 4 (by decide)) (o 5 (by decide)) (by simp [bz_up]) (o' 34 (by decide)) (o' 35 (by decide)), hp_R_c q4 (o 17 (by decide)) (o 18 (by decide)), im_R_c q5 (fun q hq => o _ (by omega)) (o' 50 (by decide)) (o' 51 (by decide)), im_R_c q6 (fun q hq => o _ (by omega)) (o' 50 (by decide)) (o' 51 (by decide))⟩
    · exact ⟨rfl, h⟩
  · exact ⟨rfl, h⟩
/-- the pad alone is another -/
theorem iv_pd {σ' τ' : bz_S} (h : iv_R T σ τ) (o : ∀ o, o ≠ 6 → o ≠ 7 → σ'.1 o = σ.1 o) (o' : ∀ o, o ≠ 32 → o ≠ 36 → τ'.1 o = τ.1 o) (k : ∀ k, k ≠ 8 → τ'.1 32 k = τ.1 32 k) (hp : pd_R σ' τ') : iv_R T σ' τ' := by
  obtain ⟨q1, q2, q3, q4, q5, q6⟩ := h
  exact ⟨tr_R_c q1 (fun b _ => congrFun (o 2 (by decide) (by decide)) b) (fun k _ => congrFun (o 1 (by decide) (by decide)) k) (fun b _ => congrFun (o' 33 (by decide) (by decide)) b) (fun q _ _ => k q (by omega)), hp, sg_R_c q3 (o 3 (by decide) (by decide)) (o 4 (by decide) (by decide)) (o 5 (by decide) (by decide)) (k 6 (by decide)) (o' 34 (by decide) (by decide)) (o' 35 (by decide) (by decide)), hp_R_c q4 (o 17 (by decide) (by decide)) (o 18 (by decide) (by decide)), im_R_c q5 (fun q hq => o _ (by omega) (by omega)) (o' 50 (by decide) (by decide)) (o' 51 (by decide) (by decide)), im_R_c q6 (fun q hq => o _ (by omega) (by omega)) (o' 50 (by decide) (by decide)) (o' 51 (by decide) (by decide))⟩
theorem up_oo {f : Nat → Nat → Int32} {o o1 o2 k1 k2 : Nat} {x1 x2 : Int32} (h1 : o ≠ o1) (h2 : o ≠ o2) : (bz_up (bz_up f o1 k1 x1) o2 k2 x2) o = f o := funext fun _ => (bz_up_o h2).trans (bz_up_o h1)
theorem up_o1 {f : Nat → Nat → Int32} {o o1 k1 : Nat} {x1 : Int32} (h1 : o ≠ o1) : (bz_up f o1 k1 x1) o = f o := funext fun _ => bz_up_o h1
theorem e_say (h : iv_R T σ τ) (c : Int32) : (f_X11_say_32 τ c).1 = (f_X10_say_0 σ c).1 ∧ iv_R T (f_X10_say_0 σ c).2 (f_X11_say_32 τ c).2 := by
  unfold f_X11_say_32 f_X10_say_0
  rw [m_w c 33 126 (by decide) (by decide)]
  split
  · have h' := h
    obtain ⟨-, ⟨N, n1, n2, n3, n4⟩, -⟩ := h'
    unfold f_X3_add_6 f_X10_say_0_a
    rw [n2, n3, nI_clamp (by omega)]
    by_cases q : N = 60
    · have q1 : ¬ nI N < 60 := by rw [q]; decide
      rw [if_neg q1, if_pos (show nI N = 60 by rw [q]; rfl), if_neg (show ¬ ((false, σ) : Bool × bz_S).1 = true from Bool.false_ne_true)]
      exact ⟨rfl, h⟩
    · have q1 : nI N < 60 := nI_lt (b := 60) (by omega) (by decide)
      have q2 : ¬ nI N = 60 := fun z => q ((nI_eq (b := 60) (by omega) (by decide)).mp z)
      rw [if_pos q1, if_neg q2, if_pos rfl, nI_1]
      refine ⟨Eq.symm (bz_up_s (f := bz_up σ.1 7 N c) (o := 6) (k := 1) (x := nI (N + 1))), ?_⟩
      refine iv_pd h (fun o a b => up_oo b a) (fun o a b => up_oo b a) (fun k hk => ?_) ⟨N + 1, by omega, bz_up_s1, bz_up_s1, fun k hk => ?_⟩
      · show bz_up (bz_up τ.1 36 N c) 32 8 (nI (N + 1)) 32 k = τ.1 32 k
        rw [bz_up_k hk, bz_up_o (by decide)]
      · show bz_up (bz_up τ.1 36 N c) 32 8 (nI (N + 1)) 36 k = bz_up (bz_up σ.1 7 N c) 6 1 (nI (N + 1)) 7 k
        rw [bz_up_o (o := 32) (by decide), bz_up_o (o := 6) (by decide)]
        by_cases e : k = N
        · rw [e, bz_up_s, bz_up_s]
        · rw [bz_up_k e, bz_up_k e]
          exact n4 k hk
  · exact ⟨rfl, h⟩
theorem e_wipe (h : iv_R T σ τ) : (f_X11_wipe_32 τ).1 = (f_X10_wipe_0 σ).1 ∧ iv_R T (f_X10_wipe_0 σ).2 (f_X11_wipe_32 τ).2 := by
  unfold f_X11_wipe_32 f_X10_wipe_0 f_X10_wipe_0_a f_X3_empty_6
  have h' := h
  obtain ⟨-, ⟨N, n1, n2, n3, n4⟩, -⟩ := h'
  refine ⟨n3.trans n2.symm, ?_⟩
  refine iv_pd h (fun o a b => up_o1 a) (fun o a b => up_o1 a) (fun k hk => bz_up_k hk) ⟨0, by omega, bz_up_s1, bz_up_s1, fun k hk => ?_⟩
  show bz_up τ.1 32 8 0 36 k = bz_up σ.1 6 1 0 7 k
  rw [bz_up_o (by decide), bz_up_o (by decide)]
  exact n4 k hk
/-- the sights alone are others -/
theorem iv_sg {σ' τ' : bz_S} (h : iv_R T σ τ) (o : ∀ o, o ≠ 3 → o ≠ 4 → o ≠ 5 → σ'.1 o = σ.1 o) (o' : ∀ o, o ≠ 32 → o ≠ 34 → o ≠ 35 → τ'.1 o = τ.1 o) (k : ∀ k, k ≠ 6 → τ'.1 32 k = τ.1 32 k) (hp : sg_R σ' τ') : iv_R T σ' τ' := by
  obtain ⟨q1, q2, q3, q4, q5, q6⟩ := h
  exact ⟨tr_R_c q1 (fun b _ => congrFun (o 2 (by decide) (by decide) (by decide)) b) (fun k _ => congrFun (o 1 (by decide) (by decide) (by decide)) k) (fun b _ => congrFun (o' 33 (by decide) (by decide) (by decide)) b) (fun q _ _ => k q (by omega)), pd_R_c q2 (o 6 (by decide) (by decide) (by decide)) (o 7 (by decide) (by decide) (by decide)) (k 8 (by decide)) (o' 36 (by decide) (by decide) (by decide)), hp, hp_R_c q4 (o 17 (by decide) (by decide) (by decide)) (o 18 (by decide) (by decide) (by decide)), im_R_c q5 (fun q hq => o _ (by omega) (by omega) (by omega)) (o' 50 (by decide) (by decide) (by decide)) (o' 51 (by decide) (by decide) (by decide)), im_R_c q6 (fun q hq => o _ (by omega) (by omega) (by omega)) (o' 50 (by decide) (by decide) (by decide)) (o' 51 (by decide) (by decide) (by decide))⟩
theorem up_o3 {f : Nat → Nat → Int32} {o o1 o2 o3 k1 k2 k3 : Nat} {x1 x2 x3 : Int32} (h1 : o ≠ o1) (h2 : o ≠ o2) (h3 : o ≠ o3) : (bz_up (bz_up (bz_up f o1 k1 x1) o2 k2 x2) o3 k3 x3) o = f o := funext fun _ => (bz_up_o h3).trans ((bz_up_o h2).trans (bz_up_o h1))
theorem e_seen (h : iv_R T σ τ) (st c : Int32) : (f_X11_seen_32 τ st c).1 = (f_X10_seen_0 σ st c).1 ∧ iv_R T (f_X10_seen_0 σ st c).2 (f_X11_seen_32 τ st c).2 := by
  unfold f_X11_seen_32 f_X10_seen_0
  rw [m_isCell, m_w st 0 60 (by decide) (by decide)]
  split
  · rename_i hc
    split
    · rename_i hs
      have h' := h
      obtain ⟨-, -, ⟨N, n1, n2, n3, n4⟩, -⟩ := h'
      unfold f_X4_add_3 f_X10_seen_0_a
      rw [n2, n3, nI_clamp (by omega)]
      by_cases q : N = 8
      · have q1 : ¬ nI N < 8 := by rw [q]; decide
        rw [if_neg q1, if_pos (show nI N = 8 by rw [q]; rfl), if_neg (show ¬ ((false, σ) : Bool × bz_S).1 = true from Bool.false_ne_true)]
        exact ⟨rfl, h⟩
      · have q1 : nI N < 8 := nI_lt (b := 8) (by omega) (by decide)
        have q2 : ¬ nI N = 8 := fun z => q ((nI_eq (b := 8) (by omega) (by decide)).mp z)
        rw [if_pos q1, if_neg q2, if_pos rfl, nI_1]
        refine ⟨Eq.symm (bz_up_s (f := bz_up (bz_up σ.1 4 N st) 5 N c) (o := 3) (k := 2) (x := nI (N + 1))), ?_⟩
        refine iv_sg h (fun o a b d => up_o3 b d a) (fun o a b d => up_o3 b d a) (fun k hk => ?_) ⟨N + 1, by omega, bz_up_s1, bz_up_s1, fun k hk => ?_⟩
        · show bz_up (bz_up (bz_up τ.1 34 N st) 35 N c) 32 6 (nI (N + 1)) 32 k = τ.1 32 k
          rw [bz_up_k hk, bz_up_o (by decide), bz_up_o (by decide)]
        · show bz_up (bz_up (bz_up τ.1 34 N st) 35 N c) 32 6 (nI (N + 1)) 34 k = bz_up (bz_up (bz_up σ.1 4 N st) 5 N c) 3 2 (nI (N + 1)) 4 k ∧ bz_up (bz_up (bz_up τ.1 34 N st) 35 N c) 32 6 (nI (N + 1)) 35 k = bz_up (bz_up (bz_up σ.1 4 N st) 5 N c) 3 2 (nI (N + 1)) 5 k ∧ sg_1 (bz_up (bz_up (bz_up σ.1 4 N st) 5 N c) 3 2 (nI (N + 1)) 4 k) (bz_up (bz_up (bz_up σ.1 4 N st) 5 N c) 3 2 (nI (N + 1)) 5 k)
          have a1 : bz_up (bz_up (bz_up τ.1 34 N st) 35 N c) 32 6 (nI (N + 1)) 34 k = bz_up τ.1 34 N st 34 k := (bz_up_o (by decide)).trans (bz_up_o (by decide))
          have a2 : bz_up (bz_up (bz_up σ.1 4 N st) 5 N c) 3 2 (nI (N + 1)) 4 k = bz_up σ.1 4 N st 4 k := (bz_up_o (by decide)).trans (bz_up_o (by decide))
          have a3 : bz_up (bz_up (bz_up τ.1 34 N st) 35 N c) 32 6 (nI (N + 1)) 35 k = bz_up (bz_up τ.1 34 N st) 35 N c 35 k := bz_up_o (by decide)
          have a4 : bz_up (bz_up (bz_up σ.1 4 N st) 5 N c) 3 2 (nI (N + 1)) 5 k = bz_up (bz_up σ.1 4 N st) 5 N c 5 k := bz_up_o (by decide)
          rw [a1, a2, a3, a4]
          by_cases e : k = N
          · rw [e, bz_up_s, bz_up_s, bz_up_s, bz_up_s]
            refine ⟨rfl, rfl, ?_, ?_⟩
            · obtain ⟨j, j1, j2, j3⟩ := bz_wN (a := 0) (b := 60) (by decide) (by decide) (by decide) hs
              exact ⟨j, j2, j3⟩
            · obtain ⟨j, j1, j2, j3⟩ := bz_wN (a := 0) (b := 44) (by decide) (by decide) (by decide) hc
              exact ⟨j, by omega, j3⟩
          · repeat rw [bz_up_k e]
            exact n4 k hk
    · exact ⟨rfl, h⟩
  · exact ⟨rfl, h⟩
theorem e_forget (h : iv_R T σ τ) : (f_X11_forget_32 τ).1 = (f_X10_forget_0 σ).1 ∧ iv_R T (f_X10_forget_0 σ).2 (f_X11_forget_32 τ).2 := by
  unfold f_X11_forget_32 f_X10_forget_0
  have h' := h
  obtain ⟨-, -, ⟨N, n1, n2, n3, n4⟩, -⟩ := h'
  refine ⟨n3.trans n2.symm, ?_⟩
  refine iv_sg h (fun o a _ _ => up_o1 a) (fun o a _ _ => up_o1 a) (fun k hk => bz_up_k hk) ⟨0, by omega, bz_up_s1, bz_up_s1, fun k hk => ?_⟩
  have a1 : (bz_up τ.1 32 6 0) 34 = τ.1 34 := up_o1 (by decide)
  have a2 : (bz_up τ.1 32 6 0) 35 = τ.1 35 := up_o1 (by decide)
  have a3 : (bz_up σ.1 3 2 0) 4 = σ.1 4 := up_o1 (by decide)
  have a4 : (bz_up σ.1 3 2 0) 5 = σ.1 5 := up_o1 (by decide)
  show (bz_up τ.1 32 6 0) 34 k = (bz_up σ.1 3 2 0) 4 k ∧ (bz_up τ.1 32 6 0) 35 k = (bz_up σ.1 3 2 0) 5 k ∧ sg_1 ((bz_up σ.1 3 2 0) 4 k) ((bz_up σ.1 3 2 0) 5 k)
  rw [a1, a2, a3, a4]
  exact n4 k hk
theorem e_told (h : iv_R T σ τ) (what : Int32) : f_X11_told_32 τ what = f_X10_told_0 σ what := by
  unfold f_X11_told_32 f_X10_told_0
  rw [m_w what 10 12 (by decide) (by decide)]
  obtain ⟨q1, ⟨N, n1, n2, n3, n4⟩, ⟨K, k1, k2, k3, k4⟩, -⟩ := h
  by_cases hw : f_X10_isWithin what 10 12 = true
  · rw [if_pos hw]
    obtain ⟨j, j1, j2, j3⟩ := bz_wN (a := 10) (b := 12) (by decide) (by decide) (by decide) hw
    have ne : ∀ k : Nat, k ≤ 4 → ¬ what = nI k := fun k hk z => by
      rw [j3] at z
      have := (nI_eq (by omega) (by omega)).mp z
      omega
    rw [if_neg (show ¬ what = 0 from ne 0 (by omega)), if_neg (show ¬ what = 1 from ne 1 (by omega)), if_neg (show ¬ what = 2 from ne 2 (by omega)), if_neg (show ¬ what = 3 from ne 3 (by omega)), if_neg (show ¬ what = 4 from ne 4 (by omega)), if_pos hw]
    have e : what - 10 = nI (j - 10) := by
      rw [j3]
      exact bz_subN (b := 10) j1
    rw [e, nI_clamp (by omega)]
    exact (tb_tell1 q1.1 (by omega)).symm
  · rw [if_neg hw, n2, n3, k2, k3, q1.2.1, q1.2.2.1, q1.2.2.2.1, if_neg hw]
/-- the model's fault is the class's -/
theorem e_fault (h : iv_R T σ τ) : (f_X11_fault_32 τ).1 = f_X10_fault_0 σ ∧ ((f_X11_fault_32 τ).1 < 0 → (f_X11_fault_32 τ).1 = -6 ∧ ∃ N A, N ≤ 60 ∧ σ.1 6 1 = nI N ∧ A ≤ N ∧ pa_inv (τ.1 36) N N A 0 (f_X11_fault_32 τ).2) := by
  obtain ⟨-, ⟨N, n1, n2, n3, n4⟩, -⟩ := h
  have q := pa_fault (P := τ.1 36) n1 (ς := σ) n2 (fun k hk => (n4 k hk).symm) N 0 0 0 ((bz_up τ.1 32 13 0), τ.2) (by omega) (by omega) (by omega) ⟨by simpa [bz_up] using n3, by funext k; simp [bz_up], by simp [bz_up]; rfl, fun e he => absurd he (by omega), rfl, fun z => absurd z (by omega), fun z => absurd z (by omega)⟩
  unfold f_X11_fault_32 f_X10_fault_0 f_X3_firstFault_6
  rw [n2, n3, nI_clamp (by omega)]
  refine ⟨q.1, fun z => ?_⟩
  obtain ⟨w1, A, w2, w3⟩ := q.2 z
  exact ⟨w1, N, A, n1, rfl, w2, w3⟩
theorem e_faultI (h : iv_R T σ τ) : iv_R T σ (f_X11_fault_32 τ).2 := iv_c h bz_fr_rf (bz_fr_mo (rf_X11_fault_32 τ) (by decide)) (fun k hk => qf_X11_fault_32 τ k (by rcases hk with rfl | rfl | rfl | rfl | rfl <;> decide)) (fun b _ => congrFun (bz_fr_at (rf_X11_fault_32 τ) 33 (by decide)) b)
end EZ
