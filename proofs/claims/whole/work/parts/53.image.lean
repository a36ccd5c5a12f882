/-! IMAGES: both alike -/
section IM
variable {T : Nat → Int32} {σ τ σ' τ' : bz_S}
theorem im_Q_c {i k : Nat} (h : im_Q i k σ τ) (h0 : ∀ q, q ≤ 5 → σ'.1 (i + q) = σ.1 (i + q)) (h50 : ∀ q, 30 * k ≤ q → q < 30 * k + 23 → τ'.1 50 q = τ.1 50 q) : im_Q i k σ' τ' := by
  obtain ⟨q1, q2, q3, q4, q5, N, n1, n2, n3, n4⟩ := h
  have e1 := h0 1 (by omega)
  have e2 := h0 2 (by omega)
  have e3 := h0 3 (by omega)
  have e4 := h0 4 (by omega)
  have e5 := h0 5 (by omega)
  unfold im_Q
  rw [e1, e2, e3, e4, e5, h50 _ (by omega) (by omega), h50 (30 * k + 1) (by omega) (by omega), h50 (30 * k + 2) (by omega) (by omega), h50 (30 * k + 3) (by omega) (by omega)]
  refine ⟨tb_R_c q1 (fun b _ => rfl) (fun b hb => h50 _ (by omega) (by omega)), q2, q3, q4, q5, N, n1, n2, n3, fun q hq => ?_⟩
  show τ'.1 50 (30 * k + 7 + q) = _ ∧ τ'.1 50 (30 * k + 15 + q) = _ ∧ _
  rw [h50 _ (by omega) (by omega), h50 _ (by omega) (by omega)]
  exact n4 q hq
theorem im_R_c2 {i k : Nat} (h : im_R i k σ τ) (h0 : ∀ q, q ≤ 5 → σ'.1 (i + q) = σ.1 (i + q)) (h50 : ∀ q, 30 * k ≤ q → q < 30 * k + 23 → τ'.1 50 q = τ.1 50 q) (h51 : τ'.1 51 k = τ.1 51 k) : im_R i k σ' τ' := by
  have e0 := h0 0 (by omega)
  rw [Nat.add_zero] at e0
  unfold im_R
  rw [e0, h51]
  rcases h with h | ⟨a, b, c⟩
  · exact Or.inl h
  · exact Or.inr ⟨a, b, im_Q_c c h0 h50⟩
def cI (i : Nat) (σ σ' : bz_S) : Prop := (∀ b, b < 3 → σ'.1 (i + 2) b = σ.1 2 b) ∧ σ'.1 (i + 1) 1 = σ.1 1 1 ∧ σ'.1 (i + 1) 2 = σ.1 1 2 ∧ σ'.1 (i + 1) 3 = σ.1 1 3 ∧ (∀ q, q < 8 → σ'.1 (i + 4) q = σ.1 4 q ∧ σ'.1 (i + 5) q = σ.1 5 q) ∧ σ'.1 (i + 3) 2 = σ.1 3 2 ∧ σ'.1 i 2 = 1 ∧ ∀ o, (o < i ∨ i + 6 ≤ o) → σ'.1 o = σ.1 o
theorem q8 {q : Nat} (h : q < 8) : q = 0 ∨ q = 1 ∨ q = 2 ∨ q = 3 ∨ q = 4 ∨ q = 5 ∨ q = 6 ∨ q = 7 := by omega
theorem c_keep20 (σ : bz_S) : cI 20 σ (f_X1_keep_20_1_3 σ) := by
  have fr := rf_X1_keep_20_1_3 σ
  refine ⟨fun b hb => ?_, ?_, ?_, ?_, fun q hq => ?_, ?_, ?_, fun o ho => bz_fr_at fr o (by simp only [List.mem_cons, List.not_mem_nil, or_false]; omega)⟩
  all_goals unfold f_X1_keep_20_1_3 f_X1_keep_20_1_3_a f_X1_keep_20_1_3_b f_X4_copy_23_3 f_X6_copy_21_1
  · rcases (show b = 0 ∨ b = 1 ∨ b = 2 by omega) with rfl | rfl | rfl <;> simp [bz_up]
  · simp [bz_up]
  · simp [bz_up]
  · simp [bz_up]
  · rcases q8 hq with rfl | rfl | rfl | rfl | rfl | rfl | rfl | rfl <;> simp [bz_up]
  · simp [bz_up]
  · simp [bz_up]
theorem c_keep26 (σ : bz_S) : cI 26 σ (f_X1_keep_26_1_3 σ) := by
  have fr := rf_X1_keep_26_1_3 σ
  refine ⟨fun b hb => ?_, ?_, ?_, ?_, fun q hq => ?_, ?_, ?_, fun o ho => bz_fr_at fr o (by simp only [List.mem_cons, List.not_mem_nil, or_false]; omega)⟩
  all_goals unfold f_X1_keep_26_1_3 f_X1_keep_26_1_3_a f_X1_keep_26_1_3_b f_X4_copy_29_3 f_X6_copy_27_1
  · rcases (show b = 0 ∨ b = 1 ∨ b = 2 by omega) with rfl | rfl | rfl <;> simp [bz_up]
  · simp [bz_up]
  · simp [bz_up]
  · simp [bz_up]
  · rcases q8 hq with rfl | rfl | rfl | rfl | rfl | rfl | rfl | rfl <;> simp [bz_up]
  · simp [bz_up]
  · simp [bz_up]
theorem iv_image (h : iv_R T σ τ) {i k j l : Nat} (hk : k < 2) (hl : l < 2) (hkl : k ≠ l) (hi : i = 20 + 6 * k) (hj : j = 20 + 6 * l) (hil : im_R j l σ τ) (hc : cI i σ σ') : im_R i k σ' (bz_up (f_X11_passAll_32 ((bz_up (bz_up τ.1 32 40 (nI (30 * k))) 32 41 1), τ.2)).1 51 k 1, (f_X11_passAll_32 ((bz_up (bz_up τ.1 32 40 (nI (30 * k))) 32 41 1), τ.2)).2) ∧ im_R j l σ' (bz_up (f_X11_passAll_32 ((bz_up (bz_up τ.1 32 40 (nI (30 * k))) 32 41 1), τ.2)).1 51 k 1, (f_X11_passAll_32 ((bz_up (bz_up τ.1 32 40 (nI (30 * k))) 32 41 1), τ.2)).2) ∧ tr_R 2 1 σ' (bz_up (f_X11_passAll_32 ((bz_up (bz_up τ.1 32 40 (nI (30 * k))) 32 41 1), τ.2)).1 51 k 1, (f_X11_passAll_32 ((bz_up (bz_up τ.1 32 40 (nI (30 * k))) 32 41 1), τ.2)).2) ∧ pd_R σ' (bz_up (f_X11_passAll_32 ((bz_up (bz_up τ.1 32 40 (nI (30 * k))) 32 41 1), τ.2)).1 51 k 1, (f_X11_passAll_32 ((bz_up (bz_up τ.1 32 40 (nI (30 * k))) 32 41 1), τ.2)).2) ∧ sg_R σ' (bz_up (f_X11_passAll_32 ((bz_up (bz_up τ.1 32 40 (nI (30 * k))) 32 41 1), τ.2)).1 51 k 1, (f_X11_passAll_32 ((bz_up (bz_up τ.1 32 40 (nI (30 * k))) 32 41 1), τ.2)).2) ∧ hp_R T σ' := by
  obtain ⟨q1, q2, q3, q4, -, -⟩ := h
  obtain ⟨d1, d2, d3, d4, d5, d6, d7, d8⟩ := hc
  have t0 : ∀ o, o ≠ 32 → ((bz_up (bz_up τ.1 32 40 (nI (30 * k))) 32 41 1), τ.2).1 o = τ.1 o := fun o ho => up_oo ho ho
  have t32 : ∀ q, q ≠ 40 → q ≠ 41 → ((bz_up (bz_up τ.1 32 40 (nI (30 * k))) 32 41 1), τ.2).1 32 q = τ.1 32 q := fun q a b => (bz_up_k b).trans (bz_up_k a)
  obtain ⟨⟨-, -, w32, wo⟩, w0, w1, w2, w3, w4, w5, w6, w7⟩ := all_w (σ := ((bz_up (bz_up τ.1 32 40 (nI (30 * k))) 32 41 1), τ.2)) (K := 30 * k) (by omega) (by simp [bz_up]) (by simp [bz_up])
  rw [t0 33 (by decide)] at w4
  rw [t0 34 (by decide)] at w5
  rw [t0 35 (by decide)] at w6
  rw [t32 1 (by decide) (by decide)] at w0
  rw [t32 2 (by decide) (by decide)] at w1
  rw [t32 3 (by decide) (by decide)] at w2
  rw [t32 6 (by decide) (by decide)] at w3
  rw [t0 50 (by decide)] at w7
  have m32 : ∀ q, q ≠ 40 → q ≠ 41 → (f_X11_passAll_32 ((bz_up (bz_up τ.1 32 40 (nI (30 * k))) 32 41 1), τ.2)).1 32 q = τ.1 32 q := fun q a b => (w32 q a).trans (t32 q a b)
  have mo : ∀ o, o ≠ 32 → o ≠ 50 → (f_X11_passAll_32 ((bz_up (bz_up τ.1 32 40 (nI (30 * k))) 32 41 1), τ.2)).1 o = τ.1 o := fun o a b => (wo o a b).trans (t0 o a)
  generalize f_X11_passAll_32 ((bz_up (bz_up τ.1 32 40 (nI (30 * k))) 32 41 1), τ.2) = ω at *
  have p : ∀ o, o ≠ 51 → ((bz_up ω.1 51 k 1, ω.2) : bz_S).1 o = ω.1 o := fun o ho => up_o1 ho
  have c : ∀ o, o < 8 → σ'.1 o = σ.1 o := fun o ho => d8 o (Or.inl (by omega))
  refine ⟨Or.inr ⟨d7, bz_up_s1, ?_⟩, im_R_c2 hil (fun q hq => d8 _ (by omega)) (fun q a b => ?_) ?_, ?_, ?_, ?_, ?_⟩
  · obtain ⟨r1, r2, r3, r4, r5⟩ := q1
    obtain ⟨N, n1, n2, n3, n4⟩ := q3
    unfold im_Q
    rw [p 50 (by decide), w0, w1, w2, w3, d2, d3, d4, d6]
    refine ⟨tb_R_c r1 d1 w4, r2, r3, r4, r5, N, n1, n2, n3, fun q hq => ?_⟩
    obtain ⟨z1, z2⟩ := d5 q hq
    show ω.1 50 (30 * k + 7 + q) = σ'.1 (i + 4) q ∧ ω.1 50 (30 * k + 15 + q) = σ'.1 (i + 5) q ∧ sg_1 (σ'.1 (i + 4) q) (σ'.1 (i + 5) q)
    rw [w5 q hq, w6 q hq, z1, z2]
    exact n4 q hq
  · rw [p 50 (by decide)]
    exact w7 q (by omega)
  · show bz_up ω.1 51 k 1 51 l = _
    rw [bz_up_k (fun z => hkl z.symm)]
    exact congrFun (mo 51 (by decide) (by decide)) l
  · refine tr_R_c q1 (fun b _ => congrFun (c 2 (by decide)) b) (fun q _ => congrFun (c 1 (by decide)) q) (fun b _ => ?_) (fun q _ _ => ?_)
    · rw [p 33 (by decide), mo 33 (by decide) (by decide)]
    · rw [p 32 (by decide)]; exact m32 q (by omega) (by omega)
  · refine pd_R_c q2 (c 6 (by decide)) (c 7 (by decide)) ?_ ?_
    · rw [p 32 (by decide)]; exact m32 8 (by decide) (by decide)
    · rw [p 36 (by decide), mo 36 (by decide) (by decide)]
  · refine sg_R_c q3 (c 3 (by decide)) (c 4 (by decide)) (c 5 (by decide)) ?_ ?_ ?_
    · rw [p 32 (by decide)]; exact m32 6 (by decide) (by decide)
    · rw [p 34 (by decide), mo 34 (by decide) (by decide)]
    · rw [p 35 (by decide), mo 35 (by decide) (by decide)]
  · exact hp_R_c q4 (d8 17 (Or.inl (by omega))) (d8 18 (Or.inl (by omega)))
theorem e_image (h : iv_R T σ τ) (k : Int32) : (f_X11_image_32 τ k).1 = (f_X10_image_0 σ k).1 ∧ iv_R T (f_X10_image_0 σ k).2 (f_X11_image_32 τ k).2 := by
  unfold f_X11_image_32 f_X10_image_0
  rw [m_w k 0 1 (by decide) (by decide)]
  split
  · rename_i hk
    rcases w_01 hk with rfl | rfl
    · rw [if_pos rfl]
      unfold f_X11_image_32_a f_X10_image_0_a
      obtain ⟨a1, a2, a3, a4, a5, a6⟩ := iv_image h (i := 20) (k := 0) (j := 26) (l := 1) (by decide) (by decide) (by decide) rfl rfl h.2.2.2.2.2 (c_keep20 σ)
      exact ⟨rfl, a3, a4, a5, a6, a1, a2⟩
    · rw [if_neg (by decide)]
      unfold f_X11_image_32_a f_X10_image_0_b
      obtain ⟨a1, a2, a3, a4, a5, a6⟩ := iv_image h (i := 26) (k := 1) (j := 20) (l := 0) (by decide) (by decide) (by decide) rfl rfl h.2.2.2.2.1 (c_keep26 σ)
      exact ⟨rfl, a3, a4, a5, a6, a2, a1⟩
  · exact ⟨rfl, h⟩
def rI (i : Nat) (σ σ' : bz_S) : Prop := (∀ b, b < 3 → σ'.1 2 b = σ.1 (i + 2) b) ∧ σ'.1 1 1 = σ.1 (i + 1) 1 ∧ σ'.1 1 2 = σ.1 (i + 1) 2 ∧ σ'.1 1 3 = σ.1 (i + 1) 3 ∧ (∀ q, q < 8 → σ'.1 4 q = σ.1 (i + 4) q ∧ σ'.1 5 q = σ.1 (i + 5) q) ∧ σ'.1 3 2 = σ.1 (i + 3) 2 ∧ ∀ o, 5 < o → σ'.1 o = σ.1 o
theorem c_rest20 (σ : bz_S) : rI 20 σ (f_X4_copy_3_23 (f_X6_copy_1_21 σ)) := by
  have f1 := rf_X6_copy_1_21 σ
  have f2 := rf_X4_copy_3_23 (f_X6_copy_1_21 σ)
  refine ⟨fun b hb => ?_, ?_, ?_, ?_, fun q hq => ?_, ?_, fun o ho => (bz_fr_at f2 o (by simp only [List.mem_cons, List.not_mem_nil, or_false]; omega)).trans (bz_fr_at f1 o (by simp only [List.mem_cons, List.not_mem_nil, or_false]; omega))⟩
  all_goals unfold f_X4_copy_3_23 f_X6_copy_1_21
  · rcases (show b = 0 ∨ b = 1 ∨ b = 2 by omega) with rfl | rfl | rfl <;> simp [bz_up]
  · simp [bz_up]
  · simp [bz_up]
  · simp [bz_up]
  · rcases q8 hq with rfl | rfl | rfl | rfl | rfl | rfl | rfl | rfl <;> simp [bz_up]
  · simp [bz_up]
theorem c_rest26 (σ : bz_S) : rI 26 σ (f_X4_copy_3_29 (f_X6_copy_1_27 σ)) := by
  have f1 := rf_X6_copy_1_27 σ
  have f2 := rf_X4_copy_3_29 (f_X6_copy_1_27 σ)
  refine ⟨fun b hb => ?_, ?_, ?_, ?_, fun q hq => ?_, ?_, fun o ho => (bz_fr_at f2 o (by simp only [List.mem_cons, List.not_mem_nil, or_false]; omega)).trans (bz_fr_at f1 o (by simp only [List.mem_cons, List.not_mem_nil, or_false]; omega))⟩
  all_goals unfold f_X4_copy_3_29 f_X6_copy_1_27
  · rcases (show b = 0 ∨ b = 1 ∨ b = 2 by omega) with rfl | rfl | rfl <;> simp [bz_up]
  · simp [bz_up]
  · simp [bz_up]
  · simp [bz_up]
  · rcases q8 hq with rfl | rfl | rfl | rfl | rfl | rfl | rfl | rfl <;> simp [bz_up]
  · simp [bz_up]
theorem iv_rest (h : iv_R T σ τ) {i k : Nat} (hk : k < 2) (hi : i = 20 + 6 * k) (hq : im_Q i k σ τ) (hc : rI i σ σ') : iv_R T σ' (f_X11_passAll_32 ((bz_up (bz_up τ.1 32 40 (nI (30 * k))) 32 41 0), τ.2)) := by
  obtain ⟨-, q2, -, q4, q5, q6⟩ := h
  obtain ⟨d1, d2, d3, d4, d5, d6, d8⟩ := hc
  have t0 : ∀ o, o ≠ 32 → ((bz_up (bz_up τ.1 32 40 (nI (30 * k))) 32 41 0), τ.2).1 o = τ.1 o := fun o ho => up_oo ho ho
  have t32 : ∀ q, q ≠ 40 → q ≠ 41 → ((bz_up (bz_up τ.1 32 40 (nI (30 * k))) 32 41 0), τ.2).1 32 q = τ.1 32 q := fun q a b => (bz_up_k b).trans (bz_up_k a)
  obtain ⟨w50, w1, w2, w3, w6, w33, w34, w35, w32, wo⟩ := all_r (σ := ((bz_up (bz_up τ.1 32 40 (nI (30 * k))) 32 41 0), τ.2)) (K := 30 * k) (by omega) (by simp [bz_up]) (by simp [bz_up])
  rw [t0 50 (by decide)] at w50 w1 w2 w3 w6 w33 w34 w35
  have m8 : (f_X11_passAll_32 ((bz_up (bz_up τ.1 32 40 (nI (30 * k))) 32 41 0), τ.2)).1 32 8 = τ.1 32 8 := (w32 8 (by decide) (by decide) (by decide) (by decide) (by decide)).trans (t32 8 (by decide) (by decide))
  have m36 := (wo 36 (by decide) (by decide) (by decide) (by decide)).trans (t0 36 (by decide))
  have m51 := (wo 51 (by decide) (by decide) (by decide) (by decide)).trans (t0 51 (by decide))
  generalize f_X11_passAll_32 ((bz_up (bz_up τ.1 32 40 (nI (30 * k))) 32 41 0), τ.2) = ω at *
  obtain ⟨r1, r2, r3, r4, r5, N, n1, n2, n3, n4⟩ := hq
  refine ⟨⟨tb_R_c r1 d1 w33, by rw [w1, d2]; exact r2, by rw [w2, d3]; exact r3, by rw [w3, d4]; exact r4, by rw [d4]; exact r5⟩, pd_R_c q2 (d8 6 (by decide)) (d8 7 (by decide)) m8 m36, ⟨N, n1, d6.trans n2, w6.trans n3, fun q hq => ?_⟩, hp_R_c q4 (d8 17 (by decide)) (d8 18 (by decide)), im_R_c q5 (fun q hq => d8 _ (by omega)) w50 m51, im_R_c q6 (fun q hq => d8 _ (by omega)) w50 m51⟩
  obtain ⟨z1, z2⟩ := d5 q hq
  rw [w34 q hq, w35 q hq, z1, z2]
  exact n4 q hq
theorem e_restore (h : iv_R T σ τ) (k : Int32) : (f_X11_restore_32 τ k).1 = (f_X10_restore_0 σ k).1 ∧ iv_R T (f_X10_restore_0 σ k).2 (f_X11_restore_32 τ k).2 := by
  unfold f_X11_restore_32 f_X10_restore_0
  rw [m_w k 0 1 (by decide) (by decide)]
  split
  · rename_i hk
    rcases w_01 hk with rfl | rfl
    · rw [if_pos rfl]
      unfold f_X11_restore_32_a f_X10_restore_0_a f_X10_restore_0_b
      rcases h.2.2.2.2.1 with ⟨a, b⟩ | ⟨a, b, c⟩
      · rw [a, if_pos rfl, if_pos (show τ.1 51 (0 : Int32).toNatClampNeg = 0 from b)]
        exact ⟨rfl, h⟩
      · rw [a, if_neg (show ¬ (1 : Int32) = 0 by decide), if_neg (show ¬ τ.1 51 (0 : Int32).toNatClampNeg = 0 from fun z => absurd (b.symm.trans z) (by decide))]
        have e := iv_rest h (i := 20) (k := 0) (by decide) rfl c (c_rest20 σ)
        rw [show nI (30 * 0) = (30 : Int32) * 0 by decide] at e
        refine ⟨rfl, ?_⟩
        exact e
    · rw [if_neg (show ¬ (1 : Int32) = 0 by decide)]
      unfold f_X11_restore_32_a f_X10_restore_0_c f_X10_restore_0_d
      rcases h.2.2.2.2.2 with ⟨a, b⟩ | ⟨a, b, c⟩
      · rw [a, if_pos rfl, if_pos (show τ.1 51 (1 : Int32).toNatClampNeg = 0 from b)]
        exact ⟨rfl, h⟩
      · rw [a, if_neg (show ¬ (1 : Int32) = 0 by decide), if_neg (show ¬ τ.1 51 (1 : Int32).toNatClampNeg = 0 from fun z => absurd (b.symm.trans z) (by decide))]
        have e := iv_rest h (i := 26) (k := 1) (by decide) rfl c (c_rest26 σ)
        rw [show nI (30 * 1) = (30 : Int32) * 1 by decide] at e
        refine ⟨rfl, ?_⟩
        exact e
  · exact ⟨rfl, h⟩
end IM
