/-! THE RELATION between the class's objects (in the store σ) and the model's (in τ) -/
/-- a ball's cell: down, or a place -/
def tb_c (x y : Int32) : Prop := (x = -1 ∧ y = -6) ∨ (y = x ∧ f_X10_isPlace x = true)
def tb_R (c d : Nat → Int32) : Prop := (∀ b, b < 3 → tb_c (c b) (d b)) ∧ (∀ b b', b < 3 → b' < 3 → c b = c b' → b = b' ∨ c b = -1)
def tb_E (e : Int32) : Prop := ∃ E, E ≤ 99 ∧ e = nI E
/-- a table of the class (its object ot, its cells oc), and the model's -/
def tr_R (oc ot : Nat) (σ τ : bz_S) : Prop := tb_R (σ.1 oc) (τ.1 33) ∧ τ.1 32 1 = σ.1 ot 1 ∧ τ.1 32 2 = σ.1 ot 2 ∧ τ.1 32 3 = σ.1 ot 3 ∧ tb_E (σ.1 ot 3)
def pd_R (σ τ : bz_S) : Prop := ∃ N, N ≤ 60 ∧ σ.1 6 1 = nI N ∧ τ.1 32 8 = nI N ∧ ∀ k, k < 60 → τ.1 36 k = σ.1 7 k
def sg_1 (s c : Int32) : Prop := (∃ K, K ≤ 60 ∧ s = nI K) ∧ (∃ C, C < 45 ∧ c = nI C)
def sg_Q (n m : Int32) (s c s' c' : Nat → Int32) : Prop := ∃ N, N ≤ 8 ∧ n = nI N ∧ m = nI N ∧ ∀ k, k < 8 → s' k = s k ∧ c' k = c k ∧ sg_1 (s k) (c k)
def sg_R (σ τ : bz_S) : Prop := sg_Q (σ.1 3 2) (τ.1 32 6) (σ.1 4) (σ.1 5) (τ.1 34) (τ.1 35)
/-- an image of the class (its object i) and of the model (from kept's place 30 k on) -/
def im_Q (i k : Nat) (σ τ : bz_S) : Prop := tb_R (σ.1 (i + 2)) (fun b => τ.1 50 (30 * k + 4 + b)) ∧ τ.1 50 (30 * k) = σ.1 (i + 1) 1 ∧ τ.1 50 (30 * k + 1) = σ.1 (i + 1) 2 ∧ τ.1 50 (30 * k + 2) = σ.1 (i + 1) 3 ∧ tb_E (σ.1 (i + 1) 3) ∧ sg_Q (σ.1 (i + 3) 2) (τ.1 50 (30 * k + 3)) (σ.1 (i + 4)) (σ.1 (i + 5)) (fun q => τ.1 50 (30 * k + 7 + q)) (fun q => τ.1 50 (30 * k + 15 + q))
def im_R (i k : Nat) (σ τ : bz_S) : Prop := (σ.1 i 2 = 0 ∧ τ.1 51 k = 0) ∨ (σ.1 i 2 = 1 ∧ τ.1 51 k = 1 ∧ im_Q i k σ τ)
/-- the heaps' third ones, once they are known -/
def hp_R (T : Nat → Int32) (σ : bz_S) : Prop := σ.1 17 1 = 0 ∨ (σ.1 17 1 = 1 ∧ ∀ o, o < 100 → σ.1 18 o = T o)
def iv_R (T : Nat → Int32) (σ τ : bz_S) : Prop := tr_R 2 1 σ τ ∧ pd_R σ τ ∧ sg_R σ τ ∧ hp_R T σ ∧ im_R 20 0 σ τ ∧ im_R 26 1 σ τ
section IV
variable {T : Nat → Int32} {σ σ' τ τ' : bz_S}
theorem tb_R_c {c c' d d' : Nat → Int32} (h : tb_R c d) (h1 : ∀ b, b < 3 → c' b = c b) (h2 : ∀ b, b < 3 → d' b = d b) : tb_R c' d' := by
  refine ⟨fun b hb => by rw [h1 b hb, h2 b hb]; exact h.1 b hb, fun b b' hb hb' e => ?_⟩
  rw [h1 b hb, h1 b' hb'] at e
  rw [h1 b hb]
  exact h.2 b b' hb hb' e
theorem tr_R_c {oc ot : Nat} (h : tr_R oc ot σ τ) (h1 : ∀ b, b < 3 → σ'.1 oc b = σ.1 oc b) (h2 : ∀ k, k < 4 → σ'.1 ot k = σ.1 ot k) (h3 : ∀ b, b < 3 → τ'.1 33 b = τ.1 33 b) (h4 : ∀ k, 1 ≤ k → k ≤ 3 → τ'.1 32 k = τ.1 32 k) : tr_R oc ot σ' τ' := by
  obtain ⟨q1, q2, q3, q4, q5⟩ := h
  refine ⟨tb_R_c q1 h1 h3, ?_, ?_, ?_, ?_⟩
  · rw [h4 1 (by omega) (by omega), h2 1 (by omega)]; exact q2
  · rw [h4 2 (by omega) (by omega), h2 2 (by omega)]; exact q3
  · rw [h4 3 (by omega) (by omega), h2 3 (by omega)]; exact q4
  · rw [h2 3 (by omega)]; exact q5
theorem pd_R_c (h : pd_R σ τ) (h6 : σ'.1 6 = σ.1 6) (h7 : σ'.1 7 = σ.1 7) (h8 : τ'.1 32 8 = τ.1 32 8) (h36 : τ'.1 36 = τ.1 36) : pd_R σ' τ' := by
  unfold pd_R at h ⊢
  rw [h6, h7, h8, h36]
  exact h
theorem sg_R_c (h : sg_R σ τ) (h3 : σ'.1 3 = σ.1 3) (h4 : σ'.1 4 = σ.1 4) (h5 : σ'.1 5 = σ.1 5) (h6 : τ'.1 32 6 = τ.1 32 6) (h34 : τ'.1 34 = τ.1 34) (h35 : τ'.1 35 = τ.1 35) : sg_R σ' τ' := by
  unfold sg_R at h ⊢
  rw [h3, h4, h5, h6, h34, h35]
  exact h
theorem hp_R_c (h : hp_R T σ) (h17 : σ'.1 17 = σ.1 17) (h18 : σ'.1 18 = σ.1 18) : hp_R T σ' := by
  unfold hp_R at h ⊢
  rw [h17, h18]
  exact h
theorem im_R_c {i k : Nat} (h : im_R i k σ τ) (h0 : ∀ q, q ≤ 5 → σ'.1 (i + q) = σ.1 (i + q)) (h50 : τ'.1 50 = τ.1 50) (h51 : τ'.1 51 = τ.1 51) : im_R i k σ' τ' := by
  have e0 := h0 0 (by omega)
  have e1 := h0 1 (by omega)
  have e2 := h0 2 (by omega)
  have e3 := h0 3 (by omega)
  have e4 := h0 4 (by omega)
  have e5 := h0 5 (by omega)
  rw [Nat.add_zero] at e0
  unfold im_R im_Q at h ⊢
  rw [e0, e1, e2, e3, e4, e5, h50, h51]
  exact h
/-- what neither side's own working objects concern -/
theorem iv_c (h : iv_R T σ τ) (h1 : bz_fr [8, 9, 10, 11, 12, 13, 14, 15, 16] σ σ') (h2 : bz_fr [32, 33, 37, 38, 39, 40, 41, 42, 43, 44, 45, 46, 47, 48, 49] τ τ') (h3 : ∀ k, k = 1 ∨ k = 2 ∨ k = 3 ∨ k = 6 ∨ k = 8 → τ'.1 32 k = τ.1 32 k) (h4 : ∀ b, b < 3 → τ'.1 33 b = τ.1 33 b) : iv_R T σ' τ' := by
  obtain ⟨q1, q2, q3, q4, q5, q6⟩ := h
  have f := fun o (ho : o ∉ [8, 9, 10, 11, 12, 13, 14, 15, 16]) => bz_fr_at h1 o ho
  have g := fun o (ho : o ∉ [32, 33, 37, 38, 39, 40, 41, 42, 43, 44, 45, 46, 47, 48, 49]) => bz_fr_at h2 o ho
  refine ⟨tr_R_c q1 (fun b _ => congrFun (f 2 (by decide)) b) (fun k _ => congrFun (f 1 (by decide)) k) h4 (fun k a b => h3 k (by omega)), pd_R_c q2 (f 6 (by decide)) (f 7 (by decide)) (h3 8 (by omega)) (g 36 (by decide)), sg_R_c q3 (f 3 (by decide)) (f 4 (by decide)) (f 5 (by decide)) (h3 6 (by omega)) (g 34 (by decide)) (g 35 (by decide)), hp_R_c q4 (f 17 (by decide)) (f 18 (by decide)), im_R_c q5 (fun q hq => ?_) (g 50 (by decide)) (g 51 (by decide)), im_R_c q6 (fun q hq => ?_) (g 50 (by decide)) (g 51 (by decide))⟩
  · refine f (20 + q) (fun z => ?_)
    simp only [List.mem_cons, List.not_mem_nil, or_false] at z
    omega
  · refine f (26 + q) (fun z => ?_)
    simp only [List.mem_cons, List.not_mem_nil, or_false] at z
    omega
theorem iv_pad (h : iv_R T σ τ) : bz_pad σ ∧ bz_padM τ := by
  obtain ⟨-, ⟨N, h1, h2, h3, -⟩, -⟩ := h
  exact ⟨⟨N, h1, h2⟩, ⟨N, h1, h3⟩⟩
theorem iv_sgh (h : iv_R T σ τ) : bz_sgh σ ∧ bz_sgM τ ∧ bz_sgW τ := by
  obtain ⟨-, -, ⟨N, h1, h2, h3, h4⟩, -⟩ := h
  refine ⟨⟨N, h1, h2⟩, ⟨N, h1, h3⟩, fun q hq => ?_⟩
  obtain ⟨q1, q2, ⟨K, k1, k2⟩, -⟩ := h4 q hq
  exact ⟨K, by omega, q1.trans k2⟩
/-! cells -/
theorem tb_pl {x : Int32} (h : f_X10_isPlace x = true) : ∃ a, a < 45 ∧ x = nI a ∧ f_X10_isPocket x = false := by
  unfold f_X10_isPlace at h
  split at h
  · rename_i h1
    split at h
    · cases h
    · rename_i h2
      obtain ⟨j, h3, h4, h5⟩ := bz_wN (a := 0) (b := 44) (by decide) (by decide) (by decide) h1
      exact ⟨j, by omega, h5, Bool.eq_false_iff.mpr h2⟩
  · cases h
theorem tb_plI {a : Nat} (ha : a < 45) (h : f_X10_isPocket (nI a) = false) : f_X10_isPlace (nI a) = true := by
  unfold f_X10_isPlace
  have e : f_X10_isCell (nI a) = true := by
    unfold f_X10_isCell f_X10_isWithin
    rw [if_neg (nI_pos (by omega)), if_neg (show ¬ (44 : Int32) < nI a from nI_nlt (a := 44) (by omega) (by omega))]
  rw [if_pos e, if_neg (by rw [h]; decide)]
theorem tb_nd {a : Nat} (ha : a < 45) : ¬ nI a = -1 := by
  intro z
  have h1 := nI_toInt (n := a) (by omega)
  rw [z] at h1
  have e : (-1 : Int32).toInt = -1 := by decide
  omega
theorem tb_c_dn {x y : Int32} (h : tb_c x y) : x = -1 ↔ y < 0 := by
  rcases h with ⟨rfl, rfl⟩ | ⟨rfl, h⟩
  · exact ⟨fun _ => by decide, fun _ => rfl⟩
  · obtain ⟨a, ha, rfl, -⟩ := tb_pl h
    exact ⟨fun z => absurd z (tb_nd ha), fun z => absurd z (nI_pos (by omega))⟩
theorem tb_c_up {x y : Int32} (h : tb_c x y) (hx : ¬ x = -1) : y = x ∧ ∃ a, a < 45 ∧ x = nI a ∧ f_X10_isPocket x = false := by
  rcases h with ⟨h, -⟩ | ⟨h1, h2⟩
  · exact absurd h hx
  · exact ⟨h1, tb_pl h2⟩
/-- what the class tells of a cell: the cell, or none -/
theorem tb_c_none {x y : Int32} (h : tb_c x y) : (if x = -1 then -6 else x) = y := by
  rcases h with ⟨rfl, rfl⟩ | ⟨rfl, h⟩
  · rfl
  · obtain ⟨a, ha, rfl, -⟩ := tb_pl h
    rw [if_neg (tb_nd ha)]
theorem tb_b3 {b : Int32} (h : vp_in b 3) : ∃ B, B < 3 ∧ b = nI B ∧ b.toNatClampNeg = B := by
  obtain ⟨h1, h2⟩ := vp_in_iff.mp h
  refine ⟨b.toInt.toNat, by omega, Int32.toInt_inj.mp ?_, rfl⟩
  rw [nI_toInt (by omega)]
  omega
theorem tb_isBall {B : Nat} (h : B < 3) : f_X10_isBall (nI B) = true := by
  unfold f_X10_isBall
  rw [if_neg (nI_pos (by omega)), if_neg (show ¬ (3 : Int32) ≤ nI B from nI_ge (b := 3) h (by decide))]
/-- who lies on a cell -/
def cl_on (c : Nat → Int32) (q : Int32) : Int32 := if c 0 = q then 0 else (if c 1 = q then 1 else (if c 2 = q then 2 else (-1)))
def ml_on (d : Nat → Int32) (q : Int32) : Int32 := if d 2 = q then 2 else (if d 1 = q then 1 else (if d 0 = q then 0 else (-6)))
theorem cl_on1 (σ : bz_S) (q : Int32) : f_X6_lyingOn_1 σ q = cl_on (σ.1 2) q := rfl
theorem cl_on9 (σ : bz_S) (q : Int32) : f_X6_lyingOn_9 σ q = cl_on (σ.1 10) q := rfl
theorem ml_on32 (τ : bz_S) (q : Int32) : f_X11_ballOn_32 τ q = ml_on (τ.1 33) q := by
  unfold f_X11_ballOn_32 ml_on
  by_cases h0 : τ.1 33 0 = q <;> by_cases h1 : τ.1 33 1 = q <;> by_cases h2 : τ.1 33 2 = q <;> simp [h0, h1, h2]
theorem tb_c_eq {x y : Int32} (h : tb_c x y) {a : Nat} (ha : a < 45) : (x = nI a) ↔ (y = nI a) := by
  rcases h with ⟨rfl, rfl⟩ | ⟨rfl, h⟩
  · exact ⟨fun z => absurd z.symm (tb_nd ha), fun z => absurd z.symm (bz_nI6 (by omega))⟩
  · exact Iff.rfl
/-- both sides tell the same of who lies on a cell -/
theorem tb_on {c d : Nat → Int32} (h : tb_R c d) {a : Nat} (ha : a < 45) : (cl_on c (nI a) = -1 ∧ ml_on d (nI a) = -6 ∧ ∀ b, b < 3 → ¬ c b = nI a) ∨ (∃ b, b < 3 ∧ cl_on c (nI a) = nI b ∧ ml_on d (nI a) = nI b ∧ c b = nI a) := by
  have e0 := tb_c_eq (h.1 0 (by omega)) ha
  have e1 := tb_c_eq (h.1 1 (by omega)) ha
  have e2 := tb_c_eq (h.1 2 (by omega)) ha
  unfold cl_on ml_on
  have nd := tb_nd ha
  by_cases h0 : c 0 = nI a
  · have n1 : ¬ c 1 = nI a := fun z => (h.2 0 1 (by omega) (by omega) (h0.trans z.symm)).elim (by decide) (fun w => nd (h0.symm.trans w))
    have n2 : ¬ c 2 = nI a := fun z => (h.2 0 2 (by omega) (by omega) (h0.trans z.symm)).elim (by decide) (fun w => nd (h0.symm.trans w))
    rw [if_pos h0, if_neg (fun z => n2 (e2.mpr z)), if_neg (fun z => n1 (e1.mpr z)), if_pos (e0.mp h0)]
    exact Or.inr ⟨0, by omega, rfl, rfl, h0⟩
  · by_cases h1 : c 1 = nI a
    · have n2 : ¬ c 2 = nI a := fun z => (h.2 1 2 (by omega) (by omega) (h1.trans z.symm)).elim (by decide) (fun w => nd (h1.symm.trans w))
      rw [if_neg h0, if_pos h1, if_neg (fun z => n2 (e2.mpr z)), if_pos (e1.mp h1)]
      exact Or.inr ⟨1, by omega, rfl, rfl, h1⟩
    · by_cases h2 : c 2 = nI a
      · rw [if_neg h0, if_neg h1, if_pos h2, if_pos (e2.mp h2)]
        exact Or.inr ⟨2, by omega, rfl, rfl, h2⟩
      · rw [if_neg h0, if_neg h1, if_neg h2, if_neg (fun z => h2 (e2.mpr z)), if_neg (fun z => h1 (e1.mpr z)), if_neg (fun z => h0 (e0.mpr z))]
        refine Or.inl ⟨rfl, rfl, fun b hb => ?_⟩
        rcases (show b = 0 ∨ b = 1 ∨ b = 2 by omega) with rfl | rfl | rfl
        · exact h0
        · exact h1
        · exact h2
/-- one ball is put elsewhere -/
theorem tb_put {f g : Nat → Nat → Int32} {o o' B : Nat} {x y : Int32} (h : tb_R (f o) (g o')) (hx : tb_c x y) (hn : x = -1 ∨ ∀ b, b < 3 → b ≠ B → ¬ f o b = x) : tb_R (bz_up f o B x o) (bz_up g o' B y o') := by
  refine ⟨fun b hb => ?_, fun b b' hb hb' e => ?_⟩
  · by_cases q : b = B
    · rw [q, bz_up_s, bz_up_s]; exact hx
    · rw [bz_up_k q, bz_up_k q]; exact h.1 b hb
  · by_cases q : b = B
    · by_cases q' : b' = B
      · exact Or.inl (q.trans q'.symm)
      · rw [q, bz_up_s, bz_up_k q'] at e
        rw [q, bz_up_s]
        rcases hn with z | z
        · exact Or.inr z
        · exact absurd e.symm (z b' hb' q')
    · by_cases q' : b' = B
      · rw [q', bz_up_s, bz_up_k q] at e
        rw [bz_up_k q]
        rcases hn with z | z
        · exact Or.inr (e.trans z)
        · exact absurd e (z b hb q)
      · rw [bz_up_k q, bz_up_k q'] at e
        rw [bz_up_k q]
        exact h.2 b b' hb hb' e
end IV
