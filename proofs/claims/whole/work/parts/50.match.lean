/-! MATCHES -/
def chL (of so : Nat) : Nat → Nat → Nat → Nat
  | 0, ws, _ => ws
  | n + 1, ws, i => chL of so n (ws * (of - so + i) / i) (i + 1)
def chN (of so : Nat) : Nat := chL of so so 1 1
theorem ch_all : ∀ of : Fin 15, ∀ so : Fin 8, so.val ≤ of.val → lp_choose (nI of) (nI so) so 1 1 = lN (chN of so) := by decide +kernel
theorem c_choose_n {of so : Nat} (h1 : of < 15) (h2 : so < 8) (h3 : so ≤ of) : f_X2_choose (nI of) (nI so) = lN (chN of so) := by
  unfold f_X2_choose
  rw [nI_clamp (by omega)]
  exact ch_all ⟨of, h1⟩ ⟨so, h2⟩ h3
theorem c_pow : ∀ (n : Nat) (ba : Nat) (pr : Nat) (iv : Int32), ba < 2 ^ 31 → lp_power (nI ba) n (lN pr) iv = lN (pr * ba ^ n) := by
  intro n
  induction n with
  | zero => intro ba pr iv h; rw [lp_power, Nat.pow_zero, Nat.mul_one]
  | succ n ih =>
    intro ba pr iv h
    rw [lp_power, nI_l h, lN_mul, ih ba _ _ h]
    congr 1
    rw [Nat.pow_succ, Nat.mul_assoc, Nat.mul_comm ba]
theorem c_power {ba ti : Nat} (h1 : ba < 2 ^ 31) (h2 : ti < 2 ^ 31) : f_X2_power (nI ba) (nI ti) = lN (ba ^ ti) := by
  unfold f_X2_power
  rw [nI_clamp h2]
  exact (c_pow ti ba 1 0 h1).trans (by rw [Nat.one_mul])
theorem m_pow : ∀ (n : Nat) (ba : Nat) (pr : Nat) (iv : Int32), lp_mpow (lN ba) n (lN pr) iv = lN (pr * ba ^ n) := by
  intro n
  induction n with
  | zero => intro ba pr iv; rw [lp_mpow, Nat.pow_zero, Nat.mul_one]
  | succ n ih =>
    intro ba pr iv
    rw [lp_mpow, lN_mul, ih ba]
    congr 1
    rw [Nat.pow_succ, Nat.mul_assoc, Nat.mul_comm ba]
theorem m_power {ti : Nat} (h2 : ti < 2 ^ 31) : f_X11_power 10 (nI ti) = lN (10 ^ ti) := by
  unfold f_X11_power
  rw [nI_clamp h2]
  exact (m_pow ti 10 1 0).trans (by rw [Nat.one_mul])
/-- the class's sums -/
def wnN (mi th t : Nat) : Nat → Nat → Nat → Nat
  | 0, su, _ => su
  | n + 1, su, y => wnN mi th t n (su + chN (mi - 1 + y) y * t ^ mi * (10 - t) ^ y * 10 ^ (th - 1 - y)) (y + 1)
def g1N (mi th t x : Nat) : Nat → Nat → Nat → Nat
  | 0, su, _ => su
  | n + 1, su, y => g1N mi th t x n (su + chN (x + y) y * t ^ x * (10 - t) ^ y * 10 ^ (mi + th - 1 - x - y)) (y + 1)
def gmN (mi th t : Nat) : Nat → Nat → Nat → Nat
  | 0, su, _ => su
  | n + 1, su, x => gmN mi th t n (g1N mi th t x th su 0) (x + 1)
theorem c_win {mi th t : Nat} (h1 : 1 ≤ mi) (h2 : mi ≤ 8) (h3 : 1 ≤ th) (h4 : th ≤ 8) (ht : t ≤ 10) : ∀ (n su y : Nat), y + n = th → lp_win (nI mi) (nI th) (nI t) n (lN su) (nI y) = lN (wnN mi th t n su y) := by
  intro n
  induction n with
  | zero => intro su y h; rw [lp_win, wnN]
  | succ n ih =>
    intro su y h
    have a1 : (nI mi - 1) + nI y = nI (mi - 1 + y) := by rw [show nI mi - 1 = nI (mi - 1) from bz_subN (b := 1) h1, nI_add]
    have a2 : 10 - nI t = nI (10 - t) := bz_subN (a := 10) ht
    have a3 : (nI th - 1) - nI y = nI (th - 1 - y) := by rw [show nI th - 1 = nI (th - 1) from bz_subN (b := 1) h3, bz_subN (by omega)]
    have p10 : f_X2_power 10 (nI (th - 1 - y)) = lN (10 ^ (th - 1 - y)) := c_power (ba := 10) (by omega) (by omega)
    rw [lp_win, wnN, a1, a2, a3, c_choose_n (by omega) (by omega) (by omega), c_power (by omega) (by omega), c_power (by omega) (by omega), p10, lN_mul, lN_mul, lN_mul, lN_add, nI_1]
    exact ih _ _ (by omega)
theorem c_gm1 {mi th t x : Nat} (h1 : 1 ≤ mi) (h2 : mi ≤ 8) (h3 : 1 ≤ th) (h4 : th ≤ 8) (ht : t ≤ 10) (hx : x < mi) : ∀ (n su y : Nat), y + n = th → lp_gm1 (nI mi) (nI th) (nI t) (nI x) n (lN su) (nI y) = lN (g1N mi th t x n su y) := by
  intro n
  induction n with
  | zero => intro su y h; rw [lp_gm1, g1N]
  | succ n ih =>
    intro su y h
    have a2 : 10 - nI t = nI (10 - t) := bz_subN (a := 10) ht
    have a3 : (((nI mi + nI th) - 1) - nI x) - nI y = nI (mi + th - 1 - x - y) := by rw [nI_add, show nI (mi + th) - 1 = nI (mi + th - 1) from bz_subN (b := 1) (by omega), bz_subN (by omega), bz_subN (by omega)]
    have p10 : f_X2_power 10 (nI (mi + th - 1 - x - y)) = lN (10 ^ (mi + th - 1 - x - y)) := c_power (ba := 10) (by omega) (by omega)
    rw [lp_gm1, g1N, nI_add, a2, a3, c_choose_n (by omega) (by omega) (by omega), c_power (by omega) (by omega), c_power (by omega) (by omega), p10, lN_mul, lN_mul, lN_mul, lN_add, nI_1]
    exact ih _ _ (by omega)
theorem c_gm {mi th t : Nat} (h1 : 1 ≤ mi) (h2 : mi ≤ 8) (h3 : 1 ≤ th) (h4 : th ≤ 8) (ht : t ≤ 10) : ∀ (n su x : Nat), x + n = mi → lp_gm (nI mi) (nI th) (nI t) n (lN su) (nI x) = lN (gmN mi th t n su x) := by
  intro n
  induction n with
  | zero => intro su x h; rw [lp_gm, gmN]
  | succ n ih =>
    intro su x h
    have := c_gm1 h1 h2 h3 h4 ht (show x < mi by omega) th su 0 (by omega)
    have e : lp_gm1 (nI mi) (nI th) (nI t) (nI x) th (lN su) 0 = lN (g1N mi th t x th su 0) := this
    rw [lp_gm, gmN, nI_clamp (by omega), e, nI_1]
    exact ih _ _ (by omega)
/-! the model's chances -/
def Pc (t i j : Nat) : Nat := chN (i + j) j * t ^ i * (10 - t) ^ j
theorem pas_all : ∀ i : Fin 7, ∀ j : Fin 7, chN (i.val + 1 + (j.val + 1)) (j.val + 1) = chN (i.val + (j.val + 1)) (j.val + 1) + chN (i.val + 1 + j.val) j.val := by decide +kernel
theorem ch_0 (n : Nat) : chN n 0 = 1 := rfl
theorem ch_n : ∀ n : Fin 9, chN (0 + n.val) n = 1 := by decide +kernel
theorem Pc_00 (t : Nat) : Pc t 0 0 = 1 := rfl
theorem Pc_s0 (t i : Nat) : Pc t (i + 1) 0 = t * Pc t i 0 := by
  unfold Pc
  rw [ch_0, ch_0, Nat.pow_succ]
  simp [Nat.mul_comm]
theorem Pc_0s (t : Nat) {j : Nat} (h : j < 8) : Pc t 0 (j + 1) = (10 - t) * Pc t 0 j := by
  unfold Pc
  have a := ch_n ⟨j, by omega⟩
  have b := ch_n ⟨j + 1, by omega⟩
  simp only at a b
  rw [a, b, Nat.pow_succ]
  simp [Nat.mul_comm]
theorem Pc_ss (t : Nat) {i j : Nat} (hi : i < 7) (hj : j < 7) : Pc t (i + 1) (j + 1) = t * Pc t i (j + 1) + (10 - t) * Pc t (i + 1) j := by
  unfold Pc
  have a := pas_all ⟨i, hi⟩ ⟨j, hj⟩
  simp only at a
  rw [a, Nat.add_mul, Nat.add_mul]
  congr 1
  · simp only [Nat.pow_succ]
    ac_rfl
  · simp only [Nat.pow_succ]
    ac_rfl
/-- what the rows of chance hold: the rows below i are done, in row i the columns below j -/
def Vn (th t i j p q : Nat) : Nat := if q < th then (if p < i ∨ (p = i ∧ q ≤ j) then Pc t p q else (if p = i then (if i = 0 then 0 else t * Pc t (i - 1) q) else (if p = i + 1 ∧ q < j then t * Pc t i q else 0))) else (if q = th ∧ (p < i ∨ (p = i ∧ j = th)) then (10 - t) * Pc t p (th - 1) else 0)
def dp_R (a b mi th t i j : Nat) (σ : bz_S) : Prop := ∀ p q, p ≤ mi → q ≤ th → σ.2 49 (9 * (a + p) + (b + q)) = lN (Vn th t i j p q)
theorem Vn_ij {th t i j : Nat} (h : j < th) : Vn th t i j i j = Pc t i j := by
  unfold Vn
  rw [if_pos h, if_pos (Or.inr ⟨rfl, Nat.le_refl _⟩)]
theorem Vn_dn {th t i j : Nat} (h : j < th) : Vn th t i j (i + 1) j = 0 := by
  unfold Vn
  rw [if_pos h, if_neg (by omega), if_neg (by omega), if_neg (by omega)]
theorem Vn_rt {th t i j : Nat} (h : j < th) : Vn th t i j i (j + 1) = if j + 1 < th then (if i = 0 then 0 else t * Pc t (i - 1) (j + 1)) else 0 := by
  unfold Vn
  by_cases z : j + 1 < th
  · rw [if_pos z, if_pos z, if_neg (by omega), if_pos rfl]
  · rw [if_neg z, if_neg z, if_neg (by omega)]
theorem Vn_st {th t i j : Nat} (h : j < th) (h8 : th ≤ 8) (hi : i < 8) (p q : Nat) : Vn th t i (j + 1) p q = if p = i + 1 ∧ q = j then t * Pc t i j else (if p = i ∧ q = j + 1 then Vn th t i j i (j + 1) + (10 - t) * Pc t i j else Vn th t i j p q) := by
  by_cases e1 : p = i + 1 ∧ q = j
  · rw [if_pos e1, e1.1, e1.2]
    unfold Vn
    rw [if_pos h, if_neg (by omega), if_neg (by omega), if_pos ⟨rfl, by omega⟩]
  · rw [if_neg e1]
    by_cases e2 : p = i ∧ q = j + 1
    · rw [if_pos e2, e2.1, e2.2, Vn_rt h]
      unfold Vn
      by_cases z : j + 1 < th
      · rw [if_pos z, if_pos z, if_pos (Or.inr ⟨rfl, Nat.le_refl _⟩)]
        by_cases y : i = 0
        · rw [if_pos y, y, Nat.zero_add, Pc_0s t (by omega)]
        · obtain ⟨k, rfl⟩ : ∃ k, i = k + 1 := ⟨i - 1, by omega⟩
          rw [if_neg y, Pc_ss t (by omega) (by omega)]
          rfl
      · rw [if_neg z, if_neg z, if_pos ⟨by omega, Or.inr ⟨rfl, by omega⟩⟩, Nat.zero_add, show th - 1 = j by omega]
    · rw [if_neg e2]
      unfold Vn
      by_cases c1 : q < th
      · rw [if_pos c1, if_pos c1]
        by_cases c2 : p < i ∨ (p = i ∧ q ≤ j)
        · rw [if_pos c2, if_pos (by omega)]
        · rw [if_neg c2, if_neg (by omega)]
          by_cases c3 : p = i
          · rw [if_pos c3, if_pos c3]
          · rw [if_neg c3, if_neg c3]
            by_cases c4 : p = i + 1 ∧ q < j
            · rw [if_pos c4, if_pos ⟨c4.1, by omega⟩]
            · rw [if_neg c4, if_neg (by omega)]
      · rw [if_neg c1, if_neg c1]
        by_cases c2 : q = th ∧ (p < i ∨ (p = i ∧ j + 1 = th))
        · rw [if_pos c2, if_pos (by omega)]
        · rw [if_neg c2, if_neg (by omega)]
theorem Vn_row {th t i : Nat} (h : 0 < th) (p q : Nat) (hq : q ≤ th) : Vn th t (i + 1) 0 p q = Vn th t i th p q := by
  unfold Vn
  by_cases c1 : q < th
  · rw [if_pos c1, if_pos c1]
    by_cases c2 : p < i + 1
    · rw [if_pos (Or.inl c2), if_pos (by omega)]
    · rw [if_neg (show ¬ (p < i ∨ (p = i ∧ q ≤ th)) by omega)]
      by_cases c3 : p = i + 1
      · rw [if_neg (show ¬ p = i by omega), if_pos (show p = i + 1 ∧ q < th from ⟨c3, c1⟩)]
        by_cases c4 : q = 0
        · rw [if_pos (Or.inr ⟨c3, by omega⟩), c3, c4, Pc_s0]
        · rw [if_neg (by omega), if_pos c3, if_neg (by omega)]
          rfl
      · rw [if_neg (by omega), if_neg c3, if_neg (by omega), if_neg (by omega), if_neg (by omega)]
  · rw [if_neg c1, if_neg c1]
    by_cases c2 : p < i + 1
    · rw [if_pos ⟨by omega, Or.inl c2⟩, if_pos ⟨by omega, by omega⟩]
    · rw [if_neg (by omega), if_neg (by omega)]
theorem up_l {f : Nat → Nat → Int64} {o k k' : Nat} {x : Int64} : bz_up f o k x o k' = if k' = k then x else f o k' := by
  by_cases h : k' = k
  · rw [if_pos h, h, bz_up_s]
  · rw [if_neg h, bz_up_k h]
theorem m_fc3 {a b mi th t i : Nat} (h1 : a + mi ≤ 8) (h2 : b + th ≤ 8) (hi : i < mi) (ht : t ≤ 10) : ∀ (n : Nat) (σ : bz_S) (j : Nat), j + n = th → dp_R a b mi th t i j σ → dp_R a b mi th t i th (lp_fc3 (nI t) (nI (a + i)) n σ (nI (b + j))) := by
  intro n
  induction n with
  | zero =>
    intro σ j hj h
    obtain rfl : j = th := by omega
    rw [lp_fc3]
    exact h
  | succ n ih =>
    intro σ j hj h
    have x1 : (9 * (nI (a + i) + 1)) + nI (b + j) = nI (9 * (a + i + 1) + (b + j)) := by rw [nI_1]; exact bz_9 rfl rfl
    have x0 : (9 * nI (a + i)) + nI (b + j) = nI (9 * (a + i) + (b + j)) := bz_9 rfl rfl
    have tt : Int32.toInt64 (nI t) = lN t := nI_l (by omega)
    have uu : 10 - lN t = lN (10 - t) := lN_sub (a := 10) ht
    have v0 := h i j (by omega) (by omega)
    have v1 := h (i + 1) j (by omega) (by omega)
    have v2 := h i (j + 1) (by omega) (by omega)
    rw [Vn_ij (by omega)] at v0
    rw [Vn_dn (by omega)] at v1
    have i1 : 9 * (a + (i + 1)) + (b + j) = 9 * (a + i + 1) + (b + j) := by omega
    have i2 : 9 * (a + i) + (b + (j + 1)) = 9 * (a + i) + (b + j) + 1 := by omega
    rw [i1] at v1
    rw [i2] at v2
    rw [lp_fc3, x1, x0, nI_1, nI_1, nI_clamp (by omega), nI_clamp (by omega), nI_clamp (by omega), tt, uu, v0, v1, lN_mul, lN_add, Nat.zero_add]
    have r1 : bz_up σ.2 49 (9 * (a + i + 1) + (b + j)) (lN (t * Pc t i j)) 49 (9 * (a + i) + (b + j) + 1) = lN (Vn th t i j i (j + 1)) := by
      rw [bz_up_k (by omega)]; exact v2
    have r0 : bz_up σ.2 49 (9 * (a + i + 1) + (b + j)) (lN (t * Pc t i j)) 49 (9 * (a + i) + (b + j)) = lN (Pc t i j) := by
      rw [bz_up_k (by omega)]; exact v0
    rw [r1, r0, lN_mul, lN_add]
    refine ih _ (j + 1) (by omega) (fun p q hp hq => ?_)
    show bz_up (bz_up σ.2 49 (9 * (a + i + 1) + (b + j)) (lN (t * Pc t i j))) 49 (9 * (a + i) + (b + j) + 1) (lN (Vn th t i j i (j + 1) + (10 - t) * Pc t i j)) 49 (9 * (a + p) + (b + q)) = _
    rw [Vn_st (by omega) (by omega) (by omega), up_l, up_l]
    by_cases e1 : p = i + 1 ∧ q = j
    · rw [if_pos e1, if_neg (by omega), if_pos (by omega)]
    · rw [if_neg e1]
      by_cases e2 : p = i ∧ q = j + 1
      · rw [if_pos e2, if_pos (by omega)]
      · rw [if_neg e2, if_neg (by omega), if_neg (by omega)]
        exact h p q hp hq
theorem m_fc2 {a b mi th t : Nat} (h1 : a + mi ≤ 8) (h2 : b + th ≤ 8) (h0 : 0 < th) (ht : t ≤ 10) (hg : a + mi = b + th) : ∀ (n : Nat) (σ : bz_S) (i : Nat), i + n = mi → dp_R a b mi th t i 0 σ → dp_R a b mi th t mi 0 (lp_fc2 (nI (a + mi)) (nI t) (nI b) n σ (nI (a + i))) := by
  intro n
  induction n with
  | zero =>
    intro σ i hi h
    obtain rfl : i = mi := by omega
    rw [lp_fc2]
    exact h
  | succ n ih =>
    intro σ i hi h
    rw [lp_fc2]
    unfold lp_fc2_a
    rw [bz_subN (by omega), nI_clamp (by omega), show a + mi - b = th by omega, nI_1]
    have r := m_fc3 (a := a) (b := b) (mi := mi) (th := th) (t := t) (i := i) h1 h2 (by omega) ht th σ 0 (by omega) h
    rw [Nat.add_zero] at r
    exact ih _ (i + 1) (by omega) (fun p q hp hq => by rw [Vn_row h0 p q hq]; exact r p q hp hq)
theorem m_fc1 {a b : Nat} (h : 9 * a + b < 81) : ∀ (n : Nat) (σ : bz_S) (e : Nat), e + n = 81 → ∀ q, q < 81 → (lp_fc1 (nI a) (nI b) n σ (nI e)).2 49 q = if q < e then σ.2 49 q else (if q = 9 * a + b then 1 else 0) := by
  intro n
  induction n with
  | zero => intro σ e he q hq; rw [lp_fc1, if_pos (by omega)]
  | succ n ih =>
    intro σ e he q hq
    have key : ∀ v : Int64, v = (if e = 9 * a + b then 1 else 0) → (lp_fc1 (nI a) (nI b) n (σ.1, bz_up σ.2 49 e v) (nI (e + 1))).2 49 q = if q < e then σ.2 49 q else (if q = 9 * a + b then 1 else 0) := by
      intro v hv
      rw [ih _ (e + 1) (by omega) q hq]
      show (if q < e + 1 then bz_up σ.2 49 e v 49 q else _) = _
      rw [up_l]
      by_cases z : q < e
      · rw [if_pos (by omega), if_neg (by omega), if_pos z]
      · by_cases y : q = e
        · rw [if_pos (by omega), if_pos y, if_neg z, y, hv]
        · rw [if_neg (by omega), if_neg z]
    rw [lp_fc1, bz_9 rfl rfl, nI_clamp (by omega), nI_1]
    by_cases z : e = 9 * a + b
    · rw [if_pos (by rw [z])]
      exact key 1 (by rw [if_pos z])
    · rw [if_neg (fun y => z ((nI_eq (by omega) (by omega)).mp y))]
      exact key 0 (by rw [if_neg z])
theorem m_chance {a b mi th t : Nat} (h1 : a + mi ≤ 8) (hg : a + mi = b + th) (hm : 0 < mi) (h0 : 0 < th) (ht : t ≤ 10) (σ : bz_S) : dp_R a b mi th t mi 0 (f_X11_findChance_32 σ (nI (a + mi)) (nI t) (nI a) (nI b)) := by
  unfold f_X11_findChance_32 f_X11_findChance_32_a
  rw [bz_subN (by omega), nI_clamp (by omega), show a + mi - a = mi by omega, bz_k_eq]
  have r := m_fc2 (a := a) (b := b) (mi := mi) (th := th) (t := t) h1 (by omega) h0 ht hg mi (lp_fc1 (nI a) (nI b) 81 σ 0) 0 (by omega) (fun p q hp hq => by
    have := m_fc1 (a := a) (b := b) (by omega) 81 σ 0 (by omega) (9 * (a + p) + (b + q)) (by omega)
    rw [if_neg (by omega)] at this
    rw [show (0 : Int32) = nI 0 from rfl, this]
    by_cases z : p = 0 ∧ q = 0
    · rw [if_pos (by omega), z.1, z.2]
      unfold Vn
      rw [if_pos h0, if_pos (Or.inr ⟨rfl, Nat.le_refl _⟩), Pc_00]
      rfl
    · rw [if_neg (by omega)]
      unfold Vn
      by_cases c1 : q < th
      · rw [if_pos c1, if_neg (by omega)]
        by_cases c3 : p = 0
        · rw [if_pos c3, if_pos rfl]; rfl
        · rw [if_neg c3, if_neg (by omega)]; rfl
      · rw [if_neg c1, if_neg (by omega)]; rfl)
  exact r
/-- the model's sums -/
def wsN (mi th t : Nat) : Nat → Nat → Nat → Nat → Nat × Nat
  | 0, ws, me, _ => (ws, me)
  | n + 1, ws, me, j => wsN mi th t n (ws + t * Pc t (mi - 1) j * 10 ^ (th - 1 - j)) (me + (mi + j) * (t * Pc t (mi - 1) j) * 10 ^ (th - 1 - j)) (j + 1)
def w2S (mi th t : Nat) : Nat → Nat → Nat → Nat
  | 0, me, _ => me
  | n + 1, me, i => w2S mi th t n (me + (i + th) * ((10 - t) * Pc t i (th - 1)) * 10 ^ (mi - 1 - i)) (i + 1)
theorem Vn_end {th t mi j : Nat} (hj : j < th) (hm : 0 < mi) : Vn th t mi 0 mi j = t * Pc t (mi - 1) j := by
  unfold Vn
  rw [if_pos hj]
  by_cases z : j = 0
  · rw [if_pos (Or.inr ⟨rfl, by omega⟩), z]
    obtain ⟨k, rfl⟩ : ∃ k, mi = k + 1 := ⟨mi - 1, by omega⟩
    rw [Pc_s0]; rfl
  · rw [if_neg (by omega), if_pos rfl, if_neg (by omega)]
theorem Vn_edge {th t mi i : Nat} (hi : i < mi) : Vn th t mi 0 i th = (10 - t) * Pc t i (th - 1) := by
  unfold Vn
  rw [if_neg (by omega), if_pos ⟨rfl, Or.inl hi⟩]
theorem m_mw1 {a b mi th t : Nat} (h1 : a + mi ≤ 8) (hg : a + mi = b + th) (hm : 0 < mi) (h0 : 0 < th) : ∀ (n : Nat) (σ : bz_S) (ws me j : Nat), j + n = th → dp_R a b mi th t mi 0 σ → (lp_mw1 (nI (a + mi)) (nI a) (nI b) (nI (mi + th - 1)) n σ (lN ws) (lN me) (nI (b + j))).2 = (lN (wsN mi th t n ws me j).1, lN (wsN mi th t n ws me j).2) ∧ (lp_mw1 (nI (a + mi)) (nI a) (nI b) (nI (mi + th - 1)) n σ (lN ws) (lN me) (nI (b + j))).1 = σ := by
  intro n
  induction n with
  | zero => intro σ ws me j hj h; rw [lp_mw1, wsN]; exact ⟨rfl, rfl⟩
  | succ n ih =>
    intro σ ws me j hj h
    have gm : ((nI (a + mi) - nI a) + nI (b + j)) - nI b = nI (mi + j) := by
      rw [bz_subN (by omega), nI_add, bz_subN (by omega)]; congr 1; omega
    have ex : nI (mi + th - 1) - nI (mi + j) = nI (th - 1 - j) := by rw [bz_subN (by omega)]; congr 1; omega
    have v := h mi j (Nat.le_refl _) (by omega)
    rw [Vn_end (by omega) hm] at v
    rw [lp_mw1, wsN, bz_9 rfl rfl, nI_clamp (by omega), gm, ex, v, m_power (by omega), nI_l (by omega), lN_mul, lN_mul, lN_mul, lN_add, lN_add, nI_1]
    exact ih σ _ _ (j + 1) (by omega) h
theorem m_mw2 {a b mi th t : Nat} (h1 : a + mi ≤ 8) (hg : a + mi = b + th) (hm : 0 < mi) (h0 : 0 < th) : ∀ (n : Nat) (σ : bz_S) (me i : Nat), i + n = mi → dp_R a b mi th t mi 0 σ → (lp_mw2 (nI (a + mi)) (nI a) (nI b) (nI (mi + th - 1)) n σ (lN me) (nI (a + i))).2 = lN (w2S mi th t n me i) := by
  intro n
  induction n with
  | zero => intro σ me i hi h; rw [lp_mw2, w2S]
  | succ n ih =>
    intro σ me i hi h
    have gm : ((nI (a + i) - nI a) + nI (a + mi)) - nI b = nI (i + th) := by
      rw [bz_subN (by omega), nI_add, bz_subN (by omega)]; congr 1; omega
    have ex : nI (mi + th - 1) - nI (i + th) = nI (mi - 1 - i) := by rw [bz_subN (by omega)]; congr 1; omega
    have v := h i th (by omega) (Nat.le_refl _)
    rw [Vn_edge (by omega), ← hg] at v
    rw [lp_mw2, w2S, bz_9 rfl rfl, nI_clamp (by omega), gm, ex, v, m_power (by omega), nI_l (by omega), lN_mul, lN_mul, lN_add, nI_1]
    exact ih σ _ (i + 1) (by omega) h
/-! the divisor -/
def gN : Nat → Nat → Nat → Nat
  | 0, a, _ => a
  | n + 1, a, b => if b = 0 then a else gN n b (a % b)
def upN (mi th t w : Nat) : Nat := if w = 0 then wnN mi th t th 0 0 else gmN mi th t mi 0 0
theorem mt_all : ∀ mi : Fin 8, ∀ th : Fin 8, ∀ t : Fin 11, (wsN (mi.val + 1) (th.val + 1) t.val (th.val + 1) 0 0 0).1 = upN (mi.val + 1) (th.val + 1) t.val 0 ∧ w2S (mi.val + 1) (th.val + 1) t.val (mi.val + 1) (wsN (mi.val + 1) (th.val + 1) t.val (th.val + 1) 0 0 0).2 0 = upN (mi.val + 1) (th.val + 1) t.val 1 ∧ upN (mi.val + 1) (th.val + 1) t.val 0 < 2 ^ 63 ∧ upN (mi.val + 1) (th.val + 1) t.val 1 < 2 ^ 63 ∧ gN 1000 (upN (mi.val + 1) (th.val + 1) t.val 0) (10 ^ (mi.val + 1 + (th.val + 1) - 1)) = Nat.gcd (upN (mi.val + 1) (th.val + 1) t.val 0) (10 ^ (mi.val + 1 + (th.val + 1) - 1)) ∧ gN 1000 (upN (mi.val + 1) (th.val + 1) t.val 1) (10 ^ (mi.val + 1 + (th.val + 1) - 1)) = Nat.gcd (upN (mi.val + 1) (th.val + 1) t.val 1) (10 ^ (mi.val + 1 + (th.val + 1) - 1)) := by decide +kernel
