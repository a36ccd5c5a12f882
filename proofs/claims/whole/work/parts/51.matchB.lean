/-! MATCHES: both alike -/
theorem ab_n {n : Nat} (h : n < 2 ^ 63) : bz_ab (lN n) = n := by
  unfold bz_ab
  rw [pk_lT h]
  rfl
theorem m_low_n : ∀ (n A B : Nat), A < 2 ^ 63 → B < 2 ^ 63 → B ≤ n → lp_low n (lN A) (lN B) = lN (Nat.gcd B A) := by
  intro n
  induction n with
  | zero =>
    intro A B hA hB h
    rw [lp_low, show B = 0 by omega, Nat.gcd_zero_left]
  | succ n ih =>
    intro A B hA hB h
    rw [lp_low]
    by_cases z : B = 0
    · rw [if_pos ((lg_0 hB).mpr z), z, Nat.gcd_zero_left]
    · have hm : A % B < B := Nat.mod_lt _ (by omega)
      rw [if_neg (fun y => z ((lg_0 hB).mp y)), bz_lmod hA (by omega) hB, ih B (A % B) hB (by omega) (by omega)]
      rw [Nat.gcd_rec B A]
theorem c_gcd_n : ∀ (n a b : Nat) (iv : Int32), a < 2 ^ 63 → b < 2 ^ 63 → lp_gcd n (lN a) (lN b) iv = lN (gN n a b) := by
  intro n
  induction n with
  | zero => intro a b iv ha hb; rw [lp_gcd, gN]
  | succ n ih =>
    intro a b iv ha hb
    rw [lp_gcd, gN]
    by_cases z : b = 0
    · rw [if_pos ((lg_0 hb).mpr z), if_pos z]
    · have hm : a % b < b := Nat.mod_lt _ (by omega)
      rw [if_neg (fun y => z ((lg_0 hb).mp y)), if_neg z, bz_lmod ha (by omega) hb]
      exact ih b (a % b) _ hb (by omega)
theorem c_max1 {G : Nat} (h : 0 < G) (h2 : G < 2 ^ 63) : f_J9_max_f86c9 1 (lN G) = lN G := by
  unfold f_J9_max_f86c9
  by_cases z : G = 1
  · rw [z]; rfl
  · have lt : (1 : Int64) < lN G := (pk_lLT (a := 1) (by decide) h2).mpr (by omega)
    rw [if_pos (bz_lgc.mpr lt)]
theorem p10_lt {k : Nat} (h : k ≤ 15) : 10 ^ k < 2 ^ 63 := Nat.lt_of_le_of_lt (Nat.pow_le_pow_right (by decide) h) (by decide)
section MA
variable {T : Nat → Int32} {σ τ : bz_S}
theorem e_match (h : iv_R T σ τ) (n t a b what part : Int32) : (f_X11_match_32 τ n t a b what part).1 = f_X10_match_0 n t a b what part ∧ iv_R T σ (f_X11_match_32 τ n t a b what part).2 := by
  refine ⟨?_, iv_c h bz_fr_rf (bz_fr_mo (rf_X11_match_32 τ n t a b what part) (by decide)) (fun k _ => congrFun (bz_fr_at (rf_X11_match_32 τ n t a b what part) 32 (by decide)) k) (fun b' _ => congrFun (bz_fr_at (rf_X11_match_32 τ n t a b what part) 33 (by decide)) b')⟩
  unfold f_X11_match_32 f_X10_match_0
  have wa := m_w a 0 (n - 1) (l := 0) (h := Int32.toInt64 (n - 1)) (by decide) rfl
  have wb := m_w b 0 (n - 1) (l := 0) (h := Int32.toInt64 (n - 1)) (by decide) rfl
  rw [m_w n 1 8 (by decide) (by decide), m_w t 0 10 (by decide) (by decide), wa, wb, m_w what 0 1 (by decide) (by decide), m_w part 0 1 (by decide) (by decide)]
  by_cases c1 : f_X10_isWithin n 1 8 = true
  · rw [if_pos c1, if_pos c1]
    by_cases c2 : f_X10_isWithin t 0 10 = true
    · rw [if_pos c2, if_pos c2]
      by_cases c3 : f_X10_isWithin a 0 (n - 1) = true
      · rw [if_pos c3, if_pos c3]
        by_cases c4 : f_X10_isWithin b 0 (n - 1) = true
        · rw [if_pos c4, if_pos c4]
          by_cases c5 : f_X10_isWithin what 0 1 = true
          · rw [if_pos c5, if_pos c5]
            by_cases c6 : f_X10_isWithin part 0 1 = true
            · rw [if_pos c6, if_pos c6]
              obtain ⟨GN, AN, BN, hG, hG2, hA, hA2, hB, hB2⟩ := bz_mt (g := n) (a := a) (b := b) ((m_w n 1 8 (by decide) (by decide)).trans c1) (wa.trans c3) (wb.trans c4)
              obtain ⟨t0, -, ht, rfl⟩ := bz_wN (a := 0) (b := 10) (by decide) (by decide) (by decide) c2
              obtain ⟨mi, em, hm⟩ : ∃ mi, GN = AN + (mi + 1) ∧ mi < 8 := ⟨GN - AN - 1, by omega, by omega⟩
              obtain ⟨th, et, hth⟩ : ∃ th, GN = BN + (th + 1) ∧ th < 8 := ⟨GN - BN - 1, by omega, by omega⟩
              have na : n - a = nI (mi + 1) := by rw [hG, hA, bz_subN (by omega)]; congr 1; omega
              have nb : n - b = nI (th + 1) := by rw [hG, hB, bz_subN (by omega)]; congr 1; omega
              have lc : (nI (mi + 1) + nI (th + 1)) - 1 = nI (mi + 1 + (th + 1) - 1) := by rw [nI_add]; exact bz_subN (b := 1) (by omega)
              have lm : (((nI (mi + 1) + n) - b) - 1) = nI (mi + 1 + (th + 1) - 1) := by
                rw [hG, hB, nI_add, bz_subN (by omega), show mi + 1 + GN - BN = mi + 1 + (th + 1) by omega]
                exact bz_subN (b := 1) (by omega)
              obtain ⟨m1, m2, m3, m4, m5, m6⟩ := mt_all ⟨mi, hm⟩ ⟨th, hth⟩ ⟨t0, by omega⟩
              simp only at m1 m2 m3 m4 m5 m6
              have p10 : f_X2_power 10 (nI (mi + 1 + (th + 1) - 1)) = lN (10 ^ (mi + 1 + (th + 1) - 1)) := c_power (ba := 10) (by omega) (by omega)
              have q10 : f_X11_power 10 (nI (mi + 1 + (th + 1) - 1)) = lN (10 ^ (mi + 1 + (th + 1) - 1)) := m_power (by omega)
              have hL := p10_lt (k := mi + 1 + (th + 1) - 1) (by omega)
              have hL0 : 0 < 10 ^ (mi + 1 + (th + 1) - 1) := Nat.pow_pos (by decide)
              -- the class
              have cw : f_X2_winning (nI (mi + 1)) (nI (th + 1)) (nI t0) = lN (upN (mi + 1) (th + 1) t0 0) := by
                unfold f_X2_winning
                rw [nI_clamp (by omega)]
                exact c_win (by omega) (by omega) (by omega) (by omega) ht (th + 1) 0 0 (by omega)
              have cg : f_X2_games (nI (mi + 1)) (nI (th + 1)) (nI t0) = lN (upN (mi + 1) (th + 1) t0 1) := by
                unfold f_X2_games
                rw [nI_clamp (by omega)]
                exact c_gm (by omega) (by omega) (by omega) (by omega) ht (mi + 1) 0 0 (by omega)
              have cd : ∀ U, U < 2 ^ 63 → gN 1000 U (10 ^ (mi + 1 + (th + 1) - 1)) = Nat.gcd U (10 ^ (mi + 1 + (th + 1) - 1)) → f_J9_max_f86c9 1 (f_X2_commonDivisor (lN U) (lN (10 ^ (mi + 1 + (th + 1) - 1)))) = lN (Nat.gcd U (10 ^ (mi + 1 + (th + 1) - 1))) := by
                intro U hU hg
                unfold f_X2_commonDivisor
                rw [bz_k_eq, c_gcd_n 1000 U _ 0 hU hL, hg]
                exact c_max1 (Nat.gcd_pos_of_pos_right _ hL0) (Nat.lt_of_le_of_lt (Nat.gcd_le_right _ hL0) hL)
              -- the model
              have dp := m_chance (a := AN) (b := BN) (mi := mi + 1) (th := th + 1) (t := t0) (by omega) (by omega) (by omega) (by omega) ht τ
              have ga : nI (AN + (mi + 1)) = n := by rw [hG, em]
              rw [ga, ← hA, ← hB] at dp
              obtain ⟨w1, w2⟩ := m_mw1 (a := AN) (b := BN) (mi := mi + 1) (th := th + 1) (t := t0) (by omega) (by omega) (by omega) (by omega) (th + 1) (f_X11_findChance_32 τ n (nI t0) a b) 0 0 0 (by omega) dp
              have z2 := m_mw2 (a := AN) (b := BN) (mi := mi + 1) (th := th + 1) (t := t0) (by omega) (by omega) (by omega) (by omega) (mi + 1) (f_X11_findChance_32 τ n (nI t0) a b) (wsN (mi + 1) (th + 1) t0 (th + 1) 0 0 0).2 0 (by omega) dp
              have b0 : nI (BN + 0) = b := by rw [Nat.add_zero, hB]
              have a0 : nI (AN + 0) = a := by rw [Nat.add_zero, hA]
              rw [b0, ga, ← hA, ← hB] at w1 w2
              rw [a0, ga, ← hA, ← hB] at z2
              have low : ∀ U p, U < 2 ^ 63 → f_X11_lowest (lN U) (lN (10 ^ (mi + 1 + (th + 1) - 1))) p = if p = 0 then lN U / lN (Nat.gcd U (10 ^ (mi + 1 + (th + 1) - 1))) else lN (10 ^ (mi + 1 + (th + 1) - 1)) / lN (Nat.gcd U (10 ^ (mi + 1 + (th + 1) - 1))) := by
                intro U p hU
                unfold f_X11_lowest
                rw [ab_n hU, m_low_n U _ U hL hU (Nat.le_refl _)]
              unfold f_X11_match_32_a f_X11_match_32_b f_X11_match_32_c
              rw [na, nb, lm, lc, nI_clamp (by omega), nI_clamp (by omega), p10, q10, cw, cg, cd _ m3 m5, cd _ m4 m6]
              have w1' : (lp_mw1 n a b (nI (mi + 1 + (th + 1) - 1)) (th + 1) (f_X11_findChance_32 τ n (nI t0) a b) 0 0 b).2 = (lN (wsN (mi + 1) (th + 1) t0 (th + 1) 0 0 0).1, lN (wsN (mi + 1) (th + 1) t0 (th + 1) 0 0 0).2) := w1
              have w2' : (lp_mw1 n a b (nI (mi + 1 + (th + 1) - 1)) (th + 1) (f_X11_findChance_32 τ n (nI t0) a b) 0 0 b).1 = f_X11_findChance_32 τ n (nI t0) a b := w2
              rw [w1', w2']
              dsimp only
              rw [z2, m1, m2, low _ _ m3, low _ _ m4]
              by_cases q : what = 0
              · rw [if_pos q, if_pos q]
              · rw [if_neg q, if_neg q]
            · rw [if_neg c6, if_neg c6]
          · rw [if_neg c5, if_neg c5]
        · rw [if_neg c4, if_neg c4]
      · rw [if_neg c3, if_neg c3]
    · rw [if_neg c2, if_neg c2]
  · rw [if_neg c1, if_neg c1]
end MA
