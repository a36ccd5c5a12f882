/-! A STROKE: the class's is the model's -/
theorem m_tn_all : ∀ a : Fin 45, ∀ b : Fin 8, f_X11_turned (nI a) (nI b) = nI (nT a b) ∧ f_X11_ahead (nI a) (nI (nT a b)) = nI (nN a (nT a b)) := by decide +kernel
theorem m_tn {a b : Nat} (ha : a < 45) (hb : b < 8) : f_X11_turned (nI a) (nI b) = nI (nT a b) ∧ f_X11_ahead (nI a) (nI (nT a b)) = nI (nN a (nT a b)) := m_tn_all ⟨a, ha⟩ ⟨b, hb⟩
/-- a step of the class, in one piece -/
def c_A (σ : bz_S) (mv wy : Int32) : bz_S := if f_X10_turned (σ.1 10 mv.toNatClampNeg) wy = wy then σ else ((bz_up σ.1 11 2 ((σ.1 11 2) + 1)), σ.2)
def c_to (σ : bz_S) (mv wy : Int32) : Int32 := f_X10_next (σ.1 10 mv.toNatClampNeg) (f_X10_turned (σ.1 10 mv.toNatClampNeg) wy)
theorem c_run (n : Nat) (σ : bz_S) (mv wy sp : Int32) (hd : σ.1 11 3 = -1) : lp_run (n + 1) σ mv wy sp = if f_X6_lyingOn_9 (c_A σ mv wy) (c_to σ mv wy) = -1 then (if f_X10_isPocket (c_to σ mv wy) = true then lp_run n ((bz_up (bz_up (c_A σ mv wy).1 10 mv.toNatClampNeg (-1)) 11 3 mv), (c_A σ mv wy).2) mv (f_X10_turned (σ.1 10 mv.toNatClampNeg) wy) (sp + 1) else lp_run n ((bz_up (c_A σ mv wy).1 10 mv.toNatClampNeg (c_to σ mv wy)), (c_A σ mv wy).2) mv (f_X10_turned (σ.1 10 mv.toNatClampNeg) wy) (sp + 1)) else lp_run n (f_X5_touch_11 (c_A σ mv wy) (f_X6_lyingOn_9 (c_A σ mv wy) (c_to σ mv wy)) sp) (f_X6_lyingOn_9 (c_A σ mv wy) (c_to σ mv wy)) (f_X10_turned (σ.1 10 mv.toNatClampNeg) wy) (sp + 1) := by
  rw [lp_run, if_pos hd]
  unfold c_A c_to lp_run_a lp_run_b
  by_cases h : f_X10_turned (σ.1 10 mv.toNatClampNeg) wy = wy
  · simp only [if_pos h]
  · simp only [if_neg h]
/-- the touches and what was first -/
def fs_R (σ τ : bz_S) (F n : Nat) : Prop := ∃ Tn, Tn + n ≤ F ∧ σ.1 11 1 = nI Tn ∧ τ.1 32 17 = nI Tn ∧ ((Tn = 0 ∧ σ.1 11 4 = -1 ∧ τ.1 32 20 = -6 ∧ σ.1 11 6 = -6 ∧ τ.1 32 19 = -6) ∨ (0 < Tn ∧ (∃ b, b < 3 ∧ σ.1 11 4 = nI b) ∧ τ.1 32 20 = σ.1 11 4 ∧ τ.1 32 19 = σ.1 11 6 ∧ τ.1 32 21 = σ.1 11 5 ∧ ∃ s, s < 100 ∧ σ.1 11 5 = nI s))
def dn_R (σ τ : bz_S) : Prop := (σ.1 11 3 = -1 ∧ τ.1 32 22 = -6) ∨ (∃ b, b < 3 ∧ σ.1 11 3 = nI b ∧ τ.1 32 22 = nI b)
def st_R (σ τ : bz_S) (mv wy : Int32) (F n : Nat) : Prop := tb_R (σ.1 10) (τ.1 33) ∧ (∃ b, b < 3 ∧ mv = nI b ∧ (σ.1 11 3 = -1 → ¬ σ.1 10 b = -1)) ∧ (∃ w, w < 8 ∧ wy = nI w) ∧ τ.1 32 14 = mv ∧ τ.1 32 15 = wy ∧ τ.1 32 16 = nI n ∧ τ.1 32 18 = σ.1 11 2 ∧ dn_R σ τ ∧ fs_R σ τ F n
/-- a ball that is down stays so, and isn't touched -/
def oo_R (σ : bz_S) (mv : Int32) (O : Nat) : Prop := σ.1 10 O = -1 ∧ ¬ mv = nI O ∧ ¬ σ.1 11 4 = nI O
theorem st_step {σ τ : bz_S} {mv wy sp fo : Int32} {F n : Nat} (h : st_R σ τ mv wy F (n + 1)) (hd : σ.1 11 3 = -1) (hF : F < 100) (hsp : sp = nI (F - n)) (hfo : fo = nI F) (k : Nat) : ∃ σ' mv' wy', lp_run (k + 1) σ mv wy sp = lp_run k σ' mv' wy' (sp + 1) ∧ st_R σ' (f_X11_step_32 τ fo) mv' wy' F n ∧ ∀ O, O < 3 → oo_R σ mv O → oo_R σ' mv' O := by
  obtain ⟨h1, ⟨B, hB, rfl, hdn⟩, ⟨w, hw, rfl⟩, h14, h15, h16, h18, h22, Tn, t1, t2, t3, t4⟩ := h
  obtain ⟨eC, a, ha, eA, hk⟩ := tb_c_up (h1.1 B hB) (hdn hd)
  obtain ⟨e1, e2, e3, e4⟩ := nT_ok ha hw
  obtain ⟨mT, mA⟩ := m_tn ha hw
  have h22' : τ.1 32 22 = -6 := by
    rcases h22 with ⟨-, z⟩ | ⟨b, hb, z, -⟩
    · exact z
    · exact absurd (z.symm.trans hd) (tb_nd (by omega))
  have cB : (nI B).toNatClampNeg = B := nI_clamp (by omega)
  have tu : f_X10_turned (σ.1 10 (nI B).toNatClampNeg) (nI w) = nI (nT a w) := by rw [cB, eA, e1]
  have cT : c_to σ (nI B) (nI w) = nI (nN a (nT a w)) := by unfold c_to; rw [tu, cB, eA, e3]
  have mTu : f_X11_turned (τ.1 33 (τ.1 32 14).toNatClampNeg) (τ.1 32 15) = nI (nT a w) := by rw [h14, cB, eC, eA, h15, mT]
  have mTo : m_stepTo τ = nI (nN a (nT a w)) := by unfold m_stepTo; rw [mTu, h14, cB, eC, eA, mA]
  have cA1 : ∀ o k, ¬ (o = 11 ∧ k = 2) → (c_A σ (nI B) (nI w)).1 o k = σ.1 o k := by
    intro o k q
    unfold c_A
    split
    · rfl
    · exact up_k0 q
  have cA2 : (c_A σ (nI B) (nI w)).1 11 2 = σ.1 11 2 + (if nI (nT a w) = nI w then 0 else 1) := by
    unfold c_A
    rw [tu]
    split
    · exact (Int32.add_zero _).symm
    · exact bz_up_s1
  have mA1 : ∀ o k, ¬ (o = 32 ∧ (k = 18 ∨ k = 15 ∨ k = 16)) → (m_stepA τ).1 o k = τ.1 o k := by
    intro o k q
    unfold m_stepA
    exact (up_k0 (fun z => q ⟨z.1, by omega⟩)).trans ((up_k0 (fun z => q ⟨z.1, by omega⟩)).trans (up_k0 (fun z => q ⟨z.1, by omega⟩)))
  have mA18 : (m_stepA τ).1 32 18 = τ.1 32 18 + (if nI (nT a w) = nI w then 0 else 1) := by
    unfold m_stepA
    rw [mTu, h15]
    simp [bz_up]
  have mA15 : (m_stepA τ).1 32 15 = nI (nT a w) := by
    unfold m_stepA
    rw [mTu]
    simp [bz_up]
  have mA16 : (m_stepA τ).1 32 16 = nI n := by
    rw [m_stepA_16, h16, nI_pred]
  rw [c_run _ _ _ _ _ hd, m_step_eq]
  unfold m_step
  rw [mTo, cT, tu, h14, cB, cl_on9, ml_on32]
  generalize c_A σ (nI B) (nI w) = σc at *
  generalize m_stepA τ = τc at *
  have c10 : σc.1 10 = σ.1 10 := funext fun k => cA1 10 k (by omega)
  have c33 : τc.1 33 = τ.1 33 := funext fun k => mA1 33 k (by omega)
  have h1' : tb_R (σc.1 10) (τc.1 33) := by rw [c10, c33]; exact h1
  have h18' : τc.1 32 18 = σc.1 11 2 := by rw [mA18, cA2, h18]
  have hcd : σc.1 11 3 = -1 := (cA1 11 3 (by omega)).trans hd
  have s1 : σc.1 11 1 = nI Tn := (cA1 11 1 (by omega)).trans t2
  have s4 : σc.1 11 4 = σ.1 11 4 := cA1 11 4 (by omega)
  have s5 : σc.1 11 5 = σ.1 11 5 := cA1 11 5 (by omega)
  have s6 : σc.1 11 6 = σ.1 11 6 := cA1 11 6 (by omega)
  have u14 : τc.1 32 14 = nI B := (mA1 32 14 (by omega)).trans h14
  have u17 : τc.1 32 17 = nI Tn := (mA1 32 17 (by omega)).trans t3
  have u19 : τc.1 32 19 = τ.1 32 19 := mA1 32 19 (by omega)
  have u20 : τc.1 32 20 = τ.1 32 20 := mA1 32 20 (by omega)
  have u21 : τc.1 32 21 = τ.1 32 21 := mA1 32 21 (by omega)
  have u22 : τc.1 32 22 = -6 := (mA1 32 22 (by omega)).trans h22'
  rcases tb_on h1' e4 with ⟨o1, o2, o3⟩ | ⟨b', hb', o1, o2, o3⟩
  · rw [o1, o2, if_pos rfl, if_pos (show (-6 : Int32) < 0 by decide), m_isPocket]
    by_cases hp : f_X10_isPocket (nI (nN a (nT a w))) = true
    · rw [if_pos hp, if_pos hp]
      refine ⟨_, _, _, rfl, ?_, fun O hO oo => ⟨?_, oo.2.1, ?_⟩⟩
      rotate_left
      · by_cases e : O = B
        · simp [bz_up, e]
        · simp [bz_up, e, c10, oo.1]
      · simpa [bz_up, s4] using oo.2.2
      have tbp : tb_R (bz_up (bz_up σc.1 10 B (-1)) 11 3 (nI B) 10) (bz_up (bz_up (bz_up τc.1 33 B (nI (nN a (nT a w)))) 33 B (-6)) 32 22 (nI B) 33) := by
        have q1 : (bz_up (bz_up σc.1 10 B (-1)) 11 3 (nI B)) 10 = (bz_up σc.1 10 B (-1)) 10 := up_o1 (by decide)
        have q2 : (bz_up (bz_up (bz_up τc.1 33 B (nI (nN a (nT a w)))) 33 B (-6)) 32 22 (nI B)) 33 = (bz_up (bz_up τc.1 33 B (nI (nN a (nT a w)))) 33 B (-6)) 33 := up_o1 (by decide)
        rw [q1, q2]
        refine tb_R_c (tb_put (B := B) (x := -1) (y := -6) h1' (Or.inl ⟨rfl, rfl⟩) (Or.inl rfl)) (fun b hb => rfl) (fun b hb => ?_)
        by_cases e : b = B
        · rw [e, bz_up_s, bz_up_s]
        · rw [bz_up_k e, bz_up_k e, bz_up_k e]
      refine ⟨tbp, ⟨B, hB, rfl, fun z => ?_⟩, ⟨nT a w, e2, rfl⟩, ?_, ?_, ?_, ?_, Or.inr ⟨B, hB, ?_, ?_⟩, Tn, by omega, ?_, ?_, ?_⟩
      · exact absurd (z.symm.trans (bz_up_s1 (f := bz_up σc.1 10 B (-1)))).symm (tb_nd (by omega))
      · simp [bz_up, u14]
      · simp [bz_up, mA15]
      · simp [bz_up, mA16]
      · simp [bz_up, h18']
      · exact bz_up_s1
      · exact bz_up_s1
      · simp [bz_up, s1]
      · simp [bz_up, u17]
      · rcases t4 with ⟨r1, r2, r3, r4, r5⟩ | ⟨r1, r2, r3, r4, r5, r6⟩
        · refine Or.inl ⟨r1, ?_, ?_, ?_, ?_⟩
          · simp [bz_up, s4, r2]
          · simp [bz_up, u20, r3]
          · simp [bz_up, s6, r4]
          · simp [bz_up, u19, r5]
        · refine Or.inr ⟨r1, ?_, ?_, ?_, ?_, ?_⟩
          · simpa [bz_up, s4] using r2
          · simp [bz_up, u20, s4, r3]
          · simp [bz_up, u19, s6, r4]
          · simp [bz_up, u21, s5, r5]
          · simpa [bz_up, s5] using r6
    · rw [if_neg hp, if_neg hp]
      refine ⟨_, _, _, rfl, ?_, fun O hO oo => ⟨?_, oo.2.1, ?_⟩⟩
      rotate_left
      · have e : ¬ O = B := fun z => oo.2.1 (by rw [z])
        simp [bz_up, e, c10, oo.1]
      · simpa [bz_up, s4] using oo.2.2
      have pl : f_X10_isPlace (nI (nN a (nT a w))) = true := tb_plI e4 (Bool.eq_false_iff.mpr hp)
      refine ⟨tb_put (B := B) h1' (Or.inr ⟨rfl, pl⟩) (Or.inr fun b hb _ => o3 b hb), ⟨B, hB, rfl, fun _ z => ?_⟩, ⟨nT a w, e2, rfl⟩, ?_, ?_, ?_, ?_, Or.inl ⟨?_, ?_⟩, Tn, by omega, ?_, ?_, ?_⟩
      · exact tb_nd e4 ((bz_up_s1 (f := σc.1) (g := σc.2)).symm.trans z)
      · simp [bz_up, u14]
      · simp [bz_up, mA15]
      · simp [bz_up, mA16]
      · simp [bz_up, h18']
      · simp [bz_up, hcd]
      · simp [bz_up, u22]
      · simp [bz_up, s1]
      · simp [bz_up, u17]
      · rcases t4 with ⟨r1, r2, r3, r4, r5⟩ | ⟨r1, r2, r3, r4, r5, r6⟩
        · refine Or.inl ⟨r1, ?_, ?_, ?_, ?_⟩
          · simp [bz_up, s4, r2]
          · simp [bz_up, u20, r3]
          · simp [bz_up, s6, r4]
          · simp [bz_up, u19, r5]
        · refine Or.inr ⟨r1, ?_, ?_, ?_, ?_, ?_⟩
          · simpa [bz_up, s4] using r2
          · simp [bz_up, u20, s4, r3]
          · simp [bz_up, u19, s6, r4]
          · simp [bz_up, u21, s5, r5]
          · simpa [bz_up, s5] using r6
  · rw [o1, o2, if_neg (tb_nd (by omega)), if_neg (nI_pos (by omega))]
    have ob : ∀ O, O < 3 → oo_R σ (nI B) O → ¬ nI b' = nI O := by
      intro O hO oo z
      have z1 := (nI_eq (by omega) (by omega)).mp z
      rw [z1, c10, oo.1] at o3
      exact tb_nd e4 o3.symm
    refine ⟨_, _, _, rfl, ?_, fun O hO oo => ⟨?_, ob O hO oo, ?_⟩⟩
    rotate_left
    · unfold f_X5_touch_11
      split <;> simp [bz_up, c10, oo.1]
    · unfold f_X5_touch_11
      split
      · simpa [bz_up] using ob O hO oo
      · simpa [bz_up, s4] using oo.2.2
    unfold f_X5_touch_11 f_X11_touch_32
    have nd : ¬ σc.1 10 b' = -1 := by rw [o3]; exact tb_nd e4
    rcases t4 with ⟨r1, r2, r3, r4, r5⟩ | ⟨r1, r2, r3, r4, r5, r6⟩
    · subst r1
      rw [s1, u20, r3, if_pos (show nI 0 + 1 = 1 from rfl), if_neg (by decide)]
      refine ⟨?_, ⟨b', hb', rfl, fun _ => ?_⟩, ⟨nT a w, e2, rfl⟩, ?_, ?_, ?_, ?_, Or.inl ⟨?_, ?_⟩, 1, by omega, ?_, ?_, Or.inr ⟨by omega, ⟨b', hb', ?_⟩, ?_, ?_, ?_, F - n, by omega, ?_⟩⟩
      · refine tb_R_c h1' (fun b _ => by simp [bz_up]) (fun b _ => by simp [bz_up])
      · simpa [bz_up] using nd
      · simp [bz_up]
      · simp [bz_up, mA15]
      · simp [bz_up, mA16]
      · simp [bz_up, h18']
      · simp [bz_up, hcd]
      · simp [bz_up, u22]
      · simp [bz_up]; rfl
      · simp [bz_up, u17]; rfl
      · simp [bz_up]
      · simp [bz_up]
      · simp [bz_up, h18']
      · simp only [bz_up]
        simp [hfo, mA16, hsp, bz_subN (show n ≤ F by omega)]
      · simp [bz_up, hsp]
    · obtain ⟨bf, hbf, rf⟩ := r2
      have n1 : ¬ nI Tn + 1 = 1 := by
        rw [nI_1]
        intro z
        have := (nI_eq (a := Tn + 1) (b := 1) (by omega) (by omega)).mp z
        omega
      rw [s1, u20, r3, rf, if_neg n1, if_pos (nI_pos' (by omega))]
      refine ⟨?_, ⟨b', hb', rfl, fun _ => ?_⟩, ⟨nT a w, e2, rfl⟩, ?_, ?_, ?_, ?_, Or.inl ⟨?_, ?_⟩, Tn + 1, by omega, ?_, ?_, Or.inr ⟨by omega, ⟨bf, hbf, ?_⟩, ?_, ?_, ?_, ?_⟩⟩
      · refine tb_R_c h1' (fun b _ => by simp [bz_up]) (fun b _ => by simp [bz_up])
      · simpa [bz_up] using nd
      · simp [bz_up]
      · simp [bz_up, mA15]
      · simp [bz_up, mA16]
      · simp [bz_up, h18']
      · simp [bz_up, hcd]
      · simp [bz_up, u22]
      · simp [bz_up, nI_1]
      · simp [bz_up, u17, nI_1]
      · simp [bz_up, s4, rf]
      · simp [bz_up, u20, s4, r3]
      · simp [bz_up, u19, s6, r4]
      · simp [bz_up, u21, s5, r5]
      · simpa [bz_up, s5] using r6
/-- the whole stroke -/
theorem st_run {fo : Int32} {F : Nat} (hF : F < 100) (hfo : fo = nI F) : ∀ (n : Nat) (σ τ : bz_S) (mv wy sp : Int32), n ≤ F → sp = nI (F - n + 1) → st_R σ τ mv wy F n → ∃ mv' wy' n', st_R (lp_run n σ mv wy sp) (lp_send fo n τ) mv' wy' F n' ∧ ∀ O, O < 3 → oo_R σ mv O → oo_R (lp_run n σ mv wy sp) mv' O := by
  intro n
  induction n with
  | zero =>
    intro σ τ mv wy sp hn hsp h
    rw [lp_run, lp_send]
    exact ⟨_, _, _, h, fun _ _ oo => oo⟩
  | succ n ih =>
    intro σ τ mv wy sp hn hsp h
    have hd := h.2.2.2.2.2.2.2.1
    rw [lp_send]
    unfold lp_send_a
    rcases hd with ⟨d1, d2⟩ | ⟨b, hb, d1, d2⟩
    · rw [d2, if_neg (by decide)]
      obtain ⟨σ', mv', wy', q1, q2, q3⟩ := st_step (sp := sp) h d1 hF (by rw [hsp]; congr 1; omega) hfo n
      rw [q1]
      obtain ⟨mv2, wy2, n2, r1, r2⟩ := ih σ' _ mv' wy' (sp + 1) (by omega) (by rw [hsp, nI_1]; congr 1; omega) q2
      exact ⟨mv2, wy2, n2, r1, fun O hO oo => r2 O hO (q3 O hO oo)⟩
    · rw [d2, if_pos (nI_pos' (by omega)), lp_run, d1, if_neg (tb_nd (by omega))]
      exact ⟨_, _, _, h, fun _ _ oo => oo⟩
