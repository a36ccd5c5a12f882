/-! the model's reading of the pad: what the acts hold, and that its fault is the class's -/
def pa_kd (P : Nat → Int32) (s : Nat) : Int32 := if f_X3_isLetter (P s) = true then (if P (s + 1) = 94 then 1 else 0) else (if P s = 126 then 2 else 3)
def pa_ln (P : Nat → Int32) (s : Nat) : Nat := if f_X3_isLetter (P s) = true then (if P (s + 1) = 94 then 2 else 3) else 1
/-- where an act begins -/
def pa_st (P : Nat → Int32) : Nat → Nat
  | 0 => 0
  | e + 1 => pa_st P e + pa_ln P (pa_st P e)
/-- an act as the model keeps it -/
def pa_slot (P : Nat → Int32) (τ : bz_S) (e s : Nat) : Prop :=
  τ.1 37 e = pa_kd P s ∧ vp_in (τ.1 38 e) 3 ∧ (∃ N, N < 100 ∧ τ.1 40 e = nI N) ∧
  (f_X3_isLetter (P s) = true → τ.1 38 e = P s - 65) ∧
  (pa_kd P s = 0 → f_X10_isWithin (P (s + 1)) 48 55 = true ∧ τ.1 39 e = P (s + 1) - 48 ∧ τ.1 40 e = P (s + 2) - 48 ∧ f_X10_isWithin (P (s + 2)) 49 57 = true)
theorem pa_slot_c {P : Nat → Int32} {σ τ : bz_S} {e s : Nat} (h : pa_slot P σ e s) (h37 : τ.1 37 e = σ.1 37 e) (h38 : τ.1 38 e = σ.1 38 e) (h39 : τ.1 39 e = σ.1 39 e) (h40 : τ.1 40 e = σ.1 40 e) : pa_slot P τ e s := by
  unfold pa_slot at h ⊢
  rw [h37, h38, h39, h40]
  exact h
/-- the reading under way: j signs read, A acts closed, d signs of the next one -/
def pa_inv (P : Nat → Int32) (N j A d : Nat) (σ : bz_S) : Prop :=
  σ.1 32 8 = nI N ∧ σ.1 36 = P ∧ σ.1 32 13 = nI A ∧ (∀ e, e < A → pa_slot P σ e (pa_st P e)) ∧ j = pa_st P A + d ∧
  (1 ≤ d → d ≤ 2 ∧ f_X3_isLetter (P (pa_st P A)) = true ∧ σ.1 38 A = P (pa_st P A) - 65 ∧ σ.1 40 A = 0) ∧
  (d = 2 → ¬ P (pa_st P A + 1) = 94 ∧ f_X10_isWithin (P (pa_st P A + 1)) 48 55 = true ∧ σ.1 39 A = P (pa_st P A + 1) - 48)
theorem m_in3 (c : Int32) : f_X11_in (Int32.toInt64 c) 65 67 = f_X3_isLetter c := bz_inW (by decide) (by decide)
theorem m_in07 (c : Int32) : f_X11_in (Int32.toInt64 c) 48 55 = f_X10_isWithin c 48 55 := bz_inW (by decide) (by decide)
theorem m_in19 (c : Int32) : f_X11_in (Int32.toInt64 c) 49 57 = f_X10_isWithin c 49 57 := bz_inW (by decide) (by decide)
section RO
variable {σ : bz_S} {A : Nat}
theorem m_ro0L (hA : σ.1 32 13 = nI A) (h60 : A < 60) {c : Int32} (hc : f_X3_isLetter c = true) : f_X11_readOn_32 σ 0 c = (1, (bz_up (bz_up (bz_up σ.1 38 A (c - 65)) 39 A 0) 40 A 0, σ.2)) := by
  unfold f_X11_readOn_32 f_X11_readOn_32_c f_X11_begin_32
  rw [if_pos rfl, m_in3, if_pos hc, if_pos hc, hA, nI_clamp (by omega)]
theorem m_ro0N (hA : σ.1 32 13 = nI A) (h60 : A < 60) {c : Int32} (hc : ¬ f_X3_isLetter c = true) (h1 : c = 126 ∨ c = 46) : f_X11_readOn_32 σ 0 c = (0, (bz_up (bz_up (bz_up (bz_up (bz_up σ.1 38 A 0) 39 A 0) 40 A 0) 37 A (if c = 126 then 2 else 3)) 32 13 (nI (A + 1)), σ.2)) := by
  unfold f_X11_readOn_32 f_X11_readOn_32_c f_X11_begin_32
  rw [if_pos rfl, m_in3, if_neg hc, if_neg hc, hA, nI_clamp (by omega)]
  by_cases h : c = 126
  · rw [if_pos h, if_pos h]
    unfold f_X11_begin_32_b f_X11_close_32
    rw [show (bz_up (bz_up (bz_up σ.1 38 A 0) 39 A 0) 40 A 0, σ.2).1 32 13 = nI A from by simpa [bz_up] using hA, nI_clamp (by omega), nI_1]
  · rw [if_neg h, if_neg h, if_pos (h1.resolve_left h)]
    unfold f_X11_begin_32_a f_X11_close_32
    rw [show (bz_up (bz_up (bz_up σ.1 38 A 0) 39 A 0) 40 A 0, σ.2).1 32 13 = nI A from by simpa [bz_up] using hA, nI_clamp (by omega), nI_1]
theorem m_ro0F {c : Int32} (hc : ¬ f_X3_isLetter c = true) (h1 : ¬ c = 126) (h2 : ¬ c = 46) : (f_X11_readOn_32 σ 0 c).1 = -6 := by
  unfold f_X11_readOn_32 f_X11_readOn_32_c f_X11_begin_32
  rw [if_pos rfl, m_in3, if_neg hc, if_neg hc, if_neg h1, if_neg h2]
theorem m_ro1B (hA : σ.1 32 13 = nI A) (h60 : A < 60) : f_X11_readOn_32 σ 1 94 = (0, (bz_up (bz_up σ.1 37 A 1) 32 13 (nI (A + 1)), σ.2)) := by
  unfold f_X11_readOn_32 f_X11_readOn_32_b f_X11_deed_32 f_X11_deed_32_a f_X11_close_32
  rw [if_neg (by decide), if_pos rfl, if_pos rfl, hA, nI_clamp (by omega), nI_1]
theorem m_ro1W (hA : σ.1 32 13 = nI A) (h60 : A < 60) {c : Int32} (h1 : ¬ c = 94) (hc : f_X10_isWithin c 48 55 = true) : f_X11_readOn_32 σ 1 c = (2, (bz_up σ.1 39 A (c - 48), σ.2)) := by
  unfold f_X11_readOn_32 f_X11_readOn_32_b f_X11_deed_32
  rw [if_neg (by decide), if_pos rfl, if_neg h1, m_in07, if_pos hc, hA, nI_clamp (by omega)]
theorem m_ro1F {c : Int32} (h1 : ¬ c = 94) (hc : ¬ f_X10_isWithin c 48 55 = true) : (f_X11_readOn_32 σ 1 c).1 = -6 := by
  unfold f_X11_readOn_32 f_X11_readOn_32_b f_X11_deed_32
  rw [if_neg (by decide), if_pos rfl, if_neg h1, m_in07, if_neg hc]
theorem m_ro2S (hA : σ.1 32 13 = nI A) (h60 : A < 60) {c : Int32} (hc : f_X10_isWithin c 49 57 = true) : f_X11_readOn_32 σ 2 c = (0, (bz_up (bz_up (bz_up σ.1 40 A (c - 48)) 37 A 0) 32 13 (nI (A + 1)), σ.2)) := by
  unfold f_X11_readOn_32 f_X11_readOn_32_a f_X11_force_32 f_X11_force_32_a f_X11_close_32
  rw [if_neg (by decide), if_neg (by decide), m_in19, if_pos hc, hA, nI_clamp (by omega)]
  rw [show (bz_up σ.1 40 A (c - 48), σ.2).1 32 13 = nI A from by simpa [bz_up] using hA, nI_clamp (by omega), nI_1]
theorem m_ro2F {c : Int32} (hc : ¬ f_X10_isWithin c 49 57 = true) : (f_X11_readOn_32 σ 2 c).1 = -6 := by
  unfold f_X11_readOn_32 f_X11_readOn_32_a f_X11_force_32
  rw [if_neg (by decide), if_neg (by decide), m_in19, if_neg hc]
end RO
theorem bz_digitN {c : Int32} (h : f_X10_isWithin c 49 57 = true) : ∃ N, N < 100 ∧ c - 48 = nI N := by
  obtain ⟨h1, h2⟩ := bz_digit h
  obtain ⟨j, hj, e⟩ := nI_of h1
  refine ⟨j, ?_, e⟩
  rw [e] at h2
  exact (nI_ltI (b := 100) hj (by decide)).mp h2
theorem pa_up {f : Nat → Nat → Int32} {o k e : Nat} {x : Int32} (h : ¬ e = k) : bz_up f o k x o e = f o e := bz_up_k h
theorem cs_1 (c : Int32) : f_X3_canStand c 1 = (if f_X10_isWithin c 48 55 = true then true else (if c = 94 then true else false)) := by
  unfold f_X3_canStand
  rw [if_neg (show ¬ (1 : Int32) = 0 by decide), if_pos rfl]
theorem cs_2 (c : Int32) : f_X3_canStand c 2 = f_X10_isWithin c 49 57 := by
  unfold f_X3_canStand
  rw [if_neg (show ¬ (2 : Int32) = 0 by decide), if_neg (show ¬ (2 : Int32) = 1 by decide)]
theorem ia_1 (c : Int32) : f_X3_isActAt c 1 = (if c = 94 then true else false) := by
  unfold f_X3_isActAt
  rw [if_neg (show ¬ (1 : Int32) = 0 by decide), if_pos rfl]
theorem ia_2 (c : Int32) : f_X3_isActAt c 2 = true := by
  unfold f_X3_isActAt
  rw [if_neg (show ¬ (2 : Int32) = 0 by decide), if_neg (show ¬ (2 : Int32) = 1 by decide)]
/-- one sign more: what the class's reader says of it, and what the model's leaves -/
theorem pa_step {P : Nat → Int32} {N j A d : Nat} {σ : bz_S} (h : pa_inv P N j A d σ) (hA : A < 60) (hd : d ≤ 2) :
    (¬ f_X3_canStand (P j) (nI d) = true ∧ (f_X11_readOn_32 σ (nI d) (P j)).1 = -6) ∨
    (f_X3_canStand (P j) (nI d) = true ∧ ∃ d' A', d' ≤ 2 ∧ A' ≤ A + 1 ∧ (f_X11_readOn_32 σ (nI d) (P j)).1 = nI d' ∧ (if f_X3_isActAt (P j) (nI d) = true then 0 else nI d + 1) = nI d' ∧ pa_inv P N (j + 1) A' d' (f_X11_readOn_32 σ (nI d) (P j)).2) := by
  obtain ⟨hN, hP, hc, hs, hj, h1, h2⟩ := h
  rcases (show d = 0 ∨ d = 1 ∨ d = 2 by omega) with rfl | rfl | rfl
  · have hj' : j = pa_st P A := by omega
    rw [show nI 0 = 0 from rfl]
    unfold f_X3_canStand f_X3_isActAt
    rw [if_pos rfl, if_pos rfl]
    by_cases hl : f_X3_isLetter (P j) = true
    · rw [if_pos hl, if_pos hl, m_ro0L hc hA hl]
      refine Or.inr ⟨rfl, 1, A, by omega, by omega, rfl, by decide, ?_⟩
      refine ⟨by simpa [bz_up] using hN, by simpa [bz_up, funext_iff] using hP, by simpa [bz_up] using hc, ?_, by omega, ?_, by omega⟩
      · intro e he
        refine pa_slot_c (hs e he) ?_ ?_ ?_ ?_ <;> simp [bz_up, Nat.ne_of_lt he]
      · intro _
        refine ⟨by omega, by rw [← hj']; exact hl, by rw [← hj']; simp [bz_up], by simp [bz_up]⟩
    · rw [if_neg hl, if_neg hl]
      by_cases hq : P j = 126 ∨ P j = 46
      · rw [m_ro0N hc hA hl hq]
        refine Or.inr ⟨?_, 0, A + 1, by omega, by omega, rfl, by decide, ?_⟩
        · rcases hq with q | q
          · rw [if_pos q]
          · rw [if_pos q]; split <;> rfl
        have kd : pa_kd P j = if P j = 126 then 2 else 3 := by unfold pa_kd; rw [if_neg hl]
        have ln : pa_ln P j = 1 := by unfold pa_ln; rw [if_neg hl]
        refine ⟨by simpa [bz_up] using hN, by simpa [bz_up, funext_iff] using hP, by simp [bz_up], ?_, ?_, by omega, by omega⟩
        · intro e he
          by_cases hk : e = A
          · subst hk
            rw [← hj']
            refine ⟨by rw [kd]; simp [bz_up], ?_, ⟨0, by omega, by simp [bz_up]; rfl⟩, fun z => absurd z hl, fun z => ?_⟩
            · rw [show ((bz_up (bz_up (bz_up (bz_up (bz_up σ.1 38 e 0) 39 e 0) 40 e 0) 37 e (if P j = 126 then 2 else 3)) 32 13 (nI (e + 1)), σ.2) : bz_S).1 38 e = 0 from by simp [bz_up]]
              exact bz_lit (by decide)
            · rw [kd] at z
              split at z <;> exact absurd z (by decide)
          · refine pa_slot_c (hs e (by omega)) ?_ ?_ ?_ ?_ <;> simp [bz_up, hk]
        · show j + 1 = pa_st P A + pa_ln P (pa_st P A) + 0
          rw [← hj', ln]
      · have q1 : ¬ P j = 126 := fun z => hq (Or.inl z)
        have q2 : ¬ P j = 46 := fun z => hq (Or.inr z)
        rw [if_neg q1, if_neg q2]
        exact Or.inl ⟨by decide, m_ro0F hl q1 q2⟩
  · obtain ⟨_, hl, h38, h40⟩ := h1 (by omega)
    rw [show nI 1 = 1 from rfl]
    rw [cs_1, ia_1]
    by_cases hb : P j = 94
    · have e0 : ¬ f_X10_isWithin (P j) 48 55 = true := by rw [hb]; decide
      rw [if_neg e0, if_pos hb, hb, m_ro1B hc hA]
      have kd : pa_kd P (pa_st P A) = 1 := by unfold pa_kd; rw [if_pos hl, ← hj, if_pos hb]
      have ln : pa_ln P (pa_st P A) = 2 := by unfold pa_ln; rw [if_pos hl, ← hj, if_pos hb]
      refine Or.inr ⟨rfl, 0, A + 1, by omega, by omega, rfl, by decide, ?_⟩
      refine ⟨by simpa [bz_up] using hN, by simpa [bz_up, funext_iff] using hP, by simp [bz_up], ?_, ?_, by omega, by omega⟩
      · intro e he
        by_cases hk : e = A
        · subst hk
          refine ⟨by rw [kd]; simp [bz_up], ?_, ⟨0, by omega, ?_⟩, fun _ => ?_, fun z => ?_⟩
          · rw [show ((bz_up (bz_up σ.1 37 e 1) 32 13 (nI (e + 1)), σ.2) : bz_S).1 38 e = P (pa_st P e) - 65 from by simpa [bz_up] using h38]
            exact bz_letter hl
          · simpa [bz_up] using h40.trans (show (0 : Int32) = nI 0 from rfl)
          · simpa [bz_up] using h38
          · rw [kd] at z; exact absurd z (by decide)
        · refine pa_slot_c (hs e (by omega)) ?_ ?_ ?_ ?_ <;> simp [bz_up, hk]
      · show j + 1 = pa_st P A + pa_ln P (pa_st P A) + 0
        rw [ln]; omega
    · by_cases hw : f_X10_isWithin (P j) 48 55 = true
      · rw [if_pos hw, if_neg hb, m_ro1W hc hA hb hw]
        refine Or.inr ⟨rfl, 2, A, by omega, by omega, rfl, by decide, ?_⟩
        refine ⟨by simpa [bz_up] using hN, by simpa [bz_up, funext_iff] using hP, by simpa [bz_up] using hc, ?_, by omega, ?_, ?_⟩
        · intro e he
          refine pa_slot_c (hs e he) ?_ ?_ ?_ ?_ <;> simp [bz_up, Nat.ne_of_lt he]
        · intro _
          exact ⟨by omega, hl, by simpa [bz_up] using h38, by simpa [bz_up] using h40⟩
        · intro _
          rw [← hj]
          exact ⟨hb, hw, by simp [bz_up]⟩
      · rw [if_neg hw, if_neg hb]
        exact Or.inl ⟨by decide, m_ro1F hb hw⟩
  · obtain ⟨_, hl, h38, h40⟩ := h1 (by omega)
    obtain ⟨hb, hw, h39⟩ := h2 rfl
    rw [show nI 2 = 2 from rfl]
    rw [cs_2, ia_2]
    by_cases hf : f_X10_isWithin (P j) 49 57 = true
    · have kd : pa_kd P (pa_st P A) = 0 := by unfold pa_kd; rw [if_pos hl, if_neg hb]
      have ln : pa_ln P (pa_st P A) = 3 := by unfold pa_ln; rw [if_pos hl, if_neg hb]
      rw [m_ro2S hc hA hf]
      refine Or.inr ⟨hf, 0, A + 1, by omega, by omega, rfl, by decide, ?_⟩
      refine ⟨by simpa [bz_up] using hN, by simpa [bz_up, funext_iff] using hP, by simp [bz_up], ?_, ?_, by omega, by omega⟩
      · intro e he
        by_cases hk : e = A
        · subst hk
          have e40 : ((bz_up (bz_up (bz_up σ.1 40 e (P j - 48)) 37 e 0) 32 13 (nI (e + 1)), σ.2) : bz_S).1 40 e = P j - 48 := by simp [bz_up]
          refine ⟨by rw [kd]; simp [bz_up], ?_, ?_, fun _ => ?_, fun _ => ⟨hw, ?_, ?_, ?_⟩⟩
          · rw [show ((bz_up (bz_up (bz_up σ.1 40 e (P j - 48)) 37 e 0) 32 13 (nI (e + 1)), σ.2) : bz_S).1 38 e = P (pa_st P e) - 65 from by simpa [bz_up] using h38]
            exact bz_letter hl
          · rw [e40]; exact bz_digitN hf
          · simpa [bz_up] using h38
          · simpa [bz_up] using h39
          · rw [e40, hj]
          · rw [← hj]; exact hf
        · refine pa_slot_c (hs e (by omega)) ?_ ?_ ?_ ?_ <;> simp [bz_up, hk]
      · show j + 1 = pa_st P A + pa_ln P (pa_st P A) + 0
        rw [ln]; omega
    · exact Or.inl ⟨hf, m_ro2F hf⟩
/-- the model's fault is the class's; where there is none its acts are the text's -/
theorem pa_fault {P : Nat → Int32} {N : Nat} (h60 : N ≤ 60) {ς : bz_S} (hς : ς.1 6 1 = nI N) (hP : ∀ k, k < 60 → ς.1 7 k = P k) : ∀ (n j A d : Nat) (σ : bz_S), j + n = N → A ≤ j → d ≤ 2 → pa_inv P N j A d σ →
    (lp_mfault n σ (nI d) (nI j)).1 = lp_fault n ς (nI d) (nI j) ∧ ((lp_mfault n σ (nI d) (nI j)).1 < 0 → (lp_mfault n σ (nI d) (nI j)).1 = -6 ∧ ∃ A', A' ≤ N ∧ pa_inv P N N A' 0 (lp_mfault n σ (nI d) (nI j)).2) := by
  intro n
  induction n with
  | zero =>
    intro j A d σ hj hA hd h
    have hjN : j = N := by omega
    rw [lp_mfault, lp_fault, hς]
    by_cases h0 : d = 0
    · subst h0
      rw [if_pos (show nI 0 = 0 from rfl), if_pos (show nI 0 = 0 from rfl)]
      exact ⟨rfl, fun _ => ⟨rfl, A, by omega, by rw [← hjN]; rw [← hjN] at h; exact h⟩⟩
    · rw [if_neg (nI_ne0 (by omega) (by omega)), if_neg (nI_ne0 (by omega) (by omega))]
      exact ⟨h.1, fun z => absurd z (by rw [show (σ.1 32 8, σ).1 = nI N from h.1]; exact nI_pos (by omega))⟩
  | succ n ih =>
    intro j A d σ hj hA hd h
    rw [lp_mfault, lp_fault, nI_clamp (by omega), hP j (by omega), h.2.1]
    unfold lp_mfault_a
    rcases pa_step h (by omega) hd with ⟨c1, c2⟩ | ⟨c1, d', A', hd', hA', c2, c3, c4⟩
    · rw [c2, if_neg (by decide), if_neg c1]
      exact ⟨rfl, fun z => absurd z (nI_pos (by omega))⟩
    · rw [c2, if_pos (nI_pos' (by omega)), if_pos c1]
      have ih' := ih (j + 1) A' d' _ (by omega) (by omega) hd' c4
      rw [nI_1]
      have e3 : (if f_X3_isActAt (P j) (nI d) = true then lp_fault n ς 0 (nI (j + 1)) else lp_fault n ς (nI d + 1) (nI (j + 1))) = lp_fault n ς (nI d') (nI (j + 1)) := by
        rw [← c3]
        split <;> rfl
      rw [e3]
      exact ih'
