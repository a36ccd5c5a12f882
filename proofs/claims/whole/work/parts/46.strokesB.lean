/-! STROKES: the model, and both alike -/
theorem or_0 (x y : Nat) : (x ||| y = 0) ↔ (x = 0 ∧ y = 0) := by
  constructor
  · intro h
    constructor
    · apply Nat.eq_of_testBit_eq
      intro i
      have := congrArg (fun z => z.testBit i) h
      simp at this
      simp [this.1]
    · apply Nat.eq_of_testBit_eq
      intro i
      have := congrArg (fun z => z.testBit i) h
      simp at this
      simp [this.2]
  · rintro ⟨rfl, rfl⟩
    rfl
def hz (x G : Nat) : Bool := !((x &&& G) == 0)
theorem hz_or (a b G : Nat) : hz (a ||| b) G = (hz a G || hz b G) := by
  have e : (a ||| b) &&& G = (a &&& G) ||| (b &&& G) := by
    apply Nat.eq_of_testBit_eq
    intro i
    simp [Bool.and_or_distrib_right]
  unfold hz
  rw [e]
  generalize a &&& G = x
  generalize b &&& G = y
  by_cases h1 : x = 0
  · by_cases h2 : y = 0
    · simp [h1, h2]
    · have h3 : ¬ (x ||| y) = 0 := fun z => h2 ((or_0 x y).mp z).2
      simp [h1, h2]
  · have h3 : ¬ (x ||| y) = 0 := fun z => h1 ((or_0 x y).mp z).1
    rw [beq_eq_false_iff_ne.mpr h3, beq_eq_false_iff_ne.mpr h1]
    rfl
theorem hz_2 (c G : Nat) : hz (2 ^ c) G = G.testBit c := by
  unfold hz
  have t : (2 ^ c &&& G).testBit c = G.testBit c := by simp [Nat.testBit_two_pow_self]
  by_cases h : 2 ^ c &&& G = 0
  · rw [h] at t ⊢
    simp at t
    simp [t]
  · have : G.testBit c = true := by
      apply Decidable.byContradiction
      intro z
      apply h
      apply Nat.eq_of_testBit_eq
      intro i
      by_cases e : i = c
      · rw [e, t]; simpa using z
      · simp [Nat.testBit_two_pow, Ne.symm e]
    rw [this]
    simp [h]
theorem rcN_or : ∀ (n s re : Nat), rcN n s re = re ||| rcN n s 0 := by
  intro n
  induction n with
  | zero => intro s re; rw [rcN, rcN, Nat.or_zero]
  | succ n ih =>
    intro s re
    rw [rcN, rcN]
    split
    · rw [Nat.or_zero]
    · rw [ih _ (re ||| _), ih _ (0 ||| _), Nat.zero_or, Nat.or_assoc]
def ltN (G : Nat) : Nat → Nat → Bool → Bool → Bool
  | 0, _, le, _ => le
  | n + 1, s, le, li => if li = true then le else ltN G n (sN s) (if le = true then true else (if f_X10_isPocket (nI (sN s / 8)) = true then false else G.testBit (sN s / 8))) (f_X10_isPocket (nI (sN s / 8)))
theorem lt_end (G : Nat) : ∀ n s le, ltN G n s le true = le := by
  intro n s le
  cases n with
  | zero => rfl
  | succ n => rw [ltN, if_pos rfl]
theorem lt_val (G : Nat) : ∀ (n s : Nat) (le : Bool), ltN G n s le false = (le || hz (rcN n s 0) G) := by
  intro n
  induction n with
  | zero => intro s le; rw [ltN, rcN]; simp [hz]
  | succ n ih =>
    intro s le
    rw [ltN, rcN, if_neg (by decide)]
    by_cases p : f_X10_isPocket (nI (sN s / 8)) = true
    · rw [if_pos p, if_pos p, p, lt_end]
      cases le <;> simp [hz]
    · rw [if_neg p, if_neg p, Bool.eq_false_iff.mpr p, ih, rcN_or n _ (0 ||| _), Nat.zero_or, hz_or, hz_2]
      cases le <;> simp
theorem m_lt {go : Int32} {G : Nat} : ∀ (n : Nat) (σ : bz_S) (s : Nat) (le li : Bool) (fo : Int32), s < 360 → (∀ q, q < 45 → ((σ.1 44 q = go) ↔ G.testBit q = true)) → lp_lt go n σ (cdN s) le li fo = ltN G n s le li := by
  intro n
  induction n with
  | zero => intro σ s le li fo hs h; rw [lp_lt, ltN]
  | succ n ih =>
    intro σ s le li fo hs h
    have nx : f_X11_next (cdN s) = cdN (sN s) := (sN_ok hs).2.2.2
    have lt := sN_lt ⟨s, hs⟩
    have lt' : sN s < 360 := lt
    rw [lp_lt, ltN, nx, cdN_10 lt', nI_clamp (by omega), m_isPocket]
    have hq := h (sN s / 8) (by omega)
    by_cases a : li = true
    · rw [if_pos a, if_pos a]
    · rw [if_neg a, if_neg a]
      by_cases b : le = true
      · rw [if_pos b, if_pos b]
        exact ih σ (sN s) _ _ _ lt' h
      · rw [if_neg b, if_neg b]
        by_cases p : f_X10_isPocket (nI (sN s / 8)) = true
        · rw [if_pos p, if_pos p]
          exact ih σ (sN s) _ _ _ lt' h
        · rw [if_neg p, if_neg p]
          by_cases q : σ.1 44 (sN s / 8) = go
          · rw [if_pos q, hq.mp q]
            exact ih σ (sN s) _ _ _ lt' h
          · rw [if_neg q, Bool.eq_false_iff.mpr (fun z => q (hq.mpr z))]
            exact ih σ (sN s) _ _ _ lt' h
theorem m_leads {σ : bz_S} {go : Int32} {G c w : Nat} (hc : c < 45) (hw : w < 8) (h : ∀ q, q < 45 → ((σ.1 44 q = go) ↔ G.testBit q = true)) : f_X11_leadsTo_32 σ (nI c) (nI w) go = hit G c w := by
  unfold f_X11_leadsTo_32
  have cd : (10 * nI c) + nI w = cdN (8 * c + w) := by
    unfold cdN
    rw [show (8 * c + w) / 8 = c by omega, show (8 * c + w) % 8 = w by omega]
    exact bz_10 rfl rfl
  have e := rN_all ⟨8 * c + w, by omega⟩
  rw [bz_k_eq, cd, m_lt 9 σ (8 * c + w) false false 1 (by omega) h, lt_val, Bool.false_or, e]
  rfl
def wtN (p : Nat → Bool) : Nat → Nat → Nat
  | 0, x => x
  | n + 1, x => wtN p n (if p n = true then n else x)
theorem wt_lw (p : Nat → Bool) : ∀ (n m : Nat), wtN p n (lwN p m n) = lwN p (n + m) 0 := by
  intro n
  induction n with
  | zero => intro m; rw [wtN, Nat.zero_add]
  | succ n ih =>
    intro m
    have := ih (m + 1)
    rw [lwN] at this
    rw [wtN, this]
    congr 1
    omega
theorem m_wt {go : Int32} {c : Nat} {p : Nat → Bool} : ∀ (n : Nat) (σ : bz_S) (x : Nat) (way : Int32), way + 1 = nI n → n ≤ 8 → (∀ w, w < 8 → f_X11_leadsTo_32 σ (nI c) (nI w) go = p w) → lp_wt (nI c) go n σ (nF x) way = nF (wtN p n x) := by
  intro n
  induction n with
  | zero => intro σ x way hw hn h; rw [lp_wt, wtN]
  | succ n ih =>
    intro σ x way hw hn h
    have wd : way + -1 + 1 = nI n := bz_dn' hw
    rw [lp_wt, wtN, bz_dn hw, h n (by omega)]
    rw [bz_dn hw] at wd
    by_cases z : p n = true
    · rw [if_pos z, if_pos z]
      have e : nI n = nF n := by unfold nF; rw [if_neg (by omega)]
      have := ih σ n (nI n + -1) wd (by omega) h
      rw [← e] at this
      exact this
    · rw [if_neg z, if_neg z]
      exact ih σ x _ wd (by omega) h
theorem m_way {σ : bz_S} {go : Int32} {G c : Nat} (hc : c < 45) (h : ∀ q, q < 45 → ((σ.1 44 q = go) ↔ G.testBit q = true)) : f_X11_wayTo_32 σ (nI c) go = nF (lwN (hit G c) 8 0) := by
  unfold f_X11_wayTo_32
  rw [bz_k_eq]
  have := m_wt (p := hit G c) 8 σ 9 7 (by decide) (by omega) (fun w hw => m_leads hc hw h)
  rw [show (9 : Nat) = lwN (hit G c) 0 8 from rfl, wt_lw] at this
  exact this
/-- the model's cells, by the strokes -/
def fR (σ : bz_S) (f : Nat → Nat) : Prop := ∀ q, q < 45 → σ.1 44 q = nF (f q)
def cF (G : Nat) (f : Nat → Nat) (q : Nat) : Prop := f q = 9 ∧ f_X10_isPocket (nI q) = false ∧ ¬ lwN (hit G q) 8 0 = 9
theorem nF_i {a b : Nat} (ha : a ≤ 9) (hb : b < 9) : (nF a = nI b) ↔ a = b := by
  unfold nF
  by_cases z : a = 9
  · rw [if_pos z]
    exact ⟨fun y => absurd y.symm (bz_nI6 (by omega)), fun y => by omega⟩
  · rw [if_neg z]
    exact nI_eq (by omega) (by omega)
theorem up_id (f : Nat → Nat → Int32) (o k : Nat) : bz_up f o k (f o k) = f := by
  funext a b
  by_cases z : a = o ∧ b = k
  · rw [z.1, z.2, bz_up_s]
  · exact up_k0 z
theorem m_ff {k G : Nat} (hk : 1 ≤ k) (hk8 : k ≤ 8) (f : Nat → Nat) : ∀ (n : Nat) (σ : bz_S) (an : Bool) (j : Nat) (g : Nat → Nat), j + n = 45 → fR σ g → (∀ q, j ≤ q → g q = f q) → (∀ q, q < 45 → (g q = k - 1 ↔ G.testBit q = true)) → (∀ q, g q ≤ 9) → ∃ g', fR (lp_ff (nI k) n σ an (nI j)).2 g' ∧ (∀ q, q < j → g' q = g q) ∧ (∀ q, j ≤ q → q < 45 → cF G f q → g' q = k) ∧ (∀ q, j ≤ q → q < 45 → ¬ cF G f q → g' q = f q) ∧ ((lp_ff (nI k) n σ an (nI j)).1 = true ↔ (an = true ∨ ∃ q, j ≤ q ∧ q < 45 ∧ cF G f q)) := by
  intro n
  induction n with
  | zero =>
    intro σ an j g hj h h1 h2 h3
    rw [lp_ff]
    exact ⟨g, h, fun q _ => rfl, fun q a b => absurd b (by omega), fun q a b => absurd b (by omega), ⟨fun z => Or.inl z, fun z => z.elim id (fun ⟨q, a, b, _⟩ => absurd b (by omega))⟩⟩
  | succ n ih =>
    intro σ an j g hj h h1 h2 h3
    have hj' : j < 45 := by omega
    have vj : σ.1 44 j = nF (f j) := by rw [h j hj', h1 j (Nat.le_refl _)]
    have fj9 : f j ≤ 9 := by rw [← h1 j (Nat.le_refl _)]; exact h3 j
    -- nothing at j
    have no : ¬ cF G f j → ∃ g', fR (lp_ff (nI k) n (bz_up σ.1 44 j (σ.1 44 j), σ.2) an (nI (j + 1))).2 g' ∧ (∀ q, q < j → g' q = g q) ∧ (∀ q, j ≤ q → q < 45 → cF G f q → g' q = k) ∧ (∀ q, j ≤ q → q < 45 → ¬ cF G f q → g' q = f q) ∧ ((lp_ff (nI k) n (bz_up σ.1 44 j (σ.1 44 j), σ.2) an (nI (j + 1))).1 = true ↔ (an = true ∨ ∃ q, j ≤ q ∧ q < 45 ∧ cF G f q)) := by
      intro nc
      rw [up_id]
      obtain ⟨g', a1, a2, a3, a4, a5⟩ := ih σ an (j + 1) g (by omega) h (fun q hq => h1 q (by omega)) h2 h3
      refine ⟨g', a1, fun q hq => a2 q (by omega), fun q hq hq2 hc => ?_, fun q hq hq2 hc => ?_, a5.trans ?_⟩
      · by_cases e : q = j
        · rw [e] at hc; exact absurd hc nc
        · exact a3 q (by omega) hq2 hc
      · by_cases e : q = j
        · rw [e, a2 j (by omega)]; exact h1 j (Nat.le_refl _)
        · exact a4 q (by omega) hq2 hc
      · constructor
        · rintro (z | ⟨q, y1, y2, y3⟩)
          · exact Or.inl z
          · exact Or.inr ⟨q, by omega, y2, y3⟩
        · rintro (z | ⟨q, y1, y2, y3⟩)
          · exact Or.inl z
          · by_cases e : q = j
            · rw [e] at y3; exact absurd y3 nc
            · exact Or.inr ⟨q, by omega, y2, y3⟩
    have no2 : ¬ cF G f j → ∃ g', fR (if an = true then lp_ff (nI k) n (bz_up σ.1 44 j (σ.1 44 j), σ.2) true (nI (j + 1)) else lp_ff (nI k) n (bz_up σ.1 44 j (σ.1 44 j), σ.2) false (nI (j + 1))).2 g' ∧ (∀ q, q < j → g' q = g q) ∧ (∀ q, j ≤ q → q < 45 → cF G f q → g' q = k) ∧ (∀ q, j ≤ q → q < 45 → ¬ cF G f q → g' q = f q) ∧ ((if an = true then lp_ff (nI k) n (bz_up σ.1 44 j (σ.1 44 j), σ.2) true (nI (j + 1)) else lp_ff (nI k) n (bz_up σ.1 44 j (σ.1 44 j), σ.2) false (nI (j + 1))).1 = true ↔ (an = true ∨ ∃ q, j ≤ q ∧ q < 45 ∧ cF G f q)) := by
      intro nc
      have := no nc
      cases an with
      | true => exact this
      | false => exact this
    have wv : f_X11_wayTo_32 σ (nI j) (nI k - 1) = nF (lwN (hit G j) 8 0) := by
      rw [show nI k - 1 = nI (k - 1) from bz_subN (b := 1) hk]
      exact m_way hj' (fun q hq => by rw [h q hq, nF_i (h3 q) (by omega)]; exact h2 q hq)
    have l9 := lwN_lt (hit G j) 8 0 (by omega)
    rw [lp_ff, nI_clamp (by omega), wv, nI_1, m_isPocket]
    by_cases c1 : 0 ≤ σ.1 44 j
    · rw [if_pos c1]
      refine no2 (fun z => ?_)
      rw [vj, z.1] at c1
      exact absurd c1 (by decide)
    · rw [if_neg c1]
      have f9 : f j = 9 := (nF_n (by omega)).mp (by rw [← vj]; exact Int32.not_le.mp c1)
      by_cases c2 : f_X10_isPocket (nI j) = true
      · rw [if_pos c2]
        exact no2 (fun z => absurd (z.2.1.symm.trans c2) (by decide))
      · rw [if_neg c2]
        by_cases c3 : lwN (hit G j) 8 0 = 9
        · rw [if_pos ((nF_n (by omega)).mpr c3)]
          exact no2 (fun z => z.2.2 c3)
        · rw [if_neg (fun y => c3 ((nF_n (by omega)).mp y))]
          have yes : ∃ g', fR (lp_ff (nI k) n (bz_up σ.1 44 j (nI k), σ.2) true (nI (j + 1))).2 g' ∧ (∀ q, q < j → g' q = g q) ∧ (∀ q, j ≤ q → q < 45 → cF G f q → g' q = k) ∧ (∀ q, j ≤ q → q < 45 → ¬ cF G f q → g' q = f q) ∧ ((lp_ff (nI k) n (bz_up σ.1 44 j (nI k), σ.2) true (nI (j + 1))).1 = true ↔ (an = true ∨ ∃ q, j ≤ q ∧ q < 45 ∧ cF G f q)) := by
            have cf : cF G f j := ⟨f9, Bool.eq_false_iff.mpr c2, c3⟩
            have y1 : fR (bz_up σ.1 44 j (nI k), σ.2) (fun q => if q = j then k else g q) := by
              intro q hq
              show bz_up σ.1 44 j (nI k) 44 q = nF (if q = j then k else g q)
              by_cases e : q = j
              · rw [e, bz_up_s, if_pos rfl, nF, if_neg (by omega)]
              · rw [bz_up_k e, if_neg e]; exact h q hq
            have y2 : ∀ q, j + 1 ≤ q → (fun q => if q = j then k else g q) q = f q := by
              intro q hq
              show (if q = j then k else g q) = f q
              rw [if_neg (by omega)]; exact h1 q (by omega)
            have y3 : ∀ q, q < 45 → ((fun q => if q = j then k else g q) q = k - 1 ↔ G.testBit q = true) := by
              intro q hq
              show ((if q = j then k else g q) = k - 1) ↔ _
              by_cases e : q = j
              · rw [if_pos e, e, ← h2 j hj', h1 j (Nat.le_refl _), f9]
                omega
              · rw [if_neg e]; exact h2 q hq
            have y4 : ∀ q, (fun q => if q = j then k else g q) q ≤ 9 := by
              intro q
              show (if q = j then k else g q) ≤ 9
              split
              · omega
              · exact h3 q
            obtain ⟨g', a1, a2, a3, a4, a5⟩ := ih (bz_up σ.1 44 j (nI k), σ.2) true (j + 1) (fun q => if q = j then k else g q) (by omega) y1 y2 y3 y4
            refine ⟨g', a1, fun q hq => (a2 q (by omega)).trans (if_neg (by omega)), fun q hq hq2 hc => ?_, fun q hq hq2 hc => ?_, ?_⟩
            · by_cases e : q = j
              · rw [e, a2 j (by omega)]; exact if_pos rfl
              · exact a3 q (by omega) hq2 hc
            · by_cases e : q = j
              · rw [e] at hc; exact absurd cf hc
              · exact a4 q (by omega) hq2 hc
            · exact a5.trans ⟨fun _ => Or.inr ⟨j, Nat.le_refl _, hj', cf⟩, fun _ => Or.inl rfl⟩
          first
            | exact yes
            | (split <;> exact yes)
/-- nothing is left to reach -/
theorem m_ff0 (mn : Int32) : ∀ (n : Nat) (σ : bz_S) (an : Bool) (j : Nat), j + n = 45 → (∀ q, j ≤ q → q < 45 → ¬ σ.1 44 q < 0 ∨ f_X10_isPocket (nI q) = true) → lp_ff mn n σ an (nI j) = (an, σ) := by
  intro n
  induction n with
  | zero => intro σ an j hj h; rw [lp_ff]
  | succ n ih =>
    intro σ an j hj h
    rw [lp_ff, nI_clamp (by omega), nI_1, m_isPocket, up_id]
    have r := ih σ an (j + 1) (by omega) (fun q a b => h q (by omega) b)
    have r2 : (if an = true then lp_ff mn n (σ.1, σ.2) true (nI (j + 1)) else lp_ff mn n (σ.1, σ.2) false (nI (j + 1))) = (an, σ) := by
      cases an with
      | true => exact r
      | false => exact r
    rcases h j (Nat.le_refl _) (by omega) with z | z
    · rw [if_pos (Int32.not_lt.mp z)]
      exact r2
    · by_cases y : 0 ≤ σ.1 44 j
      · rw [if_pos y]; exact r2
      · rw [if_neg y, if_pos z]; exact r2
theorem m_st1 {t : Nat} : ∀ (n : Nat) (σ : bz_S) (j : Nat), j + n = 45 → ∀ q, q < 45 → (lp_st1 (nI t) n σ (nI j)).1 44 q = if q < j then σ.1 44 q else (if nI q = nI t then 0 else -6) := by
  intro n
  induction n with
  | zero => intro σ j hj q hq; rw [lp_st1, if_pos (by omega)]
  | succ n ih =>
    intro σ j hj q hq
    rw [lp_st1, nI_clamp (by omega), nI_1]
    have k : ∀ v : Int32, (lp_st1 (nI t) n (bz_up σ.1 44 j v, σ.2) (nI (j + 1))).1 44 q = if q < j then σ.1 44 q else (if q = j then v else (if nI q = nI t then 0 else -6)) := by
      intro v
      rw [ih _ (j + 1) (by omega) q hq]
      by_cases z : q < j
      · rw [if_pos (by omega), if_pos z]; exact bz_up_k (by omega)
      · by_cases y : q = j
        · rw [if_pos (by omega), if_neg z, if_pos y, y]; exact bz_up_s1
        · rw [if_neg (by omega), if_neg z, if_neg y]
    split
    · rename_i e
      rw [k]
      by_cases z : q < j
      · rw [if_pos z, if_pos z]
      · rw [if_neg z, if_neg z]
        by_cases y : q = j
        · rw [if_pos y, y, if_pos e]
        · rw [if_neg y]
    · rename_i e
      rw [k]
      by_cases z : q < j
      · rw [if_pos z, if_pos z]
      · rw [if_neg z, if_neg z]
        by_cases y : q = j
        · rw [if_pos y, y, if_neg e]
        · rw [if_neg y]
section SK
variable {T : Nat → Int32} {σ τ : bz_S}
theorem plB_pk {q : Nat} (hq : q < 45) : (plB q = true) ↔ f_X10_isPocket (nI q) = false := by
  refine ⟨fun h => ?_, fun h => tb_plI hq h⟩
  obtain ⟨a, ha, e, p⟩ := tb_pl (x := nI q) h
  exact p
/-- what the model's search leaves: 0 at t, 1 and 2 by the strokes -/
theorem m_far {t : Nat} (ht : t < 45) (pt : plB t = true) (σ : bz_S) : ∃ f, fR (lp_st2 46 (lp_st1 (nI t) 45 σ 0) true 1) f ∧ f t = 0 ∧ (∀ q, q < 45 → f q ≤ 9) ∧ (∀ q, q < 45 → ((f q = 0) ↔ (2 ^ t).testBit q = true)) ∧ (∀ q, q < 45 → ((f q = 1) ↔ (l1N t).testBit q = true)) ∧ (∀ q, q < 45 → plB q = true → ¬ q = t → (l1N t).testBit q = false → f q = 2) := by
  have b2 : ∀ q, ((2 ^ t).testBit q = true) ↔ q = t := by
    intro q
    by_cases e : q = t
    · rw [e, Nat.testBit_two_pow_self]; simp
    · simp [Nat.testBit_two_pow, Ne.symm e, e]
  have l1 : ∀ q, q < 45 → ((l1N t).testBit q = true ↔ (plB q = true ∧ ¬ q = t ∧ ¬ lwN (hit (2 ^ t) q) 8 0 = 9)) := by
    intro q hq
    have := l1_all ⟨t, ht⟩ ⟨q, hq⟩ pt
    exact this.trans ⟨fun z => ⟨z.1, fun y => z.2.1 (Fin.ext y), z.2.2⟩, fun z => ⟨z.1, fun y => z.2.1 (Fin.mk.inj y), z.2.2⟩⟩
  have h0 : fR (lp_st1 (nI t) 45 σ 0) (fun q => if q = t then 0 else 9) := by
    intro q hq
    rw [show (0 : Int32) = nI 0 from rfl, m_st1 45 σ 0 (by omega) q hq, if_neg (by omega)]
    show _ = nF (if q = t then 0 else 9)
    by_cases e : q = t
    · rw [if_pos e, e, if_pos rfl]; rfl
    · rw [if_neg e, if_neg (fun z => e ((nI_eq (by omega) (by omega)).mp z))]; rfl
  generalize lp_st1 (nI t) 45 σ 0 = σ0 at *
  rw [lp_st2, if_pos rfl, lp_st2_a]
  unfold f_X11_findFar_32
  rw [bz_k_eq]
  obtain ⟨f1, a1, -, a3, a4, a5⟩ := m_ff (k := 1) (G := 2 ^ t) (by omega) (by omega) (fun q => if q = t then 0 else 9) 45 σ0 false 0 (fun q => if q = t then 0 else 9) (by omega) h0 (fun q _ => rfl) (fun q hq => by
    rw [b2]
    show ((if q = t then 0 else 9) = 1 - 1) ↔ q = t
    by_cases e : q = t
    · rw [if_pos e]; exact ⟨fun _ => e, fun _ => rfl⟩
    · rw [if_neg e]; exact ⟨fun z => absurd z (by decide), fun z => absurd z e⟩) (fun q => by show (if q = t then 0 else 9) ≤ 9; split <;> omega)
  have c1 : ∀ q, q < 45 → (cF (2 ^ t) (fun q => if q = t then 0 else 9) q ↔ (l1N t).testBit q = true) := by
    intro q hq
    rw [l1 q hq]
    unfold cF
    show ((if q = t then 0 else 9) = 9 ∧ _ ∧ _) ↔ _
    rw [plB_pk hq]
    by_cases e : q = t
    · rw [if_pos e]; exact ⟨fun z => absurd z.1 (by decide), fun z => absurd e z.2.1⟩
    · rw [if_neg e]; exact ⟨fun z => ⟨z.2.1, e, z.2.2⟩, fun z => ⟨rfl, z.1, z.2.2⟩⟩
  have v1 : ∀ q, q < 45 → (l1N t).testBit q = true → f1 q = 1 := fun q hq z => a3 q (by omega) hq ((c1 q hq).mpr z)
  have v0 : ∀ q, q < 45 → ¬ (l1N t).testBit q = true → f1 q = if q = t then 0 else 9 := fun q hq z => a4 q (by omega) hq (fun y => z ((c1 q hq).mp y))
  have lt0 : ¬ (l1N t).testBit t = true := fun z => ((l1 t ht).mp z).2.1 rfl
  have any1 : (lp_ff 1 45 σ0 false 0).1 = true := by
    obtain ⟨q, hq⟩ := l1_ne ⟨t, ht⟩ pt
    exact a5.mpr (Or.inr ⟨q, by omega, q.isLt, (c1 q q.isLt).mpr hq⟩)
  have a1' : fR (lp_ff 1 45 σ0 false 0).2 f1 := a1
  rw [any1, show (1 : Int32) + 1 = 2 by decide]
  generalize (lp_ff 1 45 σ0 false 0).2 = σ1 at *
  rw [lp_st2, if_pos rfl, lp_st2_a]
  unfold f_X11_findFar_32
  rw [bz_k_eq]
  have g1 : fR σ1 (fun q => if q < 45 then f1 q else 0) := fun q hq => by
    show _ = nF (if q < 45 then f1 q else 0)
    rw [if_pos hq]; exact a1' q hq
  have le1 : ∀ q, q < 45 → f1 q ≤ 9 := by
    intro q hq
    by_cases z : (l1N t).testBit q = true
    · rw [v1 q hq z]; omega
    · rw [v0 q hq z]; split <;> omega
  obtain ⟨f2, d1, -, d3, d4, d5⟩ := m_ff (k := 2) (G := l1N t) (by omega) (by omega) (fun q => if q < 45 then f1 q else 0) 45 σ1 false 0 (fun q => if q < 45 then f1 q else 0) (by omega) g1 (fun q _ => rfl) (fun q hq => by
    show ((if q < 45 then f1 q else 0) = 2 - 1) ↔ _
    rw [if_pos hq]
    by_cases z : (l1N t).testBit q = true
    · rw [v1 q hq z]; exact ⟨fun _ => z, fun _ => rfl⟩
    · rw [v0 q hq z]
      exact ⟨fun y => by split at y <;> exact absurd y (by decide), fun y => absurd y z⟩) (fun q => by show (if q < 45 then f1 q else 0) ≤ 9; split; exact le1 q (by assumption); omega)
  have d1' : fR (lp_ff 2 45 σ1 false 0).2 f2 := d1
  have cc : ∀ q, q < 45 → (cF (l1N t) (fun q => if q < 45 then f1 q else 0) q ↔ (plB q = true ∧ ¬ q = t ∧ (l1N t).testBit q = false)) := by
    intro q hq
    unfold cF
    show ((if q < 45 then f1 q else 0) = 9 ∧ _ ∧ _) ↔ _
    rw [if_pos hq, plB_pk hq]
    by_cases z : (l1N t).testBit q = true
    · rw [v1 q hq z]
      exact ⟨fun y => absurd y.1 (by decide), fun y => absurd (y.2.2.symm.trans z) (by decide)⟩
    · rw [v0 q hq z]
      by_cases e : q = t
      · rw [if_pos e]; exact ⟨fun y => absurd y.1 (by decide), fun y => absurd e y.2.1⟩
      · rw [if_neg e]
        refine ⟨fun y => ⟨y.2.1, e, Bool.eq_false_iff.mpr z⟩, fun y => ⟨rfl, y.1, ?_⟩⟩
        have pq : plB q = true := (plB_pk hq).mpr y.1
        have l9 : lwN (hit (2 ^ t) q) 8 0 = 9 := by
          apply Decidable.byContradiction
          intro w
          exact z ((l1 q hq).mpr ⟨pq, e, w⟩)
        exact (st_all ⟨t, ht⟩ ⟨q, hq⟩ pt pq (fun w => e (Fin.mk.inj w)) l9).2
  have w2 : ∀ q, q < 45 → plB q = true → ¬ q = t → (l1N t).testBit q = false → f2 q = 2 := fun q hq p e z => d3 q (by omega) hq ((cc q hq).mpr ⟨p, e, z⟩)
  have w1 : ∀ q, q < 45 → ¬ (plB q = true ∧ ¬ q = t ∧ (l1N t).testBit q = false) → f2 q = f1 q := fun q hq z => (d4 q (by omega) hq (fun y => z ((cc q hq).mp y))).trans (if_pos hq)
  have all : f2 t = 0 ∧ (∀ q, q < 45 → f2 q ≤ 9) ∧ (∀ q, q < 45 → ((f2 q = 0) ↔ (2 ^ t).testBit q = true)) ∧ (∀ q, q < 45 → ((f2 q = 1) ↔ (l1N t).testBit q = true)) ∧ (∀ q, q < 45 → plB q = true → ¬ q = t → (l1N t).testBit q = false → f2 q = 2) := by
    refine ⟨?_, fun q hq => ?_, fun q hq => ?_, fun q hq => ?_, w2⟩
    · rw [w1 t ht (fun y => y.2.1 rfl), v0 t ht lt0, if_pos rfl]
    · by_cases y : plB q = true ∧ ¬ q = t ∧ (l1N t).testBit q = false
      · rw [w2 q hq y.1 y.2.1 y.2.2]; omega
      · rw [w1 q hq y]; exact le1 q hq
    · rw [b2]
      by_cases y : plB q = true ∧ ¬ q = t ∧ (l1N t).testBit q = false
      · rw [w2 q hq y.1 y.2.1 y.2.2]
        exact ⟨fun z => absurd z (by decide), fun z => absurd z y.2.1⟩
      · rw [w1 q hq y]
        by_cases z : (l1N t).testBit q = true
        · rw [v1 q hq z]
          exact ⟨fun w => absurd w (by decide), fun w => absurd z (by rw [w]; exact lt0)⟩
        · rw [v0 q hq z]
          by_cases e : q = t
          · rw [if_pos e]; exact ⟨fun _ => e, fun _ => rfl⟩
          · rw [if_neg e]; exact ⟨fun w => absurd w (by decide), fun w => absurd w e⟩
    · by_cases y : plB q = true ∧ ¬ q = t ∧ (l1N t).testBit q = false
      · rw [w2 q hq y.1 y.2.1 y.2.2, y.2.2]
        exact ⟨fun z => absurd z (by decide), fun z => absurd z (by decide)⟩
      · rw [w1 q hq y]
        by_cases z : (l1N t).testBit q = true
        · rw [v1 q hq z]; exact ⟨fun _ => z, fun _ => rfl⟩
        · rw [v0 q hq z]
          exact ⟨fun w => by split at w <;> exact absurd w (by decide), fun w => absurd w z⟩
  generalize lp_ff 2 45 σ1 false 0 = ρ at *
  cases hb : ρ.1 with
  | false =>
    rw [lp_st2, if_neg (by decide)]
    exact ⟨f2, d1', all⟩
  | true =>
    rw [lp_st2, if_pos rfl, lp_st2_a]
    unfold f_X11_findFar_32
    rw [bz_k_eq, show (0 : Int32) = nI 0 from rfl, m_ff0 _ 45 ρ.2 false 0 (by omega) (fun q _ hq => ?_), lp_st2, if_neg (show ¬ ((false, ρ.2) : Bool × bz_S).1 = true from Bool.false_ne_true)]
    · exact ⟨f2, d1', all⟩
    · rw [d1' q hq]
      by_cases p : plB q = true
      · refine Or.inl (fun z => ?_)
        have z9 := (nF_n (by have := all.2.1 q hq; omega)).mp z
        by_cases e : q = t
        · rw [e, all.1] at z9; exact absurd z9 (by decide)
        · by_cases y : (l1N t).testBit q = true
          · rw [(all.2.2.2.1 q hq).mpr y] at z9; exact absurd z9 (by decide)
          · rw [w2 q hq p e (Bool.eq_false_iff.mpr y)] at z9; exact absurd z9 (by decide)
      · refine Or.inr ?_
        cases hp : f_X10_isPocket (nI q) with
        | true => rfl
        | false => exact absurd ((plB_pk hq).mpr hp) p
theorem w_01 {x : Int32} (h : f_X10_isWithin x 0 1 = true) : x = 0 ∨ x = 1 := bz_w01 h
theorem e_strokes (h : iv_R T σ τ) (fm to what : Int32) : (f_X11_strokes_32 τ fm to what).1 = f_X10_strokes_0 fm to what ∧ iv_R T σ (f_X11_strokes_32 τ fm to what).2 := by
  refine ⟨?_, iv_c h bz_fr_rf (bz_fr_mo (rf_X11_strokes_32 τ fm to what) (by decide)) (fun k _ => congrFun (bz_fr_at (rf_X11_strokes_32 τ fm to what) 32 (by decide)) k) (fun b _ => congrFun (bz_fr_at (rf_X11_strokes_32 τ fm to what) 33 (by decide)) b)⟩
  unfold f_X11_strokes_32 f_X10_strokes_0
  rw [m_isPlace, m_isPlace, m_w what 0 1 (by decide) (by decide)]
  split
  · rename_i hf
    split
    · rename_i ht
      split
      · rename_i hw
        obtain ⟨F, hF, rfl, -⟩ := tb_pl hf
        obtain ⟨t, ht2, rfl, -⟩ := tb_pl ht
        unfold f_X11_strokes_32_a f_X11_strokes_32_b
        rw [bz_k_eq, bz_k_eq, bz_k_eq]
        obtain ⟨f, r1, r2, r3, r4, r5, r6⟩ := m_far ht2 ht τ
        generalize lp_st2 46 (lp_st1 (nI t) 45 τ 0) true 1 = ω at *
        rw [nI_clamp (by omega), r1 F hF]
        by_cases e : F = t
        · rw [e, r2, if_pos rfl]
          rcases w_01 hw with rfl | rfl
          · rw [if_pos rfl, if_pos rfl]; rfl
          · rw [if_neg (by decide), if_neg (by decide), if_neg (by decide)]
        · rw [if_neg (fun z => e ((nI_eq (by omega) (by omega)).mp z)), c_strokes ht2 hF ht hf e]
          have l1 := l1_all ⟨t, ht2⟩ ⟨F, hF⟩ ht
          have l1' : ((l1N t).testBit F = true) ↔ (plB F = true ∧ ¬ F = t ∧ ¬ lwN (hit (2 ^ t) F) 8 0 = 9) := l1.trans ⟨fun z => ⟨z.1, fun y => z.2.1 (Fin.ext y), z.2.2⟩, fun z => ⟨z.1, fun y => z.2.1 (Fin.mk.inj y), z.2.2⟩⟩
          by_cases z : lwN (hit (2 ^ t) F) 8 0 = 9
          · have f2 := r6 F hF hf e (Bool.eq_false_iff.mpr (fun y => (l1'.mp y).2.2 z))
            rw [if_pos z, f2]
            rcases w_01 hw with rfl | rfl
            · rw [if_pos rfl, if_pos rfl]; rfl
            · rw [if_neg (show ¬ (1 : Int32) = 0 by decide), if_pos (show (1 : Int32) ≤ nF 2 by decide), if_neg (show ¬ (1 : Int32) = 0 by decide)]
              show f_X11_wayTo_32 ω (nI F) (nF 2 - 1) = _
              rw [show nF 2 - 1 = nI 1 by decide]
              exact m_way hF (fun q hq => by rw [r1 q hq, nF_i (r3 q hq) (by omega)]; exact r5 q hq)
          · have f1 := (r5 F hF).mpr (l1'.mpr ⟨hf, e, z⟩)
            rw [if_neg z, f1]
            rcases w_01 hw with rfl | rfl
            · rw [if_pos rfl, if_pos rfl]; rfl
            · rw [if_neg (show ¬ (1 : Int32) = 0 by decide), if_pos (show (1 : Int32) ≤ nF 1 by decide), if_neg (show ¬ (1 : Int32) = 0 by decide)]
              show f_X11_wayTo_32 ω (nI F) (nF 1 - 1) = _
              rw [show nF 1 - 1 = nI 0 by decide]
              exact m_way hF (fun q hq => by rw [r1 q hq, nF_i (r3 q hq) (by omega)]; exact r4 q hq)
      · rfl
    · rfl
  · rfl
end SK
