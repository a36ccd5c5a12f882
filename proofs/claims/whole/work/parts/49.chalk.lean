/-! CHALK -/
def tL : Nat := 0x1354768f9f310245968750139264784231097865749018235665298107438967201534f6483752019876543012f785634120
def tLn (o : Nat) : Nat := (tL >>> (4 * o)) % 16
def nL (d : Nat) : Int32 := if d = 15 then -6 else nI d
def hp_T (o : Nat) : Int32 := nL (tLn o)
theorem nL_i {d t : Nat} (hd : d < 16) (ht : t < 15) : (nL d = nI t) ↔ d = t := by
  unfold nL
  by_cases z : d = 15
  · rw [if_pos z]; exact ⟨fun y => absurd y.symm (bz_nI6 (by omega)), fun y => by omega⟩
  · rw [if_neg z]; exact nI_eq (by omega) (by omega)
theorem tLn_lt (o : Nat) : tLn o < 16 := Nat.mod_lt _ (by decide)
def nimB (R : Nat) : Bool := ((R / 100) ^^^ (R / 10 % 10) ^^^ (R % 10)) == 0
theorem nim_all : ∀ R : Fin 1000, (if (((((nI R / 10) % 100) / 10) ^^^ (((nI R / 10) % 100) % 10)) ^^^ (nI R % 10)) = 0 then true else false) = nimB R := by decide +kernel
theorem c_nim (σ : bz_S) {R : Nat} (h : R < 1000) : f_X0_isLost_17 σ (nI R) 0 = nimB R := by
  unfold f_X0_isLost_17
  rw [if_pos rfl]
  exact nim_all ⟨R, h⟩
def lo1 (R : Nat) : Bool := tLn (R / 10) == R % 10
theorem c_lost1 {σ : bz_S} (hk : ∀ o, o < 100 → σ.1 18 o = hp_T o) {R : Nat} (h : R < 1000) : f_X0_isLost_17 σ (nI R) 1 = lo1 R := by
  have e1 : (nI R / 10) % 100 = nI (R / 10) := by
    show (nI R / nI 10) % nI 100 = _
    rw [bz_divN (by omega) (by decide) (by decide), bz_modN (by omega) (by decide) (by decide), Nat.mod_eq_of_lt (by omega)]
  have e2 : nI R % 10 = nI (R % 10) := bz_modN (d := 10) (by omega) (by decide) (by decide)
  unfold f_X0_isLost_17
  rw [if_neg (show ¬ (1 : Int32) = 0 by decide), e1, e2, nI_clamp (by omega), hk _ (by omega)]
  unfold hp_T lo1
  have hi := nL_i (tLn_lt (R / 10)) (show R % 10 < 15 by omega)
  by_cases z : tLn (R / 10) = R % 10
  · rw [if_pos (hi.mpr z), z]; simp
  · rw [if_neg (fun y => z (hi.mp y))]; simp [z]
/-! what the class learns -/
def w2N (th fi : Nat) : Nat → Nat → Bool
  | 0, _ => false
  | n + 1, le => if tLn (10 * fi + le) = th then true else w2N th fi n (le + 1)
def w1N (th fi se : Nat) : Nat → Nat → Bool
  | 0, _ => w2N th fi se 0
  | n + 1, le => if tLn (10 * le + se) = th then true else w1N th fi se n (le + 1)
def wiN (o th : Nat) : Bool := if 10 * o + th = 0 then w1N th (o / 10) (o % 10) (o / 10) 0 else (if nimB (10 * o + th) = true then true else w1N th (o / 10) (o % 10) (o / 10) 0)
def leN (o : Nat) : Nat → Nat → Nat
  | 0, x => x
  | n + 1, x => leN o n (if wiN o n = true then x else n)
theorem le_all : ∀ o : Fin 100, leN o 10 15 = tLn o := by decide +kernel
theorem c_w2 {σ : bz_S} {o th fi se : Nat} (ho : o < 100) (ho2 : o = 10 * fi + se) (hse : se < 10) (ht : th < 10) (hk : ∀ q, q < o → σ.1 18 q = hp_T q) : ∀ (n le : Nat), le + n = se → lp_w2 (nI th) (nI fi) (nI se) n σ (nI le) = w2N th fi n le := by
  intro n
  induction n with
  | zero => intro le h; rw [lp_w2, w2N]
  | succ n ih =>
    intro le h
    rw [lp_w2, w2N, bz_10 rfl rfl, nI_clamp (by omega), hk _ (by omega), nI_1]
    have hi := nL_i (tLn_lt (10 * fi + le)) (show th < 15 by omega)
    by_cases z : tLn (10 * fi + le) = th
    · rw [if_pos (show hp_T _ = _ from hi.mpr z), if_pos z]
    · rw [if_neg (show ¬ hp_T (10 * fi + le) = nI th from fun y => z (hi.mp y)), if_neg z]
      exact ih (le + 1) (by omega)
theorem c_w1 {σ : bz_S} {o th fi se : Nat} (ho : o < 100) (ho2 : o = 10 * fi + se) (hse : se < 10) (ht : th < 10) (hk : ∀ q, q < o → σ.1 18 q = hp_T q) : ∀ (n le : Nat), le + n = fi → lp_w1 (nI th) (nI fi) (nI se) n σ (nI le) = w1N th fi se n le := by
  intro n
  induction n with
  | zero =>
    intro le h
    rw [lp_w1, w1N, nI_clamp (by omega)]
    exact c_w2 ho ho2 hse ht hk se 0 (by omega)
  | succ n ih =>
    intro le h
    rw [lp_w1, w1N, bz_10 rfl rfl, nI_clamp (by omega), hk _ (by omega), nI_1]
    have hi := nL_i (tLn_lt (10 * le + se)) (show th < 15 by omega)
    by_cases z : tLn (10 * le + se) = th
    · rw [if_pos (show hp_T _ = _ from hi.mpr z), if_pos z]
    · rw [if_neg (show ¬ hp_T (10 * le + se) = nI th from fun y => z (hi.mp y)), if_neg z]
      exact ih (le + 1) (by omega)
theorem c_wins {σ : bz_S} {o th : Nat} (ho : o < 100) (ht : th < 10) (hk : ∀ q, q < o → σ.1 18 q = hp_T q) : f_X0_winsAtOnce_17 σ (nI o) (nI th) = wiN o th := by
  have e1 : nI o / 10 = nI (o / 10) := bz_divN (d := 10) (by omega) (by decide) (by decide)
  have e2 : nI o % 10 = nI (o % 10) := bz_modN (d := 10) (by omega) (by decide) (by decide)
  unfold f_X0_winsAtOnce_17 wiN
  rw [bz_10 rfl rfl, e1, e2, nI_clamp (by omega), c_nim σ (show 10 * o + th < 1000 by omega)]
  have w := c_w1 (σ := σ) ho (show o = 10 * (o / 10) + o % 10 by omega) (by omega) ht hk (o / 10) 0 (by omega)
  have w' : lp_w1 (nI th) (nI (o / 10)) (nI (o % 10)) (o / 10) σ 0 = w1N th (o / 10) (o % 10) (o / 10) 0 := w
  rw [w']
  by_cases z : 10 * o + th = 0
  · rw [if_pos z, if_pos (show nI (10 * o + th) = 0 by rw [z]; rfl)]
  · rw [if_neg z, if_neg (nI_ne0 (by omega) (by omega))]
theorem c_learn1 {o : Nat} (ho : o < 100) : ∀ (n : Nat) (σ : bz_S) (x : Nat) (th : Int32), th + 1 = nI n → n ≤ 10 → (∀ q, q < o → σ.1 18 q = hp_T q) → σ.1 18 o = nL x → (lp_learn1 (nI o) n σ th).1 18 o = nL (leN o n x) ∧ ∀ q, q < o → (lp_learn1 (nI o) n σ th).1 18 q = hp_T q := by
  intro n
  induction n with
  | zero => intro σ x th ht hn hk hx; rw [lp_learn1, leN]; exact ⟨hx, hk⟩
  | succ n ih =>
    intro σ x th ht hn hk hx
    have wd : th + -1 + 1 = nI n := bz_dn' ht
    have tn := bz_dn ht
    rw [lp_learn1, leN, nI_clamp (by omega)]
    rw [tn] at wd ⊢
    rw [c_wins ho (by omega) hk]
    by_cases z : wiN o n = true
    · rw [if_pos z, if_pos z]
      exact ih σ x _ wd (by omega) hk hx
    · rw [if_neg z, if_neg z]
      refine ih _ n _ wd (by omega) (fun q hq => ?_) ?_
      · exact (show bz_up σ.1 18 o (nI n) 18 q = σ.1 18 q from bz_up_k (by omega)).trans (hk q hq)
      · rw [bz_up_s1, nL, if_neg (by omega)]
theorem c_learn : ∀ (n : Nat) (σ : bz_S) (o : Nat), o + n = 100 → σ.1 17 1 = 0 → (∀ q, q < o → σ.1 18 q = hp_T q) → hp_R hp_T (lp_learn n σ (nI o)) ∧ (lp_learn n σ (nI o)).1 17 1 = 1 := by
  intro n
  induction n with
  | zero =>
    intro σ o ho h17 hk
    rw [lp_learn]
    exact ⟨Or.inr ⟨bz_up_s1, fun q hq => (show bz_up σ.1 17 1 1 18 q = σ.1 18 q from bz_up_o (by decide)).trans (hk q (by omega))⟩, bz_up_s1⟩
  | succ n ih =>
    intro σ o ho h17 hk
    rw [lp_learn, if_pos h17]
    unfold lp_learn_a
    rw [nI_clamp (by omega), nI_1, bz_k_eq]
    obtain ⟨a1, a2⟩ := c_learn1 (show o < 100 by omega) 10 ((bz_up σ.1 18 o (-6)), σ.2) 15 9 (by decide) (by omega) (fun q hq => (show bz_up σ.1 18 o (-6) 18 q = σ.1 18 q from bz_up_k (by omega)).trans (hk q hq)) bz_up_s1
    have fr := rlp_learn1 (nI o) 10 ((bz_up σ.1 18 o (-6)), σ.2) 9
    refine ih _ (o + 1) (by omega) ?_ (fun q hq => ?_)
    · rw [bz_fr_at fr 17 (by decide)]
      exact (show bz_up σ.1 18 o (-6) 17 1 = σ.1 17 1 from bz_up_o (by decide)).trans h17
    · by_cases e : q = o
      · rw [e, a1, le_all ⟨o, by omega⟩]; rfl
      · exact a2 q (by omega)
theorem c_learn17 {σ : bz_S} (h : hp_R hp_T σ) : hp_R hp_T (f_X0_learn_17 σ) ∧ (f_X0_learn_17 σ).1 17 1 = 1 := by
  unfold f_X0_learn_17
  rw [bz_k_eq]
  rcases h with h | ⟨h1, h2⟩
  · exact c_learn 100 σ 0 (by omega) h (fun q hq => absurd hq (by omega))
  · rw [lp_learn, if_neg (by rw [h1]; decide)]
    exact ⟨Or.inr ⟨bz_up_s1, fun q hq => (show bz_up σ.1 17 1 1 18 q = σ.1 18 q from bz_up_o (by decide)).trans (h2 q hq)⟩, bz_up_s1⟩
/-! the first move -/
def unN (he : Nat) : Nat := if he = 0 then 100 else (if he = 1 then 10 else 1)
def lsN (R mf : Nat) : Bool := if mf = 0 then nimB R else lo1 R
def wmN (R mf : Nat) : Nat → Nat → Nat → Nat
  | 0, _, _ => 0
  | n + 1, he, ta => if R / unN he % 10 < ta then (if 3 ≤ he + 1 then (if mf = 0 then 1000 else (if R = 0 then 1000 else (if nimB R = true then 99 else 1000))) else wmN R mf n (he + 1) 1) else (if lsN (R - ta * unN he) mf = true then 10 * he + ta else wmN R mf n he (ta + 1))
def nR (x : Nat) : Int32 := if x = 1000 then -6 else nI x
theorem nR_n {x : Nat} (h : x < 2000) : (nR x < 0) ↔ x = 1000 := by
  unfold nR
  by_cases z : x = 1000
  · rw [if_pos z]; exact ⟨fun _ => z, fun _ => by decide⟩
  · rw [if_neg z]; exact ⟨fun w => absurd w (nI_pos (by omega)), fun w => absurd w z⟩
theorem nR_6 {x : Nat} (h : x < 2000) : (nR x = -6) ↔ x = 1000 := by
  unfold nR
  by_cases z : x = 1000
  · rw [if_pos z]; exact ⟨fun _ => z, fun _ => rfl⟩
  · rw [if_neg z]; exact ⟨fun w => absurd w (bz_nI6 (by omega)), fun w => absurd w z⟩
theorem c_ls {σ : bz_S} (hk : ∀ o, o < 100 → σ.1 18 o = hp_T o) {R mf : Nat} (h : R < 1000) (hm : mf ≤ 1) : f_X0_isLost_17 σ (nI R) (nI mf) = lsN R mf := by
  unfold lsN
  rcases (show mf = 0 ∨ mf = 1 by omega) with rfl | rfl
  · rw [if_pos rfl]; exact c_nim σ h
  · rw [if_neg (by decide)]; exact c_lost1 hk h
theorem c_wm {σ : bz_S} (hk : ∀ o, o < 100 → σ.1 18 o = hp_T o) {R mf : Nat} (hR : R < 1000) (hm : mf ≤ 1) : ∀ (n he ta : Nat), he ≤ 2 → ta ≤ 10 → 1 ≤ ta → lp_wm (nI R) (nI mf) n σ (nI he) (nI (unN he)) (nI (R / unN he % 10)) (nI ta) = nR (wmN R mf n he ta) := by
  intro n
  induction n with
  | zero => intro he ta h1 h2 h3; rw [lp_wm, wmN]; rfl
  | succ n ih =>
    intro he ta h1 h2 h3
    have m10 : R / unN he % 10 < 10 := Nat.mod_lt _ (by decide)
    have dg : ∀ u : Nat, 0 < u → u < 1000 → (nI R / nI u) % 10 = nI (R / u % 10) := by
      intro u h0 hu
      show (nI R / nI u) % nI 10 = _
      rw [bz_divN (by omega) h0 (by omega), bz_modN (Nat.lt_of_le_of_lt (Nat.div_le_self _ _) (by omega)) (by decide) (by decide)]
    rw [lp_wm, wmN]
    by_cases c : R / unN he % 10 < ta
    · rw [if_pos c, if_pos ((nI_ltI (by omega) (by omega)).mpr c), nI_1]
      by_cases e : 3 ≤ he + 1
      · rw [if_pos e, if_pos (show (3 : Int32) ≤ nI (he + 1) from nI_le (a := 3) e (by omega))]
        by_cases m : mf = 0
        · rw [if_pos m, if_pos (show nI mf = 0 by rw [m]; rfl)]; rfl
        · rw [if_neg m, if_neg (nI_ne0 (by omega) (by omega))]
          by_cases z : R = 0
          · rw [if_pos z, if_pos (show nI R = 0 by rw [z]; rfl)]; rfl
          · rw [if_neg z, if_neg (nI_ne0 (by omega) (by omega)), c_nim σ hR]
            split <;> rfl
      · rw [if_neg e, if_neg (show ¬ (3 : Int32) ≤ nI (he + 1) from nI_ge (b := 3) (by omega) (by decide)), if_neg (nI_ne0 (by omega) (by omega))]
        rcases (show he = 0 ∨ he = 1 by omega) with rfl | rfl
        · rw [if_pos (show nI (0 + 1) = 1 from rfl)]
          have := ih 1 1 (by omega) (by omega) (by omega)
          have d := dg 10 (by decide) (by decide)
          have d' : (nI R / 10) % 10 = nI (R / 10 % 10) := d
          rw [d']
          exact this
        · rw [if_neg (show ¬ nI (1 + 1) = 1 by decide)]
          have := ih 2 1 (by omega) (by omega) (by omega)
          have d := dg 1 (by decide) (by decide)
          have d' : (nI R / 1) % 10 = nI (R / 1 % 10) := d
          rw [d']
          exact this
    · rw [if_neg c, if_neg (fun y => c ((nI_ltI (by omega) (by omega)).mp y)), bz_mulN]
      have le : ta * unN he ≤ R := Nat.le_trans (Nat.mul_le_mul_right _ (Nat.not_lt.mp c)) (bz_cu R (unN he))
      rw [bz_subN le, c_ls hk (show R - ta * unN he < 1000 by omega) hm]
      split
      · rw [bz_10 rfl rfl, nR, if_neg (by omega)]
      · rw [nI_1]
        exact ih he (ta + 1) h1 (by omega) (by omega)
theorem c_move {σ : bz_S} (h : hp_R hp_T σ) {R mf : Nat} (hR : R < 1000) (hm : mf ≤ 1) : (f_X0_winningMove_17 σ (nI R) (nI mf)).1 = nR (wmN R mf 30 0 1) ∧ (f_X0_winningMove_17 σ (nI R) (nI mf)).2 = f_X0_learn_17 σ := by
  unfold f_X0_winningMove_17 f_X0_winningMove_17_a
  obtain ⟨l1, l2⟩ := c_learn17 h
  have hk : ∀ o, o < 100 → (f_X0_learn_17 σ).1 18 o = hp_T o := by
    rcases l1 with z | z
    · rw [l2] at z; exact absurd z (by decide)
    · exact z.2
  have d : (nI R / 100) % 10 = nI (R / 100 % 10) := by
    show (nI R / nI 100) % nI 10 = _
    rw [bz_divN (by omega) (by decide) (by decide), bz_modN (by omega) (by decide) (by decide)]
  rw [bz_k_eq, d]
  exact ⟨c_wm hk hR hm 30 0 1 (by omega) (by omega) (by omega), rfl⟩
/-! the model -/
def tW : Nat := 0xffff6fff7bff7ffffdfff7ffffdfffdfffffffff6ffffbfffffff7bffff6ffffdfffdfffdffff7ff7fffffdfff9ffffe7fffff7ffffffdffff6fff7b7ffeffff9ffdeffff9fff6fffdbfffffdfffffdffff7bffff6fffbd7ffeff7bffdfefff9ffffe7fff7fffffdff7ffeffffbdffff6dfffbfefdffbf7fff6fffdbfffdfffff7fffff9f7ffefdfffbffff6fbffdf6fffff9ffffe7fdffff7fffffdefff7bfffefdffbffdffff6ff7fbfff6fffdbfffffffdfffff9ffdfefffbf7ff6fffff7fbfffdefffbdfffe76ffff9fffff6ffff9fffff6ffff9fffff6ffffbdffff6fffdbbffffe7fffdbffffe7fffdbffffe7fffdbffffe7fffdbffffc
def bW (i : Nat) : Nat := (tW >>> i) % 2
theorem bW_lt (i : Nat) : bW i < 2 := Nat.mod_lt _ (by decide)
def lk1 (R mi he : Nat) : Nat → Nat → Nat
  | 0, x => x
  | n + 1, x => lk1 R mi he n (if bW (2 * (R - (n + 1) * unN he) + mi) = 0 then 10 * he + (n + 1) else x)
def lkN (R mi : Nat) : Nat → Nat → Nat
  | 0, x => x
  | n + 1, x => lkN R mi n (lk1 R mi n (R / unN n % 10) x)
def ltk (R mi : Nat) : Nat := lkN R mi 3 (if mi = 1 then (if R = 0 then 1000 else (if bW (2 * R) = 0 then 99 else 1000)) else 1000)
theorem ltk_all : ∀ R : Fin 1000, bW (2 * R) = (if ltk R 0 = 1000 then 0 else 1) ∧ bW (2 * R + 1) = (if ltk R 1 = 1000 then 0 else 1) := by decide +kernel
theorem wm_ltk : ∀ R : Fin 1000, wmN R 0 30 0 1 = ltk R 0 ∧ wmN R 1 30 0 1 = ltk R 1 := by decide +kernel
theorem ltk_lt : ∀ R : Fin 1000, ltk R 0 ≤ 1000 ∧ ltk R 1 ≤ 1000 := by decide +kernel
theorem m_ten : ∀ he : Fin 3, f_X11_tenTo (nI he) = nI (unN he) := by decide +kernel
theorem m_dig {R he : Nat} (hR : R < 1000) (hh : he < 3) : f_X11_digit (nI R) (nI he) = nI (R / unN he % 10) := by
  obtain ⟨D, U, d1, d2, d3, d4⟩ := bz_dg (R := R) (H := he) rfl hR rfl hh
  rcases (show he = 0 ∨ he = 1 ∨ he = 2 by omega) with rfl | rfl | rfl
  · unfold f_X11_digit
    rw [if_pos (show nI 0 = 0 from rfl)]
    have : nI R / 100 = nI (R / 100) := bz_divN (d := 100) (by omega) (by decide) (by decide)
    rw [this]
    show nI (R / 100) = nI (R / 100 % 10)
    congr 1; omega
  · unfold f_X11_digit
    rw [if_neg (by decide), if_pos (show nI 1 = 1 from rfl)]
    show (nI R / nI 10) % nI 10 = _
    rw [bz_divN (by omega) (by decide) (by decide), bz_modN (by omega) (by decide) (by decide)]
    rfl
  · unfold f_X11_digit
    rw [if_neg (by decide), if_neg (by decide)]
    have : nI R % 10 = nI (R % 10) := bz_modN (d := 10) (by omega) (by decide) (by decide)
    rw [this]
    show nI (R % 10) = nI (R / 1 % 10)
    rw [Nat.div_one]
theorem unN_pos (he : Nat) : 0 < unN he := by unfold unN; split; decide; split <;> decide
theorem m_lk1 {R mi he m : Nat} (hR : R < 1000) (hm : mi ≤ 1) (hh : he < 3) {τ : bz_S} (hW : ∀ i, i < m → τ.1 48 i = nI (bW i)) (h2 : 2 * R ≤ m) : ∀ (n x : Nat), n ≤ 9 → n * unN he ≤ R → (lp_lk1 (nI R) (nI mi) (nI he) n τ (nR x) (nI n)).2 = nR (lk1 R mi he n x) := by
  intro n
  induction n with
  | zero => intro x hn hu; rw [lp_lk1, lk1]
  | succ n ih =>
    intro x hn hu
    have up := unN_pos he
    have p1 : 1 ≤ (n + 1) * unN he := Nat.mul_pos (by omega) up
    have idx : (2 * (nI R - (nI (n + 1) * (f_X11_tenTo (nI he))))) + nI mi = nI (2 * (R - (n + 1) * unN he) + mi) := by
      have t : f_X11_tenTo (nI he) = nI (unN he) := m_ten ⟨he, hh⟩
      rw [t, bz_mulN, bz_subN hu]
      show nI 2 * nI _ + _ = _
      rw [bz_mulN, nI_add]
    rw [lp_lk1, lk1, idx, nI_clamp (by omega), hW _ (by omega), bz_pm]
    have bl := bW_lt (2 * (R - (n + 1) * unN he) + mi)
    have hu' := bz_mul_le hu
    by_cases z : bW (2 * (R - (n + 1) * unN he) + mi) = 0
    · rw [if_pos z, if_pos (show nI (bW _) = 0 by rw [z]; rfl), bz_10 rfl rfl]
      have := ih (10 * he + (n + 1)) (by omega) hu'
      rw [nR, if_neg (by omega)] at this
      exact this
    · rw [if_neg z, if_neg (nI_ne0 (by omega) (by omega))]
      exact ih x (by omega) hu'
theorem m_lk {R mi m : Nat} (hR : R < 1000) (hm : mi ≤ 1) {τ : bz_S} (hW : ∀ i, i < m → τ.1 48 i = nI (bW i)) (h2 : 2 * R ≤ m) : ∀ (n x : Nat) (he : Int32), n ≤ 3 → he + 1 = nI n → (lp_lk (nI R) (nI mi) n τ (nR x) he).1 = nR (lkN R mi n x) := by
  intro n
  induction n with
  | zero => intro x he hn hh; rw [lp_lk, lkN]
  | succ n ih =>
    intro x he hn hh
    have wd : he + -1 + 1 = nI n := bz_dn' hh
    have tn := bz_dn hh
    rw [lp_lk, lkN]
    unfold lp_lk_a
    rw [tn] at wd ⊢
    have m10 : R / unN n % 10 < 10 := Nat.mod_lt _ (by decide)
    rw [m_dig hR (by omega), nI_clamp (by omega), lp_lk1_s, m_lk1 hR hm (by omega) hW h2 _ x (by omega) (bz_cu R (unN n))]
    exact ih _ _ (by omega) wd
theorem m_take {R mi m : Nat} (hR : R < 1000) (hm : mi ≤ 1) {τ : bz_S} (hW : ∀ i, i < m → τ.1 48 i = nI (bW i)) (h2 : 2 * R + mi ≤ m) : (f_X11_leastTake_32 τ (nI R) (nI mi)).1 = nR (ltk R mi) := by
  have go := fun x => m_lk hR hm hW (by omega) 3 x 2 (by omega) (by decide)
  have g6 : (lp_lk (nI R) (nI mi) 3 τ (-6) 2).1 = nR (lkN R mi 3 1000) := go 1000
  have g9 : (lp_lk (nI R) (nI mi) 3 τ 99 2).1 = nR (lkN R mi 3 99) := go 99
  unfold f_X11_leastTake_32 ltk
  rw [bz_k_eq]
  rcases (show mi = 0 ∨ mi = 1 by omega) with rfl | rfl
  · rw [if_neg (show ¬ nI 0 = 1 by decide), if_neg (by decide)]
    exact g6
  · rw [if_pos (show nI 1 = 1 from rfl), if_pos rfl]
    by_cases z : R = 0
    · rw [if_pos z, if_pos (show nI R ≤ 0 by rw [z]; decide)]
      exact g6
    · have e : (2 * nI R) = nI (2 * R) := bz_mulN 2 R
      have bl := bW_lt (2 * R)
      rw [if_neg z, if_neg (nI_nle (by omega) (by omega)), e, nI_clamp (by omega), hW _ (by omega)]
      by_cases y : bW (2 * R) = 0
      · rw [if_pos y, if_pos (show nI (bW _) = 0 by rw [y]; rfl)]
        exact g9
      · rw [if_neg y, if_neg (nI_ne0 (by omega) (by omega))]
        exact g6
theorem m_chk {row : Int32} : ∀ (n : Nat) (τ : bz_S) (e : Nat), e + n ≤ 1000 → (∀ i, i < 2 * e → τ.1 48 i = nI (bW i)) → ∀ i, i < 2 * (e + n) → (lp_chk row n τ (nI e)).1 48 i = nI (bW i) := by
  intro n
  induction n with
  | zero => intro τ e he h i hi; rw [lp_chk]; exact h i (by omega)
  | succ n ih =>
    intro τ e he h i hi
    obtain ⟨t1, t2⟩ := ltk_all ⟨e, by omega⟩
    obtain ⟨l1, l2⟩ := ltk_lt ⟨e, by omega⟩
    simp only at t1 t2 l1 l2
    have a := m_take (R := e) (mi := 0) (by omega) (by omega) h (by omega)
    have s := m_take_s τ (nI e) (nI 0)
    have e2 : 2 * nI e = nI (2 * e) := bz_mulN 2 e
    rw [lp_chk]
    unfold lp_chk_a lp_chk_b lp_chk_c
    rw [show (0 : Int32) = nI 0 from rfl, a, s, e2, nI_clamp (by omega), nI_1, nI_1, nI_clamp (by omega)]
    -- behind the first of the two
    have key : ∀ v : Int32, v = nI (bW (2 * e)) → (if (f_X11_leastTake_32 (bz_up τ.1 48 (2 * e) v, τ.2) (nI e) 1).1 < nI 0 then lp_chk row n (bz_up (f_X11_leastTake_32 (bz_up τ.1 48 (2 * e) v, τ.2) (nI e) 1).2.1 48 (2 * e + 1) (nI 0), (f_X11_leastTake_32 (bz_up τ.1 48 (2 * e) v, τ.2) (nI e) 1).2.2) (nI (e + 1)) else lp_chk row n (bz_up (f_X11_leastTake_32 (bz_up τ.1 48 (2 * e) v, τ.2) (nI e) 1).2.1 48 (2 * e + 1) 1, (f_X11_leastTake_32 (bz_up τ.1 48 (2 * e) v, τ.2) (nI e) 1).2.2) (nI (e + 1))).1 48 i = nI (bW i) := by
      intro v hv
      have h' : ∀ i, i < 2 * e + 1 → ((bz_up τ.1 48 (2 * e) v, τ.2) : bz_S).1 48 i = nI (bW i) := by
        intro i hi
        by_cases z : i = 2 * e
        · rw [z, bz_up_s1, hv]
        · exact (show bz_up τ.1 48 (2 * e) v 48 i = τ.1 48 i from bz_up_k z).trans (h i (by omega))
      have b := m_take (R := e) (mi := 1) (by omega) (by omega) h' (by omega)
      have b' : (f_X11_leastTake_32 (bz_up τ.1 48 (2 * e) v, τ.2) (nI e) 1).1 = nR (ltk e 1) := b
      rw [m_take_s, b']
      have fin : ∀ w : Int32, w = nI (bW (2 * e + 1)) → (lp_chk row n (bz_up (bz_up τ.1 48 (2 * e) v) 48 (2 * e + 1) w, τ.2) (nI (e + 1))).1 48 i = nI (bW i) := by
        intro w hw
        refine ih _ (e + 1) (by omega) (fun i hi => ?_) i (by omega)
        by_cases z : i = 2 * e + 1
        · rw [z, bz_up_s1, hw]
        · exact (show bz_up (bz_up τ.1 48 (2 * e) v) 48 (2 * e + 1) w 48 i = bz_up τ.1 48 (2 * e) v 48 i from bz_up_k z).trans (h' i (by omega))
      by_cases z : ltk e 1 = 1000
      · rw [if_pos (show nR (ltk e 1) < nI 0 from (nR_n (by omega)).mpr z)]
        exact fin _ (by rw [t2, if_pos z])
      · rw [if_neg (show ¬ nR (ltk e 1) < nI 0 from fun y => z ((nR_n (by omega)).mp y))]
        exact fin _ (by rw [t2, if_neg z]; rfl)
    by_cases z : ltk e 0 = 1000
    · rw [if_pos (show nR (ltk e 0) < nI 0 from (nR_n (by omega)).mpr z)]
      exact key _ (by rw [t1, if_pos z])
    · rw [if_neg (show ¬ nR (ltk e 0) < nI 0 from fun y => z ((nR_n (by omega)).mp y))]
      exact key _ (by rw [t1, if_neg z]; rfl)
section CH
variable {σ τ : bz_S}
theorem iv_hp {σ' τ' : bz_S} (h : iv_R hp_T σ τ) (f : bz_fr [17, 18] σ σ') (g : bz_fr [48] τ τ') (hp : hp_R hp_T σ') : iv_R hp_T σ' τ' := by
  obtain ⟨q1, q2, q3, q4, q5, q6⟩ := h
  have o := fun o (ho : o ∉ [17, 18]) => bz_fr_at f o ho
  have p := fun o (ho : o ∉ [48]) => bz_fr_at g o ho
  have m32 := p 32 (by decide)
  refine ⟨tr_R_c q1 (fun b _ => congrFun (o 2 (by decide)) b) (fun k _ => congrFun (o 1 (by decide)) k) (fun b _ => congrFun (p 33 (by decide)) b) (fun k _ _ => congrFun m32 k), pd_R_c q2 (o 6 (by decide)) (o 7 (by decide)) (congrFun m32 8) (p 36 (by decide)), sg_R_c q3 (o 3 (by decide)) (o 4 (by decide)) (o 5 (by decide)) (congrFun m32 6) (p 34 (by decide)) (p 35 (by decide)), hp, im_R_c q5 (fun q hq => o _ ?_) (p 50 (by decide)) (p 51 (by decide)), im_R_c q6 (fun q hq => o _ ?_) (p 50 (by decide)) (p 51 (by decide))⟩
  · simp only [List.mem_cons, List.not_mem_nil, or_false]; omega
  · simp only [List.mem_cons, List.not_mem_nil, or_false]; omega
theorem e_chalk (h : iv_R hp_T σ τ) (row miss what : Int32) : (f_X11_chalk_32 τ row miss what).1 = (f_X10_chalk_0 σ row miss what).1 ∧ iv_R hp_T (f_X10_chalk_0 σ row miss what).2 (f_X11_chalk_32 τ row miss what).2 := by
  have fm := rf_X11_chalk_32 τ row miss what
  have fc := rf_X10_chalk_0 σ row miss what
  revert fm fc
  unfold f_X11_chalk_32 f_X10_chalk_0
  rw [m_w row 0 999 (by decide) (by decide), m_w miss 0 1 (by decide) (by decide), m_w what 0 1 (by decide) (by decide)]
  by_cases hr : f_X10_isWithin row 0 999 = true
  · by_cases hmi : f_X10_isWithin miss 0 1 = true
    · by_cases hw : f_X10_isWithin what 0 1 = true
      · rw [if_pos hr, if_pos hmi, if_pos hw, if_pos hr, if_pos hmi, if_pos hw]
        obtain ⟨R, hR, rfl⟩ := bz_r999 hr
        have hp := h.2.2.2.1
        obtain ⟨mi, hm, em⟩ : ∃ mi, mi ≤ 1 ∧ miss = nI mi := by
          rcases bz_w01 hmi with z | z
          · exact ⟨0, by omega, z⟩
          · exact ⟨1, by omega, z⟩
        subst em
        obtain ⟨c1, c2⟩ := c_move hp hR hm
        have wm : wmN R mi 30 0 1 = ltk R mi ∧ ltk R mi ≤ 1000 := by
          have a := wm_ltk ⟨R, hR⟩
          have b := ltk_lt ⟨R, hR⟩
          rcases (show mi = 0 ∨ mi = 1 by omega) with rfl | rfl
          · exact ⟨a.1, b.1⟩
          · exact ⟨a.2, b.2⟩
        rw [wm.1] at c1
        have cl : (if nI mi = 1 then f_X10_chalk_0_b σ (nI R) (nI mi) what (f_X0_winningMove_17 σ (nI R) 1) else f_X10_chalk_0_a σ (nI R) (nI mi) what (f_X0_winningMove_17 σ (nI R) 0)) = f_X10_chalk_0_a σ (nI R) (nI mi) what (f_X0_winningMove_17 σ (nI R) (nI mi)) := by
          rcases (show mi = 0 ∨ mi = 1 by omega) with rfl | rfl
          · rw [if_neg (show ¬ nI 0 = 1 by decide)]; rfl
          · rw [if_pos (show nI 1 = 1 from rfl)]; rfl
        rw [cl]
        unfold f_X10_chalk_0_a f_X11_chalk_32_a f_X11_chalk_32_b
        have lw := m_chk (row := nI R) (R + 1) τ 0 (by omega) (fun i hi => absurd hi (by omega))
        have mt := m_take hR hm (τ := lp_chk (nI R) ((nI R).toNatClampNeg + 1) τ 0) (m := 2 * (0 + (R + 1))) (fun i hi => by rw [nI_clamp (by omega)]; exact lw i hi) (by omega)
        have ms := m_take_s (lp_chk (nI R) ((nI R).toNatClampNeg + 1) τ 0) (nI R) (nI mi)
        generalize f_X11_leastTake_32 (lp_chk (nI R) ((nI R).toNatClampNeg + 1) τ 0) (nI R) (nI mi) = μ at *
        generalize f_X0_winningMove_17 σ (nI R) (nI mi) = ρ at *
        have hp2 : hp_R hp_T ρ.2 := by rw [c2]; exact (c_learn17 hp).1
        rw [mt, c1]
        intro fm fc
        rcases bz_w01 hw with rfl | rfl
        · rw [if_neg (show ¬ (0 : Int32) = 1 by decide), if_pos rfl] at *
          by_cases z : ltk R mi = 1000
          · rw [if_neg (fun y => absurd ((nR_n (by omega)).mpr z) (Int32.not_lt.mpr y)), if_pos ((nR_6 (by omega)).mpr z)] at *
            exact ⟨rfl, iv_hp h fc fm hp2⟩
          · rw [if_pos (Int32.not_lt.mp fun y => z ((nR_n (by omega)).mp y)), if_neg (fun y => z ((nR_6 (by omega)).mp y))] at *
            exact ⟨rfl, iv_hp h fc fm hp2⟩
        · rw [if_pos rfl, if_neg (show ¬ (1 : Int32) = 0 by decide)] at *
          exact ⟨rfl, iv_hp h fc fm hp2⟩
      · rw [if_pos hr, if_pos hmi, if_neg hw, if_pos hr, if_pos hmi, if_neg hw]
        intro _ _
        exact ⟨rfl, h⟩
    · rw [if_pos hr, if_neg hmi, if_pos hr, if_neg hmi]
      intro _ _
      exact ⟨rfl, h⟩
  · rw [if_neg hr, if_neg hr]
    intro _ _
    exact ⟨rfl, h⟩
end CH
