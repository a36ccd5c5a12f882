/-! A BALL THAT IS ALONE -/
/-- its steps, as numbers: 8 times the cell, and the way -/
def tS : Nat := 1187366078681401708138406966458623634045420599367039803312445873012444100751330831938099831082957687685907458182182954809049007939681278905203202978237511665756125047331259328646740044292884609088191593268471174917763611307599568792741848296375774572910300215098260209634936340053305492571028977395877194870115100859993726010576670150407740143982000264121770376848594920858818967058477157349550341751369780266212424655740610419623588846977401715252869581739703310828351692355426099114100522268583971410883853878445282533741568436239120144762955907194720234833401482417948377886819965650738942501487249521438015618238295657348132228373881929155814542715207626067123280331701050228551296529640425222434873540642586884547991398535080743534901242630117648660082074508251383586672859845387323988753747174306250390817296019476070947474476232890062444164935666074137000698205801549418923627870040544473220499424081274615564595127995010061178176765997626844735738111374161404360173132
def sN (s : Nat) : Nat := (tS >>> (9 * s)) % 512
theorem sN_all : ∀ a : Fin 45, ∀ b : Fin 8, sN (8 * a + b) = 8 * nN a (nT a b) + nT a b := by decide +kernel
theorem sN_lt : ∀ s : Fin 360, sN s < 360 := by decide +kernel
theorem sN_ok {s : Nat} (h : s < 360) : f_X10_turned (nI (s / 8)) (nI (s % 8)) = nI (sN s % 8) ∧ f_X10_next (nI (s / 8)) (nI (sN s % 8)) = nI (sN s / 8) ∧ sN s < 360 ∧ f_X11_next (nI (10 * (s / 8) + s % 8)) = nI (10 * (sN s / 8) + sN s % 8) := by
  have ha : s / 8 < 45 := by omega
  have hb : s % 8 < 8 := Nat.mod_lt _ (by decide)
  have e : sN s = 8 * nN (s / 8) (nT (s / 8) (s % 8)) + nT (s / 8) (s % 8) := by
    have := sN_all ⟨s / 8, ha⟩ ⟨s % 8, hb⟩
    simp only at this
    rw [show 8 * (s / 8) + s % 8 = s by omega] at this
    exact this
  obtain ⟨e1, e2, e3, e4⟩ := nT_ok ha hb
  have e5 := nX_ok ha hb
  have m8 : sN s % 8 = nT (s / 8) (s % 8) := by omega
  have d8 : sN s / 8 = nN (s / 8) (nT (s / 8) (s % 8)) := by omega
  rw [m8, d8]
  exact ⟨e1, e3, sN_lt ⟨s, h⟩, e5⟩
/-- n steps -/
def itN : Nat → Nat → Nat
  | 0, s => s
  | n + 1, s => itN n (sN s)
theorem itN_lt : ∀ (n s : Nat), s < 360 → itN n s < 360 := by
  intro n
  induction n with
  | zero => intro s h; exact h
  | succ n ih => intro s h; rw [itN]; exact ih _ (sN_lt ⟨s, h⟩)
theorem itN_add : ∀ (m n s : Nat), itN (m + n) s = itN n (itN m s) := by
  intro m
  induction m with
  | zero => intro n s; rw [Nat.zero_add]; rfl
  | succ m ih => intro n s; rw [show m + 1 + n = m + n + 1 by omega, itN, itN, ih]
theorem itN_17 : ∀ s : Fin 360, itN 17 s = itN 1 s ∧ itN 16 s / 8 = s / 8 := by decide +kernel
theorem itN_p {s : Nat} (h : s < 360) (n : Nat) : itN (n + 16) s / 8 = itN n s / 8 := by
  cases n with
  | zero => rw [Nat.zero_add]; exact (itN_17 ⟨s, h⟩).2
  | succ n =>
    have e := (itN_17 ⟨s, h⟩).1
    rw [show n + 1 + 16 = 17 + n by omega, itN_add 17 n s, e, Nat.add_comm n 1, itN_add 1 n s]
theorem itN_m {s : Nat} (h : s < 360) (q r : Nat) : itN (r + 16 * q) s / 8 = itN r s / 8 := by
  induction q with
  | zero => rfl
  | succ q ih => rw [show r + 16 * (q + 1) = r + 16 * q + 16 by omega, itN_p h, ih]
theorem itN_16 {s : Nat} (h : s < 360) (n : Nat) : itN n s / 8 = itN (n % 16) s / 8 := by
  have := itN_m h (n / 16) (n % 16)
  rw [Nat.mod_add_div] at this
  exact this
theorem bz_orL (a b : Nat) : lN a ||| lN b = lN (a ||| b) := by
  apply Int64.toBitVec_inj.1
  show BitVec.ofNat 64 a ||| BitVec.ofNat 64 b = BitVec.ofNat 64 (a ||| b)
  apply BitVec.eq_of_getLsbD_eq
  intro i hi
  simp [hi]
theorem bz_andL (a b : Nat) : lN a &&& lN b = lN (a &&& b) := by
  apply Int64.toBitVec_inj.1
  show BitVec.ofNat 64 a &&& BitVec.ofNat 64 b = BitVec.ofNat 64 (a &&& b)
  apply BitVec.eq_of_getLsbD_eq
  intro i hi
  simp [hi]
theorem c_bit_all : ∀ c : Fin 45, f_X10_bit (nI c) = lN (2 ^ c.val) := by decide +kernel
theorem c_bit {c : Nat} (h : c < 45) : f_X10_bit (nI c) = lN (2 ^ c) := c_bit_all ⟨c, h⟩
/-- the walk's back and its set -/
def wB (s0 : Nat) : Nat → Nat → Nat → Nat → Nat
  | 0, _, _, x => x
  | n + 1, j, c, x => wB s0 n (j + 1) (sN c) (if x = 0 then (if sN c = s0 then j + 1 else 0) else x)
def wO : Nat → Nat → Nat → Nat
  | 0, _, o => o
  | n + 1, c, o => wO n (sN c) (o ||| 2 ^ (c / 8))
def nB (x : Nat) : Int32 := if x = 0 then -6 else nI x
theorem nB_6 {x : Nat} (h : x < 100) : (nB x = -6) ↔ x = 0 := by
  unfold nB
  by_cases z : x = 0
  · rw [if_pos z]; exact ⟨fun _ => z, fun _ => rfl⟩
  · rw [if_neg z]; exact ⟨fun w => absurd w (bz_nI6 (by omega)), fun w => absurd w z⟩
theorem c_walk {A B : Nat} (hA : A < 45) (hB : B < 8) : ∀ (n : Nat) (σ : bz_S) (s j x o : Nat), j + n = 16 → s < 360 → x ≤ j → σ.1 12 1 = nB x → σ.2 12 2 = lN o → (lp_walk (nI A) (nI B) n σ (nI (s / 8)) (nI (s % 8)) (nI j)).1 12 1 = nB (wB (8 * A + B) n j s x) ∧ (lp_walk (nI A) (nI B) n σ (nI (s / 8)) (nI (s % 8)) (nI j)).2 12 2 = lN (wO n s o) ∧ ∀ q, q < 16 → (lp_walk (nI A) (nI B) n σ (nI (s / 8)) (nI (s % 8)) (nI j)).1 13 q = if q < j then σ.1 13 q else nI (itN (q - j) s / 8) := by
  intro n
  induction n with
  | zero =>
    intro σ s j x o hj hs hx h1 h2
    rw [lp_walk]
    exact ⟨h1, h2, fun q hq => by rw [if_pos (by omega)]⟩
  | succ n ih =>
    intro σ s j x o hj hs hx h1 h2
    obtain ⟨e1, e2, e3, e4⟩ := sN_ok hs
    have cj : (nI j).toNatClampNeg = j := nI_clamp (by omega)
    rw [lp_walk, wB, wO, e1, e2, cj, h1, h2, c_bit (show s / 8 < 45 by omega), bz_orL, nI_1]
    -- what comes of either store
    have key : ∀ (τ : bz_S) (x' : Nat), x' ≤ j + 1 → τ.1 12 1 = nB x' → τ.2 12 2 = lN (o ||| 2 ^ (s / 8)) → (∀ q, τ.1 13 q = bz_up σ.1 13 j (nI (s / 8)) 13 q) → (lp_walk (nI A) (nI B) n τ (nI (sN s / 8)) (nI (sN s % 8)) (nI (j + 1))).1 12 1 = nB (wB (8 * A + B) n (j + 1) (sN s) x') ∧ (lp_walk (nI A) (nI B) n τ (nI (sN s / 8)) (nI (sN s % 8)) (nI (j + 1))).2 12 2 = lN (wO n (sN s) (o ||| 2 ^ (s / 8))) ∧ ∀ q, q < 16 → (lp_walk (nI A) (nI B) n τ (nI (sN s / 8)) (nI (sN s % 8)) (nI (j + 1))).1 13 q = if q < j then σ.1 13 q else nI (itN (q - j) s / 8) := by
      intro τ x' hx' t1 t2 t3
      obtain ⟨r1, r2, r3⟩ := ih τ (sN s) (j + 1) x' _ (by omega) e3 hx' t1 t2
      refine ⟨r1, r2, fun q hq => ?_⟩
      rw [r3 q hq]
      by_cases z : q < j
      · rw [if_pos (by omega), if_pos z, t3, bz_up_k (by omega)]
      · by_cases y : q = j
        · rw [if_pos (by omega), if_neg z, t3, y, bz_up_s, Nat.sub_self]; rfl
        · rw [if_neg (by omega), if_neg z, show q - j = q - (j + 1) + 1 by omega, itN]
    have u1 : ∀ v : Int32, ((bz_up (bz_up σ.1 13 j (nI (s / 8))) 12 1 v, bz_up σ.2 12 2 (lN (o ||| 2 ^ (s / 8)))) : bz_S).1 12 1 = v := fun v => bz_up_s1
    have u2 : ∀ v : Int32, ∀ q, ((bz_up (bz_up σ.1 13 j (nI (s / 8))) 12 1 v, bz_up σ.2 12 2 (lN (o ||| 2 ^ (s / 8)))) : bz_S).1 13 q = bz_up σ.1 13 j (nI (s / 8)) 13 q := fun v q => bz_up_o (f := bz_up σ.1 13 j (nI (s / 8))) (o := 12) (k := 1) (x := v) (o' := 13) (k' := q) (by decide)
    have u3 : ((bz_up σ.1 13 j (nI (s / 8)), bz_up σ.2 12 2 (lN (o ||| 2 ^ (s / 8)))) : bz_S).1 12 1 = nB x := by
      rw [← h1]; exact bz_up_o (f := σ.1) (o := 13) (k := j) (x := nI (s / 8)) (o' := 12) (k' := 1) (by decide)
    have u4 : ∀ f : Nat → Nat → Int32, ((f, bz_up σ.2 12 2 (lN (o ||| 2 ^ (s / 8)))) : bz_S).2 12 2 = lN (o ||| 2 ^ (s / 8)) := fun f => bz_up_s (f := σ.2) (o := 12) (k := 2) (x := lN (o ||| 2 ^ (s / 8)))
    by_cases hb : x = 0
    · rw [if_pos ((nB_6 (by omega)).mpr hb), if_pos hb]
      by_cases c1 : sN s / 8 = A
      · rw [if_pos (show nI (sN s / 8) = nI A by rw [c1])]
        by_cases c2 : sN s % 8 = B
        · rw [if_pos (show nI (sN s % 8) = nI B by rw [c2]), if_pos (show sN s = 8 * A + B by omega)]
          refine key _ (j + 1) (Nat.le_refl _) ?_ (u4 _) (u2 _)
          rw [u1]; unfold nB; rw [if_neg (by omega)]
        · rw [if_neg (fun z => c2 ((nI_eq (by omega) (by omega)).mp z)), if_neg (show ¬ sN s = 8 * A + B by omega)]
          exact key _ 0 (by omega) (by rw [u3, hb]) (u4 _) (fun q => rfl)
      · rw [if_neg (fun z => c1 ((nI_eq (by omega) (by omega)).mp z)), if_neg (show ¬ sN s = 8 * A + B by omega)]
        exact key _ 0 (by omega) (by rw [u3, hb]) (u4 _) (fun q => rfl)
    · rw [if_neg (fun z => hb ((nB_6 (by omega)).mp z)), if_neg hb]
      exact key _ x (by omega) u3 (u4 _) (fun q => rfl)
/-- the class's walk, in numbers -/
theorem c_walk12 (σ : bz_S) {s : Nat} (hs : s < 360) : (f_X7_walk_12 σ (nI (s / 8)) (nI (s % 8))).1 12 1 = nB (wB s 16 0 s 0) ∧ (f_X7_walk_12 σ (nI (s / 8)) (nI (s % 8))).2 12 2 = lN (wO 16 s 0) ∧ ∀ q, q < 16 → (f_X7_walk_12 σ (nI (s / 8)) (nI (s % 8))).1 13 q = nI (itN q s / 8) := by
  unfold f_X7_walk_12
  rw [bz_k_eq]
  obtain ⟨r1, r2, r3⟩ := c_walk (show s / 8 < 45 by omega) (show s % 8 < 8 from Nat.mod_lt _ (by decide)) 16 ((bz_up σ.1 12 1 (-6)), (bz_up σ.2 12 2 0)) s 0 0 0 (by omega) hs (by omega) bz_up_s1 (show bz_up σ.2 12 2 0 12 2 = lN 0 from (bz_up_s (f := σ.2)).trans rfl)
  rw [show 8 * (s / 8) + s % 8 = s by omega] at r1
  exact ⟨r1, r2, fun q hq => by rw [show (0 : Int32) = nI 0 from rfl, r3 q hq, if_neg (by omega), Nat.sub_zero]⟩
theorem c_fm (n : Nat) (h : n < 2 ^ 31) : f_J9_floorMod_7cf53 (nI n) 16 = nI (n % 16) := by
  have e : nI n % 16 = nI (n % 16) := bz_modN (d := 16) h (by decide) (by decide)
  have m : n % 16 < 16 := Nat.mod_lt _ (by decide)
  unfold f_J9_floorMod_7cf53
  rw [e]
  by_cases z : 0 ≤ nI n ^^^ 16
  · rw [if_pos z]
  · rw [if_neg z]
    by_cases y : nI (n % 16) = 0
    · rw [if_pos y]
    · exfalso
      apply z
      have e1 : (nI n ^^^ 16).toBitVec = BitVec.ofNat 32 n ^^^ BitVec.ofNat 32 16 := rfl
      have hn : (BitVec.ofNat 32 n ^^^ BitVec.ofNat 32 16).toNat < 2 ^ 31 := by
        rw [BitVec.toNat_xor, BitVec.toNat_ofNat, BitVec.toNat_ofNat]
        exact Nat.xor_lt_two_pow (by omega) (by decide)
      rw [Int32.le_iff_toInt_le]
      show (0 : Int32).toInt ≤ (nI n ^^^ 16).toBitVec.toInt
      rw [e1, BitVec.toInt_eq_toNat_of_lt (by omega)]
      have z0 : (0 : Int32).toInt = 0 := by decide
      omega
/-- where it is behind n steps -/
theorem c_beh (σ : bz_S) {s n : Nat} (hs : s < 360) (hn : n < 2 ^ 31) : f_X7_cellBehind_12 (f_X7_walk_12 σ (nI (s / 8)) (nI (s % 8))) (nI n) = nI (itN n s / 8) := by
  unfold f_X7_cellBehind_12
  have m : n % 16 < 16 := Nat.mod_lt _ (by decide)
  rw [c_fm n hn, nI_clamp (by omega), (c_walk12 σ hs).2.2 _ m, itN_16 hs n]
def cdN (s : Nat) : Int32 := nI (10 * (s / 8) + s % 8)
theorem cdN_10 {s : Nat} (h : s < 360) : cdN s / 10 = nI (s / 8) := by
  have e : nI (10 * (s / 8) + s % 8) / 10 = nI ((10 * (s / 8) + s % 8) / 10) := bz_divN (d := 10) (by omega) (by decide) (by decide)
  show nI (10 * (s / 8) + s % 8) / 10 = _
  rw [e]
  congr 1
  omega
theorem m_bh : ∀ (n s : Nat) (e : Int32), s < 360 → lp_bh n (cdN s) e = cdN (itN n s) := by
  intro n
  induction n with
  | zero => intro s e h; rw [lp_bh, itN]
  | succ n ih =>
    intro s e h
    rw [lp_bh, itN]
    have := (sN_ok h).2.2.2
    show lp_bh n (f_X11_next (nI (10 * (s / 8) + s % 8))) (e + 1) = _
    rw [this]
    exact ih (sN s) (e + 1) (sN_lt ⟨s, h⟩)
theorem m_beh {s n : Nat} (hs : s < 360) (hn : n < 2 ^ 31) : (f_X11_behindSteps (cdN s) (nI n)) / 10 = nI (itN n s / 8) := by
  unfold f_X11_behindSteps
  rw [nI_clamp hn, m_bh n s 0 hs, cdN_10 (itN_lt n s hs)]
/-- the model's steps back -/
def mB (s0 : Nat) : Nat → Nat → Nat → Nat
  | 0, _, _ => 0
  | n + 1, c, e => if c = s0 then e else mB s0 n (sN c) (e + 1)
theorem cdN_i {a b : Nat} (ha : a < 360) (hb : b < 360) : (cdN a = cdN b) ↔ a = b := by
  unfold cdN
  rw [nI_eq (by omega) (by omega)]
  omega
theorem m_sb {s0 : Nat} (h0 : s0 < 360) : ∀ (n c e : Nat), c < 360 → 0 < e → e + n ≤ 1000 → lp_sb (cdN s0) n (cdN c) (nI e) = nB (mB s0 n c e) := by
  intro n
  induction n with
  | zero => intro c e hc he hn; rw [lp_sb, mB]; rfl
  | succ n ih =>
    intro c e hc he hn
    rw [lp_sb, mB]
    by_cases z : c = s0
    · rw [if_pos z, if_pos (by rw [z]), nB, if_neg (by omega)]
    · rw [if_neg z, if_neg (fun w => z ((cdN_i hc h0).mp w)), nI_1]
      have := (sN_ok hc).2.2.2
      show lp_sb (cdN s0) n (f_X11_next (nI (10 * (c / 8) + c % 8))) (nI (e + 1)) = _
      rw [this]
      exact ih (sN c) (e + 1) (sN_lt ⟨c, hc⟩) (by omega) (by omega)
theorem mB_wB : ∀ s : Fin 360, mB s 399 (sN s) 1 = wB s 16 0 s 0 := by decide +kernel
/-- how many cells the model meets -/
def mM : Nat → Nat → Nat → Nat → Nat
  | 0, _, _, n => n
  | k + 1, c, o, n => mM k (sN c) (o ||| 2 ^ (c / 8)) (if (o >>> (c / 8)) % 2 = 0 then n + 1 else n)
def mt_R (σ : bz_S) (o : Nat) : Prop := ∀ q, q < 45 → σ.1 43 q = nI ((o >>> q) % 2)
theorem mt_up {σ : bz_S} {o c : Nat} (h : mt_R σ o) (hc : c < 45) : mt_R ((bz_up σ.1 43 c 1), σ.2) (o ||| 2 ^ c) := by
  intro q hq
  show bz_up σ.1 43 c 1 43 q = _
  by_cases e : q = c
  · rw [e, bz_up_s]
    have : (o ||| 2 ^ c) >>> c % 2 = 1 := by
      have t : (o ||| 2 ^ c).testBit c = true := by simp
      rw [Nat.testBit_eq_decide_div_mod_eq] at t
      rw [Nat.shiftRight_eq_div_pow]
      simpa using t
    rw [this]; rfl
  · rw [bz_up_k e, h q hq]
    congr 1
    have t : (o ||| 2 ^ c).testBit q = o.testBit q := by simp [Ne.symm e]
    rw [Nat.testBit_eq_decide_div_mod_eq, Nat.testBit_eq_decide_div_mod_eq] at t
    rw [Nat.shiftRight_eq_div_pow, Nat.shiftRight_eq_div_pow]
    have t' := decide_eq_decide.mp t
    omega
theorem m_mt : ∀ (k : Nat) (σ : bz_S) (c o n e : Nat), c < 360 → n + k < 1000 → mt_R σ o → (lp_mt2 k σ (cdN c) (nI n) (nI e)).1 = nI (mM k c o n) := by
  intro k
  induction k with
  | zero => intro σ c o n e hc hn h; rw [lp_mt2, mM]
  | succ k ih =>
    intro σ c o n e hc hn h
    rw [lp_mt2, mM, cdN_10 hc, nI_clamp (by omega), h (c / 8) (by omega)]
    have nx : f_X11_next (cdN c) = cdN (sN c) := (sN_ok hc).2.2.2
    rw [nx]
    have hm : o >>> (c / 8) % 2 < 2 := Nat.mod_lt _ (by decide)
    by_cases z : o >>> (c / 8) % 2 = 0
    · rw [if_pos z, if_pos (show nI (o >>> (c / 8) % 2) = 0 by rw [z]; rfl), nI_1, nI_1]
      exact ih _ (sN c) _ (n + 1) (e + 1) (sN_lt ⟨c, hc⟩) (by omega) (mt_up h (show c / 8 < 45 by omega))
    · rw [if_neg z, if_neg (nI_ne0 (by omega) (by omega)), Int32.add_zero, nI_1]
      exact ih _ (sN c) _ n (e + 1) (sN_lt ⟨c, hc⟩) (by omega) (mt_up h (show c / 8 < 45 by omega))
theorem m_mt1 : ∀ (n : Nat) (σ : bz_S) (j : Nat), j + n = 45 → ∀ q, q < 45 → (lp_mt1 n σ (nI j)).1 43 q = if q < j then σ.1 43 q else 0 := by
  intro n
  induction n with
  | zero => intro σ j hj q hq; rw [lp_mt1, if_pos (by omega)]
  | succ n ih =>
    intro σ j hj q hq
    rw [lp_mt1, nI_clamp (by omega), nI_1, ih _ (j + 1) (by omega) q hq]
    by_cases z : q < j
    · rw [if_pos (by omega), if_pos z]; exact bz_up_k (by omega)
    · by_cases y : q = j
      · rw [if_pos (by omega), if_neg z, y]; exact bz_up_s1
      · rw [if_neg (by omega), if_neg z]
theorem m_met (σ : bz_S) {s : Nat} (hs : s < 360) : (f_X11_metMany_32 σ (cdN s)).1 = nI (mM 400 s 0 0) := by
  unfold f_X11_metMany_32 f_X11_metMany_32_a
  rw [bz_k_eq, bz_k_eq]
  refine m_mt 400 _ s 0 0 0 hs (by omega) (fun q hq => ?_)
  have := m_mt1 45 σ 0 (by omega) q hq
  rw [if_neg (by omega)] at this
  rw [show (0 : Int32) = nI 0 from rfl] at this ⊢
  rw [this, Nat.zero_shiftRight]
