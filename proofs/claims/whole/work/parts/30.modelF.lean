theorem bz_up_s1 {f : Nat → Nat → Int32} {g : Nat → Nat → Int64} {o k : Nat} {x : Int32} : ((bz_up f o k x, g) : bz_S).1 o k = x := bz_up_s
def bz_sgW (σ : bz_S) : Prop := ∀ q, q < 8 → ∃ K, K < 2 ^ 31 ∧ σ.1 34 q = nI K
theorem bz_sgW_c {σ τ : bz_S} (h : bz_sgW σ) (e : τ.1 34 = σ.1 34) : bz_sgW τ := by
  unfold bz_sgW at h ⊢
  rw [e]
  exact h
theorem bz_sgM_c {σ τ : bz_S} (h : bz_sgM σ) (e : τ.1 32 6 = σ.1 32 6) : bz_sgM τ := by
  unfold bz_sgM at h ⊢
  rw [e]
  exact h

def lp_isf (code : Int32) : Nat → bz_S → Bool → Int32 → Bool
  | 0, σ, al, e => al
  | n + 1, σ, al, e => if al = true then if ((f_X11_behindSteps code (σ.1 34 e.toNatClampNeg)) / 10) = (σ.1 35 e.toNatClampNeg) then (lp_isf code n σ true (e + 1)) else (lp_isf code n σ false (e + 1)) else al
set_option maxRecDepth 100000 in
theorem lp_isf0_blk1 {X : bz_X} (code : Int32) (σ : bz_S) (al : Bool) (e : Int32) : bz_run X bt_X11_isFit 4 (27, [some (.ref 32), some (.int code), some (.int (bz_b (al))), some (.int e)], [], σ) = some (True, if (σ.1 32 6) ≤ e then (73, [some (.ref 32), some (.int code), some (.int (bz_b (al))), some (.int e)], [], σ) else (35, [some (.ref 32), some (.int code), some (.int (bz_b (al))), some (.int e)], [], σ)) := rfl
set_option maxRecDepth 100000 in
theorem lp_isf0_blk2 {X : bz_X} (code : Int32) (σ : bz_S) (al : Bool) (e : Int32) : bz_run X bt_X11_isFit 1 (73, [some (.ref 32), some (.int code), some (.int (bz_b (al))), some (.int e)], [], σ) = some (True, (74, [some (.ref 32), some (.int code), some (.int (bz_b (al))), some (.int e)], [.int (bz_b (al))], σ)) := rfl
set_option maxRecDepth 100000 in
theorem lp_isf_blk1 {X : bz_X} (code : Int32) (σ : bz_S) (al : Bool) (e : Int32) : bz_run X bt_X11_isFit 4 (27, [some (.ref 32), some (.int code), some (.int (bz_b (al))), some (.int e)], [], σ) = some (True, if (σ.1 32 6) ≤ e then (73, [some (.ref 32), some (.int code), some (.int (bz_b (al))), some (.int e)], [], σ) else (35, [some (.ref 32), some (.int code), some (.int (bz_b (al))), some (.int e)], [], σ)) := rfl
set_option maxRecDepth 100000 in
theorem lp_isf_blk2 {X : bz_X} (code : Int32) (σ : bz_S) (al : Bool) (e : Int32) : bz_run X bt_X11_isFit 2 (35, [some (.ref 32), some (.int code), some (.int (bz_b (al))), some (.int e)], [], σ) = some (True, if bz_b (al) = 0 then (73, [some (.ref 32), some (.int code), some (.int (bz_b (al))), some (.int e)], [], σ) else (39, [some (.ref 32), some (.int code), some (.int (bz_b (al))), some (.int e)], [], σ)) := rfl
set_option maxRecDepth 100000 in
theorem lp_isf_blk3 {X : bz_X} (code : Int32) (σ : bz_S) (al : Bool) (e : Int32) : bz_run X bt_X11_isFit 1 (73, [some (.ref 32), some (.int code), some (.int (bz_b (al))), some (.int e)], [], σ) = some (True, (74, [some (.ref 32), some (.int code), some (.int (bz_b (al))), some (.int e)], [.int (bz_b (al))], σ)) := rfl
set_option maxRecDepth 100000 in
theorem lp_isf_blk4 {X : bz_X} (code : Int32) (σ : bz_S) (al : Bool) (e : Int32) : bz_run X bt_X11_isFit 5 (39, [some (.ref 32), some (.int code), some (.int (bz_b (al))), some (.int e)], [], σ) = some (vp_in e 8 ∧ True, (46, [some (.ref 32), some (.int code), some (.int (bz_b (al))), some (.int e)], [.int (σ.1 34 e.toNatClampNeg), .int code], σ)) := rfl
set_option maxRecDepth 100000 in
theorem lp_isf_blk5 {X : bz_X} (code : Int32) (σ : bz_S) (al : Bool) (e : Int32) : bz_run X bt_X11_isFit 7 (49, [some (.ref 32), some (.int code), some (.int (bz_b (al))), some (.int e)], [.int (f_X11_behindSteps code (σ.1 34 e.toNatClampNeg))], σ) = some (¬ (10 : Int32) = 0 ∧ vp_in e 8 ∧ True, if ¬ ((f_X11_behindSteps code (σ.1 34 e.toNatClampNeg)) / 10) = (σ.1 35 e.toNatClampNeg) then (65, [some (.ref 32), some (.int code), some (.int (bz_b (al))), some (.int e)], [], σ) else (61, [some (.ref 32), some (.int code), some (.int (bz_b (al))), some (.int e)], [], σ)) := rfl
set_option maxRecDepth 100000 in
theorem lp_isf_blk6 {X : bz_X} (code : Int32) (σ : bz_S) (al : Bool) (e : Int32) : bz_run X bt_X11_isFit 4 (65, [some (.ref 32), some (.int code), some (.int (bz_b (al))), some (.int e)], [], σ) = some (True, (27, [some (.ref 32), some (.int code), some (.int 0), some (.int (e + 1))], [], σ)) := rfl
set_option maxRecDepth 100000 in
theorem lp_isf_blk7 {X : bz_X} (code : Int32) (σ : bz_S) (al : Bool) (e : Int32) : bz_run X bt_X11_isFit 5 (61, [some (.ref 32), some (.int code), some (.int (bz_b (al))), some (.int e)], [], σ) = some (True, (27, [some (.ref 32), some (.int code), some (.int 1), some (.int (e + 1))], [], σ)) := rfl
set_option maxRecDepth 100000 in
theorem s_lp_isf {X : bz_X} (code : Int32) (N : Nat) (h8 : N ≤ 8) : ∀ (n : Nat) (σ : bz_S) (al : Bool) (e : Int32) (j9 : Nat) (hi : e = nI j9) (hj : j9 + n = N) (hN : σ.1 32 6 = nI N) (hw : bz_sgW σ), bz_wp bz_P X mX11_isFit (bz_pi (bz_b (lp_isf code n σ al e)) σ) (27, [some (.ref 32), some (.int code), some (.int (bz_b (al))), some (.int e)], [], σ) := by
  intro n
  induction n with
  | zero =>
    intro σ al e j9 hi hj hN hw
    refine bz_wpb bT_X11_isFit 4 (b1 := (73, [some (.ref 32), some (.int code), some (.int (bz_b (al))), some (.int e)], [], σ)) (b2 := (35, [some (.ref 32), some (.int code), some (.int (bz_b (al))), some (.int e)], [], σ)) (C := (σ.1 32 6) ≤ e) (G := True) (lp_isf0_blk1 code σ al e) trivial (fun _ => ?_) (fun z => absurd (show (σ.1 32 6) ≤ e from by rw [hi, hN]; exact nI_le (by omega) (by omega)) z)
    refine bz_wpn bT_X11_isFit 1 (b := (74, [some (.ref 32), some (.int code), some (.int (bz_b (al))), some (.int e)], [.int (bz_b (al))], σ)) (G := True) (lp_isf0_blk2 code σ al e) trivial ?_
    refine bz_wpr bT_X11_isFit rfl rfl (bz_b01 _) ?_
    have e9 : lp_isf code 0 σ al e = al := by rw [lp_isf]
    exact ⟨by rw [e9], rfl⟩
  | succ n ih =>
    intro σ al e j9 hi hj hN hw
    refine bz_wpb bT_X11_isFit 4 (b1 := (73, [some (.ref 32), some (.int code), some (.int (bz_b (al))), some (.int e)], [], σ)) (b2 := (35, [some (.ref 32), some (.int code), some (.int (bz_b (al))), some (.int e)], [], σ)) (C := (σ.1 32 6) ≤ e) (G := True) (lp_isf_blk1 code σ al e) trivial (fun z => absurd z (show ¬ (σ.1 32 6) ≤ e from by rw [hi, hN]; exact nI_ge (by omega) (by omega))) (fun _ => ?_)
    refine bz_wpb bT_X11_isFit 2 (b1 := (73, [some (.ref 32), some (.int code), some (.int (bz_b (al))), some (.int e)], [], σ)) (b2 := (39, [some (.ref 32), some (.int code), some (.int (bz_b (al))), some (.int e)], [], σ)) (C := bz_b (al) = 0) (G := True) (lp_isf_blk2 code σ al e) trivial (fun h1 => ?_) (fun h1 => ?_)
    · skip
      have h1 := bz_b0 h1
      refine bz_wpn bT_X11_isFit 1 (b := (74, [some (.ref 32), some (.int code), some (.int (bz_b (al))), some (.int e)], [.int (bz_b (al))], σ)) (G := True) (lp_isf_blk3 code σ al e) trivial ?_
      refine bz_wpr bT_X11_isFit rfl rfl (bz_b01 _) ?_
      have e9 : lp_isf code (n + 1) σ al e = al := by rw [lp_isf, if_neg (bz_ff h1)]
      exact ⟨by rw [e9], rfl⟩
    · skip
      have h1 := bz_b1 h1
      refine bz_wpn bT_X11_isFit 5 (b := (46, [some (.ref 32), some (.int code), some (.int (bz_b (al))), some (.int e)], [.int (σ.1 34 e.toNatClampNeg), .int code], σ)) (G := vp_in e 8 ∧ True) (lp_isf_blk4 code σ al e) ⟨(by rw [hi]; exact vp_in_nI (by omega) (by decide)), trivial⟩ ?_
      refine bz_wci bT_X11_isFit [.int code, .int (σ.1 34 e.toNatClampNeg)] (pc' := 49) (rest := []) rfl rfl (Nat.le_of_ble_eq_true rfl) rfl (Nat.le_of_ble_eq_true rfl) rfl (s_X11_behindSteps σ code (σ.1 34 e.toNatClampNeg) (by rw [hi, nI_clamp (by omega)]; exact hw j9 (by omega))) rfl ?_
      refine bz_wpb bT_X11_isFit 7 (b1 := (65, [some (.ref 32), some (.int code), some (.int (bz_b (al))), some (.int e)], [], σ)) (b2 := (61, [some (.ref 32), some (.int code), some (.int (bz_b (al))), some (.int e)], [], σ)) (C := ¬ ((f_X11_behindSteps code (σ.1 34 e.toNatClampNeg)) / 10) = (σ.1 35 e.toNatClampNeg)) (G := ¬ (10 : Int32) = 0 ∧ vp_in e 8 ∧ True) (lp_isf_blk5 code σ al e) ⟨(by decide), (by rw [hi]; exact vp_in_nI (by omega) (by decide)), trivial⟩ (fun h2 => ?_) (fun h2 => ?_)
      · skip
        refine bz_wpn bT_X11_isFit 4 (b := (27, [some (.ref 32), some (.int code), some (.int 0), some (.int (e + 1))], [], σ)) (G := True) (lp_isf_blk6 code σ al e) trivial ?_
        have e9 : lp_isf code (n + 1) σ al e = (lp_isf code n σ false (e + 1)) := by rw [lp_isf, if_pos (h1), if_neg (h2)]
        rw [e9]
        exact ih σ false (e + 1) (j9 + 1) (by rw [hi]; exact nI_1 j9) (by omega) hN hw
      · skip
        refine bz_wpn bT_X11_isFit 5 (b := (27, [some (.ref 32), some (.int code), some (.int 1), some (.int (e + 1))], [], σ)) (G := True) (lp_isf_blk7 code σ al e) trivial ?_
        have e9 : lp_isf code (n + 1) σ al e = (lp_isf code n σ true (e + 1)) := by rw [lp_isf, if_pos (h1), if_pos ((Decidable.not_not.mp h2))]
        rw [e9]
        exact ih σ true (e + 1) (j9 + 1) (by rw [hi]; exact nI_1 j9) (by omega) hN hw

def f_X11_isFit_32 (σ : bz_S) (code : Int32) : Bool := if 8 ≤ (code % 10) then lp_isf code (σ.1 32 6).toNatClampNeg σ false 0 else (if f_X11_isPocket (code / 10) = true then lp_isf code (σ.1 32 6).toNatClampNeg σ false 0 else lp_isf code (σ.1 32 6).toNatClampNeg σ true 0)
set_option maxRecDepth 100000 in
theorem f_X11_isFit_32_blk1 {X : bz_X} (σ : bz_S) (code : Int32) : bz_run X bt_X11_isFit 5 (0, [some (.ref 32), some (.int code), none, none], [], σ) = some (¬ (10 : Int32) = 0 ∧ True, if 8 ≤ (code % 10) then (23, [some (.ref 32), some (.int code), none, none], [], σ) else (9, [some (.ref 32), some (.int code), none, none], [], σ)) := rfl
set_option maxRecDepth 100000 in
theorem f_X11_isFit_32_blk2 {X : bz_X} (σ : bz_S) (code : Int32) : bz_run X bt_X11_isFit 4 (23, [some (.ref 32), some (.int code), none, none], [], σ) = some (True, (27, [some (.ref 32), some (.int code), some (.int 0), some (.int 0)], [], σ)) := rfl
set_option maxRecDepth 100000 in
theorem f_X11_isFit_32_blk3 {X : bz_X} (σ : bz_S) (code : Int32) : bz_run X bt_X11_isFit 3 (9, [some (.ref 32), some (.int code), none, none], [], σ) = some (¬ (10 : Int32) = 0 ∧ True, (13, [some (.ref 32), some (.int code), none, none], [.int (code / 10)], σ)) := rfl
set_option maxRecDepth 100000 in
theorem f_X11_isFit_32_blk4 {X : bz_X} (σ : bz_S) (code : Int32) : bz_run X bt_X11_isFit 1 (16, [some (.ref 32), some (.int code), none, none], [.int (bz_b (f_X11_isPocket (code / 10)))], σ) = some (True, if ¬ bz_b (f_X11_isPocket (code / 10)) = 0 then (23, [some (.ref 32), some (.int code), none, none], [], σ) else (19, [some (.ref 32), some (.int code), none, none], [], σ)) := rfl
set_option maxRecDepth 100000 in
theorem f_X11_isFit_32_blk5 {X : bz_X} (σ : bz_S) (code : Int32) : bz_run X bt_X11_isFit 4 (23, [some (.ref 32), some (.int code), none, none], [], σ) = some (True, (27, [some (.ref 32), some (.int code), some (.int 0), some (.int 0)], [], σ)) := rfl
set_option maxRecDepth 100000 in
theorem f_X11_isFit_32_blk6 {X : bz_X} (σ : bz_S) (code : Int32) : bz_run X bt_X11_isFit 5 (19, [some (.ref 32), some (.int code), none, none], [], σ) = some (True, (27, [some (.ref 32), some (.int code), some (.int 1), some (.int 0)], [], σ)) := rfl
set_option maxRecDepth 100000 in
theorem s_X11_isFit_32 {X : bz_X} (σ : bz_S) (code : Int32) (hs : bz_sgM σ) (hw : bz_sgW σ) : bz_C bz_P X mX11_isFit [.ref 32, .int code] σ (bz_pi (bz_b (f_X11_isFit_32 σ code)) σ) := by
  show bz_wp bz_P X mX11_isFit (bz_pi (bz_b (f_X11_isFit_32 σ code)) σ) (0, [some (.ref 32), some (.int code), none, none], [], σ)
  refine bz_wpb bT_X11_isFit 5 (b1 := (23, [some (.ref 32), some (.int code), none, none], [], σ)) (b2 := (9, [some (.ref 32), some (.int code), none, none], [], σ)) (C := 8 ≤ (code % 10)) (G := ¬ (10 : Int32) = 0 ∧ True) (f_X11_isFit_32_blk1 σ code) ⟨(by decide), trivial⟩ (fun h1 => ?_) (fun h1 => ?_)
  · skip
    refine bz_wpn bT_X11_isFit 4 (b := (27, [some (.ref 32), some (.int code), some (.int 0), some (.int 0)], [], σ)) (G := True) (f_X11_isFit_32_blk2 σ code) trivial ?_
    have e9 : f_X11_isFit_32 σ code = lp_isf code (σ.1 32 6).toNatClampNeg σ false 0 := by rw [f_X11_isFit_32, if_pos (h1)]
    rw [e9]
    obtain ⟨N, h8, hN⟩ := hs
    exact s_lp_isf code N h8 _ σ false 0 0 rfl (by rw [hN, nI_clamp (by omega)]; omega) hN hw
  · skip
    refine bz_wpn bT_X11_isFit 3 (b := (13, [some (.ref 32), some (.int code), none, none], [.int (code / 10)], σ)) (G := ¬ (10 : Int32) = 0 ∧ True) (f_X11_isFit_32_blk3 σ code) ⟨(by decide), trivial⟩ ?_
    refine bz_wci bT_X11_isFit [.int (code / 10)] (pc' := 16) (rest := []) rfl rfl (Nat.le_of_ble_eq_true rfl) rfl (Nat.le_of_ble_eq_true rfl) rfl (s_X11_isPocket σ (code / 10)) rfl ?_
    refine bz_wpb bT_X11_isFit 1 (b1 := (23, [some (.ref 32), some (.int code), none, none], [], σ)) (b2 := (19, [some (.ref 32), some (.int code), none, none], [], σ)) (C := ¬ bz_b (f_X11_isPocket (code / 10)) = 0) (G := True) (f_X11_isFit_32_blk4 σ code) trivial (fun h2 => ?_) (fun h2 => ?_)
    · skip
      have h2 := bz_b1 h2
      refine bz_wpn bT_X11_isFit 4 (b := (27, [some (.ref 32), some (.int code), some (.int 0), some (.int 0)], [], σ)) (G := True) (f_X11_isFit_32_blk5 σ code) trivial ?_
      have e9 : f_X11_isFit_32 σ code = lp_isf code (σ.1 32 6).toNatClampNeg σ false 0 := by rw [f_X11_isFit_32, if_neg (h1), if_pos (h2)]
      rw [e9]
      obtain ⟨N, h8, hN⟩ := hs
      exact s_lp_isf code N h8 _ σ false 0 0 rfl (by rw [hN, nI_clamp (by omega)]; omega) hN hw
    · skip
      have h2 := bz_b0 (Decidable.not_not.mp h2)
      refine bz_wpn bT_X11_isFit 5 (b := (27, [some (.ref 32), some (.int code), some (.int 1), some (.int 0)], [], σ)) (G := True) (f_X11_isFit_32_blk6 σ code) trivial ?_
      have e9 : f_X11_isFit_32 σ code = lp_isf code (σ.1 32 6).toNatClampNeg σ true 0 := by rw [f_X11_isFit_32, if_neg (h1), if_neg (bz_ff h2)]
      rw [e9]
      obtain ⟨N, h8, hN⟩ := hs
      exact s_lp_isf code N h8 _ σ true 0 0 rfl (by rw [hN, nI_clamp (by omega)]; omega) hN hw

theorem bz_lp_isf_f (code : Int32) : ∀ (n : Nat) (σ : bz_S) (e : Int32), lp_isf code n σ false e = false := by
  intro n
  induction n with
  | zero => intro σ e; rw [lp_isf]
  | succ n ih => intro σ e; rw [lp_isf]; simp
theorem m_isFit_m {σ : bz_S} {code : Int32} {j : Nat} (h : f_X11_isFit_32 σ code = true) (hj : code = nI j) (hb : j < 2 ^ 31) : j % 10 < 8 := by
  by_cases q : code % 10 < 8
  · rw [hj] at q
    have e : nI j % 10 = nI (j % 10) := bz_modN (d := 10) hb (by decide) (by decide)
    rw [e] at q
    exact (nI_ltI (b := 8) (by omega) (by decide)).mp q
  · exfalso
    unfold f_X11_isFit_32 at h
    rw [if_pos (Int32.not_lt.mp q), bz_lp_isf_f] at h
    exact absurd h (by decide)
/-- what the model holds of fits -/
def bz_nowM (σ : bz_S) (N : Nat) : Prop := σ.1 32 34 = nI N ∧ ∀ q, q < N → bz_cod (σ.1 46 q)
theorem bz_nowM_s {σ : bz_S} {N : Nat} (h : bz_nowM σ N) (hN : N ≤ 360) {j k : Nat} {x : Int32} (hj : j < N) : bz_nowM (bz_up (bz_up σ.1 47 k x) 46 j (f_X11_next (σ.1 46 j)), σ.2) N := by
  refine ⟨by simpa [bz_up] using h.1, fun q hq => ?_⟩
  by_cases e : q = j
  · subst e
    show bz_cod (bz_up (bz_up σ.1 47 k x) 46 q (f_X11_next (σ.1 46 q)) 46 q)
    rw [bz_up_s]
    exact bz_codX (h.2 q hq)
  · show bz_cod (bz_up (bz_up σ.1 47 k x) 46 j (f_X11_next (σ.1 46 j)) 46 q)
    rw [bz_up_k e, bz_up_o (by decide)]
    exact h.2 q hq
theorem bz_nowM_c {σ τ : bz_S} {N : Nat} (h : bz_nowM σ N) (e : τ.1 32 34 = σ.1 32 34) (e2 : τ.1 46 = σ.1 46) : bz_nowM τ N := by
  unfold bz_nowM at h ⊢
  rw [e, e2]
  exact h

def lp_finf : Nat → bz_S → Int32 → bz_S
  | 0, σ, code => σ
  | n + 1, σ, code => if f_X11_isFit_32 σ code = true then (lp_finf n ((bz_up (bz_up (bz_up σ.1 45 ((σ.1 32 34).toNatClampNeg) code) 46 ((σ.1 32 34).toNatClampNeg) code) 32 34 ((σ.1 32 34) + 1)), σ.2) (code + 1)) else (lp_finf n σ (code + 1))
set_option maxRecDepth 100000 in
theorem lp_finf0_blk1 {X : bz_X} (σ : bz_S) (code : Int32) : bz_run X bt_X11_findFits 3 (7, [some (.ref 32), some (.int code)], [], σ) = some (True, if 450 ≤ code then (58, [some (.ref 32), some (.int code)], [], σ) else (14, [some (.ref 32), some (.int code)], [], σ)) := rfl
set_option maxRecDepth 100000 in
theorem lp_finf_blk1 {X : bz_X} (σ : bz_S) (code : Int32) : bz_run X bt_X11_findFits 3 (7, [some (.ref 32), some (.int code)], [], σ) = some (True, if 450 ≤ code then (58, [some (.ref 32), some (.int code)], [], σ) else (14, [some (.ref 32), some (.int code)], [], σ)) := rfl
set_option maxRecDepth 100000 in
theorem lp_finf_blk2 {X : bz_X} (σ : bz_S) (code : Int32) : bz_run X bt_X11_findFits 2 (14, [some (.ref 32), some (.int code)], [], σ) = some (True, (16, [some (.ref 32), some (.int code)], [.int code, .ref 32], σ)) := rfl
set_option maxRecDepth 100000 in
theorem lp_finf_blk3 {X : bz_X} (σ : bz_S) (code : Int32) : bz_run X bt_X11_findFits 1 (19, [some (.ref 32), some (.int code)], [.int (bz_b (f_X11_isFit_32 σ code))], σ) = some (True, if bz_b (f_X11_isFit_32 σ code) = 0 then (52, [some (.ref 32), some (.int code)], [], σ) else (22, [some (.ref 32), some (.int code)], [], σ)) := rfl
set_option maxRecDepth 100000 in
theorem lp_finf_blk4 {X : bz_X} (σ : bz_S) (code : Int32) : bz_run X bt_X11_findFits 2 (52, [some (.ref 32), some (.int code)], [], σ) = some (True, (7, [some (.ref 32), some (.int (code + 1))], [], σ)) := rfl
set_option maxRecDepth 100000 in
theorem lp_finf_blk5 {X : bz_X} (σ : bz_S) (code : Int32) : bz_run X bt_X11_findFits 11 (22, [some (.ref 32), some (.int code)], [], σ) = some (vp_in (σ.1 32 34) 360 ∧ True, (41, [some (.ref 32), some (.int code)], [.int code, .int (σ.1 32 34), .ref 46], ((bz_up σ.1 45 ((σ.1 32 34).toNatClampNeg) code), σ.2))) := rfl
set_option maxRecDepth 100000 in
theorem lp_finf_blk6 {X : bz_X} (σ : bz_S) (code : Int32) : bz_run X bt_X11_findFits 9 (41, [some (.ref 32), some (.int code)], [.int code, .int (σ.1 32 34), .ref 46], ((bz_up σ.1 45 ((σ.1 32 34).toNatClampNeg) code), σ.2)) = some (vp_in (σ.1 32 34) 360 ∧ True, (7, [some (.ref 32), some (.int (code + 1))], [], ((bz_up (bz_up (bz_up σ.1 45 ((σ.1 32 34).toNatClampNeg) code) 46 ((σ.1 32 34).toNatClampNeg) code) 32 34 ((σ.1 32 34) + 1)), σ.2))) := rfl
set_option maxRecDepth 100000 in
theorem s_lp_finf {X : bz_X} : ∀ (n : Nat) (σ : bz_S) (code : Int32) (j9 : Nat) (hi : code = nI j9) (hj : j9 + n = 450) (F9 : Nat) (gf : σ.1 32 34 = nI F9) (gb : F9 ≤ 8 * (j9 / 10) + min (j9 % 10) 8) (gs : bz_sgM σ) (gw : bz_sgW σ), bz_wp bz_P X mX11_findFits (bz_pv (lp_finf n σ code)) (7, [some (.ref 32), some (.int code)], [], σ) := by
  intro n
  induction n with
  | zero =>
    intro σ code j9 hi hj F9 gf gb gs gw
    refine bz_wpb bT_X11_findFits 3 (b1 := (58, [some (.ref 32), some (.int code)], [], σ)) (b2 := (14, [some (.ref 32), some (.int code)], [], σ)) (C := 450 ≤ code) (G := True) (lp_finf0_blk1 σ code) trivial (fun _ => ?_) (fun z => absurd (show (450 : Int32) ≤ code from by rw [hi, show j9 = 450 from by omega]; decide) z)
    refine bz_wpr bT_X11_findFits rfl rfl trivial ?_
    have e9 : lp_finf 0 σ code = σ := by rw [lp_finf]
    exact ⟨rfl, by rw [e9]⟩
  | succ n ih =>
    intro σ code j9 hi hj F9 gf gb gs gw
    refine bz_wpb bT_X11_findFits 3 (b1 := (58, [some (.ref 32), some (.int code)], [], σ)) (b2 := (14, [some (.ref 32), some (.int code)], [], σ)) (C := 450 ≤ code) (G := True) (lp_finf_blk1 σ code) trivial (fun z => absurd z (show ¬ (450 : Int32) ≤ code from by rw [hi]; exact nI_ge (b := 450) (by omega) (by decide))) (fun _ => ?_)
    refine bz_wpn bT_X11_findFits 2 (b := (16, [some (.ref 32), some (.int code)], [.int code, .ref 32], σ)) (G := True) (lp_finf_blk2 σ code) trivial ?_
    refine bz_wci bT_X11_findFits [.ref 32, .int code] (pc' := 19) (rest := []) rfl rfl (Nat.le_of_ble_eq_true rfl) rfl (Nat.le_of_ble_eq_true rfl) rfl (s_X11_isFit_32 σ code gs gw) rfl ?_
    refine bz_wpb bT_X11_findFits 1 (b1 := (52, [some (.ref 32), some (.int code)], [], σ)) (b2 := (22, [some (.ref 32), some (.int code)], [], σ)) (C := bz_b (f_X11_isFit_32 σ code) = 0) (G := True) (lp_finf_blk3 σ code) trivial (fun h1 => ?_) (fun h1 => ?_)
    · skip
      have h1 := bz_b0 h1
      refine bz_wpn bT_X11_findFits 2 (b := (7, [some (.ref 32), some (.int (code + 1))], [], σ)) (G := True) (lp_finf_blk4 σ code) trivial ?_
      have e9 : lp_finf (n + 1) σ code = (lp_finf n σ (code + 1)) := by rw [lp_finf, if_neg (bz_ff h1)]
      rw [e9]
      exact ih σ (code + 1) (j9 + 1) (by rw [hi]; exact nI_1 j9) (by omega) F9 gf (by omega) gs gw
    · skip
      have h1 := bz_b1 h1
      refine bz_wpn bT_X11_findFits 11 (b := (41, [some (.ref 32), some (.int code)], [.int code, .int (σ.1 32 34), .ref 46], ((bz_up σ.1 45 ((σ.1 32 34).toNatClampNeg) code), σ.2))) (G := vp_in (σ.1 32 34) 360 ∧ True) (lp_finf_blk5 σ code) ⟨(by have h8 := m_isFit_m (by assumption) hi (by omega); rw [gf]; exact vp_in_nI (by omega) (by decide)), trivial⟩ ?_
      refine bz_wpn bT_X11_findFits 9 (b := (7, [some (.ref 32), some (.int (code + 1))], [], ((bz_up (bz_up (bz_up σ.1 45 ((σ.1 32 34).toNatClampNeg) code) 46 ((σ.1 32 34).toNatClampNeg) code) 32 34 ((σ.1 32 34) + 1)), σ.2))) (G := vp_in (σ.1 32 34) 360 ∧ True) (lp_finf_blk6 σ code) ⟨(by have h8 := m_isFit_m (by assumption) hi (by omega); rw [gf]; exact vp_in_nI (by omega) (by decide)), trivial⟩ ?_
      have e9 : lp_finf (n + 1) σ code = (lp_finf n ((bz_up (bz_up (bz_up σ.1 45 ((σ.1 32 34).toNatClampNeg) code) 46 ((σ.1 32 34).toNatClampNeg) code) 32 34 ((σ.1 32 34) + 1)), σ.2) (code + 1)) := by rw [lp_finf, if_pos (h1)]
      rw [e9]
      exact ih ((bz_up (bz_up (bz_up σ.1 45 ((σ.1 32 34).toNatClampNeg) code) 46 ((σ.1 32 34).toNatClampNeg) code) 32 34 ((σ.1 32 34) + 1)), σ.2) (code + 1) (j9 + 1) (by rw [hi]; exact nI_1 j9) (by omega) (F9 + 1) (by rw [← nI_1 F9, ← gf]; exact bz_up_s1) (by have h8 := m_isFit_m (by assumption) hi (by omega); omega) (bz_sgM_c gs (by simp [bz_up])) (bz_sgW_c gw (by funext q9; simp [bz_up]))
theorem rlp_finf : ∀ (n : Nat) (σ : bz_S) (code : Int32), bz_fr [32, 45, 46] σ (lp_finf n σ code) := by
  intro n
  induction n with
  | zero =>
    intro σ code
    rw [lp_finf]
    exact bz_fr_rf
  | succ n ihc =>
    intro σ code
    rw [lp_finf]
    exact (bz_ite (bz_fr_tr (τ := ((bz_up (bz_up (bz_up σ.1 45 ((σ.1 32 34).toNatClampNeg) code) 46 ((σ.1 32 34).toNatClampNeg) code) 32 34 ((σ.1 32 34) + 1)), σ.2)) ⟨(bz_f1_up (bz_f1_up (bz_f1_up (bz_fr_rf).1 (by decide)) (by decide)) (by decide)), (bz_fr_rf).2⟩ (ihc ((bz_up (bz_up (bz_up σ.1 45 ((σ.1 32 34).toNatClampNeg) code) 46 ((σ.1 32 34).toNatClampNeg) code) 32 34 ((σ.1 32 34) + 1)), σ.2) (code + 1))) (bz_fr_tr (τ := σ) bz_fr_rf (ihc σ (code + 1))))
theorem qlp_finf : ∀ (n : Nat) (σ : bz_S) (code : Int32), bz_fo [34] σ (lp_finf n σ code) := by
  intro n
  induction n with
  | zero =>
    intro σ code
    rw [lp_finf]
    exact bz_fo_rf
  | succ n ihc =>
    intro σ code
    rw [lp_finf]
    exact (bz_ite (bz_fo_tr (τ := ((bz_up (bz_up (bz_up σ.1 45 ((σ.1 32 34).toNatClampNeg) code) 46 ((σ.1 32 34).toNatClampNeg) code) 32 34 ((σ.1 32 34) + 1)), σ.2)) (bz_fo_up (f := _) (bz_fo_no (f := _) (bz_fo_no (f := _) bz_fo_rf (by decide)) (by decide)) (by decide)) (ihc ((bz_up (bz_up (bz_up σ.1 45 ((σ.1 32 34).toNatClampNeg) code) 46 ((σ.1 32 34).toNatClampNeg) code) 32 34 ((σ.1 32 34) + 1)), σ.2) (code + 1))) (bz_fo_tr (τ := σ) bz_fo_rf (ihc σ (code + 1))))

def f_X11_findFits_32 (σ : bz_S)  : bz_S := lp_finf (bz_k 450) ((bz_up σ.1 32 34 0), σ.2) 0
set_option maxRecDepth 100000 in
theorem f_X11_findFits_32_blk1 {X : bz_X} (σ : bz_S) : bz_run X bt_X11_findFits 5 (0, [some (.ref 32), none], [], σ) = some (True, (7, [some (.ref 32), some (.int 0)], [], ((bz_up σ.1 32 34 0), σ.2))) := rfl
set_option maxRecDepth 100000 in
theorem s_X11_findFits_32 {X : bz_X} (σ : bz_S) (hs : bz_sgM σ) (hw : bz_sgW σ) : bz_C bz_P X mX11_findFits [.ref 32] σ (bz_pv (f_X11_findFits_32 σ)) := by
  show bz_wp bz_P X mX11_findFits (bz_pv (f_X11_findFits_32 σ)) (0, [some (.ref 32), none], [], σ)
  refine bz_wpn bT_X11_findFits 5 (b := (7, [some (.ref 32), some (.int 0)], [], ((bz_up σ.1 32 34 0), σ.2))) (G := True) (f_X11_findFits_32_blk1 σ) trivial ?_
  have e9 : f_X11_findFits_32 σ = lp_finf (bz_k 450) ((bz_up σ.1 32 34 0), σ.2) 0 := by rw [f_X11_findFits_32]
  rw [e9]
  exact s_lp_finf (bz_k 450) ((bz_up σ.1 32 34 0), σ.2) 0 0 rfl (by rw [bz_k_eq]) 0 rfl (by omega) (bz_sgM_c hs (by simp [bz_up])) (bz_sgW_c hw (by funext q9; simp [bz_up]))
theorem rf_X11_findFits_32 (σ : bz_S)  : bz_fr [32, 45, 46] σ (f_X11_findFits_32 σ) := by
  unfold f_X11_findFits_32
  exact (bz_fr_tr (τ := ((bz_up σ.1 32 34 0), σ.2)) ⟨(bz_f1_up (bz_fr_rf).1 (by decide)), (bz_fr_rf).2⟩ (bz_fr_mo (rlp_finf (bz_k 450) ((bz_up σ.1 32 34 0), σ.2) 0) (by decide)))
theorem qf_X11_findFits_32 (σ : bz_S)  : bz_fo [34] σ (f_X11_findFits_32 σ) := by
  unfold f_X11_findFits_32
  exact (bz_fo_tr (τ := ((bz_up σ.1 32 34 0), σ.2)) (bz_fo_up (f := _) bz_fo_rf (by decide)) (bz_fo_mo (qlp_finf (bz_k 450) ((bz_up σ.1 32 34 0), σ.2) 0) (by decide)))

theorem q_finf : ∀ (n : Nat) (σ : bz_S) (code : Int32) (j F : Nat), code = nI j → j + n = 450 → bz_nowM σ F → F ≤ 8 * (j / 10) + min (j % 10) 8 → ∃ F', F' ≤ 360 ∧ bz_nowM (lp_finf n σ code) F' := by
  intro n
  induction n with
  | zero =>
    intro σ code j F hc hj h hF
    rw [lp_finf]
    exact ⟨F, by omega, h⟩
  | succ n ih =>
    intro σ code j F hc hj h hF
    rw [lp_finf]
    split
    · rename_i h1
      have h8 := m_isFit_m h1 hc (by omega)
      refine ih _ (code + 1) (j + 1) (F + 1) (by rw [hc]; exact nI_1 j) (by omega) ⟨?_, fun q hq => ?_⟩ (by omega)
      · rw [← nI_1 F, ← h.1]
        exact bz_up_s1
      · show bz_cod (bz_up (bz_up (bz_up σ.1 45 (σ.1 32 34).toNatClampNeg code) 46 (σ.1 32 34).toNatClampNeg code) 32 34 (σ.1 32 34 + 1) 46 q)
        rw [bz_up_o (by decide), h.1, nI_clamp (by omega)]
        by_cases e : q = F
        · rw [e, bz_up_s, hc]
          exact ⟨j / 10, j % 10, by omega, h8, by congr 1; omega⟩
        · rw [bz_up_k e, bz_up_o (by decide)]
          exact h.2 q (by omega)
    · exact ih _ (code + 1) (j + 1) F (by rw [hc]; exact nI_1 j) (by omega) h (by omega)
theorem q_findFits (σ : bz_S) : ∃ F, F ≤ 360 ∧ bz_nowM (f_X11_findFits_32 σ) F := by
  unfold f_X11_findFits_32
  exact q_finf _ _ 0 0 0 rfl (by rw [bz_k_eq]) ⟨rfl, fun q hq => absurd hq (by omega)⟩ (by omega)
theorem bz_nowI {σ : bz_S} {N : Nat} (hN : N ≤ 360) (h : bz_nowM σ N) {x : Int32} (hx : f_X11_in (Int32.toInt64 x) 0 (Int32.toInt64 ((σ.1 32 34) - 1)) = true) : vp_in x 360 := by
  rw [bz_inW (lo := 0) (hi := (σ.1 32 34) - 1) (by decide) rfl] at hx
  obtain ⟨h1, h2⟩ := bz_within hx
  rw [h.1] at h2
  have h3 : nI N - 1 < 360 := by
    cases N with
    | zero => decide
    | succ N => rw [nI_pred]; exact nI_lt (b := 360) (by omega) (by decide)
  exact bz_inn (Int32.not_lt.mpr h1) (Int32.lt_of_le_of_lt h2 h3) (by decide)

def f_X11_sent_32_a (σ : bz_S) (ix : Int32) (τ1 : bz_S) : Int32 × bz_S := if ix = (-1) then ((τ1.1 32 34), τ1) else (if f_X11_in (Int32.toInt64 ix) 0 (Int32.toInt64 ((τ1.1 32 34) - 1)) = true then ((τ1.1 45 ix.toNatClampNeg), τ1) else ((-6), τ1))
def f_X11_sent_32 (σ : bz_S) (ix : Int32) : Int32 × bz_S := (f_X11_sent_32_a σ ix (f_X11_findFits_32 σ))
set_option maxRecDepth 100000 in
theorem f_X11_sent_32_blk1 {X : bz_X} (σ : bz_S) (ix : Int32) : bz_run X bt_X11_sent 1 (0, [some (.ref 32), some (.int ix)], [], σ) = some (True, (1, [some (.ref 32), some (.int ix)], [.ref 32], σ)) := rfl
set_option maxRecDepth 100000 in
theorem f_X11_sent_32_blk2 {X : bz_X} (σ : bz_S) (ix : Int32) (τ1 : bz_S) : bz_run X bt_X11_sent 3 (4, [some (.ref 32), some (.int ix)], [], τ1) = some (True, if ¬ ix = (-1) then (16, [some (.ref 32), some (.int ix)], [], τ1) else (9, [some (.ref 32), some (.int ix)], [], τ1)) := rfl
set_option maxRecDepth 100000 in
theorem f_X11_sent_32_blk3 {X : bz_X} (σ : bz_S) (ix : Int32) (τ1 : bz_S) : bz_run X bt_X11_sent 8 (16, [some (.ref 32), some (.int ix)], [], τ1) = some (True, (26, [some (.ref 32), some (.int ix)], [.long (Int32.toInt64 ((τ1.1 32 34) - 1)), .long 0, .long (Int32.toInt64 ix)], τ1)) := rfl
set_option maxRecDepth 100000 in
theorem f_X11_sent_32_blk4 {X : bz_X} (σ : bz_S) (ix : Int32) (τ1 : bz_S) : bz_run X bt_X11_sent 1 (29, [some (.ref 32), some (.int ix)], [.int (bz_b (f_X11_in (Int32.toInt64 ix) 0 (Int32.toInt64 ((τ1.1 32 34) - 1))))], τ1) = some (True, if bz_b (f_X11_in (Int32.toInt64 ix) 0 (Int32.toInt64 ((τ1.1 32 34) - 1))) = 0 then (41, [some (.ref 32), some (.int ix)], [], τ1) else (32, [some (.ref 32), some (.int ix)], [], τ1)) := rfl
set_option maxRecDepth 100000 in
theorem f_X11_sent_32_blk5 {X : bz_X} (σ : bz_S) (ix : Int32) (τ1 : bz_S) : bz_run X bt_X11_sent 1 (41, [some (.ref 32), some (.int ix)], [], τ1) = some (True, (43, [some (.ref 32), some (.int ix)], [.int (-6)], τ1)) := rfl
set_option maxRecDepth 100000 in
theorem f_X11_sent_32_blk6 {X : bz_X} (σ : bz_S) (ix : Int32) (τ1 : bz_S) : bz_run X bt_X11_sent 5 (32, [some (.ref 32), some (.int ix)], [], τ1) = some (vp_in ix 360 ∧ True, (43, [some (.ref 32), some (.int ix)], [.int (τ1.1 45 ix.toNatClampNeg)], τ1)) := rfl
set_option maxRecDepth 100000 in
theorem f_X11_sent_32_blk7 {X : bz_X} (σ : bz_S) (ix : Int32) (τ1 : bz_S) : bz_run X bt_X11_sent 3 (9, [some (.ref 32), some (.int ix)], [], τ1) = some (True, (43, [some (.ref 32), some (.int ix)], [.int (τ1.1 32 34)], τ1)) := rfl
set_option maxRecDepth 100000 in
theorem s_X11_sent_32 {X : bz_X} (σ : bz_S) (ix : Int32) (hs : bz_sgM σ) (hw : bz_sgW σ) : bz_C bz_P X mX11_sent [.ref 32, .int ix] σ (bz_pi (f_X11_sent_32 σ ix).1 (f_X11_sent_32 σ ix).2) := by
  show bz_wp bz_P X mX11_sent (bz_pi (f_X11_sent_32 σ ix).1 (f_X11_sent_32 σ ix).2) (0, [some (.ref 32), some (.int ix)], [], σ)
  refine bz_wpn bT_X11_sent 1 (b := (1, [some (.ref 32), some (.int ix)], [.ref 32], σ)) (G := True) (f_X11_sent_32_blk1 σ ix) trivial ?_
  refine bz_wcv bT_X11_sent [.ref 32] (pc' := 4) (rest := []) rfl rfl (Nat.le_of_ble_eq_true rfl) rfl (Nat.le_of_ble_eq_true rfl) rfl (s_X11_findFits_32 σ hs hw) rfl ?_
  generalize hτ1 : f_X11_findFits_32 σ = τ1
  refine bz_wpb bT_X11_sent 3 (b1 := (16, [some (.ref 32), some (.int ix)], [], τ1)) (b2 := (9, [some (.ref 32), some (.int ix)], [], τ1)) (C := ¬ ix = (-1)) (G := True) (f_X11_sent_32_blk2 σ ix τ1) trivial (fun h1 => ?_) (fun h1 => ?_)
  · skip
    refine bz_wpn bT_X11_sent 8 (b := (26, [some (.ref 32), some (.int ix)], [.long (Int32.toInt64 ((τ1.1 32 34) - 1)), .long 0, .long (Int32.toInt64 ix)], τ1)) (G := True) (f_X11_sent_32_blk3 σ ix τ1) trivial ?_
    refine bz_wci bT_X11_sent [.long (Int32.toInt64 ix), .long 0, .long (Int32.toInt64 ((τ1.1 32 34) - 1))] (pc' := 29) (rest := []) rfl rfl (Nat.le_of_ble_eq_true rfl) rfl (Nat.le_of_ble_eq_true rfl) rfl (s_X11_in τ1 (Int32.toInt64 ix) 0 (Int32.toInt64 ((τ1.1 32 34) - 1))) rfl ?_
    refine bz_wpb bT_X11_sent 1 (b1 := (41, [some (.ref 32), some (.int ix)], [], τ1)) (b2 := (32, [some (.ref 32), some (.int ix)], [], τ1)) (C := bz_b (f_X11_in (Int32.toInt64 ix) 0 (Int32.toInt64 ((τ1.1 32 34) - 1))) = 0) (G := True) (f_X11_sent_32_blk4 σ ix τ1) trivial (fun h2 => ?_) (fun h2 => ?_)
    · skip
      have h2 := bz_b0 h2
      refine bz_wpn bT_X11_sent 1 (b := (43, [some (.ref 32), some (.int ix)], [.int (-6)], τ1)) (G := True) (f_X11_sent_32_blk5 σ ix τ1) trivial ?_
      refine bz_wpr bT_X11_sent rfl rfl trivial ?_
      have e9 : f_X11_sent_32 σ ix = ((-6), τ1) := by rw [f_X11_sent_32, hτ1, f_X11_sent_32_a, if_neg (h1), if_neg (bz_ff h2)]
      exact ⟨by rw [e9], by rw [e9]⟩
    · skip
      have h2 := bz_b1 h2
      refine bz_wpn bT_X11_sent 5 (b := (43, [some (.ref 32), some (.int ix)], [.int (τ1.1 45 ix.toNatClampNeg)], τ1)) (G := vp_in ix 360 ∧ True) (f_X11_sent_32_blk6 σ ix τ1) ⟨(by obtain ⟨F, h8, h9⟩ := q_findFits σ; rw [hτ1] at h9; exact bz_nowI h8 h9 (by assumption)), trivial⟩ ?_
      refine bz_wpr bT_X11_sent rfl rfl trivial ?_
      have e9 : f_X11_sent_32 σ ix = ((τ1.1 45 ix.toNatClampNeg), τ1) := by rw [f_X11_sent_32, hτ1, f_X11_sent_32_a, if_neg (h1), if_pos (h2)]
      exact ⟨by rw [e9], by rw [e9]⟩
  · skip
    refine bz_wpn bT_X11_sent 3 (b := (43, [some (.ref 32), some (.int ix)], [.int (τ1.1 32 34)], τ1)) (G := True) (f_X11_sent_32_blk7 σ ix τ1) trivial ?_
    refine bz_wpr bT_X11_sent rfl rfl trivial ?_
    have e9 : f_X11_sent_32 σ ix = ((τ1.1 32 34), τ1) := by rw [f_X11_sent_32, hτ1, f_X11_sent_32_a, if_pos ((Decidable.not_not.mp h1))]
    exact ⟨by rw [e9], by rw [e9]⟩
theorem rf_X11_sent_32_a (σ : bz_S) (ix : Int32) (τ1 : bz_S) (fτ1 : bz_fr [32, 45, 46] σ τ1) : bz_fr [32, 45, 46] σ (f_X11_sent_32_a σ ix τ1).2 := by
  unfold f_X11_sent_32_a
  exact (bz_ite2 fτ1 (bz_ite2 fτ1 fτ1))
theorem rf_X11_sent_32 (σ : bz_S) (ix : Int32) : bz_fr [32, 45, 46] σ (f_X11_sent_32 σ ix).2 := by
  unfold f_X11_sent_32
  exact (rf_X11_sent_32_a σ ix (f_X11_findFits_32 σ) (bz_fr_mo (rf_X11_findFits_32 σ) (by decide)))
theorem qf_X11_sent_32_a (σ : bz_S) (ix : Int32) (τ1 : bz_S) (fτ1 : bz_fo [34] σ τ1) : bz_fo [34] σ (f_X11_sent_32_a σ ix τ1).2 := by
  unfold f_X11_sent_32_a
  exact (bz_ite2 fτ1 (bz_ite2 fτ1 fτ1))
theorem qf_X11_sent_32 (σ : bz_S) (ix : Int32) : bz_fo [34] σ (f_X11_sent_32 σ ix).2 := by
  unfold f_X11_sent_32
  exact (qf_X11_sent_32_a σ ix (f_X11_findFits_32 σ) (bz_fo_mo (qf_X11_findFits_32 σ) (by decide)))

def lp_mn1 : Nat → bz_S → Int32 → bz_S
  | 0, σ, c => σ
  | n + 1, σ, c => (lp_mn1 n ((bz_up σ.1 47 c.toNatClampNeg 0), σ.2) (c + 1))
set_option maxRecDepth 100000 in
theorem lp_mn10_blk1 {X : bz_X} (σ : bz_S) (c : Int32) : bz_run X bt_X11_mostNow 3 (4, [some (.ref 32), some (.int 0), some (.int c), none], [], σ) = some (True, if 45 ≤ c then (23, [some (.ref 32), some (.int 0), some (.int c), none], [], σ) else (10, [some (.ref 32), some (.int 0), some (.int c), none], [], σ)) := rfl
set_option maxRecDepth 100000 in
theorem lp_mn1_blk1 {X : bz_X} (σ : bz_S) (c : Int32) : bz_run X bt_X11_mostNow 3 (4, [some (.ref 32), some (.int 0), some (.int c), none], [], σ) = some (True, if 45 ≤ c then (23, [some (.ref 32), some (.int 0), some (.int c), none], [], σ) else (10, [some (.ref 32), some (.int 0), some (.int c), none], [], σ)) := rfl
set_option maxRecDepth 100000 in
theorem lp_mn1_blk2 {X : bz_X} (σ : bz_S) (c : Int32) : bz_run X bt_X11_mostNow 7 (10, [some (.ref 32), some (.int 0), some (.int c), none], [], σ) = some (vp_in c 45 ∧ True, (4, [some (.ref 32), some (.int 0), some (.int (c + 1)), none], [], ((bz_up σ.1 47 c.toNatClampNeg 0), σ.2))) := rfl
set_option maxRecDepth 100000 in
theorem s_lp_mn1 {X : bz_X} {Q : bz_Q} : ∀ (n : Nat) (σ : bz_S) (c : Int32) (j9 : Nat) (hi : c = nI j9) (hj : j9 + n = 45) (kk : bz_wp bz_P X mX11_mostNow Q (23, [some (.ref 32), some (.int 0), none, none], [], (lp_mn1 n σ c))), bz_wp bz_P X mX11_mostNow (Q) (4, [some (.ref 32), some (.int 0), some (.int c), none], [], σ) := by
  intro n
  induction n with
  | zero =>
    intro σ c j9 hi hj kk
    refine bz_wpb bT_X11_mostNow 3 (b1 := (23, [some (.ref 32), some (.int 0), some (.int c), none], [], σ)) (b2 := (10, [some (.ref 32), some (.int 0), some (.int c), none], [], σ)) (C := 45 ≤ c) (G := True) (lp_mn10_blk1 σ c) trivial (fun _ => ?_) (fun z => absurd (show (45 : Int32) ≤ c from by rw [hi, show j9 = 45 from by omega]; decide) z)
    have e9 : lp_mn1 0 σ c = σ := by rw [lp_mn1]
    rw [e9] at kk
    refine bz_wpw (by exact ⟨rfl, rfl, trivial⟩) kk
  | succ n ih =>
    intro σ c j9 hi hj kk
    refine bz_wpb bT_X11_mostNow 3 (b1 := (23, [some (.ref 32), some (.int 0), some (.int c), none], [], σ)) (b2 := (10, [some (.ref 32), some (.int 0), some (.int c), none], [], σ)) (C := 45 ≤ c) (G := True) (lp_mn1_blk1 σ c) trivial (fun z => absurd z (show ¬ (45 : Int32) ≤ c from by rw [hi]; exact nI_ge (b := 45) (by omega) (by decide))) (fun _ => ?_)
    refine bz_wpn bT_X11_mostNow 7 (b := (4, [some (.ref 32), some (.int 0), some (.int (c + 1)), none], [], ((bz_up σ.1 47 c.toNatClampNeg 0), σ.2))) (G := vp_in c 45 ∧ True) (lp_mn1_blk2 σ c) ⟨(by rw [hi]; exact vp_in_nI (by omega) (by decide)), trivial⟩ ?_
    have e9 : lp_mn1 (n + 1) σ c = (lp_mn1 n ((bz_up σ.1 47 c.toNatClampNeg 0), σ.2) (c + 1)) := by rw [lp_mn1]
    rw [e9] at kk
    exact ih ((bz_up σ.1 47 c.toNatClampNeg 0), σ.2) (c + 1) (j9 + 1) (by rw [hi]; exact nI_1 j9) (by omega) kk
theorem rlp_mn1 : ∀ (n : Nat) (σ : bz_S) (c : Int32), bz_fr [47] σ (lp_mn1 n σ c) := by
  intro n
  induction n with
  | zero =>
    intro σ c
    rw [lp_mn1]
    exact bz_fr_rf
  | succ n ihc =>
    intro σ c
    rw [lp_mn1]
    exact (bz_fr_tr (τ := ((bz_up σ.1 47 c.toNatClampNeg 0), σ.2)) ⟨(bz_f1_up (bz_fr_rf).1 (by decide)), (bz_fr_rf).2⟩ (ihc ((bz_up σ.1 47 c.toNatClampNeg 0), σ.2) (c + 1)))
theorem qlp_mn1 : ∀ (n : Nat) (σ : bz_S) (c : Int32), bz_fo ([] : List Nat) σ (lp_mn1 n σ c) := by
  intro n
  induction n with
  | zero =>
    intro σ c
    rw [lp_mn1]
    exact bz_fo_rf
  | succ n ihc =>
    intro σ c
    rw [lp_mn1]
    exact (bz_fo_tr (τ := ((bz_up σ.1 47 c.toNatClampNeg 0), σ.2)) (bz_fo_no (f := _) bz_fo_rf (by decide)) (ihc ((bz_up σ.1 47 c.toNatClampNeg 0), σ.2) (c + 1)))

def lp_mn2 : Nat → bz_S → Int32 → Int32 → Int32 × bz_S
  | 0, σ, mo, e => (mo, σ)
  | n + 1, σ, mo, e => if ((bz_up σ.1 47 (((σ.1 46 e.toNatClampNeg) / 10).toNatClampNeg) ((σ.1 47 (((σ.1 46 e.toNatClampNeg) / 10).toNatClampNeg)) + 1)) 47 (((σ.1 46 e.toNatClampNeg) / 10).toNatClampNeg)) ≤ mo then (lp_mn2 n ((bz_up (bz_up σ.1 47 (((σ.1 46 e.toNatClampNeg) / 10).toNatClampNeg) ((σ.1 47 (((σ.1 46 e.toNatClampNeg) / 10).toNatClampNeg)) + 1)) 46 e.toNatClampNeg (f_X11_next (σ.1 46 e.toNatClampNeg))), σ.2) mo (e + 1)) else (lp_mn2 n ((bz_up (bz_up σ.1 47 (((σ.1 46 e.toNatClampNeg) / 10).toNatClampNeg) ((σ.1 47 (((σ.1 46 e.toNatClampNeg) / 10).toNatClampNeg)) + 1)) 46 e.toNatClampNeg (f_X11_next (σ.1 46 e.toNatClampNeg))), σ.2) ((bz_up σ.1 47 (((σ.1 46 e.toNatClampNeg) / 10).toNatClampNeg) ((σ.1 47 (((σ.1 46 e.toNatClampNeg) / 10).toNatClampNeg)) + 1)) 47 (((σ.1 46 e.toNatClampNeg) / 10).toNatClampNeg)) (e + 1))
set_option maxRecDepth 100000 in
theorem lp_mn20_blk1 {X : bz_X} (σ : bz_S) (mo : Int32) (e : Int32) : bz_run X bt_X11_mostNow 4 (25, [some (.ref 32), some (.int mo), some (.int e), none], [], σ) = some (True, if (σ.1 32 34) ≤ e then (95, [some (.ref 32), some (.int mo), some (.int e), none], [], σ) else (33, [some (.ref 32), some (.int mo), some (.int e), none], [], σ)) := rfl
set_option maxRecDepth 100000 in
theorem lp_mn20_blk2 {X : bz_X} (σ : bz_S) (mo : Int32) (e : Int32) : bz_run X bt_X11_mostNow 1 (95, [some (.ref 32), some (.int mo), some (.int e), none], [], σ) = some (True, (96, [some (.ref 32), some (.int mo), some (.int e), none], [.int mo], σ)) := rfl
set_option maxRecDepth 100000 in
theorem lp_mn2_blk1 {X : bz_X} (σ : bz_S) (mo : Int32) (e : Int32) : bz_run X bt_X11_mostNow 4 (25, [some (.ref 32), some (.int mo), some (.int e), none], [], σ) = some (True, if (σ.1 32 34) ≤ e then (95, [some (.ref 32), some (.int mo), some (.int e), none], [], σ) else (33, [some (.ref 32), some (.int mo), some (.int e), none], [], σ)) := rfl
set_option maxRecDepth 100000 in
theorem lp_mn2_blk2 {X : bz_X} (σ : bz_S) (mo : Int32) (e : Int32) : bz_run X bt_X11_mostNow 18 (33, [some (.ref 32), some (.int mo), some (.int e), none], [], σ) = some (vp_in e 360 ∧ ¬ (10 : Int32) = 0 ∧ vp_in ((σ.1 46 e.toNatClampNeg) / 10) 45 ∧ vp_in ((σ.1 46 e.toNatClampNeg) / 10) 45 ∧ True, (58, [some (.ref 32), some (.int mo), some (.int e), some (.int ((σ.1 46 e.toNatClampNeg) / 10))], [.int ((σ.1 46 e.toNatClampNeg) / 10), .ref 47], ((bz_up σ.1 47 (((σ.1 46 e.toNatClampNeg) / 10).toNatClampNeg) ((σ.1 47 (((σ.1 46 e.toNatClampNeg) / 10).toNatClampNeg)) + 1)), σ.2))) := rfl
set_option maxRecDepth 100000 in
theorem lp_mn2_blk3 {X : bz_X} (σ : bz_S) (mo : Int32) (e : Int32) : bz_run X bt_X11_mostNow 3 (58, [some (.ref 32), some (.int mo), some (.int e), some (.int ((σ.1 46 e.toNatClampNeg) / 10))], [.int ((σ.1 46 e.toNatClampNeg) / 10), .ref 47], ((bz_up σ.1 47 (((σ.1 46 e.toNatClampNeg) / 10).toNatClampNeg) ((σ.1 47 (((σ.1 46 e.toNatClampNeg) / 10).toNatClampNeg)) + 1)), σ.2)) = some (vp_in ((σ.1 46 e.toNatClampNeg) / 10) 45 ∧ True, if ((bz_up σ.1 47 (((σ.1 46 e.toNatClampNeg) / 10).toNatClampNeg) ((σ.1 47 (((σ.1 46 e.toNatClampNeg) / 10).toNatClampNeg)) + 1)) 47 (((σ.1 46 e.toNatClampNeg) / 10).toNatClampNeg)) ≤ mo then (72, [some (.ref 32), some (.int mo), some (.int e), some (.int ((σ.1 46 e.toNatClampNeg) / 10))], [], ((bz_up σ.1 47 (((σ.1 46 e.toNatClampNeg) / 10).toNatClampNeg) ((σ.1 47 (((σ.1 46 e.toNatClampNeg) / 10).toNatClampNeg)) + 1)), σ.2)) else (63, [some (.ref 32), some (.int mo), some (.int e), some (.int ((σ.1 46 e.toNatClampNeg) / 10))], [], ((bz_up σ.1 47 (((σ.1 46 e.toNatClampNeg) / 10).toNatClampNeg) ((σ.1 47 (((σ.1 46 e.toNatClampNeg) / 10).toNatClampNeg)) + 1)), σ.2))) := rfl
set_option maxRecDepth 100000 in
theorem lp_mn2_blk4 {X : bz_X} (σ : bz_S) (mo : Int32) (e : Int32) : bz_run X bt_X11_mostNow 8 (72, [some (.ref 32), some (.int mo), some (.int e), some (.int ((σ.1 46 e.toNatClampNeg) / 10))], [], ((bz_up σ.1 47 (((σ.1 46 e.toNatClampNeg) / 10).toNatClampNeg) ((σ.1 47 (((σ.1 46 e.toNatClampNeg) / 10).toNatClampNeg)) + 1)), σ.2)) = some (True, (84, [some (.ref 32), some (.int mo), some (.int e), some (.int ((σ.1 46 e.toNatClampNeg) / 10))], [.int e, .ref 46, .int e, .ref 46], ((bz_up σ.1 47 (((σ.1 46 e.toNatClampNeg) / 10).toNatClampNeg) ((σ.1 47 (((σ.1 46 e.toNatClampNeg) / 10).toNatClampNeg)) + 1)), σ.2))) := rfl
set_option maxRecDepth 100000 in
theorem lp_mn2_blk5 {X : bz_X} (σ : bz_S) (mo : Int32) (e : Int32) : bz_run X bt_X11_mostNow 1 (84, [some (.ref 32), some (.int mo), some (.int e), some (.int ((σ.1 46 e.toNatClampNeg) / 10))], [.int e, .ref 46, .int e, .ref 46], ((bz_up σ.1 47 (((σ.1 46 e.toNatClampNeg) / 10).toNatClampNeg) ((σ.1 47 (((σ.1 46 e.toNatClampNeg) / 10).toNatClampNeg)) + 1)), σ.2)) = some (vp_in e 360 ∧ True, (85, [some (.ref 32), some (.int mo), some (.int e), some (.int ((σ.1 46 e.toNatClampNeg) / 10))], [.int (σ.1 46 e.toNatClampNeg), .int e, .ref 46], ((bz_up σ.1 47 (((σ.1 46 e.toNatClampNeg) / 10).toNatClampNeg) ((σ.1 47 (((σ.1 46 e.toNatClampNeg) / 10).toNatClampNeg)) + 1)), σ.2))) := rfl
set_option maxRecDepth 100000 in
theorem lp_mn2_blk6 {X : bz_X} (σ : bz_S) (mo : Int32) (e : Int32) : bz_run X bt_X11_mostNow 3 (88, [some (.ref 32), some (.int mo), some (.int e), some (.int ((σ.1 46 e.toNatClampNeg) / 10))], [.int (f_X11_next (σ.1 46 e.toNatClampNeg)), .int e, .ref 46], ((bz_up σ.1 47 (((σ.1 46 e.toNatClampNeg) / 10).toNatClampNeg) ((σ.1 47 (((σ.1 46 e.toNatClampNeg) / 10).toNatClampNeg)) + 1)), σ.2)) = some (vp_in e 360 ∧ True, (25, [some (.ref 32), some (.int mo), some (.int (e + 1)), some (.int ((σ.1 46 e.toNatClampNeg) / 10))], [], ((bz_up (bz_up σ.1 47 (((σ.1 46 e.toNatClampNeg) / 10).toNatClampNeg) ((σ.1 47 (((σ.1 46 e.toNatClampNeg) / 10).toNatClampNeg)) + 1)) 46 e.toNatClampNeg (f_X11_next (σ.1 46 e.toNatClampNeg))), σ.2))) := rfl
set_option maxRecDepth 100000 in
theorem lp_mn2_blk7 {X : bz_X} (σ : bz_S) (mo : Int32) (e : Int32) : bz_run X bt_X11_mostNow 3 (63, [some (.ref 32), some (.int mo), some (.int e), some (.int ((σ.1 46 e.toNatClampNeg) / 10))], [], ((bz_up σ.1 47 (((σ.1 46 e.toNatClampNeg) / 10).toNatClampNeg) ((σ.1 47 (((σ.1 46 e.toNatClampNeg) / 10).toNatClampNeg)) + 1)), σ.2)) = some (True, (68, [some (.ref 32), some (.int mo), some (.int e), some (.int ((σ.1 46 e.toNatClampNeg) / 10))], [.int ((σ.1 46 e.toNatClampNeg) / 10), .ref 47], ((bz_up σ.1 47 (((σ.1 46 e.toNatClampNeg) / 10).toNatClampNeg) ((σ.1 47 (((σ.1 46 e.toNatClampNeg) / 10).toNatClampNeg)) + 1)), σ.2))) := rfl
set_option maxRecDepth 100000 in
theorem lp_mn2_blk8 {X : bz_X} (σ : bz_S) (mo : Int32) (e : Int32) : bz_run X bt_X11_mostNow 9 (68, [some (.ref 32), some (.int mo), some (.int e), some (.int ((σ.1 46 e.toNatClampNeg) / 10))], [.int ((σ.1 46 e.toNatClampNeg) / 10), .ref 47], ((bz_up σ.1 47 (((σ.1 46 e.toNatClampNeg) / 10).toNatClampNeg) ((σ.1 47 (((σ.1 46 e.toNatClampNeg) / 10).toNatClampNeg)) + 1)), σ.2)) = some (vp_in ((σ.1 46 e.toNatClampNeg) / 10) 45 ∧ True, (84, [some (.ref 32), some (.int ((bz_up σ.1 47 (((σ.1 46 e.toNatClampNeg) / 10).toNatClampNeg) ((σ.1 47 (((σ.1 46 e.toNatClampNeg) / 10).toNatClampNeg)) + 1)) 47 (((σ.1 46 e.toNatClampNeg) / 10).toNatClampNeg))), some (.int e), some (.int ((σ.1 46 e.toNatClampNeg) / 10))], [.int e, .ref 46, .int e, .ref 46], ((bz_up σ.1 47 (((σ.1 46 e.toNatClampNeg) / 10).toNatClampNeg) ((σ.1 47 (((σ.1 46 e.toNatClampNeg) / 10).toNatClampNeg)) + 1)), σ.2))) := rfl
set_option maxRecDepth 100000 in
theorem lp_mn2_blk9 {X : bz_X} (σ : bz_S) (mo : Int32) (e : Int32) : bz_run X bt_X11_mostNow 1 (84, [some (.ref 32), some (.int ((bz_up σ.1 47 (((σ.1 46 e.toNatClampNeg) / 10).toNatClampNeg) ((σ.1 47 (((σ.1 46 e.toNatClampNeg) / 10).toNatClampNeg)) + 1)) 47 (((σ.1 46 e.toNatClampNeg) / 10).toNatClampNeg))), some (.int e), some (.int ((σ.1 46 e.toNatClampNeg) / 10))], [.int e, .ref 46, .int e, .ref 46], ((bz_up σ.1 47 (((σ.1 46 e.toNatClampNeg) / 10).toNatClampNeg) ((σ.1 47 (((σ.1 46 e.toNatClampNeg) / 10).toNatClampNeg)) + 1)), σ.2)) = some (vp_in e 360 ∧ True, (85, [some (.ref 32), some (.int ((bz_up σ.1 47 (((σ.1 46 e.toNatClampNeg) / 10).toNatClampNeg) ((σ.1 47 (((σ.1 46 e.toNatClampNeg) / 10).toNatClampNeg)) + 1)) 47 (((σ.1 46 e.toNatClampNeg) / 10).toNatClampNeg))), some (.int e), some (.int ((σ.1 46 e.toNatClampNeg) / 10))], [.int (σ.1 46 e.toNatClampNeg), .int e, .ref 46], ((bz_up σ.1 47 (((σ.1 46 e.toNatClampNeg) / 10).toNatClampNeg) ((σ.1 47 (((σ.1 46 e.toNatClampNeg) / 10).toNatClampNeg)) + 1)), σ.2))) := rfl
set_option maxRecDepth 100000 in
theorem lp_mn2_blk10 {X : bz_X} (σ : bz_S) (mo : Int32) (e : Int32) : bz_run X bt_X11_mostNow 3 (88, [some (.ref 32), some (.int ((bz_up σ.1 47 (((σ.1 46 e.toNatClampNeg) / 10).toNatClampNeg) ((σ.1 47 (((σ.1 46 e.toNatClampNeg) / 10).toNatClampNeg)) + 1)) 47 (((σ.1 46 e.toNatClampNeg) / 10).toNatClampNeg))), some (.int e), some (.int ((σ.1 46 e.toNatClampNeg) / 10))], [.int (f_X11_next (σ.1 46 e.toNatClampNeg)), .int e, .ref 46], ((bz_up σ.1 47 (((σ.1 46 e.toNatClampNeg) / 10).toNatClampNeg) ((σ.1 47 (((σ.1 46 e.toNatClampNeg) / 10).toNatClampNeg)) + 1)), σ.2)) = some (vp_in e 360 ∧ True, (25, [some (.ref 32), some (.int ((bz_up σ.1 47 (((σ.1 46 e.toNatClampNeg) / 10).toNatClampNeg) ((σ.1 47 (((σ.1 46 e.toNatClampNeg) / 10).toNatClampNeg)) + 1)) 47 (((σ.1 46 e.toNatClampNeg) / 10).toNatClampNeg))), some (.int (e + 1)), some (.int ((σ.1 46 e.toNatClampNeg) / 10))], [], ((bz_up (bz_up σ.1 47 (((σ.1 46 e.toNatClampNeg) / 10).toNatClampNeg) ((σ.1 47 (((σ.1 46 e.toNatClampNeg) / 10).toNatClampNeg)) + 1)) 46 e.toNatClampNeg (f_X11_next (σ.1 46 e.toNatClampNeg))), σ.2))) := rfl
set_option maxRecDepth 100000 in
theorem s_lp_mn2 {X : bz_X} (N : Nat) (hN : N ≤ 360) : ∀ (n : Nat) (σ : bz_S) (mo : Int32) (e : Int32) (j9 : Nat) (hi : e = nI j9) (hj : j9 + n = N) (hn : bz_nowM σ N), bz_wp bz_P X mX11_mostNow (bz_pi (lp_mn2 n σ mo e).1 (lp_mn2 n σ mo e).2) (25, [some (.ref 32), some (.int mo), some (.int e), none], [], σ) := by
  intro n
  induction n with
  | zero =>
    intro σ mo e j9 hi hj hn
    refine bz_wpb bT_X11_mostNow 4 (b1 := (95, [some (.ref 32), some (.int mo), some (.int e), none], [], σ)) (b2 := (33, [some (.ref 32), some (.int mo), some (.int e), none], [], σ)) (C := (σ.1 32 34) ≤ e) (G := True) (lp_mn20_blk1 σ mo e) trivial (fun _ => ?_) (fun z => absurd (show (σ.1 32 34) ≤ e from by rw [hi, hn.1]; exact nI_le (by omega) (by omega)) z)
    refine bz_wpn bT_X11_mostNow 1 (b := (96, [some (.ref 32), some (.int mo), some (.int e), none], [.int mo], σ)) (G := True) (lp_mn20_blk2 σ mo e) trivial ?_
    refine bz_wpr bT_X11_mostNow rfl rfl trivial ?_
    have e9 : lp_mn2 0 σ mo e = (mo, σ) := by rw [lp_mn2]
    exact ⟨by rw [e9], by rw [e9]⟩
  | succ n ih =>
    intro σ mo e j9 hi hj hn
    refine bz_wpb bT_X11_mostNow 4 (b1 := (95, [some (.ref 32), some (.int mo), some (.int e), none], [], σ)) (b2 := (33, [some (.ref 32), some (.int mo), some (.int e), none], [], σ)) (C := (σ.1 32 34) ≤ e) (G := True) (lp_mn2_blk1 σ mo e) trivial (fun z => absurd z (show ¬ (σ.1 32 34) ≤ e from by rw [hi, hn.1]; exact nI_ge (by omega) (by omega))) (fun _ => ?_)
    refine bz_wpn bT_X11_mostNow 18 (b := (58, [some (.ref 32), some (.int mo), some (.int e), some (.int ((σ.1 46 e.toNatClampNeg) / 10))], [.int ((σ.1 46 e.toNatClampNeg) / 10), .ref 47], ((bz_up σ.1 47 (((σ.1 46 e.toNatClampNeg) / 10).toNatClampNeg) ((σ.1 47 (((σ.1 46 e.toNatClampNeg) / 10).toNatClampNeg)) + 1)), σ.2))) (G := vp_in e 360 ∧ ¬ (10 : Int32) = 0 ∧ vp_in ((σ.1 46 e.toNatClampNeg) / 10) 45 ∧ vp_in ((σ.1 46 e.toNatClampNeg) / 10) 45 ∧ True) (lp_mn2_blk2 σ mo e) ⟨(by rw [hi]; exact vp_in_nI (by omega) (by decide)), (by decide), (bz_codD (by rw [hi, nI_clamp (by omega)]; exact hn.2 j9 (by omega))), (bz_codD (by rw [hi, nI_clamp (by omega)]; exact hn.2 j9 (by omega))), trivial⟩ ?_
    refine bz_wpb bT_X11_mostNow 3 (b1 := (72, [some (.ref 32), some (.int mo), some (.int e), some (.int ((σ.1 46 e.toNatClampNeg) / 10))], [], ((bz_up σ.1 47 (((σ.1 46 e.toNatClampNeg) / 10).toNatClampNeg) ((σ.1 47 (((σ.1 46 e.toNatClampNeg) / 10).toNatClampNeg)) + 1)), σ.2))) (b2 := (63, [some (.ref 32), some (.int mo), some (.int e), some (.int ((σ.1 46 e.toNatClampNeg) / 10))], [], ((bz_up σ.1 47 (((σ.1 46 e.toNatClampNeg) / 10).toNatClampNeg) ((σ.1 47 (((σ.1 46 e.toNatClampNeg) / 10).toNatClampNeg)) + 1)), σ.2))) (C := ((bz_up σ.1 47 (((σ.1 46 e.toNatClampNeg) / 10).toNatClampNeg) ((σ.1 47 (((σ.1 46 e.toNatClampNeg) / 10).toNatClampNeg)) + 1)) 47 (((σ.1 46 e.toNatClampNeg) / 10).toNatClampNeg)) ≤ mo) (G := vp_in ((σ.1 46 e.toNatClampNeg) / 10) 45 ∧ True) (lp_mn2_blk3 σ mo e) ⟨(bz_codD (by rw [hi, nI_clamp (by omega)]; exact hn.2 j9 (by omega))), trivial⟩ (fun h1 => ?_) (fun h1 => ?_)
    · skip
      refine bz_wpn bT_X11_mostNow 8 (b := (84, [some (.ref 32), some (.int mo), some (.int e), some (.int ((σ.1 46 e.toNatClampNeg) / 10))], [.int e, .ref 46, .int e, .ref 46], ((bz_up σ.1 47 (((σ.1 46 e.toNatClampNeg) / 10).toNatClampNeg) ((σ.1 47 (((σ.1 46 e.toNatClampNeg) / 10).toNatClampNeg)) + 1)), σ.2))) (G := True) (lp_mn2_blk4 σ mo e) trivial ?_
      refine bz_wpn bT_X11_mostNow 1 (b := (85, [some (.ref 32), some (.int mo), some (.int e), some (.int ((σ.1 46 e.toNatClampNeg) / 10))], [.int (σ.1 46 e.toNatClampNeg), .int e, .ref 46], ((bz_up σ.1 47 (((σ.1 46 e.toNatClampNeg) / 10).toNatClampNeg) ((σ.1 47 (((σ.1 46 e.toNatClampNeg) / 10).toNatClampNeg)) + 1)), σ.2))) (G := vp_in e 360 ∧ True) (lp_mn2_blk5 σ mo e) ⟨(by rw [hi]; exact vp_in_nI (by omega) (by decide)), trivial⟩ ?_
      refine bz_wci bT_X11_mostNow [.int (σ.1 46 e.toNatClampNeg)] (pc' := 88) (rest := [.int e, .ref 46]) rfl rfl (Nat.le_of_ble_eq_true rfl) rfl (Nat.le_of_ble_eq_true rfl) rfl (s_X11_next ((bz_up σ.1 47 (((σ.1 46 e.toNatClampNeg) / 10).toNatClampNeg) ((σ.1 47 (((σ.1 46 e.toNatClampNeg) / 10).toNatClampNeg)) + 1)), σ.2) (σ.1 46 e.toNatClampNeg)) rfl ?_
      refine bz_wpn bT_X11_mostNow 3 (b := (25, [some (.ref 32), some (.int mo), some (.int (e + 1)), some (.int ((σ.1 46 e.toNatClampNeg) / 10))], [], ((bz_up (bz_up σ.1 47 (((σ.1 46 e.toNatClampNeg) / 10).toNatClampNeg) ((σ.1 47 (((σ.1 46 e.toNatClampNeg) / 10).toNatClampNeg)) + 1)) 46 e.toNatClampNeg (f_X11_next (σ.1 46 e.toNatClampNeg))), σ.2))) (G := vp_in e 360 ∧ True) (lp_mn2_blk6 σ mo e) ⟨(by rw [hi]; exact vp_in_nI (by omega) (by decide)), trivial⟩ ?_
      have e9 : lp_mn2 (n + 1) σ mo e = (lp_mn2 n ((bz_up (bz_up σ.1 47 (((σ.1 46 e.toNatClampNeg) / 10).toNatClampNeg) ((σ.1 47 (((σ.1 46 e.toNatClampNeg) / 10).toNatClampNeg)) + 1)) 46 e.toNatClampNeg (f_X11_next (σ.1 46 e.toNatClampNeg))), σ.2) mo (e + 1)) := by rw [lp_mn2, if_pos (h1)]
      rw [e9]
      refine bz_wpw (L' := [some (.ref 32), some (.int mo), some (.int (e + 1)), none]) (by exact ⟨rfl, rfl, rfl, trivial⟩) ?_
      exact ih ((bz_up (bz_up σ.1 47 (((σ.1 46 e.toNatClampNeg) / 10).toNatClampNeg) ((σ.1 47 (((σ.1 46 e.toNatClampNeg) / 10).toNatClampNeg)) + 1)) 46 e.toNatClampNeg (f_X11_next (σ.1 46 e.toNatClampNeg))), σ.2) mo (e + 1) (j9 + 1) (by rw [hi]; exact nI_1 j9) (by omega) (bz_nowM_s hn hN (by rw [hi, nI_clamp (by omega)]; omega))
    · skip
      refine bz_wpn bT_X11_mostNow 3 (b := (68, [some (.ref 32), some (.int mo), some (.int e), some (.int ((σ.1 46 e.toNatClampNeg) / 10))], [.int ((σ.1 46 e.toNatClampNeg) / 10), .ref 47], ((bz_up σ.1 47 (((σ.1 46 e.toNatClampNeg) / 10).toNatClampNeg) ((σ.1 47 (((σ.1 46 e.toNatClampNeg) / 10).toNatClampNeg)) + 1)), σ.2))) (G := True) (lp_mn2_blk7 σ mo e) trivial ?_
      refine bz_wpn bT_X11_mostNow 9 (b := (84, [some (.ref 32), some (.int ((bz_up σ.1 47 (((σ.1 46 e.toNatClampNeg) / 10).toNatClampNeg) ((σ.1 47 (((σ.1 46 e.toNatClampNeg) / 10).toNatClampNeg)) + 1)) 47 (((σ.1 46 e.toNatClampNeg) / 10).toNatClampNeg))), some (.int e), some (.int ((σ.1 46 e.toNatClampNeg) / 10))], [.int e, .ref 46, .int e, .ref 46], ((bz_up σ.1 47 (((σ.1 46 e.toNatClampNeg) / 10).toNatClampNeg) ((σ.1 47 (((σ.1 46 e.toNatClampNeg) / 10).toNatClampNeg)) + 1)), σ.2))) (G := vp_in ((σ.1 46 e.toNatClampNeg) / 10) 45 ∧ True) (lp_mn2_blk8 σ mo e) ⟨(bz_codD (by rw [hi, nI_clamp (by omega)]; exact hn.2 j9 (by omega))), trivial⟩ ?_
      refine bz_wpn bT_X11_mostNow 1 (b := (85, [some (.ref 32), some (.int ((bz_up σ.1 47 (((σ.1 46 e.toNatClampNeg) / 10).toNatClampNeg) ((σ.1 47 (((σ.1 46 e.toNatClampNeg) / 10).toNatClampNeg)) + 1)) 47 (((σ.1 46 e.toNatClampNeg) / 10).toNatClampNeg))), some (.int e), some (.int ((σ.1 46 e.toNatClampNeg) / 10))], [.int (σ.1 46 e.toNatClampNeg), .int e, .ref 46], ((bz_up σ.1 47 (((σ.1 46 e.toNatClampNeg) / 10).toNatClampNeg) ((σ.1 47 (((σ.1 46 e.toNatClampNeg) / 10).toNatClampNeg)) + 1)), σ.2))) (G := vp_in e 360 ∧ True) (lp_mn2_blk9 σ mo e) ⟨(by rw [hi]; exact vp_in_nI (by omega) (by decide)), trivial⟩ ?_
      refine bz_wci bT_X11_mostNow [.int (σ.1 46 e.toNatClampNeg)] (pc' := 88) (rest := [.int e, .ref 46]) rfl rfl (Nat.le_of_ble_eq_true rfl) rfl (Nat.le_of_ble_eq_true rfl) rfl (s_X11_next ((bz_up σ.1 47 (((σ.1 46 e.toNatClampNeg) / 10).toNatClampNeg) ((σ.1 47 (((σ.1 46 e.toNatClampNeg) / 10).toNatClampNeg)) + 1)), σ.2) (σ.1 46 e.toNatClampNeg)) rfl ?_
      refine bz_wpn bT_X11_mostNow 3 (b := (25, [some (.ref 32), some (.int ((bz_up σ.1 47 (((σ.1 46 e.toNatClampNeg) / 10).toNatClampNeg) ((σ.1 47 (((σ.1 46 e.toNatClampNeg) / 10).toNatClampNeg)) + 1)) 47 (((σ.1 46 e.toNatClampNeg) / 10).toNatClampNeg))), some (.int (e + 1)), some (.int ((σ.1 46 e.toNatClampNeg) / 10))], [], ((bz_up (bz_up σ.1 47 (((σ.1 46 e.toNatClampNeg) / 10).toNatClampNeg) ((σ.1 47 (((σ.1 46 e.toNatClampNeg) / 10).toNatClampNeg)) + 1)) 46 e.toNatClampNeg (f_X11_next (σ.1 46 e.toNatClampNeg))), σ.2))) (G := vp_in e 360 ∧ True) (lp_mn2_blk10 σ mo e) ⟨(by rw [hi]; exact vp_in_nI (by omega) (by decide)), trivial⟩ ?_
      have e9 : lp_mn2 (n + 1) σ mo e = (lp_mn2 n ((bz_up (bz_up σ.1 47 (((σ.1 46 e.toNatClampNeg) / 10).toNatClampNeg) ((σ.1 47 (((σ.1 46 e.toNatClampNeg) / 10).toNatClampNeg)) + 1)) 46 e.toNatClampNeg (f_X11_next (σ.1 46 e.toNatClampNeg))), σ.2) ((bz_up σ.1 47 (((σ.1 46 e.toNatClampNeg) / 10).toNatClampNeg) ((σ.1 47 (((σ.1 46 e.toNatClampNeg) / 10).toNatClampNeg)) + 1)) 47 (((σ.1 46 e.toNatClampNeg) / 10).toNatClampNeg)) (e + 1)) := by rw [lp_mn2, if_neg (h1)]
      rw [e9]
      refine bz_wpw (L' := [some (.ref 32), some (.int ((bz_up σ.1 47 (((σ.1 46 e.toNatClampNeg) / 10).toNatClampNeg) ((σ.1 47 (((σ.1 46 e.toNatClampNeg) / 10).toNatClampNeg)) + 1)) 47 (((σ.1 46 e.toNatClampNeg) / 10).toNatClampNeg))), some (.int (e + 1)), none]) (by exact ⟨rfl, rfl, rfl, trivial⟩) ?_
      exact ih ((bz_up (bz_up σ.1 47 (((σ.1 46 e.toNatClampNeg) / 10).toNatClampNeg) ((σ.1 47 (((σ.1 46 e.toNatClampNeg) / 10).toNatClampNeg)) + 1)) 46 e.toNatClampNeg (f_X11_next (σ.1 46 e.toNatClampNeg))), σ.2) ((bz_up σ.1 47 (((σ.1 46 e.toNatClampNeg) / 10).toNatClampNeg) ((σ.1 47 (((σ.1 46 e.toNatClampNeg) / 10).toNatClampNeg)) + 1)) 47 (((σ.1 46 e.toNatClampNeg) / 10).toNatClampNeg)) (e + 1) (j9 + 1) (by rw [hi]; exact nI_1 j9) (by omega) (bz_nowM_s hn hN (by rw [hi, nI_clamp (by omega)]; omega))
theorem rlp_mn2 : ∀ (n : Nat) (σ : bz_S) (mo : Int32) (e : Int32), bz_fr [46, 47] σ (lp_mn2 n σ mo e).2 := by
  intro n
  induction n with
  | zero =>
    intro σ mo e
    rw [lp_mn2]
    exact bz_fr_rf
  | succ n ihc =>
    intro σ mo e
    rw [lp_mn2]
    exact (bz_ite2 (bz_fr_tr (τ := ((bz_up (bz_up σ.1 47 (((σ.1 46 e.toNatClampNeg) / 10).toNatClampNeg) ((σ.1 47 (((σ.1 46 e.toNatClampNeg) / 10).toNatClampNeg)) + 1)) 46 e.toNatClampNeg (f_X11_next (σ.1 46 e.toNatClampNeg))), σ.2)) ⟨(bz_f1_up (bz_f1_up (bz_fr_rf).1 (by decide)) (by decide)), (bz_fr_rf).2⟩ (ihc ((bz_up (bz_up σ.1 47 (((σ.1 46 e.toNatClampNeg) / 10).toNatClampNeg) ((σ.1 47 (((σ.1 46 e.toNatClampNeg) / 10).toNatClampNeg)) + 1)) 46 e.toNatClampNeg (f_X11_next (σ.1 46 e.toNatClampNeg))), σ.2) mo (e + 1))) (bz_fr_tr (τ := ((bz_up (bz_up σ.1 47 (((σ.1 46 e.toNatClampNeg) / 10).toNatClampNeg) ((σ.1 47 (((σ.1 46 e.toNatClampNeg) / 10).toNatClampNeg)) + 1)) 46 e.toNatClampNeg (f_X11_next (σ.1 46 e.toNatClampNeg))), σ.2)) ⟨(bz_f1_up (bz_f1_up (bz_fr_rf).1 (by decide)) (by decide)), (bz_fr_rf).2⟩ (ihc ((bz_up (bz_up σ.1 47 (((σ.1 46 e.toNatClampNeg) / 10).toNatClampNeg) ((σ.1 47 (((σ.1 46 e.toNatClampNeg) / 10).toNatClampNeg)) + 1)) 46 e.toNatClampNeg (f_X11_next (σ.1 46 e.toNatClampNeg))), σ.2) ((bz_up σ.1 47 (((σ.1 46 e.toNatClampNeg) / 10).toNatClampNeg) ((σ.1 47 (((σ.1 46 e.toNatClampNeg) / 10).toNatClampNeg)) + 1)) 47 (((σ.1 46 e.toNatClampNeg) / 10).toNatClampNeg)) (e + 1))))
theorem qlp_mn2 : ∀ (n : Nat) (σ : bz_S) (mo : Int32) (e : Int32), bz_fo ([] : List Nat) σ (lp_mn2 n σ mo e).2 := by
  intro n
  induction n with
  | zero =>
    intro σ mo e
    rw [lp_mn2]
    exact bz_fo_rf
  | succ n ihc =>
    intro σ mo e
    rw [lp_mn2]
    exact (bz_ite2 (bz_fo_tr (τ := ((bz_up (bz_up σ.1 47 (((σ.1 46 e.toNatClampNeg) / 10).toNatClampNeg) ((σ.1 47 (((σ.1 46 e.toNatClampNeg) / 10).toNatClampNeg)) + 1)) 46 e.toNatClampNeg (f_X11_next (σ.1 46 e.toNatClampNeg))), σ.2)) (bz_fo_no (f := _) (bz_fo_no (f := _) bz_fo_rf (by decide)) (by decide)) (ihc ((bz_up (bz_up σ.1 47 (((σ.1 46 e.toNatClampNeg) / 10).toNatClampNeg) ((σ.1 47 (((σ.1 46 e.toNatClampNeg) / 10).toNatClampNeg)) + 1)) 46 e.toNatClampNeg (f_X11_next (σ.1 46 e.toNatClampNeg))), σ.2) mo (e + 1))) (bz_fo_tr (τ := ((bz_up (bz_up σ.1 47 (((σ.1 46 e.toNatClampNeg) / 10).toNatClampNeg) ((σ.1 47 (((σ.1 46 e.toNatClampNeg) / 10).toNatClampNeg)) + 1)) 46 e.toNatClampNeg (f_X11_next (σ.1 46 e.toNatClampNeg))), σ.2)) (bz_fo_no (f := _) (bz_fo_no (f := _) bz_fo_rf (by decide)) (by decide)) (ihc ((bz_up (bz_up σ.1 47 (((σ.1 46 e.toNatClampNeg) / 10).toNatClampNeg) ((σ.1 47 (((σ.1 46 e.toNatClampNeg) / 10).toNatClampNeg)) + 1)) 46 e.toNatClampNeg (f_X11_next (σ.1 46 e.toNatClampNeg))), σ.2) ((bz_up σ.1 47 (((σ.1 46 e.toNatClampNeg) / 10).toNatClampNeg) ((σ.1 47 (((σ.1 46 e.toNatClampNeg) / 10).toNatClampNeg)) + 1)) 47 (((σ.1 46 e.toNatClampNeg) / 10).toNatClampNeg)) (e + 1))))

def f_X11_mostNow_32_a (σ : bz_S) (τ1 : bz_S) : Int32 × bz_S := lp_mn2 (σ.1 32 34).toNatClampNeg τ1 0 0
def f_X11_mostNow_32 (σ : bz_S)  : Int32 × bz_S := (f_X11_mostNow_32_a σ ((lp_mn1 (bz_k 45) σ 0)))
set_option maxRecDepth 100000 in
theorem f_X11_mostNow_32_blk1 {X : bz_X} (σ : bz_S) : bz_run X bt_X11_mostNow 4 (0, [some (.ref 32), none, none, none], [], σ) = some (True, (4, [some (.ref 32), some (.int 0), some (.int 0), none], [], σ)) := rfl
set_option maxRecDepth 100000 in
theorem f_X11_mostNow_32_blk2 {X : bz_X} (σ : bz_S) (τ1 : bz_S) : bz_run X bt_X11_mostNow 2 (23, [some (.ref 32), some (.int 0), none, none], [], τ1) = some (True, (25, [some (.ref 32), some (.int 0), some (.int 0), none], [], τ1)) := rfl
set_option maxRecDepth 100000 in
theorem s_X11_mostNow_32 {X : bz_X} (σ : bz_S) (hc : ∃ N, N ≤ 360 ∧ bz_nowM σ N) : bz_C bz_P X mX11_mostNow [.ref 32] σ (bz_pi (f_X11_mostNow_32 σ).1 (f_X11_mostNow_32 σ).2) := by
  show bz_wp bz_P X mX11_mostNow (bz_pi (f_X11_mostNow_32 σ).1 (f_X11_mostNow_32 σ).2) (0, [some (.ref 32), none, none, none], [], σ)
  refine bz_wpn bT_X11_mostNow 4 (b := (4, [some (.ref 32), some (.int 0), some (.int 0), none], [], σ)) (G := True) (f_X11_mostNow_32_blk1 σ) trivial ?_
  refine s_lp_mn1 (bz_k 45) σ 0 0 rfl (by rw [bz_k_eq]) ?_
  generalize hτ1 : (lp_mn1 (bz_k 45) σ 0) = τ1
  refine bz_wpn bT_X11_mostNow 2 (b := (25, [some (.ref 32), some (.int 0), some (.int 0), none], [], τ1)) (G := True) (f_X11_mostNow_32_blk2 σ τ1) trivial ?_
  have e9 : f_X11_mostNow_32 σ = lp_mn2 (σ.1 32 34).toNatClampNeg τ1 0 0 := by rw [f_X11_mostNow_32, hτ1, f_X11_mostNow_32_a]
  rw [e9]
  obtain ⟨N, hN, hn⟩ := hc
  exact s_lp_mn2 N hN _ τ1 0 0 0 rfl (by rw [hn.1, nI_clamp (by omega)]; omega) (bz_nowM_c hn (congrFun (bz_fr_at (by rw [← hτ1]; exact rlp_mn1 _ _ _ : bz_fr [47] σ τ1) 32 (by decide)) 34) (bz_fr_at (by rw [← hτ1]; exact rlp_mn1 _ _ _ : bz_fr [47] σ τ1) 46 (by decide)))
theorem rf_X11_mostNow_32_a (σ : bz_S) (τ1 : bz_S) (fτ1 : bz_fr [46, 47] σ τ1) : bz_fr [46, 47] σ (f_X11_mostNow_32_a σ τ1).2 := by
  unfold f_X11_mostNow_32_a
  exact (bz_fr_tr (τ := τ1) fτ1 (bz_fr_mo (rlp_mn2 (σ.1 32 34).toNatClampNeg τ1 0 0) (by decide)))
theorem rf_X11_mostNow_32 (σ : bz_S)  : bz_fr [46, 47] σ (f_X11_mostNow_32 σ).2 := by
  unfold f_X11_mostNow_32
  exact (rf_X11_mostNow_32_a σ ((lp_mn1 (bz_k 45) σ 0)) (bz_fr_mo (rlp_mn1 (bz_k 45) σ 0) (by decide)))
theorem qf_X11_mostNow_32_a (σ : bz_S) (τ1 : bz_S) (fτ1 : bz_fo ([] : List Nat) σ τ1) : bz_fo ([] : List Nat) σ (f_X11_mostNow_32_a σ τ1).2 := by
  unfold f_X11_mostNow_32_a
  exact (bz_fo_tr (τ := τ1) fτ1 (bz_fo_mo (qlp_mn2 (σ.1 32 34).toNatClampNeg τ1 0 0) (by decide)))
theorem qf_X11_mostNow_32 (σ : bz_S)  : bz_fo ([] : List Nat) σ (f_X11_mostNow_32 σ).2 := by
  unfold f_X11_mostNow_32
  exact (qf_X11_mostNow_32_a σ ((lp_mn1 (bz_k 45) σ 0)) (bz_fo_mo (qlp_mn1 (bz_k 45) σ 0) (by decide)))

theorem q_mn2 (N : Nat) (hN : N ≤ 360) : ∀ (n : Nat) (σ : bz_S) (mo e : Int32) (j : Nat), e = nI j → j + n = N → bz_nowM σ N → bz_nowM (lp_mn2 n σ mo e).2 N := by
  intro n
  induction n with
  | zero =>
    intro σ mo e j he hj h
    rw [lp_mn2]
    exact h
  | succ n ih =>
    intro σ mo e j he hj h
    rw [lp_mn2]
    split
    all_goals exact ih _ _ _ (j + 1) (by rw [he]; exact nI_1 j) (by omega) (bz_nowM_s h hN (by rw [he, nI_clamp (by omega)]; omega))
theorem q_mostNow {σ : bz_S} {N : Nat} (hN : N ≤ 360) (h : bz_nowM σ N) : bz_nowM (f_X11_mostNow_32 σ).2 N := by
  unfold f_X11_mostNow_32 f_X11_mostNow_32_a
  rw [h.1, nI_clamp (by omega)]
  exact q_mn2 N hN N _ 0 0 0 rfl (by omega) (bz_nowM_c h (congrFun (bz_fr_at (rlp_mn1 _ _ _) 32 (by decide)) 34) (bz_fr_at (rlp_mn1 _ _ _) 46 (by decide)))

def lp_mask_a (rc : bz_S → Int32 → Int32 → Int32 → (bz_S × Int32 × Int32)) (σ : bz_S) (be : Int32) (fw : Int32) (sp : Int32) (τ1 : Int32 × bz_S) : bz_S × Int32 × Int32 := if fw ≤ τ1.1 then (rc τ1.2 be fw (sp + 1)) else (rc τ1.2 sp τ1.1 (sp + 1))
def lp_mask : Nat → bz_S → Int32 → Int32 → Int32 → bz_S × Int32 × Int32
  | 0, σ, be, fw, sp => (σ, be, fw)
  | n + 1, σ, be, fw, sp => if (σ.1 32 34) ≤ 0 then (σ, be, fw) else (lp_mask_a (lp_mask n) σ be fw sp (f_X11_mostNow_32 σ))
set_option maxRecDepth 100000 in
theorem lp_mask0_blk1 {X : bz_X} (what : Int32) (σ : bz_S) (be : Int32) (fw : Int32) (sp : Int32) : bz_run X bt_X11_ask 3 (30, [some (.ref 32), some (.int what), some (.int be), some (.int fw), some (.int sp), none], [], σ) = some (True, if 60 < sp then (82, [some (.ref 32), some (.int what), some (.int be), some (.int fw), some (.int sp), none], [], σ) else (37, [some (.ref 32), some (.int what), some (.int be), some (.int fw), some (.int sp), none], [], σ)) := rfl
set_option maxRecDepth 100000 in
theorem lp_mask_blk1 {X : bz_X} (what : Int32) (σ : bz_S) (be : Int32) (fw : Int32) (sp : Int32) : bz_run X bt_X11_ask 3 (30, [some (.ref 32), some (.int what), some (.int be), some (.int fw), some (.int sp), none], [], σ) = some (True, if 60 < sp then (82, [some (.ref 32), some (.int what), some (.int be), some (.int fw), some (.int sp), none], [], σ) else (37, [some (.ref 32), some (.int what), some (.int be), some (.int fw), some (.int sp), none], [], σ)) := rfl
set_option maxRecDepth 100000 in
theorem lp_mask_blk2 {X : bz_X} (what : Int32) (σ : bz_S) (be : Int32) (fw : Int32) (sp : Int32) : bz_run X bt_X11_ask 3 (37, [some (.ref 32), some (.int what), some (.int be), some (.int fw), some (.int sp), none], [], σ) = some (True, if (σ.1 32 34) ≤ 0 then (82, [some (.ref 32), some (.int what), some (.int be), some (.int fw), some (.int sp), none], [], σ) else (44, [some (.ref 32), some (.int what), some (.int be), some (.int fw), some (.int sp), none], [], σ)) := rfl
set_option maxRecDepth 100000 in
theorem lp_mask_blk3 {X : bz_X} (what : Int32) (σ : bz_S) (be : Int32) (fw : Int32) (sp : Int32) : bz_run X bt_X11_ask 1 (44, [some (.ref 32), some (.int what), some (.int be), some (.int fw), some (.int sp), none], [], σ) = some (True, (45, [some (.ref 32), some (.int what), some (.int be), some (.int fw), some (.int sp), none], [.ref 32], σ)) := rfl
set_option maxRecDepth 100000 in
theorem lp_mask_blk4 {X : bz_X} (what : Int32) (σ : bz_S) (be : Int32) (fw : Int32) (sp : Int32) (τ1 : Int32 × bz_S) : bz_run X bt_X11_ask 4 (48, [some (.ref 32), some (.int what), some (.int be), some (.int fw), some (.int sp), none], [.int τ1.1], τ1.2) = some (True, if fw ≤ τ1.1 then (61, [some (.ref 32), some (.int what), some (.int be), some (.int fw), some (.int sp), some (.int τ1.1)], [], τ1.2) else (56, [some (.ref 32), some (.int what), some (.int be), some (.int fw), some (.int sp), some (.int τ1.1)], [], τ1.2)) := rfl
set_option maxRecDepth 100000 in
theorem lp_mask_blk5 {X : bz_X} (what : Int32) (σ : bz_S) (be : Int32) (fw : Int32) (sp : Int32) (τ1 : Int32 × bz_S) : bz_run X bt_X11_ask 5 (61, [some (.ref 32), some (.int what), some (.int be), some (.int fw), some (.int sp), some (.int τ1.1)], [], τ1.2) = some (True, if fw ≤ τ1.1 then (74, [some (.ref 32), some (.int what), some (.int be), some (.int fw), some (.int sp), some (.int τ1.1)], [], τ1.2) else (69, [some (.ref 32), some (.int what), some (.int be), some (.int fw), some (.int sp), some (.int τ1.1)], [], τ1.2)) := rfl
set_option maxRecDepth 100000 in
theorem lp_mask_blk6 {X : bz_X} (what : Int32) (σ : bz_S) (be : Int32) (fw : Int32) (sp : Int32) (τ1 : Int32 × bz_S) : bz_run X bt_X11_ask 4 (74, [some (.ref 32), some (.int what), some (.int be), some (.int fw), some (.int sp), some (.int τ1.1)], [], τ1.2) = some (True, (30, [some (.ref 32), some (.int what), some (.int be), some (.int fw), some (.int (sp + 1)), some (.int τ1.1)], [], τ1.2)) := rfl
set_option maxRecDepth 100000 in
theorem lp_mask_blk7 {X : bz_X} (what : Int32) (σ : bz_S) (be : Int32) (fw : Int32) (sp : Int32) (τ1 : Int32 × bz_S) : bz_run X bt_X11_ask 6 (56, [some (.ref 32), some (.int what), some (.int be), some (.int fw), some (.int sp), some (.int τ1.1)], [], τ1.2) = some (True, if fw ≤ τ1.1 then (74, [some (.ref 32), some (.int what), some (.int sp), some (.int fw), some (.int sp), some (.int τ1.1)], [], τ1.2) else (69, [some (.ref 32), some (.int what), some (.int sp), some (.int fw), some (.int sp), some (.int τ1.1)], [], τ1.2)) := rfl
set_option maxRecDepth 100000 in
theorem lp_mask_blk8 {X : bz_X} (what : Int32) (σ : bz_S) (be : Int32) (fw : Int32) (sp : Int32) (τ1 : Int32 × bz_S) : bz_run X bt_X11_ask 5 (69, [some (.ref 32), some (.int what), some (.int sp), some (.int fw), some (.int sp), some (.int τ1.1)], [], τ1.2) = some (True, (30, [some (.ref 32), some (.int what), some (.int sp), some (.int τ1.1), some (.int (sp + 1)), some (.int τ1.1)], [], τ1.2)) := rfl
set_option maxRecDepth 100000 in
theorem s_lp_mask {X : bz_X} {Q : bz_Q} (what : Int32) (N : Nat) (hN : N ≤ 360) : ∀ (n : Nat) (σ : bz_S) (be : Int32) (fw : Int32) (sp : Int32) (j9 : Nat) (hi : sp = nI j9) (hj : j9 + n = 61) (hn : bz_nowM σ N) (kk : bz_wp bz_P X mX11_ask Q (82, [some (.ref 32), some (.int what), some (.int ((lp_mask n σ be fw sp).2.1)), some (.int ((lp_mask n σ be fw sp).2.2)), none, none], [], (lp_mask n σ be fw sp).1)), bz_wp bz_P X mX11_ask (Q) (30, [some (.ref 32), some (.int what), some (.int be), some (.int fw), some (.int sp), none], [], σ) := by
  intro n
  induction n with
  | zero =>
    intro σ be fw sp j9 hi hj hn kk
    refine bz_wpb bT_X11_ask 3 (b1 := (82, [some (.ref 32), some (.int what), some (.int be), some (.int fw), some (.int sp), none], [], σ)) (b2 := (37, [some (.ref 32), some (.int what), some (.int be), some (.int fw), some (.int sp), none], [], σ)) (C := 60 < sp) (G := True) (lp_mask0_blk1 what σ be fw sp) trivial (fun _ => ?_) (fun z => absurd (show (60 : Int32) < sp from by rw [hi, show j9 = 61 from by omega]; decide) z)
    have e9 : lp_mask 0 σ be fw sp = (σ, be, fw) := by rw [lp_mask]
    rw [e9] at kk
    refine bz_wpw (by exact ⟨rfl, rfl, rfl, rfl, trivial⟩) kk
  | succ n ih =>
    intro σ be fw sp j9 hi hj hn kk
    refine bz_wpb bT_X11_ask 3 (b1 := (82, [some (.ref 32), some (.int what), some (.int be), some (.int fw), some (.int sp), none], [], σ)) (b2 := (37, [some (.ref 32), some (.int what), some (.int be), some (.int fw), some (.int sp), none], [], σ)) (C := 60 < sp) (G := True) (lp_mask_blk1 what σ be fw sp) trivial (fun z => absurd z (show ¬ (60 : Int32) < sp from by rw [hi]; exact nI_nlt (a := 60) (by omega) (by decide))) (fun _ => ?_)
    refine bz_wpb bT_X11_ask 3 (b1 := (82, [some (.ref 32), some (.int what), some (.int be), some (.int fw), some (.int sp), none], [], σ)) (b2 := (44, [some (.ref 32), some (.int what), some (.int be), some (.int fw), some (.int sp), none], [], σ)) (C := (σ.1 32 34) ≤ 0) (G := True) (lp_mask_blk2 what σ be fw sp) trivial (fun h1 => ?_) (fun h1 => ?_)
    · skip
      have e9 : lp_mask (n + 1) σ be fw sp = (σ, be, fw) := by rw [lp_mask, if_pos (h1)]
      rw [e9] at kk
      refine bz_wpw (by exact ⟨rfl, rfl, rfl, rfl, trivial⟩) kk
    · skip
      refine bz_wpn bT_X11_ask 1 (b := (45, [some (.ref 32), some (.int what), some (.int be), some (.int fw), some (.int sp), none], [.ref 32], σ)) (G := True) (lp_mask_blk3 what σ be fw sp) trivial ?_
      refine bz_wci bT_X11_ask [.ref 32] (pc' := 48) (rest := []) rfl rfl (Nat.le_of_ble_eq_true rfl) rfl (Nat.le_of_ble_eq_true rfl) rfl (s_X11_mostNow_32 σ ⟨N, hN, hn⟩) rfl ?_
      generalize hτ1 : f_X11_mostNow_32 σ = τ1
      refine bz_wpb bT_X11_ask 4 (b1 := (61, [some (.ref 32), some (.int what), some (.int be), some (.int fw), some (.int sp), some (.int τ1.1)], [], τ1.2)) (b2 := (56, [some (.ref 32), some (.int what), some (.int be), some (.int fw), some (.int sp), some (.int τ1.1)], [], τ1.2)) (C := fw ≤ τ1.1) (G := True) (lp_mask_blk4 what σ be fw sp τ1) trivial (fun h2 => ?_) (fun h2 => ?_)
      · skip
        refine bz_wpb bT_X11_ask 5 (b1 := (74, [some (.ref 32), some (.int what), some (.int be), some (.int fw), some (.int sp), some (.int τ1.1)], [], τ1.2)) (b2 := (69, [some (.ref 32), some (.int what), some (.int be), some (.int fw), some (.int sp), some (.int τ1.1)], [], τ1.2)) (C := fw ≤ τ1.1) (G := True) (lp_mask_blk5 what σ be fw sp τ1) trivial (fun _ => ?_) (fun z => absurd h2 z)
        refine bz_wpn bT_X11_ask 4 (b := (30, [some (.ref 32), some (.int what), some (.int be), some (.int fw), some (.int (sp + 1)), some (.int τ1.1)], [], τ1.2)) (G := True) (lp_mask_blk6 what σ be fw sp τ1) trivial ?_
        have e9 : lp_mask (n + 1) σ be fw sp = (lp_mask n τ1.2 be fw (sp + 1)) := by rw [lp_mask, if_neg (h1), hτ1, lp_mask_a, if_pos (h2)]
        rw [e9] at kk
        refine bz_wpw (L' := [some (.ref 32), some (.int what), some (.int be), some (.int fw), some (.int (sp + 1)), none]) (by exact ⟨rfl, rfl, rfl, rfl, rfl, trivial⟩) ?_
        exact ih τ1.2 be fw (sp + 1) (j9 + 1) (by rw [hi]; exact nI_1 j9) (by omega) (by rw [← hτ1]; exact q_mostNow hN hn) kk
      · skip
        refine bz_wpb bT_X11_ask 6 (b1 := (74, [some (.ref 32), some (.int what), some (.int sp), some (.int fw), some (.int sp), some (.int τ1.1)], [], τ1.2)) (b2 := (69, [some (.ref 32), some (.int what), some (.int sp), some (.int fw), some (.int sp), some (.int τ1.1)], [], τ1.2)) (C := fw ≤ τ1.1) (G := True) (lp_mask_blk7 what σ be fw sp τ1) trivial (fun z => absurd z h2) (fun _ => ?_)
        refine bz_wpn bT_X11_ask 5 (b := (30, [some (.ref 32), some (.int what), some (.int sp), some (.int τ1.1), some (.int (sp + 1)), some (.int τ1.1)], [], τ1.2)) (G := True) (lp_mask_blk8 what σ be fw sp τ1) trivial ?_
        have e9 : lp_mask (n + 1) σ be fw sp = (lp_mask n τ1.2 sp τ1.1 (sp + 1)) := by rw [lp_mask, if_neg (h1), hτ1, lp_mask_a, if_neg (h2)]
        rw [e9] at kk
        refine bz_wpw (L' := [some (.ref 32), some (.int what), some (.int sp), some (.int τ1.1), some (.int (sp + 1)), none]) (by exact ⟨rfl, rfl, rfl, rfl, rfl, trivial⟩) ?_
        exact ih τ1.2 sp τ1.1 (sp + 1) (j9 + 1) (by rw [hi]; exact nI_1 j9) (by omega) (by rw [← hτ1]; exact q_mostNow hN hn) kk
theorem rlp_mask_a (rc : bz_S → Int32 → Int32 → Int32 → (bz_S × Int32 × Int32)) (σ : bz_S) (be : Int32) (fw : Int32) (sp : Int32) (τ1 : Int32 × bz_S) (ihc : ∀ (σ : bz_S) (be : Int32) (fw : Int32) (sp : Int32), bz_fr [46, 47] σ (rc σ be fw sp).1) (fτ1 : bz_fr [46, 47] σ τ1.2) : bz_fr [46, 47] σ (lp_mask_a rc σ be fw sp τ1).1 := by
  unfold lp_mask_a
  exact (bz_ite1 (bz_fr_tr (τ := τ1.2) fτ1 (ihc τ1.2 be fw (sp + 1))) (bz_fr_tr (τ := τ1.2) fτ1 (ihc τ1.2 sp τ1.1 (sp + 1))))
theorem rlp_mask : ∀ (n : Nat) (σ : bz_S) (be : Int32) (fw : Int32) (sp : Int32), bz_fr [46, 47] σ (lp_mask n σ be fw sp).1 := by
  intro n
  induction n with
  | zero =>
    intro σ be fw sp
    rw [lp_mask]
    exact bz_fr_rf
  | succ n ihc =>
    intro σ be fw sp
    rw [lp_mask]
    exact (bz_ite1 bz_fr_rf (rlp_mask_a (lp_mask n) σ be fw sp (f_X11_mostNow_32 σ) ihc (bz_fr_mo (rf_X11_mostNow_32 σ) (by decide))))
theorem qlp_mask_a (rc : bz_S → Int32 → Int32 → Int32 → (bz_S × Int32 × Int32)) (σ : bz_S) (be : Int32) (fw : Int32) (sp : Int32) (τ1 : Int32 × bz_S) (ihc : ∀ (σ : bz_S) (be : Int32) (fw : Int32) (sp : Int32), bz_fo ([] : List Nat) σ (rc σ be fw sp).1) (fτ1 : bz_fo ([] : List Nat) σ τ1.2) : bz_fo ([] : List Nat) σ (lp_mask_a rc σ be fw sp τ1).1 := by
  unfold lp_mask_a
  exact (bz_ite1 (bz_fo_tr (τ := τ1.2) fτ1 (ihc τ1.2 be fw (sp + 1))) (bz_fo_tr (τ := τ1.2) fτ1 (ihc τ1.2 sp τ1.1 (sp + 1))))
theorem qlp_mask : ∀ (n : Nat) (σ : bz_S) (be : Int32) (fw : Int32) (sp : Int32), bz_fo ([] : List Nat) σ (lp_mask n σ be fw sp).1 := by
  intro n
  induction n with
  | zero =>
    intro σ be fw sp
    rw [lp_mask]
    exact bz_fo_rf
  | succ n ihc =>
    intro σ be fw sp
    rw [lp_mask]
    exact (bz_ite1 bz_fo_rf (qlp_mask_a (lp_mask n) σ be fw sp (f_X11_mostNow_32 σ) ihc (bz_fo_mo (qf_X11_mostNow_32 σ) (by decide))))

def f_X11_ask_32_b (σ : bz_S) (what : Int32) (τ1 : bz_S) (τ2 : bz_S × Int32 × Int32) : Int32 × bz_S := if τ2.2.1 < 0 then (τ2.2.1, τ2.1) else (if what = 0 then (τ2.2.1, τ2.1) else (τ2.2.2, τ2.1))
def f_X11_ask_32_a (σ : bz_S) (what : Int32) (τ1 : bz_S) : Int32 × bz_S := (f_X11_ask_32_b σ what τ1 ((lp_mask (bz_k 61) τ1 (-6) ((τ1.1 32 34) + 1) 0)))
def f_X11_ask_32 (σ : bz_S) (what : Int32) : Int32 × bz_S := if f_X11_in (Int32.toInt64 what) 0 1 = true then (f_X11_ask_32_a σ what (f_X11_findFits_32 σ)) else ((-2), σ)
set_option maxRecDepth 100000 in
theorem f_X11_ask_32_blk1 {X : bz_X} (σ : bz_S) (what : Int32) : bz_run X bt_X11_ask 4 (0, [some (.ref 32), some (.int what), none, none, none, none], [], σ) = some (True, (4, [some (.ref 32), some (.int what), none, none, none, none], [.long 1, .long 0, .long (Int32.toInt64 what)], σ)) := rfl
set_option maxRecDepth 100000 in
theorem f_X11_ask_32_blk2 {X : bz_X} (σ : bz_S) (what : Int32) : bz_run X bt_X11_ask 1 (7, [some (.ref 32), some (.int what), none, none, none, none], [.int (bz_b (f_X11_in (Int32.toInt64 what) 0 1))], σ) = some (True, if ¬ bz_b (f_X11_in (Int32.toInt64 what) 0 1) = 0 then (13, [some (.ref 32), some (.int what), none, none, none, none], [], σ) else (10, [some (.ref 32), some (.int what), none, none, none, none], [], σ)) := rfl
set_option maxRecDepth 100000 in
theorem f_X11_ask_32_blk3 {X : bz_X} (σ : bz_S) (what : Int32) : bz_run X bt_X11_ask 1 (13, [some (.ref 32), some (.int what), none, none, none, none], [], σ) = some (True, (14, [some (.ref 32), some (.int what), none, none, none, none], [.ref 32], σ)) := rfl
set_option maxRecDepth 100000 in
theorem f_X11_ask_32_blk4 {X : bz_X} (σ : bz_S) (what : Int32) (τ1 : bz_S) : bz_run X bt_X11_ask 9 (17, [some (.ref 32), some (.int what), none, none, none, none], [], τ1) = some (True, (30, [some (.ref 32), some (.int what), some (.int (-6)), some (.int ((τ1.1 32 34) + 1)), some (.int 0), none], [], τ1)) := rfl
set_option maxRecDepth 100000 in
theorem f_X11_ask_32_blk5 {X : bz_X} (σ : bz_S) (what : Int32) (τ1 : bz_S) (τ2 : bz_S × Int32 × Int32) : bz_run X bt_X11_ask 2 (82, [some (.ref 32), some (.int what), some (.int τ2.2.1), some (.int τ2.2.2), none, none], [], τ2.1) = some (True, if τ2.2.1 < 0 then (90, [some (.ref 32), some (.int what), some (.int τ2.2.1), some (.int τ2.2.2), none, none], [], τ2.1) else (86, [some (.ref 32), some (.int what), some (.int τ2.2.1), some (.int τ2.2.2), none, none], [], τ2.1)) := rfl
set_option maxRecDepth 100000 in
theorem f_X11_ask_32_blk6 {X : bz_X} (σ : bz_S) (what : Int32) (τ1 : bz_S) (τ2 : bz_S × Int32 × Int32) : bz_run X bt_X11_ask 2 (90, [some (.ref 32), some (.int what), some (.int τ2.2.1), some (.int τ2.2.2), none, none], [], τ2.1) = some (True, (95, [some (.ref 32), some (.int what), some (.int τ2.2.1), some (.int τ2.2.2), none, none], [.int τ2.2.1], τ2.1)) := rfl
set_option maxRecDepth 100000 in
theorem f_X11_ask_32_blk7 {X : bz_X} (σ : bz_S) (what : Int32) (τ1 : bz_S) (τ2 : bz_S × Int32 × Int32) : bz_run X bt_X11_ask 2 (86, [some (.ref 32), some (.int what), some (.int τ2.2.1), some (.int τ2.2.2), none, none], [], τ2.1) = some (True, if ¬ what = 0 then (94, [some (.ref 32), some (.int what), some (.int τ2.2.1), some (.int τ2.2.2), none, none], [], τ2.1) else (90, [some (.ref 32), some (.int what), some (.int τ2.2.1), some (.int τ2.2.2), none, none], [], τ2.1)) := rfl
set_option maxRecDepth 100000 in
theorem f_X11_ask_32_blk8 {X : bz_X} (σ : bz_S) (what : Int32) (τ1 : bz_S) (τ2 : bz_S × Int32 × Int32) : bz_run X bt_X11_ask 1 (94, [some (.ref 32), some (.int what), some (.int τ2.2.1), some (.int τ2.2.2), none, none], [], τ2.1) = some (True, (95, [some (.ref 32), some (.int what), some (.int τ2.2.1), some (.int τ2.2.2), none, none], [.int τ2.2.2], τ2.1)) := rfl
set_option maxRecDepth 100000 in
theorem f_X11_ask_32_blk9 {X : bz_X} (σ : bz_S) (what : Int32) (τ1 : bz_S) (τ2 : bz_S × Int32 × Int32) : bz_run X bt_X11_ask 2 (90, [some (.ref 32), some (.int what), some (.int τ2.2.1), some (.int τ2.2.2), none, none], [], τ2.1) = some (True, (95, [some (.ref 32), some (.int what), some (.int τ2.2.1), some (.int τ2.2.2), none, none], [.int τ2.2.1], τ2.1)) := rfl
set_option maxRecDepth 100000 in
theorem f_X11_ask_32_blk10 {X : bz_X} (σ : bz_S) (what : Int32) : bz_run X bt_X11_ask 1 (10, [some (.ref 32), some (.int what), none, none, none, none], [], σ) = some (True, (12, [some (.ref 32), some (.int what), none, none, none, none], [.int (-2)], σ)) := rfl
set_option maxRecDepth 100000 in
theorem s_X11_ask_32 {X : bz_X} (σ : bz_S) (what : Int32) (hs : bz_sgM σ) (hw : bz_sgW σ) : bz_C bz_P X mX11_ask [.ref 32, .int what] σ (bz_pi (f_X11_ask_32 σ what).1 (f_X11_ask_32 σ what).2) := by
  show bz_wp bz_P X mX11_ask (bz_pi (f_X11_ask_32 σ what).1 (f_X11_ask_32 σ what).2) (0, [some (.ref 32), some (.int what), none, none, none, none], [], σ)
  refine bz_wpn bT_X11_ask 4 (b := (4, [some (.ref 32), some (.int what), none, none, none, none], [.long 1, .long 0, .long (Int32.toInt64 what)], σ)) (G := True) (f_X11_ask_32_blk1 σ what) trivial ?_
  refine bz_wci bT_X11_ask [.long (Int32.toInt64 what), .long 0, .long 1] (pc' := 7) (rest := []) rfl rfl (Nat.le_of_ble_eq_true rfl) rfl (Nat.le_of_ble_eq_true rfl) rfl (s_X11_in σ (Int32.toInt64 what) 0 1) rfl ?_
  refine bz_wpb bT_X11_ask 1 (b1 := (13, [some (.ref 32), some (.int what), none, none, none, none], [], σ)) (b2 := (10, [some (.ref 32), some (.int what), none, none, none, none], [], σ)) (C := ¬ bz_b (f_X11_in (Int32.toInt64 what) 0 1) = 0) (G := True) (f_X11_ask_32_blk2 σ what) trivial (fun h1 => ?_) (fun h1 => ?_)
  · skip
    have h1 := bz_b1 h1
    refine bz_wpn bT_X11_ask 1 (b := (14, [some (.ref 32), some (.int what), none, none, none, none], [.ref 32], σ)) (G := True) (f_X11_ask_32_blk3 σ what) trivial ?_
    refine bz_wcv bT_X11_ask [.ref 32] (pc' := 17) (rest := []) rfl rfl (Nat.le_of_ble_eq_true rfl) rfl (Nat.le_of_ble_eq_true rfl) rfl (s_X11_findFits_32 σ hs hw) rfl ?_
    generalize hτ1 : f_X11_findFits_32 σ = τ1
    refine bz_wpn bT_X11_ask 9 (b := (30, [some (.ref 32), some (.int what), some (.int (-6)), some (.int ((τ1.1 32 34) + 1)), some (.int 0), none], [], τ1)) (G := True) (f_X11_ask_32_blk4 σ what τ1) trivial ?_
    refine s_lp_mask what (q_findFits σ).choose (q_findFits σ).choose_spec.1 (bz_k 61) τ1 (-6) ((τ1.1 32 34) + 1) 0 0 rfl (by rw [bz_k_eq]) (by rw [← hτ1]; exact (q_findFits σ).choose_spec.2) ?_
    generalize hτ2 : (lp_mask (bz_k 61) τ1 (-6) ((τ1.1 32 34) + 1) 0) = τ2
    refine bz_wpb bT_X11_ask 2 (b1 := (90, [some (.ref 32), some (.int what), some (.int τ2.2.1), some (.int τ2.2.2), none, none], [], τ2.1)) (b2 := (86, [some (.ref 32), some (.int what), some (.int τ2.2.1), some (.int τ2.2.2), none, none], [], τ2.1)) (C := τ2.2.1 < 0) (G := True) (f_X11_ask_32_blk5 σ what τ1 τ2) trivial (fun h2 => ?_) (fun h2 => ?_)
    · skip
      refine bz_wpn bT_X11_ask 2 (b := (95, [some (.ref 32), some (.int what), some (.int τ2.2.1), some (.int τ2.2.2), none, none], [.int τ2.2.1], τ2.1)) (G := True) (f_X11_ask_32_blk6 σ what τ1 τ2) trivial ?_
      refine bz_wpr bT_X11_ask rfl rfl trivial ?_
      have e9 : f_X11_ask_32 σ what = (τ2.2.1, τ2.1) := by rw [f_X11_ask_32, if_pos (h1), hτ1, f_X11_ask_32_a, hτ2, f_X11_ask_32_b, if_pos (h2)]
      exact ⟨by rw [e9], by rw [e9]⟩
    · skip
      refine bz_wpb bT_X11_ask 2 (b1 := (94, [some (.ref 32), some (.int what), some (.int τ2.2.1), some (.int τ2.2.2), none, none], [], τ2.1)) (b2 := (90, [some (.ref 32), some (.int what), some (.int τ2.2.1), some (.int τ2.2.2), none, none], [], τ2.1)) (C := ¬ what = 0) (G := True) (f_X11_ask_32_blk7 σ what τ1 τ2) trivial (fun h3 => ?_) (fun h3 => ?_)
      · skip
        refine bz_wpn bT_X11_ask 1 (b := (95, [some (.ref 32), some (.int what), some (.int τ2.2.1), some (.int τ2.2.2), none, none], [.int τ2.2.2], τ2.1)) (G := True) (f_X11_ask_32_blk8 σ what τ1 τ2) trivial ?_
        refine bz_wpr bT_X11_ask rfl rfl trivial ?_
        have e9 : f_X11_ask_32 σ what = (τ2.2.2, τ2.1) := by rw [f_X11_ask_32, if_pos (h1), hτ1, f_X11_ask_32_a, hτ2, f_X11_ask_32_b, if_neg (h2), if_neg (h3)]
        exact ⟨by rw [e9], by rw [e9]⟩
      · skip
        refine bz_wpn bT_X11_ask 2 (b := (95, [some (.ref 32), some (.int what), some (.int τ2.2.1), some (.int τ2.2.2), none, none], [.int τ2.2.1], τ2.1)) (G := True) (f_X11_ask_32_blk9 σ what τ1 τ2) trivial ?_
        refine bz_wpr bT_X11_ask rfl rfl trivial ?_
        have e9 : f_X11_ask_32 σ what = (τ2.2.1, τ2.1) := by rw [f_X11_ask_32, if_pos (h1), hτ1, f_X11_ask_32_a, hτ2, f_X11_ask_32_b, if_neg (h2), if_pos ((Decidable.not_not.mp h3))]
        exact ⟨by rw [e9], by rw [e9]⟩
  · skip
    have h1 := bz_b0 (Decidable.not_not.mp h1)
    refine bz_wpn bT_X11_ask 1 (b := (12, [some (.ref 32), some (.int what), none, none, none, none], [.int (-2)], σ)) (G := True) (f_X11_ask_32_blk10 σ what) trivial ?_
    refine bz_wpr bT_X11_ask rfl rfl trivial ?_
    have e9 : f_X11_ask_32 σ what = ((-2), σ) := by rw [f_X11_ask_32, if_neg (bz_ff h1)]
    exact ⟨by rw [e9], by rw [e9]⟩
theorem rf_X11_ask_32_b (σ : bz_S) (what : Int32) (τ1 : bz_S) (τ2 : bz_S × Int32 × Int32) (fτ1 : bz_fr [32, 45, 46, 47] σ τ1) (fτ2 : bz_fr [32, 45, 46, 47] σ τ2.1) : bz_fr [32, 45, 46, 47] σ (f_X11_ask_32_b σ what τ1 τ2).2 := by
  unfold f_X11_ask_32_b
  exact (bz_ite2 fτ2 (bz_ite2 fτ2 fτ2))
theorem rf_X11_ask_32_a (σ : bz_S) (what : Int32) (τ1 : bz_S) (fτ1 : bz_fr [32, 45, 46, 47] σ τ1) : bz_fr [32, 45, 46, 47] σ (f_X11_ask_32_a σ what τ1).2 := by
  unfold f_X11_ask_32_a
  exact (rf_X11_ask_32_b σ what τ1 ((lp_mask (bz_k 61) τ1 (-6) ((τ1.1 32 34) + 1) 0)) fτ1 (bz_fr_tr (τ := τ1) fτ1 (bz_fr_mo (rlp_mask (bz_k 61) τ1 (-6) ((τ1.1 32 34) + 1) 0) (by decide))))
theorem rf_X11_ask_32 (σ : bz_S) (what : Int32) : bz_fr [32, 45, 46, 47] σ (f_X11_ask_32 σ what).2 := by
  unfold f_X11_ask_32
  exact (bz_ite2 (rf_X11_ask_32_a σ what (f_X11_findFits_32 σ) (bz_fr_mo (rf_X11_findFits_32 σ) (by decide))) bz_fr_rf)
theorem qf_X11_ask_32_b (σ : bz_S) (what : Int32) (τ1 : bz_S) (τ2 : bz_S × Int32 × Int32) (fτ1 : bz_fo [34] σ τ1) (fτ2 : bz_fo [34] σ τ2.1) : bz_fo [34] σ (f_X11_ask_32_b σ what τ1 τ2).2 := by
  unfold f_X11_ask_32_b
  exact (bz_ite2 fτ2 (bz_ite2 fτ2 fτ2))
theorem qf_X11_ask_32_a (σ : bz_S) (what : Int32) (τ1 : bz_S) (fτ1 : bz_fo [34] σ τ1) : bz_fo [34] σ (f_X11_ask_32_a σ what τ1).2 := by
  unfold f_X11_ask_32_a
  exact (qf_X11_ask_32_b σ what τ1 ((lp_mask (bz_k 61) τ1 (-6) ((τ1.1 32 34) + 1) 0)) fτ1 (bz_fo_tr (τ := τ1) fτ1 (bz_fo_mo (qlp_mask (bz_k 61) τ1 (-6) ((τ1.1 32 34) + 1) 0) (by decide))))
theorem qf_X11_ask_32 (σ : bz_S) (what : Int32) : bz_fo [34] σ (f_X11_ask_32 σ what).2 := by
  unfold f_X11_ask_32
  exact (bz_ite2 (qf_X11_ask_32_a σ what (f_X11_findFits_32 σ) (bz_fo_mo (qf_X11_findFits_32 σ) (by decide))) bz_fo_rf)
